/-! the text of a hill: how far it goes, and what the reference has read of it -/
def frH (t u : St) : Prop := (∀ j, j ≠ 4 → j ≠ 5 → j ≠ 6 → u.1 j = t.1 j) ∧ (∀ j, j ≠ 9 → j ≠ 10 → u.2 j = t.2 j)
theorem frH.rf (t : St) : frH t t := ⟨fun _ _ _ _ => rfl, fun _ _ _ => rfl⟩
theorem frH.tr {t u w : St} (h1 : frH t u) (h2 : frH u w) : frH t w := ⟨fun j a b c => (h2.1 j a b c).trans (h1.1 j a b c), fun j a b => (h2.2 j a b).trans (h1.2 j a b)⟩
theorem frR.fh {k : Nat} {t u : St} (h : frR k t u) : frH t u := ⟨fun j a _ c => h.1 j a c, fun j _ b => h.2.1 j b⟩
theorem frH.s4 (t : St) (x : Int32) : frH t (va_up t.1 4 x, t.2) := ⟨fun j h4 _ _ => va_up_ne _ _ h4, fun _ _ _ => rfl⟩
theorem frH.s5 (t : St) (x : Int32) : frH t (va_up t.1 5 x, t.2) := ⟨fun j _ h5 _ => va_up_ne _ _ h5, fun _ _ _ => rfl⟩
theorem frH.s6 (t : St) (x : Int32) : frH t (va_up t.1 6 x, t.2) := ⟨fun j _ _ h6 => va_up_ne _ _ h6, fun _ _ _ => rfl⟩
theorem frH.a9 (t : St) (x : Nat → Int32) : frH t (t.1, va_up t.2 9 x) := ⟨fun _ _ _ _ => rfl, fun j h9 _ => va_up_ne _ _ h9⟩
abbrev gq (a : Nat → Int32) (i q : Nat) : Prop := goP q (a (i + q)) (PPq a i q)
def GO (a : Nat → Int32) (i q : Nat) : Prop := ∀ j, j < q → gq a i j
theorem GO_0 (a : Nat → Int32) (i : Nat) : GO a i 0 := fun j h => absurd h (by omega)
theorem GO_s {a : Nat → Int32} {i q : Nat} (h : GO a i q) (h2 : gq a i q) : GO a i (q + 1) := fun j hj => by
  by_cases e : j = q
  · rw [e]; exact h2
  · exact h j (by omega)
theorem GO_m {a : Nat → Int32} {i q m : Nat} (h : GO a i q) (h2 : ∀ j, j < m → gq a i (q + j)) : GO a i (q + m) := fun j hj => by
  by_cases e : j < q
  · exact h j e
  · have h3 := h2 (j - q) (by omega)
    rw [show q + (j - q) = j by omega] at h3
    exact h3
theorem ff_no {a : Nat → Int32} {i n q : Nat} (hq : q ≤ n) (h : GO a i q) (h1 : ¬ (q < n ∧ gq a i q)) (h2 : q = n → ¬ txOk a i n) : ff a i n n 0 0 = nI q := by
  have e0 : PPq a i 0 = 0 := rfl
  rcases ff_sp a i n n 0 (by omega) with ⟨h3, h4⟩ | ⟨z, h3, h4, h5, h6, h7⟩
  · rw [e0] at h4
    have hn : q = n := by
      rcases Nat.lt_or_ge q n with h5 | h5
      · exact absurd ⟨h5, h3 q (by omega) h5⟩ h1
      · omega
    rw [h4, if_neg (h2 hn), hn]
  · rw [e0] at h7
    rw [h7]
    rcases Nat.lt_trichotomy z q with h8 | h8 | h8
    · exact absurd (h z h8) h6
    · rw [h8]
    · exact absurd ⟨by omega, h5 q (by omega) h8⟩ h1
theorem ff_fin {a : Nat → Int32} {i n : Nat} (h : GO a i n) (h2 : txOk a i n) : ff a i n n 0 0 = -9 := by
  have e0 : PPq a i 0 = 0 := rfl
  rcases ff_sp a i n n 0 (by omega) with ⟨h3, h4⟩ | ⟨z, h3, h4, h5, h6, h7⟩
  · rw [e0] at h4
    rw [h4, if_pos h2]
  · exact absurd (h z h4) h6
theorem PP_P {a : Nat → Int32} {i P q : Nat} (h : a (i + 1) - 48 = nI P) (hP : P ≤ 8) (hq : 2 ≤ q) : PPq a i q = P := by
  unfold PPq txP; rw [if_neg (by omega), h, nI_clamp (by omega)]
theorem go_0 {x : Int32} {P : Nat} : goP 0 x P ↔ x = 97 := by unfold goP; rw [if_pos rfl]
theorem go_1 {x : Int32} {P : Nat} : goP 1 x P ↔ 50 ≤ x ∧ x ≤ 56 := by unfold goP; rw [if_neg (by omega), if_pos rfl]
theorem go_D {x : Int32} {P p : Nat} (h : p < P) : goP (2 + p) x P ↔ 48 ≤ x ∧ x ≤ 57 := by unfold goP; rw [if_neg (by omega), if_neg (by omega), if_pos (by omega)]
theorem go_E {x : Int32} {P : Nat} : ¬ goP (2 + P + 5 * 5) x P := by unfold goP; rw [if_neg (by omega), if_neg (by omega), if_neg (by omega), if_pos (by omega)]; exact id
theorem go_C {x : Int32} {P k : Nat} (h : k < 5) : goP (2 + P + 5 * k) x P ↔ x = 44 := by
  unfold goP; rw [if_neg (by omega), if_neg (by omega), if_neg (by omega), if_neg (by omega), if_pos (by omega)]
theorem go_R {x : Int32} {P k : Nat} (h : k < 5) : goP (2 + P + 5 * k + 1) x P ↔ (x = 114 ∨ x = 110 ∨ x = 108) := by
  unfold goP; rw [if_neg (by omega), if_neg (by omega), if_neg (by omega), if_neg (by omega), if_neg (by omega), if_pos (by omega)]
theorem go_N {x : Int32} {P k j : Nat} (h : k < 5) (h1 : 1 ≤ j) (h2 : j ≤ 3) : goP (2 + P + 5 * k + 1 + j) x P ↔ 48 ≤ x ∧ x ≤ 57 := by
  unfold goP; rw [if_neg (by omega), if_neg (by omega), if_neg (by omega), if_neg (by omega), if_neg (by omega), if_neg (by omega)]
theorem ok_go {A a : Nat → Int32} {i x0 n P k j : Nat} (ha : ∀ q, q < n → A (x0 + q) = a (i + q)) (h8 : a (i + 1) - 48 = nI P) (hP : P ≤ 8) (hk : k < 5) (hj : j < 4) : okC A (x0 + n) (x0 + (2 + P + 5 * k + 1)) j ↔ (2 + P + 5 * k + 1 + j < n ∧ gq a i (2 + P + 5 * k + 1 + j)) := by
  have e1 : x0 + (2 + P + 5 * k + 1) + j = x0 + (2 + P + 5 * k + 1 + j) := by omega
  unfold gq
  rw [PP_P h8 hP (by omega)]
  unfold okC
  rw [e1]
  by_cases hq : 2 + P + 5 * k + 1 + j < n
  · rw [ha _ hq]
    by_cases h0 : j = 0
    · subst h0
      rw [if_pos rfl, Nat.add_zero, go_R hk]
      rw [Nat.add_zero] at hq
      rw [ha _ hq]
      exact ⟨fun h => ⟨hq, h.2⟩, fun h => ⟨by omega, h.2⟩⟩
    · rw [if_neg h0, go_N hk (by omega) (by omega)]
      exact ⟨fun h => ⟨hq, h.2⟩, fun h => ⟨by omega, h.2⟩⟩
  · exact ⟨fun h => absurd h.1 (by omega), fun h => absurd h.1 hq⟩
def RD (a : Nat → Int32) (i P : Nat) (u : St) (r : Nat) : Prop := u.2 10 (3 * r) = kindF (a (i + 2 + P + r * 5 + 1)) ∧ u.2 10 (3 * r + 1) = 10 * (a (i + 2 + P + r * 5 + 2) - 48) + (a (i + 2 + P + r * 5 + 3) - 48) ∧ u.2 10 (3 * r + 2) = a (i + 2 + P + r * 5 + 4) - 48
theorem RD_c {a : Nat → Int32} {i P k r : Nat} {t u : St} (h : frR k t u) (hr : r < k) (h2 : RD a i P t r) : RD a i P u r := by
  unfold RD at *
  rw [h.2.2 _ (by omega), h.2.2 _ (by omega), h.2.2 _ (by omega)]
  exact h2
theorem RR_y {a : Nat → Int32} {i x0 n P k : Nat} {t u : St} {r : Int32} (ha : ∀ q, q < n → t.2 3 (x0 + q) = a (i + q)) (h8 : a (i + 1) - 48 = nI P) (hP : P ≤ 8) (hk : k < 5) (h : RR (x0 + n) (x0 + (2 + P + 5 * k + 1)) k t u r) (hr : ¬ r = 0) : frR k t u ∧ (2 + P + 5 * (k + 1) ≤ n) ∧ (∀ j, j < 4 → gq a i (2 + P + 5 * k + 1 + j)) ∧ u.1 4 = nI (x0 + (2 + P + 5 * (k + 1))) ∧ u.1 6 = nI (k + 1) ∧ RD a i P u k := by
  obtain ⟨hf, h⟩ := h
  rcases h with ⟨h1, h2, h3, h4, h5, h6, h7⟩ | h
  · have hg : ∀ j, j < 4 → (2 + P + 5 * k + 1 + j < n ∧ gq a i (2 + P + 5 * k + 1 + j)) := fun j hj => (ok_go ha h8 hP hk hj).mp (h2 j hj)
    have hn := (hg 3 (by omega)).1
    refine ⟨hf, by omega, fun j hj => (hg j hj).2, by rw [h3]; exact congrArg nI (by omega), h4, ?_, ?_, ?_⟩
    · rw [h5, ha _ (by omega)]; exact congrArg (fun z => kindF (a z)) (by omega)
    · rw [h6, show x0 + (2 + P + 5 * k + 1) + 1 = x0 + (2 + P + 5 * k + 2) by omega, show x0 + (2 + P + 5 * k + 1) + 2 = x0 + (2 + P + 5 * k + 3) by omega, ha _ (by omega), ha _ (by omega), show i + (2 + P + 5 * k + 2) = i + 2 + P + k * 5 + 2 by omega, show i + (2 + P + 5 * k + 3) = i + 2 + P + k * 5 + 3 by omega]
    · rw [h7, show x0 + (2 + P + 5 * k + 1) + 3 = x0 + (2 + P + 5 * k + 4) by omega, ha _ (by omega), show i + (2 + P + 5 * k + 4) = i + 2 + P + k * 5 + 4 by omega]
  · exact absurd h.1 hr
theorem RR_n {a : Nat → Int32} {i x0 n P k : Nat} {t u : St} {r : Int32} (ha : ∀ q, q < n → t.2 3 (x0 + q) = a (i + q)) (h8 : a (i + 1) - 48 = nI P) (hP : P ≤ 8) (hk : k < 5) (hn : 2 + P + 5 * k < n) (hg : GO a i (2 + P + 5 * k + 1)) (h : RR (x0 + n) (x0 + (2 + P + 5 * k + 1)) k t u r) (hr : r = 0) : frR k t u ∧ ∃ q, q ≤ n ∧ ff a i n n 0 0 = nI q ∧ u.1 4 = nI (x0 + q) := by
  obtain ⟨hf, h⟩ := h
  rcases h with h | ⟨-, j, hj, h2, h3, h4⟩
  · exact absurd (h.1.symm.trans hr) (by decide)
  · have hg2 : ∀ z, z < j → (2 + P + 5 * k + 1 + z < n ∧ gq a i (2 + P + 5 * k + 1 + z)) := fun z hz => (ok_go ha h8 hP hk (by omega)).mp (h2 z hz)
    have hle : 2 + P + 5 * k + 1 + j ≤ n := by
      rcases Nat.eq_zero_or_pos j with h0 | h0
      · omega
      · have := (hg2 (j - 1) (by omega)).1; omega
    refine ⟨hf, 2 + P + 5 * k + 1 + j, hle, ff_no hle (GO_m hg fun z hz => (hg2 z hz).2) (fun h9 => h3 ((ok_go ha h8 hP hk hj).mpr h9)) (fun e h9 => ?_), by rw [h4]; exact congrArg nI (by omega)⟩
    unfold txOk at h9
    rw [PP_P h8 hP (by omega)] at h9
    omega
theorem dg_case2 {x0 z0 : Nat} {t u : St} {r : Int32} (h : if x0 < z0 ∧ (48 + 2 ≤ t.2 3 x0 ∧ t.2 3 x0 ≤ 48 + 8) then r = t.2 3 x0 - 48 ∧ u = (va_up t.1 4 (nI (x0 + 1)), t.2) else r = -9 ∧ u = t) : (r = -9 ∧ ¬ (x0 < z0 ∧ 50 ≤ t.2 3 x0 ∧ t.2 3 x0 ≤ 56) ∧ u = t) ∨ (¬ r = -9 ∧ (x0 < z0 ∧ 50 ≤ t.2 3 x0 ∧ t.2 3 x0 ≤ 56) ∧ r = t.2 3 x0 - 48 ∧ u = (va_up t.1 4 (nI (x0 + 1)), t.2)) := by
  have e1 : (48 : Int32) + 2 = 50 := rfl
  have e2 : (48 : Int32) + 8 = 56 := rfl
  rw [e1, e2] at h
  by_cases hc : x0 < z0 ∧ 50 ≤ t.2 3 x0 ∧ t.2 3 x0 ≤ 56
  · rw [if_pos hc] at h
    exact Or.inr ⟨by rw [h.1]; exact dg_ne (Int32.le_trans (by decide) hc.2.1) (Int32.le_trans hc.2.2 (by decide)), hc, h⟩
  · rw [if_neg hc] at h
    exact Or.inl ⟨h.1, hc, h.2⟩
def HH (a : Nat → Int32) (i x0 n : Nat) (t u : St) (r : Int32) : Prop := frH t u ∧ ((r = 1 ∧ ff a i n n 0 0 = -9 ∧ ∃ P R, a (i + 1) - 48 = nI P ∧ 2 ≤ P ∧ P ≤ 8 ∧ n = 2 + P + 5 * R ∧ 1 ≤ R ∧ R ≤ 5 ∧ u.1 5 = nI P ∧ u.1 6 = nI R ∧ (∀ p, p < P → u.2 9 p = a (i + 2 + p) - 48) ∧ ∀ r, r < R → RD a i P u r) ∨ (r = 0 ∧ ∃ q, q ≤ n ∧ ff a i n n 0 0 = nI q ∧ u.1 4 = nI (x0 + q)))
