/-! the best set, sought upward and downward -/
def upG (c : Nat → Nat) (g : Nat → Prop) [DecidablePred g] : Nat → Nat → Nat → Nat
  | 0, _, b => b
  | n + 1, s, b => upG c g n (s + 1) (if c s < c b ∧ g s then s else b)
def dnG (c : Nat → Nat) (g : Nat → Prop) [DecidablePred g] : Nat → Nat → Nat
  | 0, b => b
  | s + 1, b => dnG c g s (if c s ≤ c b ∧ g s then s else b)
def bestG (c : Nat → Nat) (g : Nat → Prop) (M lo hi b : Nat) : Prop := (b = M ∧ ∀ s, lo ≤ s → s < hi → ¬ g s) ∨ (lo ≤ b ∧ b < hi ∧ g b ∧ ∀ s, lo ≤ s → s < hi → g s → c b < c s ∨ (c b = c s ∧ b ≤ s))
theorem best_uq {c : Nat → Nat} {g : Nat → Prop} {M lo hi b b' : Nat} (h : bestG c g M lo hi b) (h' : bestG c g M lo hi b') : b = b' := by
  rcases h with ⟨e, h⟩ | ⟨h1, h2, h3, h4⟩
  · rcases h' with ⟨e', _⟩ | ⟨h1', h2', h3', _⟩
    · rw [e, e']
    · exact absurd h3' (h _ h1' h2')
  · rcases h' with ⟨_, h'⟩ | ⟨h1', h2', h3', h4'⟩
    · exact absurd h3 (h' _ h1 h2)
    · have a1 := h4 b' h1' h2' h3'
      have a2 := h4' b h1 h2 h3
      omega
theorem upG_best (c : Nat → Nat) (g : Nat → Prop) [DecidablePred g] (M : Nat) (hc : ∀ s, s < M → c s < c M) : ∀ n s b, s + n = M → bestG c g M 0 s b → bestG c g M 0 M (upG c g n s b) := by
  intro n
  induction n with
  | zero => intro s b h hb; rw [← h]; rw [← h] at hb; exact hb
  | succ n ih =>
    intro s b h hb
    rw [upG]
    refine ih (s + 1) _ (by omega) ?_
    have hs := hc s (by omega)
    by_cases hg : c s < c b ∧ g s
    · rw [if_pos hg]
      refine Or.inr ⟨by omega, by omega, hg.2, fun j h1 h2 h3 => ?_⟩
      rcases hb with ⟨_, h4⟩ | ⟨_, _, _, h4⟩
      · rcases Nat.lt_or_ge j s with h5 | h5
        · exact absurd h3 (h4 j h1 h5)
        · have e : j = s := by omega
          exact Or.inr ⟨by rw [e], by omega⟩
      · rcases Nat.lt_or_ge j s with h5 | h5
        · have := h4 j h1 h5 h3; exact Or.inl (by omega)
        · have e : j = s := by omega
          exact Or.inr ⟨by rw [e], by omega⟩
    · rw [if_neg hg]
      rcases hb with ⟨e, h4⟩ | ⟨b1, b2, b3, h4⟩
      · refine Or.inl ⟨e, fun j h1 h2 h3 => ?_⟩
        rcases Nat.lt_or_ge j s with h5 | h5
        · exact h4 j h1 h5 h3
        · have e9 : j = s := by omega
          rw [e9] at h3
          exact hg ⟨by rw [e]; exact hs, h3⟩
      · refine Or.inr ⟨b1, by omega, b3, fun j h1 h2 h3 => ?_⟩
        rcases Nat.lt_or_ge j s with h5 | h5
        · exact h4 j h1 h5 h3
        · have e9 : j = s := by omega
          rw [e9] at h3 ⊢
          have : ¬ c s < c b := fun h9 => hg ⟨h9, h3⟩
          omega
theorem dnG_best (c : Nat → Nat) (g : Nat → Prop) [DecidablePred g] (M : Nat) (hc : ∀ s, s < M → c s < c M) : ∀ s b, s ≤ M → bestG c g M s M b → bestG c g M 0 M (dnG c g s b) := by
  intro s
  induction s with
  | zero => intro b _ hb; exact hb
  | succ s ih =>
    intro b h hb
    rw [dnG]
    refine ih _ (by omega) ?_
    have hs := hc s (by omega)
    by_cases hg : c s ≤ c b ∧ g s
    · rw [if_pos hg]
      refine Or.inr ⟨by omega, by omega, hg.2, fun j h1 h2 h3 => ?_⟩
      by_cases e : j = s
      · exact Or.inr ⟨by rw [e], by omega⟩
      · rcases hb with ⟨_, h4⟩ | ⟨_, _, _, h4⟩
        · exact absurd h3 (h4 j (by omega) h2)
        · have := h4 j (by omega) h2 h3; omega
    · rw [if_neg hg]
      rcases hb with ⟨e, h4⟩ | ⟨b1, b2, b3, h4⟩
      · refine Or.inl ⟨e, fun j h1 h2 h3 => ?_⟩
        by_cases e9 : j = s
        · rw [e9] at h3
          exact hg ⟨by rw [e]; omega, h3⟩
        · exact h4 j (by omega) h2 h3
      · refine Or.inr ⟨by omega, b2, b3, fun j h1 h2 h3 => ?_⟩
        by_cases e9 : j = s
        · rw [e9] at h3 ⊢
          have : ¬ c s ≤ c b := fun h9 => hg ⟨h9, h3⟩
          omega
        · exact h4 j (by omega) h2 h3
theorem ud_eq (c : Nat → Nat) (g : Nat → Prop) [DecidablePred g] (M : Nat) (hc : ∀ s, s < M → c s < c M) : upG c g (M + 1) 0 M = dnG c g M M := by
  have h1 := upG_best c g M hc M 0 M (by omega) (Or.inl ⟨rfl, fun s _ h => absurd h (by omega)⟩)
  have h2 := dnG_best c g M hc M M (Nat.le_refl _) (Or.inl ⟨rfl, fun s h h' => absurd h' (by omega)⟩)
  have h3 := best_uq h1 h2
  have h4 : ∀ n s b, upG c g (n + 1) s b = (if c (s + n) < c (upG c g n s b) ∧ g (s + n) then s + n else upG c g n s b) := by
    intro n
    induction n with
    | zero => intro s b; rfl
    | succ n ih => intro s b; rw [upG, ih, upG, show s + 1 + n = s + (n + 1) by omega]
  rw [h4, ← h3, Nat.zero_add]
  refine if_neg (fun h9 => ?_)
  rcases h1 with ⟨e, _⟩ | ⟨_, b2, _, _⟩
  · rw [e] at h9; exact absurd h9.1 (by omega)
  · have := hc _ b2; omega
