/-! the game's answer -/
theorem up0 : ∀ a : Fin 5, ¬ isup 0 a.val := by decide +kernel
theorem F_G_game {t : St} {P R : Nat} (hR : R ≤ 5) (r o n : Int32) : F_game t P R r o n = G_game t P R r o n := by
  unfold F_game G_game
  by_cases hr : inN r R
  · rw [if_pos hr, if_pos hr]
    by_cases ho : inN o R
    · rw [if_pos ho, if_pos ho]
      by_cases he : r = o
      · rw [if_pos he, if_pos he]
      · rw [if_neg he, if_neg he]
        by_cases hn : 0 ≤ n ∧ n ≤ 10
        · rw [if_pos hn, if_pos hn]
          obtain ⟨q, hq, rfl⟩ := inN_ex hr (by omega)
          obtain ⟨v, hv, rfl⟩ := inN_ex ho (by omega)
          obtain ⟨m, hm, rfl⟩ := rng_ex (M := 10) (n := 10) (by decide) hn
          rw [nI_clamp (by omega), nI_clamp (by omega), nI_clamp (by omega), game_v _ _ _ _ _ hm]
          have hb := (play_v (h := hX P t) (r := q) (o := v) (by omega) (by omega) (fun h9 => he (congrArg nI h9)) m 0 (beg t) (up0 ⟨q, by omega⟩) (up0 ⟨v, by omega⟩)).2
          have e : decide (0 % 2 = 0) = true := rfl
          rw [e] at hb
          rw [hb]
          unfold phiV
          by_cases hp : play (hX P t) q v m true (beg t) = -1
          · rw [if_pos hp, if_pos hp]
          · rw [if_neg hp, if_neg hp]
        · rw [if_neg hn, if_neg hn]
    · rw [if_neg ho, if_neg ho]
  · rw [if_neg hr, if_neg hr]
