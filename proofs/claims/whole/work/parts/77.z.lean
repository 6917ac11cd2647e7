/-! the fewest tries: the search by depth against the search by number -/
theorem fw_sh {h : HL} {f g : Nat → Nat} : ∀ (n s s' : Nat) (c : Cl), (∀ i, i < n → f (s + i) = g (s' + i)) → s + n ≤ 60 → s' + n ≤ 60 → ((fw h f n s c).1 = -9 ↔ (fw h g n s' c).1 = -9) ∧ (fw h f n s c).2 = (fw h g n s' c).2
  | 0, s, s', c, _, _, _ => ⟨Iff.rfl, rfl⟩
  | n + 1, s, s', c, he, h1, h2 => by
    have e0 : f s = g s' := he 0 (by omega)
    have hs : ∀ i, i < n → f (s + 1 + i) = g (s' + 1 + i) := fun i hi => by
      have := he (i + 1) (by omega)
      rw [show s + 1 + i = s + (i + 1) by omega, show s' + 1 + i = s' + (i + 1) by omega]; exact this
    rw [fw, fw, e0]
    split
    · exact fw_sh n (s + 1) (s' + 1) _ hs (by omega) (by omega)
    · split
      · exact ⟨⟨fun h9 => absurd h9 (nI_m9 (by omega)), fun h9 => absurd h9 (nI_m9 (by omega))⟩, rfl⟩
      · exact fw_sh n (s + 1) (s' + 1) _ hs (by omega) (by omega)
theorem fw_snoc {h : HL} {f : Nat → Nat} : ∀ (n s : Nat) (c : Cl), s + n ≤ 59 → (fw h f (n + 1) s c).1 = -9 → (fw h f n s c).1 = -9 ∧ (fw h f (n + 1) s c) = fw h f 1 (s + n) (fw h f n s c).2
  | 0, s, c, _, h2 => ⟨rfl, rfl⟩
  | n + 1, s, c, h1, h2 => by
    rw [fw] at h2
    rw [fw, fw]
    split
    · rename_i h3
      rw [if_pos h3] at h2
      rw [show s + (n + 1) = s + 1 + n by omega]
      exact fw_snoc n (s + 1) _ (by omega) h2
    · rename_i h3
      rw [if_neg h3] at h2
      split
      · rename_i h4
        rw [if_pos h4] at h2
        exact absurd h2 (nI_m9 (by omega))
      · rename_i h4
        rw [if_neg h4] at h2
        rw [show s + (n + 1) = s + 1 + n by omega]
        exact fw_snoc n (s + 1) _ (by omega) h2
theorem dig_0 {R n w m' : Nat} (hw : w < R) (hm : m' < R ^ n) : digR R (n + 1) (w * R ^ n + m') 0 = w := by
  unfold digR
  have hp : 0 < R ^ n := Nat.lt_of_le_of_lt (Nat.zero_le _) hm
  rw [show n + 1 - 1 - 0 = n by omega, Nat.mul_comm w, Nat.mul_add_div hp, Nat.div_eq_of_lt hm, Nat.add_zero, Nat.mod_eq_of_lt hw]
theorem dig_s {R n w m' z : Nat} (hR : 0 < R) (hz : z < n) : digR R (n + 1) (w * R ^ n + m') (z + 1) = digR R n m' z := by
  unfold digR
  obtain ⟨k, hk⟩ : ∃ k, n = (n - 1 - z) + (k + 1) := ⟨z, by omega⟩
  have e1 : n + 1 - 1 - (z + 1) = n - 1 - z := by omega
  rw [e1]
  generalize n - 1 - z = j at *
  subst hk
  have hp : 0 < R ^ j := Nat.pow_pos hR
  rw [Nat.pow_add, show w * (R ^ j * R ^ (k + 1)) = R ^ j * (w * R ^ (k + 1)) by rw [Nat.mul_left_comm], Nat.mul_add_div hp, Nat.pow_succ, show w * (R ^ k * R) = (w * R ^ k) * R by rw [Nat.mul_assoc], Nat.add_comm, Nat.add_mul_mod_self_right]
theorem dig_last {R n m z : Nat} (hz : z < n) : digR R n (m / R) z = digR R (n + 1) m z := by
  unfold digR
  rw [Nat.div_div_eq_div_mul, show n + 1 - 1 - z = (n - 1 - z) + 1 by omega, Nat.pow_succ, Nat.mul_comm R]
section FEW
variable {h : HL} {R q : Nat}
theorem good_s {n w m' : Nat} {c : Cl} (hR : R ≤ 5) (hw : w < R) (hm : m' < R ^ n) (hn : n ≤ 20) : goodR h R q (n + 1) (w * R ^ n + m') c ↔ (¬ isup c.2.2.2 w ∧ goodR h R q n m' (att h w c)) := by
  have e0 : digR R (n + 1) (w * R ^ n + m') 0 = w := dig_0 hw hm
  have hs := fw_sh (h := h) (f := digR R (n + 1) (w * R ^ n + m')) (g := digR R n m') n (0 + 1) 0 (att h w c) (fun i hi => by rw [show 0 + 1 + i = i + 1 by omega, Nat.zero_add]; exact dig_s (by omega) hi) (by omega) (by omega)
  unfold goodR
  rw [fw, e0, if_neg (by omega)]
  by_cases hu : isup c.2.2.2 w
  · rw [if_pos hu]
    exact ⟨fun h9 => absurd h9.1 (nI_m9 (by omega)), fun h9 => absurd hu h9.1⟩
  · rw [if_neg hu, hs.2, hs.1]
    exact ⟨fun h9 => ⟨hu, h9⟩, fun h9 => h9.2⟩
def accR (h : HL) (R q n m : Nat) (c : Cl) : Prop := goodR h R q n m c ∧ digR R n m (n - 1) = q
theorem acc_1 {m : Nat} {c : Cl} (hR : R ≤ 5) (hm : m < R) : accR h R q 1 m c ↔ (m = q ∧ ¬ isup c.2.2.2 q ∧ isup (att h q c).2.2.2 q) := by
  have g := good_s (h := h) (q := q) (n := 0) (w := m) (m' := 0) (c := c) hR hm (by rw [Nat.pow_zero]; omega) (by omega)
  have d := dig_0 (n := 0) (m' := 0) hm (by rw [Nat.pow_zero]; omega)
  rw [Nat.pow_zero, Nat.mul_one, Nat.add_zero m] at g d
  unfold accR
  rw [g]
  show _ ∧ digR R (0 + 1) m 0 = q ↔ _
  rw [d]
  constructor
  · rintro ⟨⟨h1, h2⟩, rfl⟩
    exact ⟨rfl, h1, h2.2⟩
  · rintro ⟨rfl, h1, h2⟩
    exact ⟨⟨h1, rfl, h2⟩, rfl⟩
theorem acc_s {n w m' : Nat} {c : Cl} (hR : R ≤ 5) (hw : w < R) (hm : m' < R ^ (n + 1)) (hn : n ≤ 19) : accR h R q (n + 2) (w * R ^ (n + 1) + m') c ↔ (¬ isup c.2.2.2 w ∧ accR h R q (n + 1) m' (att h w c)) := by
  unfold accR
  rw [good_s hR hw hm (by omega), show n + 2 - 1 = n + 1 by omega, show n + 1 - 1 = n by omega, dig_s (R := R) (n := n + 1) (w := w) (m' := m') (z := n) (by omega) (by omega), and_assoc]
theorem firstR_none {f : Nat → Option (List Nat)} : ∀ n k, firstR f n k = none → ∀ w, k ≤ w → w < k + n → f w = none
  | 0, k, _, w, h1, h2 => absurd h2 (by omega)
  | n + 1, k, h0, w, h1, h2 => by
    rw [firstR] at h0
    split at h0
    · exact absurd h0 (by simp)
    · rename_i h3
      by_cases e : w = k
      · rw [e]; exact h3
      · exact firstR_none n (k + 1) h0 w (by omega) (by omega)
theorem firstR_some {f : Nat → Option (List Nat)} {l : List Nat} : ∀ n k, firstR f n k = some l → ∃ w, k ≤ w ∧ w < k + n ∧ f w = some l ∧ ∀ v, k ≤ v → v < w → f v = none
  | 0, k, h0 => by simp [firstR] at h0
  | n + 1, k, h0 => by
    rw [firstR] at h0
    split at h0
    · rename_i h3
      exact ⟨k, Nat.le_refl _, by omega, by rw [h3]; exact h0, fun v h1 h2 => absurd h1 (by omega)⟩
    · rename_i h3
      obtain ⟨w, h4, h5, h6, h7⟩ := firstR_some n (k + 1) h0
      refine ⟨w, by omega, by omega, h6, fun v h1 h2 => ?_⟩
      by_cases e : v = k
      · rw [e]; exact h3
      · exact h7 v (by omega) h2
def frS (h : HL) (R q n : Nat) (c : Cl) : Option (List Nat) → Prop
  | none => ∀ m, m < R ^ n → ¬ accR h R q n m c
  | some l => ∃ m, m < R ^ n ∧ accR h R q n m c ∧ (∀ m', m' < m → ¬ accR h R q n m' c) ∧ ∀ z, z < n → l.getD z 0 = digR R n m z
theorem m_split {R n m : Nat} (hm : m < R ^ (n + 1)) : ∃ w m', w < R ∧ m' < R ^ n ∧ m = w * R ^ n + m' := by
  have hp : 0 < R ^ n := by
    rcases Nat.eq_zero_or_pos (R ^ n) with h9 | h9
    · rw [Nat.pow_succ, h9, Nat.zero_mul] at hm; omega
    · exact h9
  refine ⟨m / R ^ n, m % R ^ n, ?_, Nat.mod_lt _ hp, ?_⟩
  · rw [Nat.div_lt_iff_lt_mul hp, Nat.mul_comm, ← Nat.pow_succ]; exact hm
  · rw [Nat.mul_comm]; exact (Nat.div_add_mod m (R ^ n)).symm
theorem frow_sp (hR : R ≤ 5) (hq : q < R) : ∀ (n : Nat) (c : Cl), n ≤ 19 → frS h R q (n + 1) c (frow h R q (n + 1) c)
  | 0, c, _ => by
    rw [frow1]
    have ha : ∀ m, m < R ^ (0 + 1) → (accR h R q (0 + 1) m c ↔ (m = q ∧ ¬ isup c.2.2.2 q ∧ isup (att h q c).2.2.2 q)) := fun m hm => acc_1 hR (by rw [Nat.zero_add, Nat.pow_one] at hm; exact hm)
    split
    · rename_i h1
      exact fun m hm h9 => ((ha m hm).mp h9).2.1 h1
    · rename_i h1
      split
      · rename_i h2
        refine ⟨q, by rw [Nat.zero_add, Nat.pow_one]; exact hq, (ha q (by rw [Nat.zero_add, Nat.pow_one]; exact hq)).mpr ⟨rfl, h1, h2⟩, fun m' hm' h9 => ?_, fun z hz => ?_⟩
        · have := ((ha m' (by rw [Nat.zero_add, Nat.pow_one]; omega)).mp h9).1
          omega
        · have hz0 : z = 0 := by omega
          subst hz0
          have d := dig_0 (n := 0) (m' := 0) hq (by rw [Nat.pow_zero]; omega)
          rw [Nat.pow_zero, Nat.mul_one, Nat.add_zero q] at d
          rw [d]; rfl
      · rename_i h2
        exact fun m hm h9 => h2 ((ha m hm).mp h9).2.2
  | n + 1, c, hn => by
    rw [frowS]
    have ih : ∀ w, frS h R q (n + 1) (att h w c) (frow h R q (n + 1) (att h w c)) := fun w => frow_sp hR hq n (att h w c) (by omega)
    have hnone : ∀ w, w < R → frG h R q (n + 1) c w = none → ∀ m', m' < R ^ (n + 1) → ¬ accR h R q (n + 2) (w * R ^ (n + 1) + m') c := fun w hw hf m' hm' h9 => by
      rw [acc_s hR hw hm' (by omega)] at h9
      unfold frG at hf
      rw [if_neg h9.1] at hf
      have hi := ih w
      cases hr : frow h R q (n + 1) (att h w c) with
      | none => rw [hr] at hi; exact hi m' hm' h9.2
      | some l => rw [hr] at hf; simp at hf
    cases hfr : firstR (frG h R q (n + 1) c) R 0 with
    | none =>
      intro m hm h9
      obtain ⟨w, m', hw, hm', rfl⟩ := m_split hm
      exact hnone w hw (firstR_none R 0 hfr w (by omega) (by omega)) m' hm' h9
    | some l =>
      obtain ⟨w, -, hw, hf, hbef⟩ := firstR_some R 0 hfr
      have hw : w < R := by omega
      unfold frG at hf
      have hu : ¬ isup c.2.2.2 w := fun h9 => by rw [if_pos h9] at hf; simp at hf
      rw [if_neg hu] at hf
      have hi := ih w
      cases hr : frow h R q (n + 1) (att h w c) with
      | none => rw [hr] at hf; simp at hf
      | some l' =>
        rw [hr] at hf hi
        have el : w :: l' = l := Option.some.inj hf
        subst el
        obtain ⟨m', hm', ha, hmin, hdig⟩ := hi
        refine ⟨w * R ^ (n + 1) + m', ?_, (acc_s hR hw hm' (by omega)).mpr ⟨hu, ha⟩, fun m2 hm2 h9 => ?_, fun z hz => ?_⟩
        · have h1 : (w + 1) * R ^ (n + 1) ≤ R * R ^ (n + 1) := Nat.mul_le_mul_right _ hw
          rw [Nat.add_mul, Nat.one_mul] at h1
          rw [Nat.pow_succ R (n + 1), Nat.mul_comm (R ^ (n + 1))]
          omega
        · have hlt : m2 < R ^ (n + 1 + 1) := by
            have h1 : (w + 1) * R ^ (n + 1) ≤ R * R ^ (n + 1) := Nat.mul_le_mul_right _ hw
            rw [Nat.add_mul, Nat.one_mul] at h1
            rw [Nat.pow_succ R (n + 1), Nat.mul_comm (R ^ (n + 1))]
            omega
          obtain ⟨w2, m3, hw2, hm3, rfl⟩ := m_split hlt
          rcases Nat.lt_trichotomy w2 w with h1 | h1 | h1
          · exact hnone w2 hw2 (hbef w2 (by omega) h1) m3 hm3 h9
          · subst h1
            rw [acc_s hR hw hm3 (by omega)] at h9
            exact hmin m3 (by omega) h9.2
          · have h2 : (w + 1) * R ^ (n + 1) ≤ w2 * R ^ (n + 1) := Nat.mul_le_mul_right _ h1
            rw [Nat.add_mul, Nat.one_mul] at h2
            omega
        · cases z with
          | zero => rw [dig_0 hw hm']; rfl
          | succ z =>
            rw [dig_s (by omega) (by omega)]
            show (w :: l').getD (z + 1) 0 = _
            rw [List.getD_cons_succ]
            exact hdig z (by omega)
theorem and_or_b (a b : Int32) : (a ||| b) &&& 1 = (a &&& 1) ||| (b &&& 1) := by
  apply Int32.toBitVec_inj.mp
  simp only [Int32.toBitVec_and, Int32.toBitVec_or]
  apply BitVec.eq_of_getLsbD_eq
  intro i hi
  simp only [BitVec.getLsbD_and, BitVec.getLsbD_or]
  cases a.toBitVec.getLsbD i <;> cases b.toBitVec.getLsbD i <;> simp
theorem bit_ne : ∀ w q : Fin 5, w ≠ q → (((1 : Int32) <<< (nI w.val &&& 31)) >>> (nI q.val &&& 31)) &&& 1 = 0 := by decide
theorem att_up5 {w : Nat} {c : Cl} (hw : w < 5) (hq : q < 5) (hne : ¬ w = q) (hu : isup (att h w c).2.2.2 q) : isup c.2.2.2 q := by
  unfold att at hu
  simp only at hu
  by_cases e : high h w c = h.1
  · rw [if_pos e] at hu
    unfold isup at *
    rw [sr_or, and_or_b, bit_ne ⟨w, hw⟩ ⟨q, hq⟩ (fun h9 => hne (congrArg Fin.val h9)), Int32.or_zero] at hu
    exact hu
  · rw [if_neg e] at hu; exact hu
theorem good_last {n m : Nat} {c : Cl} (hR : R ≤ 5) (hq : q < R) (hn : n ≤ 19) (h0 : ¬ isup c.2.2.2 q) (hm : m < R ^ (n + 1)) (hb : 1 ≤ n → ∀ m', m' < R ^ n → ¬ goodR h R q n m' c) (hg : goodR h R q (n + 1) m c) : digR R (n + 1) m n = q := by
  obtain ⟨h1, h2⟩ := hg
  obtain ⟨h3, h4⟩ := fw_snoc n 0 c (by omega) h1
  rw [h4] at h1 h2
  rw [Nat.zero_add] at h1 h2
  generalize hc : (fw h (digR R (n + 1) m) n 0 c).2 = c1 at *
  have hd : digR R (n + 1) m n < R := Nat.mod_lt _ (by omega)
  rw [fw, if_neg (by omega)] at h1 h2
  by_cases hne : digR R (n + 1) m n = q
  · exact hne
  · by_cases hu : isup c1.2.2.2 (digR R (n + 1) m n)
    · rw [if_pos hu] at h1
      exact absurd h1 (nI_m9 (by omega))
    · rw [if_neg hu, fw] at h2
      have h5 := att_up5 (h := h) (c := c1) (by omega) (by omega) hne h2
      rcases Nat.eq_zero_or_pos n with hz | hz
      · subst hz
        have e : c = c1 := hc
        rw [e] at h0
        exact absurd h5 h0
      · have hs := fw_sh (h := h) (f := digR R n (m / R)) (g := digR R (n + 1) m) n 0 0 c (fun i hi => by rw [Nat.zero_add]; exact dig_last hi) (by omega) (by omega)
        refine absurd ?_ (hb hz (m / R) ?_)
        · exact ⟨hs.1.mpr h3, by rw [hs.2, hc]; exact h5⟩
        · rw [Nat.div_lt_iff_lt_mul (by omega), ← Nat.pow_succ]; exact hm
theorem fewL_none {c : Cl} : ∀ n L, (∀ L', L ≤ L' → L' < L + n → frow h R q L' c = none) → fewL h R q c n L = none
  | 0, L, _ => rfl
  | n + 1, L, hb => by
    rw [fewL, hb L (Nat.le_refl _) (by omega)]
    exact fewL_none n (L + 1) (fun L' h1 h2 => hb L' (by omega) (by omega))
theorem fewL_some {c : Cl} {L0 : Nat} {l : List Nat} (h0 : frow h R q L0 c = some l) : ∀ n L, L ≤ L0 → L0 < L + n → (∀ L', L ≤ L' → L' < L0 → frow h R q L' c = none) → fewL h R q c n L = some (L0, l)
  | 0, L, h1, h2, _ => absurd h2 (by omega)
  | n + 1, L, h1, h2, hb => by
    by_cases e : L = L0
    · subst e
      rw [fewL, h0]
    · rw [fewL, hb L (Nat.le_refl _) (by omega)]
      exact fewL_some h0 n (L + 1) (by omega) (by omega) (fun L' h3 h4 => hb L' (by omega) h4)
theorem frow_no {c : Cl} {n : Nat} (hR : R ≤ 5) (hq : q < R) (hn : n ≤ 19) (hb : ∀ m, m < R ^ (n + 1) → ¬ goodR h R q (n + 1) m c) : frow h R q (n + 1) c = none := by
  have hs := frow_sp (h := h) hR hq n c hn
  cases hr : frow h R q (n + 1) c with
  | none => rfl
  | some l =>
    rw [hr] at hs
    obtain ⟨m, hm, ha, -⟩ := hs
    exact absurd ha.1 (hb m hm)
end FEW
theorem isup_0 : ∀ q : Fin 5, ¬ isup 0 q.val := by decide
theorem few_eq {t : St} {P R C : Nat} {r k z : Int32} (h : WF t P R C) (hz : G_few t P R r k z) : z = (F_fewest t P R r k).1 := by
  obtain ⟨⟨bP, hP8, bR, hR5, bC, hC8, hlen⟩, -⟩ := h
  unfold G_few at hz
  unfold F_fewest
  by_cases hr : inN r R
  · rw [if_pos hr] at hz ⊢
    by_cases hk : -1 ≤ k
    · rw [if_pos hk] at hz ⊢
      obtain ⟨fl, fn, hfn, rfl⟩ := hz
      obtain ⟨q, hq, rfl⟩ := inN_ex hr (by omega)
      rw [nI_clamp (show q < 2 ^ 31 by omega)] at hfn ⊢
      generalize hX P t = hh at *
      have hb0 : ¬ isup (beg t).2.2.2 q := isup_0 ⟨q, by omega⟩
      generalize beg t = c at *
      rcases hfn with ⟨h1, h2⟩ | ⟨L0, m0, a1, a2, a3, a4, a5, a6, a7⟩
      · have hn : fewL hh R q c 6 1 = none := fewL_none 6 1 (fun L' h3 h4 => by
          obtain ⟨n, rfl⟩ : ∃ n, L' = n + 1 := ⟨L' - 1, by omega⟩
          exact frow_no hR5 hq (by omega) (fun m hm => h2 (n + 1) m ⟨h3, hm, Or.inl (by omega)⟩))
        rw [hn]
        unfold fwV fewV
        rw [if_pos h1]
      · obtain ⟨n, rfl⟩ : ∃ n, L0 = n + 1 := ⟨L0 - 1, by omega⟩
        have hlast : digR R (n + 1) m0 n = q := good_last hR5 hq (by omega) hb0 a3 (fun h3 m' hm' => a7 n m' ⟨h3, hm', Or.inl (by omega)⟩) a6
        have hs := frow_sp (h := hh) hR5 hq n c (by omega)
        cases hrw : frow hh R q (n + 1) c with
        | none =>
          rw [hrw] at hs
          exact absurd ⟨a6, hlast⟩ (hs m0 a3)
        | some l =>
          rw [hrw] at hs
          obtain ⟨m, hm, ha, hmin, hdig⟩ := hs
          have hmm : m = m0 := by
            rcases Nat.lt_trichotomy m m0 with h3 | h3 | h3
            · exact absurd ha.1 (a7 (n + 1) m ⟨a1, hm, Or.inr ⟨rfl, h3⟩⟩)
            · exact h3
            · exact absurd ⟨a6, hlast⟩ (hmin m0 h3)
          subst hmm
          have hf : fewL hh R q c 6 1 = some (n + 1, l) := fewL_some hrw 6 1 (by omega) (by omega) (fun L' h3 h4 => by
            obtain ⟨n', rfl⟩ : ∃ n', L' = n' + 1 := ⟨L' - 1, by omega⟩
            exact frow_no hR5 hq (by omega) (fun m' hm' => a7 (n' + 1) m' ⟨h3, hm', Or.inl h4⟩))
          rw [hf]
          subst a4 a5
          unfold fwV fewV
          simp only
          rw [if_neg (nI_m9 (by omega))]
          by_cases hk1 : k = -1
          · subst hk1
            rw [if_pos rfl, if_pos rfl, if_pos (Int32.lt_of_lt_of_le (show (-1 : Int32) < 0 by decide) (nI_pos' (by omega)))]
          · rw [if_neg hk1]
            by_cases hkl : k < nI (n + 1)
            · rw [if_pos hkl, if_pos hkl, if_neg hk1]
              obtain ⟨k0, rfl, hk0⟩ := kfew_ex hk hk1 hkl (by omega)
              have h156 := pow56 (R := R) (L := n + 1) hR5 a2
              rw [nI_clamp (by omega), nI_clamp (by omega), nI_clamp (by omega), hdig k0 hk0]
            · simp only [if_neg hkl, if_neg hk1]
    · rw [if_neg hk] at hz ⊢; exact hz
  · rw [if_neg hr] at hz ⊢; exact hz
theorem few_2 (t : St) (P R : Nat) (r k : Int32) : (F_fewest t P R r k).2 = t := by
  unfold F_fewest; repeat' split
  all_goals rfl
theorem lcmp_eq {x y : Int64} (h : x = y) : (if x > y then (1 : Int32) else if x == y then 0 else -1) = 0 := by
  subst h
  rw [if_neg (show ¬ x > x from Int64.lt_irrefl), if_pos (show (x == x) = true from by simp)]
