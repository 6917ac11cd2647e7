/-! worlds put in order; the first states -/
section RULES
variable {tys : List (ClassId × FieldType)} {D : va_G} {A : Nat → Prop} {w w' : va_W} {s : State} {H H0 : Heap} {locs : List Loc}
theorem hx_re {k a n : Nat} {cA : ClassId} {f g : Nat → Option Nat} (hW : HX wI tys D A H0 s w H locs) (he : w[k]? = some (a, .inl (cA, n, .inr (.inr (.inr (.inr f)))))) (hfg : ∀ j, j < n → f j = g j) : HX wI tys D A H0 s (w.set k (a, .inl (cA, n, .inr (.inr (.inr (.inr g)))))) H locs := by
  refine ⟨hW.1, va_P.set hW.2.1 hW.2.2.1 he ?_ (fun _ _ => rfl), va_D.set hW.2.2.1 he, hW.2.2.2⟩
  have h1 : H[a]? = some (vp_cell cA (n, .inr (.inr (.inr (.inr f))))) := hW.2.1 k _ he
  show H[a]? = some (vp_cell cA (n, .inr (.inr (.inr (.inr g)))))
  rw [h1, vp_cell_q, vp_cell_q]
  unfold arrV
  have e : (fun j : Fin n => va_rf (f j.val)) = fun j : Fin n => va_rf (g j.val) := funext fun j => by rw [hfg j.val j.isLt]
  rw [e]
theorem hx_perm (is : List Nat) (hW : HX wI tys D A H0 s w H locs) (hn : va_nd is = true) (h1 : is.filterMap (fun i => w[i]?) = w') (h2 : is.map (fun i => w[i]?) = w'.map some) : HX wI tys D A H0 s w' H locs :=
  ⟨hW.1, hW.2.1.sub is h1, hW.2.2.1.sub is hn h2, hW.2.2.2⟩
end RULES
def t0X : St := (fun k => if k = 5 ∨ k = 7 ∨ k = 9 ∨ k = 11 then -1 else 0, fun _ _ => 0)
def t0M : St := (fun _ => 0, va_up (fun _ _ => 0) 1 (upd (upd (upd (upd (fun _ => 0) 0 (-9)) 1 (-9)) 2 (-9)) 3 (-9)))
