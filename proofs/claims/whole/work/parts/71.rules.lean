/-! rules of constructors (cells come), and of calls over one side of a joined world -/
abbrev wI (w : va_W) : va_W := w
def aoR (U : State) : Prop := va_AO RX2 U ∧ va_AO RX0 U
def IT (l : Launch) (y : MethodName) (cc : ByteArray) (n : Nat) (f w mc ms : Nat) (tys : List (ClassId × FieldType)) (D : va_G) (As : List Value) (Ex : State → Prop) (w0 : va_W) (Qw : va_W → Prop) : Prop :=
  ∀ sz : Nat, Met l y (uw y cc n none) { frames := f, cells := mc, slots := ms, locals := w } (va_Pc As (fun U => BX wI tys D w0 sz U ∧ Ex U)) (va_Qv Qw (EX wI tys D (va_A w0 sz)) (va_A w0 sz)) mc ms (va_A w0 sz)
section RULES
variable {tys : List (ClassId × FieldType)} {D : va_G} {A : Nat → Prop} {w : va_W}
variable {p : Program} {l : Launch} {e : Env} {R : Room} {s : State} {m : MethodId} {args : Array Value} {below : List Frame} {meth : Method} {c : Code} {H H0 : Heap} {locs : List Loc} {cells slots mc ms : Nat} {Q : State → Prop}
variable {cc : ByteArray} {nL pc : Nat} {ls : Array Slot} {rest st0 : List Value} {own : String}
theorem IT.of {l : Launch} {y : MethodName} {cc : ByteArray} {n : Nat} {f k mc ms : Nat} {As : List Value} {own : String} {Ex : State → Prop} {w0 : va_W} {Qw : va_W → Prop}
    (hy : plainName y.cls = true) (ho : y.cls = own) (hin : y.name = "<init>") (hsl : (lg_sl As).length ≤ n)
    (body : ∀ p e s m args below meth c (A : Nat → Prop) (Q : State → Prop), CallFix p m c cc n s args lw_tg own → meth.sig.returnType = none → meth.locks = false → meth.name = "<init>" → HX wI tys D A s.heap s w0 s.heap [] → Ex s → MQ below (va_Qv Qw (EX wI tys D A) A) args s mc ms A = Q → ∀ ls : Array Slot, lv_has ls n (lv_args 0 As) →
      W p l e { frames := f, cells := mc, slots := ms, locals := k } s m args below meth c s.heap [] 0 0 Q (F0 m 0 ls [])) : IT l y cc n f k mc ms tys D As Ex w0 Qw := by
  intro sz
  refine Met.ofW (cc := cc) (maxL := n) (ret := none) hy rfl ?_
  intro p e s m args below meth c s₁ B hml hv
  obtain ⟨ha, ⟨hsz, hP, hK, hD, hN⟩, hE⟩ := hv
  subst hsz
  have hts := atoms_spec (ws := uw y cc n none) B.pre
  have hown : s.vm.findClass y.cls = some m.cls := findClass_of_methodNamed B.named
  have hnm : meth.name = "<init>" := (name_of_methodNamed B.named B.method).1.trans hin
  have hl := lv_entry As (n := n) hsl
  have hb := body p e s m args below meth c (va_A w0 s.heap.size) _ ⟨B.exec, B.bytes, hml, by rw [← ho]; exact hown, fun w h => hts w (List.mem_cons_of_mem _ h)⟩ B.returns B.notSynchronized hnm ⟨hK, hP, hD.self, va_S.rf, fun q h => Or.inr h, hN⟩ hE rfl _ hl
  rw [ha, lg_entry_eq]
  rw [ha] at hb
  exact hb
theorem i_vret {Qw : va_W → Prop} (hC : CallFix p m c cc nL s args lw_tg own) (hr : meth.sig.returnType = none) (hlk : meth.locks = false) (hW : HX wI tys D A s.heap s w H locs) (hQ : MQ below (va_Qv Qw (EX wI tys D A) A) args s mc ms A = Q) (hp : Qw w) (hdg : decode cc pc = .ok (.return_, 1)) : W p l e R s m args below meth c H locs mc ms Q (F0 m pc ls []) :=
  hQ ▸ W.vret hC.1 hC.2.1 hr (fun _ ht hU => ⟨⟨w, rfl, hp, by rw [ht]; exact hW.2.1, va_K.moved hU.alike hW.1, hW.2.2.1⟩, hW.2.2.2.1.F ht⟩) hW.2.2.2.1.2.2 hdg hlk
theorem i_obj {a index : Nat} (hC : CallFix p m c cc nL s args lw_tg own) (hsz : ls.size = nL) (hlink : Cond.methodLink own index objectInit ∈ lw_tg) (hcat : 2 * (F0 m pc ls (.ref a :: rest)).monitorRoom + (rest.map fun v => v.category).sum + 12 ≤ R.locals) (hf : 1 ≤ R.frames) (hdg : decode cc pc = .ok (.invokespecial index, 3))
    (kk : W p l e R s m args below meth c H locs cells slots Q (F0 m (pc + 3) ls rest)) : W p l e R s m args below meth c H locs cells slots Q (F0 m pc ls (.ref a :: rest)) :=
  W.objInit hC.1 hC.2.1 hC.2.2.2.1 (hC.2.2.2.2 _ hlink) (hC.2.2.2.2 _ q_im_objectInit) (hC.2.2.2.2 _ q_co_objectInit) rfl (hsz.trans hC.2.2.1.symm) rfl hdg hf hcat kk
theorem i_new {C : String} {T : u_T} {N ci index : Nat} {fs : List Value} (hC : CallFix p m c cc nL s args lw_tg own) (hW : HX wI tys D A H0 s w H locs) (hin : ∀ w ∈ u_ws C T N, w ∈ lw_tg) (ty : Nat → FieldType) (hty : ∀ k, k < N → parseFieldDescriptor (T k).2.2.1 = some (ty k)) (hcl : Cond.classLink own index C ∈ lw_tg) (hinst : Cond.instantiable C N ∈ lw_tg) (hini : Cond.initialized C ∈ lw_tg)
    (hc : vwCl[ci]? = some (C, T, N)) (hfs : ∀ j, j < N → defaultValue (ty j) = vp_V fs j) (hcells : cells + 1 ≤ R.cells) (hslots : slots + N ≤ R.slots) (hdg : decode cc pc = .ok (.new index, 3))
    (kk : ∀ (q : Nat) (H1 : Heap), HX wI tys D A H0 s (w ++ [(q, .inr (ci, fs))]) H1 locs → W p l e R s m args below meth c H1 locs (cells + 1) (slots + N) Q (F0 m (pc + 3) ls (.ref q :: rest))) : W p l e R s m args below meth c H locs cells slots Q (F0 m pc ls rest) :=
  va_new hC.1 hC.2.1 hC.2.2.2.2 hin ty hty hC.2.2.2.1 (hC.2.2.2.2 _ hcl) (hC.2.2.2.2 _ hinst) (hC.2.2.2.2 _ hini) hW.1 hW.2.1 hW.2.2.1 hW.2.2.2.1 hW.2.2.2.2.1 hc hfs hcells hslots hdg (fun q H1 h1 h2 h3 => kk q H1 ⟨hW.1, h1, h2, h3, hW.2.2.2.2⟩)
theorem i_newI {n : Int32} {N t0 : Nat} {cI : ClassId} (hC : CallFix p m c cc nL s args lw_tg own) (hW : HX wI tys D A H0 s w H locs) (ht : tys[t0]? = some (cI, .int)) (hn : ¬ n < 0) (hN : n.toNatClampNeg = N) (hbytes : N * componentBytes .int ≤ 536870912) (hcells : cells + 1 ≤ R.cells) (hslots : slots + N ≤ R.slots) (hdg : decode cc pc = .ok (.newarray .int, 2))
    (kk : ∀ (q : Nat) (H1 : Heap), HX wI tys D A H0 s (w ++ [(q, .inl (cI, N, .inl (fun _ => 0)))]) H1 locs → W p l e R s m args below meth c H1 locs (cells + 1) (slots + N) Q (F0 m (pc + 2) ls (.ref q :: rest))) : W p l e R s m args below meth c H locs cells slots Q (F0 m pc ls (.int n :: rest)) := by
  refine va_newaK (atype := .int) hC.1 hC.2.1 (hC.2.2.2.2 _ q_ac) rfl hdg rfl hn hN hbytes hcells hslots rfl fun H1 cA e1 z1 o1 hAr hNm => ?_
  have hcA : cA = cI := by
    have h1 : s.vm.findClass ("[" ++ (FieldType.int).toString) = some cI := (hW.1.2 t0 _ ht).2
    have h2 : s.vm.findClass ("[" ++ (FieldType.int).toString) = some cA := hNm
    exact Option.some.inj (h2.symm.trans h1)
  rw [hcA] at e1
  have hk : ∀ (k : Nat) (x : Nat × va_E), w[k]? = some x → H1[x.1]? = H[x.1]? := fun k x hx => o1 x.1 ((hW.2.1 k x hx).lt)
  refine kk H.size H1 ⟨hW.1, (va_P.kept hW.2.1 hk).app (fun k x hx => ?_), va_D.push hW.2.2.1 hW.2.1 rfl (hW.2.2.2.2.1 _ hW.2.2.2.1.1), ⟨Nat.le_trans hW.2.2.2.1.1 (by omega), fun x h1 h2 => (o1 x (Nat.lt_of_lt_of_le h1 hW.2.2.2.1.1)).trans (hW.2.2.2.1.2.1 x h1 h2), hW.2.2.2.1.2.2⟩, hW.2.2.2.2⟩
  have hz : k < 1 := (List.getElem?_eq_some_iff.mp hx).1
  rw [show k = 0 by omega] at hx
  cases hx
  exact e1
theorem i_newQ {n : Int32} {N t0 index : Nat} {C : String} {cQ : ClassId} (hC : CallFix p m c cc nL s args lw_tg own) (hW : HX wI tys D A H0 s w H locs) (hcl : Cond.classLink own index C ∈ lw_tg) (hover : va_AO C s) (ht : tys[t0]? = some (cQ, .object C)) (hn : ¬ n < 0) (hN : n.toNatClampNeg = N) (hbytes : N * 4 ≤ 536870912) (hcells : cells + 1 ≤ R.cells) (hslots : slots + N ≤ R.slots) (hdg : decode cc pc = .ok (.anewarray index, 3))
    (kk : ∀ (q : Nat) (H1 : Heap), HX wI tys D A H0 s (w ++ [(q, .inl (cQ, N, .inr (.inr (.inr (.inr (fun _ => none))))))]) H1 locs → W p l e R s m args below meth c H1 locs (cells + 1) (slots + N) Q (F0 m (pc + 3) ls (.ref q :: rest))) : W p l e R s m args below meth c H locs cells slots Q (F0 m pc ls (.int n :: rest)) := by
  refine va_newq hC.1 hC.2.1 hC.2.2.2.1 (hC.2.2.2.2 _ hcl) hover hW.1 hW.2.1 hW.2.2.1 hW.2.2.2.1 hW.2.2.2.2.1 hn hN hbytes hcells hslots hdg (fun q cA H1 hK h1 h2 h3 => ?_)
  have hcA : cA = cQ := by
    obtain ⟨-, -, -, -, -, g1⟩ := (hW.1.2 t0 _ ht).2
    obtain ⟨-, -, -, -, -, g2⟩ := (hK.2 tys.length (cA, .object C) (by simp)).2
    exact Option.some.inj (g2.symm.trans g1)
  rw [hcA] at h1 h2
  exact kk q H1 ⟨hW.1, h1, h2, h3, hW.2.2.2.2⟩
theorem i_putF {C : String} {T : u_T} {N ci index q0 k a : Nat} {ref : String} {fs : List Value} {v : Value} {ty : FieldType} (hC : CallFix p m c cc nL s args lw_tg own) (hnm2 : meth.name = "<init>") (hW : HX wI tys D A H0 s w H locs)
    (hin : ∀ w ∈ u_ws C T N, w ∈ lw_tg) {ty0 : Nat → FieldType} (hty : ∀ k, k < N → parseFieldDescriptor (T k).2.2.1 = some (ty0 k)) (hnm : ∀ a, a < N → ∀ b, b < N → a ≠ b → (T a).2.1 ≠ (T b).2.1) (he : w[q0]? = some (a, .inr (ci, fs))) (hc : vwCl[ci]? = some (C, T, N)) (hk : k < N) (hT : (T k).1 = ref) (hlink : Cond.fieldLink own index ref (T k).2.1 (T k).2.2.1 ∈ lw_tg) (hfin : (T k).2.2.2 = true) (hdecl : (T k).1 = own) (hd : parseFieldDescriptor (T k).2.2.1 = some ty) (hn : narrow ty v = v) (hfit : fits ty v = true) (hl : k < fs.length)
    (hdg : decode cc pc = .ok (.putfield index, 3))
    (kk : ∀ (H1 : Heap) (locs1 : List Loc), HX wI tys D A H0 s (w.set q0 (a, .inr (ci, fs.set k v))) H1 locs1 → W p l e R s m args below meth c H1 locs1 cells slots Q (F0 m (pc + 3) ls rest)) : W p l e R s m args below meth c H locs cells slots Q (F0 m pc ls (v :: .ref a :: rest)) :=
  va_putF hC.1 hC.2.1 hC.2.2.2.2 hin ty0 hty hnm hC.2.2.2.1 hW.1 hW.2.1 hW.2.2.1 hW.2.2.2.1 q0 he hc k hk (hC.2.2.2.2 _ hlink) (fun _ h => by rw [← hT]; exact h) hfin hnm2 hdecl hd hn hfit hl hdg (fun H1 locs1 h1 h2 h3 => kk H1 locs1 ⟨hW.1, h1, h2, h3, hW.2.2.2.2⟩)
theorem i_ast {q0 t0 a n j : Nat} {cA : ClassId} {f : Nat → Int32} {i x : Int32} (hC : CallFix p m c cc nL s args lw_tg own) (hW : HX wI tys D A H0 s w H locs) (he : w[q0]? = some (a, .inl (cA, n, .inl f))) (ht : tys[t0]? = some (cA, .int)) (hi : i = nI j) (hj : j < n) (hn : n < 2 ^ 31) (hdg : decode cc pc = .ok (.iastore, 1))
    (kk : ∀ (H1 : Heap) (locs1 : List Loc), HX wI tys D A H0 s (w.set q0 (a, .inl (cA, n, .inl (upd f j x)))) H1 locs1 → W p l e R s m args below meth c H1 locs1 cells slots Q (F0 m (pc + 1) ls rest)) : W p l e R s m args below meth c H locs cells slots Q (F0 m pc ls (.int x :: .int i :: .ref a :: rest)) := by
  subst hi
  refine va_iast hC.1 hC.2.1 hW.1 hW.2.1 hW.2.2.1 hW.2.2.2.1 q0 t0 he ht (vp_in_nI hj hn) hdg ?_
  rw [nI_clamp (by omega)]
  exact fun H1 locs1 h1 h2 h3 => kk H1 locs1 ⟨hW.1, h1, h2, h3, hW.2.2.2.2⟩
theorem i_astQ {q0 t0 qk ci a n v j : Nat} {cA : ClassId} {r : vw_C} {vs : List Value} {f : Nat → Option Nat} {i : Int32} (hC : CallFix p m c cc nL s args lw_tg own) (hW : HX wI tys D A H0 s w H locs) (he : w[q0]? = some (a, .inl (cA, n, .inr (.inr (.inr (.inr f)))))) (ht : tys[t0]? = some (cA, .object r.1)) (hv : w[qk]? = some (v, .inr (ci, vs))) (hc : vwCl[ci]? = some r) (hi : i = nI j) (hj : j < n) (hn : n < 2 ^ 31) (hdg : decode cc pc = .ok (.aastore, 1))
    (kk : ∀ (H1 : Heap) (locs1 : List Loc), HX wI tys D A H0 s (w.set q0 (a, .inl (cA, n, .inr (.inr (.inr (.inr (va_up f j (some v)))))))) H1 locs1 → W p l e R s m args below meth c H1 locs1 cells slots Q (F0 m (pc + 1) ls rest)) : W p l e R s m args below meth c H locs cells slots Q (F0 m pc ls (.ref v :: .int i :: .ref a :: rest)) := by
  subst hi
  refine va_astq hC.1 hC.2.1 hW.1 hW.2.1 hW.2.2.1 hW.2.2.2.1 q0 t0 qk ci he ht hv hc (vp_in_nI hj hn) hdg ?_
  rw [nI_clamp (by omega)]
  exact fun H1 locs1 h1 h2 h3 => kk H1 locs1 ⟨hW.1, h1, h2, h3, hW.2.2.2.2⟩
-- joined worlds
theorem va_P_l {wr wc : va_W} (h : va_P D vwCl (wr ++ wc) H) : va_P D vwCl wr H := fun k q hk => h k q (by rw [List.getElem?_append_left (List.getElem?_eq_some_iff.mp hk).1]; exact hk)
theorem va_P_r {wr wc : va_W} (h : va_P D vwCl (wr ++ wc) H) : va_P D vwCl wc H := fun k q hk => h (wr.length + k) q (by rw [List.getElem?_append_right (by omega), Nat.add_sub_cancel_left]; exact hk)
theorem va_D_l {wr wc : va_W} (h : va_D A (wr ++ wc)) : va_D A wr := ⟨fun i j x y hi hj => h.1 i j x y (by rw [List.getElem?_append_left (List.getElem?_eq_some_iff.mp hi).1]; exact hi) (by rw [List.getElem?_append_left (List.getElem?_eq_some_iff.mp hj).1]; exact hj), fun k q hk => h.2 k q (by rw [List.getElem?_append_left (List.getElem?_eq_some_iff.mp hk).1]; exact hk)⟩
theorem va_D_r {wr wc : va_W} (h : va_D A (wr ++ wc)) : va_D A wc := ⟨fun i j x y hi hj he => by
  have := h.1 (wr.length + i) (wr.length + j) x y (by rw [List.getElem?_append_right (by omega), Nat.add_sub_cancel_left]; exact hi) (by rw [List.getElem?_append_right (by omega), Nat.add_sub_cancel_left]; exact hj) he
  omega, fun k q hk => h.2 (wr.length + k) q (by rw [List.getElem?_append_right (by omega), Nat.add_sub_cancel_left]; exact hk)⟩
theorem va_D_x {wr wc : va_W} (h : va_D A (wr ++ wc)) : ∀ (i j : Nat) (x y : Nat × va_E), wr[i]? = some x → wc[j]? = some y → x.1 ≠ y.1 := fun i j x y hi hj he => by
  have hlt := (List.getElem?_eq_some_iff.mp hi).1
  have := h.1 i (wr.length + j) x y (by rw [List.getElem?_append_left hlt]; exact hi) (by rw [List.getElem?_append_right (by omega), Nat.add_sub_cancel_left]; exact hj) he
  omega
theorem hx_swap {wr wc : va_W} (hW : HX wI tys D A H0 s (wr ++ wc) H locs) : HX wI tys D A H0 s (wc ++ wr) H locs :=
  ⟨hW.1, (va_P_r hW.2.1).app (va_P_l hW.2.1), va_D.app (va_D_r hW.2.2.1) (va_D_l hW.2.2.1) (fun i j x y hi hj he => va_D_x hW.2.2.1 j i y x hj hi he.symm), hW.2.2.2⟩
theorem hx_r {σ : Type} {wf : σ → va_W} {st : σ} {wr : va_W} (hW : HX wI tys D A H0 s (wr ++ wf st) H locs) : HX wf tys D A H0 s st H locs :=
  ⟨hW.1, va_P_r hW.2.1, va_D_r hW.2.2.1, hW.2.2.2⟩
theorem hx_join {wr wc w1 : va_W} {H1 : Heap} {locs1 : List Loc} (hW : HX wI tys D A H0 s (wr ++ wc) H locs) (hk : ∀ q : Nat, q < H.size → ¬ va_A wc H.size q → H1[q]? = H[q]?) (hP1 : va_P D vwCl w1 H1) (hD1 : va_D (va_A wc H.size) w1) (hS : va_S A H0 H1 locs1) : HX wI tys D A H0 s (wr ++ w1) H1 locs1 := by
  have hPr := va_P_l hW.2.1
  have hx := va_D_x hW.2.2.1
  have hlt : ∀ (k : Nat) (q : Nat × va_E), wr[k]? = some q → q.1 < H.size := fun k q hq => (hPr k q hq).lt
  have hna : ∀ (k : Nat) (q : Nat × va_E), wr[k]? = some q → ¬ va_A wc H.size q.1 := fun k q hq h9 => by
    rcases h9 with ⟨j, e, h9⟩ | h9
    · exact hx k j q _ hq h9 rfl
    · exact absurd (hlt k q hq) (by omega)
  refine ⟨hW.1, (va_P.kept hPr fun k q hq => hk q.1 (hlt k q hq) (hna k q hq)).app hP1, va_D.app (va_D_l hW.2.2.1) (hD1.weaken fun k q _ h9 => ?_) (fun i j x y hi hj he => ?_), hS, hW.2.2.2.2⟩
  · rcases h9 with ⟨j, e, h9⟩ | h9
    · exact (va_D_r hW.2.2.1).2 j (q.1, e) h9
    · exact hW.2.2.2.2.1 _ (Nat.le_trans hW.2.2.2.1.1 h9)
  · exact hna i x hi (by rw [he]; exact hD1.2 j y hj)
theorem hx_fr {wr wc : va_W} (hW : HX wI tys D A H0 s (wr ++ wc) H locs) : ∀ q, va_A wc H.size q → A q := by
  intro q h
  rcases h with ⟨k, e, h⟩ | h
  · exact (va_D_r hW.2.2.1).2 k (q, e) h
  · exact hW.2.2.2.2.1 q (Nat.le_trans hW.2.2.2.1.1 h)
theorem j_v {wr wc : va_W} {Qw : va_W → Prop} {a : Array Value} (hr : va_Run p l e R s m args below meth c H locs cells slots mc ms (F0 m pc ls st0) rest (va_Qv Qw (EX wI tys D (va_A wc H.size)) (va_A wc H.size) a) (va_A wc H.size)) (hW : HX wI tys D A H0 s (wr ++ wc) H locs)
    (kk : ∀ (w1 : va_W) (H1 : Heap) (locs1 : List Loc), Qw w1 → HX wI tys D A H0 s (wr ++ w1) H1 locs1 → W p l e R s m args below meth c H1 locs1 (cells + mc) (slots + ms) Q (F0 m (pc + 3) ls rest)) : W p l e R s m args below meth c H locs cells slots Q (F0 m pc ls st0) :=
  va_callv hr hW.2.2.2.1 (fun q _ h => hx_fr hW q h) (hx_fr hW) (fun u t H1 locs1 ht _ hp hB _ hk hS => kk u H1 locs1 hp (hx_join hW hk (by rw [← ht]; exact hB.1) hB.2.2 hS))
theorem j_i {σ : Type} {wf : σ → va_W} {st : σ} {wr : va_W} {post : Int32 → σ → Prop} {a : Array Value} (hr : va_Run p l e R s m args below meth c H locs cells slots 0 0 (F0 m pc ls st0) rest (va_Qi post (EX wf tys D (va_A (wf st) H.size)) (va_A (wf st) H.size) a) (va_A (wf st) H.size)) (hW : HX wI tys D A H0 s (wr ++ wf st) H locs)
    (kk : ∀ (r : Int32) (u : σ) (H1 : Heap) (locs1 : List Loc), post r u → HX wI tys D A H0 s (wr ++ wf u) H1 locs1 → W p l e R s m args below meth c H1 locs1 cells slots Q (F0 m (pc + 3) ls (.int r :: rest))) : W p l e R s m args below meth c H locs cells slots Q (F0 m pc ls st0) :=
  va_calli hr hW.2.2.2.1 (fun q _ h => hx_fr hW q h) (hx_fr hW) (fun r u t H1 locs1 ht _ hp hB _ hk hS => kk r u H1 locs1 hp (hx_join hW hk (by rw [← ht]; exact hB.1) hB.2.2 hS))
theorem j_l {σ : Type} {wf : σ → va_W} {st : σ} {wr : va_W} {post : Int64 → σ → Prop} {a : Array Value} (hr : va_Run p l e R s m args below meth c H locs cells slots 0 0 (F0 m pc ls st0) rest (va_Ql post (EX wf tys D (va_A (wf st) H.size)) (va_A (wf st) H.size) a) (va_A (wf st) H.size)) (hW : HX wI tys D A H0 s (wr ++ wf st) H locs)
    (kk : ∀ (r : Int64) (u : σ) (H1 : Heap) (locs1 : List Loc), post r u → HX wI tys D A H0 s (wr ++ wf u) H1 locs1 → W p l e R s m args below meth c H1 locs1 cells slots Q (F0 m (pc + 3) ls (.long r :: rest))) : W p l e R s m args below meth c H locs cells slots Q (F0 m pc ls st0) :=
  va_calll hr hW.2.2.2.1 (fun q _ h => hx_fr hW q h) (hx_fr hW) (fun r u t H1 locs1 ht _ hp hB _ hk hS => kk r u H1 locs1 hp (hx_join hW hk (by rw [← ht]; exact hB.1) hB.2.2 hS))
-- calls of constructors
theorem ix_blind {As : List Value} {sz : Nat} {Ex : State → Prop} {w0 : va_W} (hE : ∀ (a : Array Value) (U : State) (g : JFrame) (mk : _), Ex U → Ex (U.calling g mk a)) : FrameBlind (va_Pc As (fun U => BX wI tys D w0 sz U ∧ Ex U)) := fun a U g mk q => by
  obtain ⟨q0, ⟨q1, qP, qK, qD, qN⟩, qE⟩ := q
  exact ⟨q0, ⟨q1, qP, va_K.moved (u := U) (U := U.calling g mk a) (Vm.Alike.refl U.vm) qK, qD, nw_same (s := U) (U := U.calling g mk a) rfl qN⟩, hE a U g mk qE⟩
theorem i_runN {y : MethodName} {bytes : ByteArray} {maxL n index f k b : Nat} {host : String} {As : List Value} {Ex : State → Prop} {wr wc : va_W} {Qw : va_W → Prop} (hC : CallFix p m c cc nL s args lw_tg own) (hW : HX wI tys D A H0 s (wr ++ wc) H locs) (hM : IT l y bytes maxL f k mc ms tys D (.ref b :: As) Ex wc Qw) (hEb : ∀ (a : Array Value) (U : State) (g : JFrame) (mk : _), Ex U → Ex (U.calling g mk a)) (hEx : ∀ U : State, s.WarmedH U.vm → Ex U) (kI : CI y bytes maxL n) (hlink : va_Nw (.methodLinkNest own index y host) s)
    (hn : As.length = n) (hsz : ls.size = nL) (hst : st0 = As.reverse ++ .ref b :: rest) (hcat : (rest.map fun v => v.category).sum ≤ 8) (hR : f + 1 ≤ R.frames ∧ 8 + (maxL + 11) + k ≤ R.locals) (hdg : decode cc pc = .ok (.invokespecial index, 3)) (hf : cells + mc ≤ R.cells ∧ slots + ms ≤ R.slots) :
    va_Run p l e R s m args below meth c H locs cells slots mc ms (F0 m pc ls st0) rest (va_Qv Qw (EX wI tys D (va_A wc H.size)) (va_A wc H.size) (Value.ref b :: As).toArray) (va_A wc H.size) :=
  va_runIN (ws := uw y bytes maxL none) hC (hM H.size) ⟨va_cnB n hC.2.2.2.2 (uw_good kI.2.2.1) rfl rfl rfl hlink (hC.2.2.2.2 _ kI.2.1) kI.2.2.2.2 hR, kI.2.2.2.1, hC.2.2.2.2 _ kI.1⟩
    ⟨ix_blind hEb, fun U hU hw => ⟨rfl, bx_of (hx_r (wf := wI) (st := wc) hW) U hU hw, hEx U hw⟩⟩ rfl hn hsz hst (lv_room hcat) hdg hf
theorem i_runD {y : MethodName} {bytes : ByteArray} {maxL n index f k b : Nat} {As : List Value} {Ex : State → Prop} {wr wc : va_W} {Qw : va_W → Prop} (hC : CallFix p m c cc nL s args lw_tg own) (hW : HX wI tys D A H0 s (wr ++ wc) H locs) (hM : IT l y bytes maxL f k mc ms tys D (.ref b :: As) Ex wc Qw) (hEb : ∀ (a : Array Value) (U : State) (g : JFrame) (mk : _), Ex U → Ex (U.calling g mk a)) (hEx : ∀ U : State, s.WarmedH U.vm → Ex U) (kI : CI y bytes maxL n) (hlink : Cond.methodLink own index y ∈ lw_tg)
    (hn : As.length = n) (hsz : ls.size = nL) (hst : st0 = As.reverse ++ .ref b :: rest) (hcat : (rest.map fun v => v.category).sum ≤ 8) (hR : f + 1 ≤ R.frames ∧ 8 + (maxL + 11) + k ≤ R.locals) (hdg : decode cc pc = .ok (.invokespecial index, 3)) (hf : cells + mc ≤ R.cells ∧ slots + ms ≤ R.slots) :
    va_Run p l e R s m args below meth c H locs cells slots mc ms (F0 m pc ls st0) rest (va_Qv Qw (EX wI tys D (va_A wc H.size)) (va_A wc H.size) (Value.ref b :: As).toArray) (va_A wc H.size) :=
  va_runI (ws := uw y bytes maxL none) hC (hM H.size) ⟨callB_of n hC.2.2.2.2 (uw_good kI.2.2.1) rfl rfl rfl (hC.2.2.2.2 _ kI.2.1) (hC.2.2.2.2 _ hlink) kI.2.2.2.2 hR, kI.2.2.2.1, hC.2.2.2.2 _ kI.1⟩
    ⟨ix_blind hEb, fun U hU hw => ⟨rfl, bx_of (hx_r (wf := wI) (st := wc) hW) U hU hw, hEx U hw⟩⟩ rfl hn hsz hst (lv_room hcat) hdg hf
end RULES
