/-! rules over a whole world: a world family 'wf' (the cells by a state), bundled; contracts over it; calls -/
abbrev St : Type := (Nat → Int32) × (Nat → Nat → Int32)
def uw (y : MethodName) (cc : ByteArray) (n : Nat) (ret : Option FieldType) : List Cond := Cond.code y cc n ret :: lw_tg
def rmk (f w : Nat) : Room := { frames := f, cells := 0, slots := 0, locals := w }
def nw_ok (U : State) : Prop := va_Nw (.methodLinkNest RX5 11 yX3_init RX5) U ∧ va_Nw (.methodLinkNest RX5 20 yX1_init RX5) U ∧ va_Nw (.methodLinkNest RX5 31 yX2_init RX5) U ∧ va_Nw (.methodLinkNest RX0 84 yX5_isIn RX5) U ∧ va_Nw (.methodLinkNest RX4 21 yX5_isIn RX5) U
theorem nw_warm {s U : State} (hW : s.WarmedH U.vm) (h : nw_ok s) : nw_ok U := ⟨va_Nw.warmM hW h.1, va_Nw.warmM hW h.2.1, va_Nw.warmM hW h.2.2.1, va_Nw.warmM hW h.2.2.2.1, va_Nw.warmM hW h.2.2.2.2⟩
theorem nw_same {s U : State} (hW : s.vm = U.vm) (h : nw_ok s) : nw_ok U := ⟨va_Nw.same rfl hW h.1, va_Nw.same rfl hW h.2.1, va_Nw.same rfl hW h.2.2.1, va_Nw.same rfl hW h.2.2.2.1, va_Nw.same rfl hW h.2.2.2.2⟩
theorem uw_good {y : MethodName} {cc : ByteArray} {n : Nat} {ret : Option FieldType} (h : Cond.code y cc n ret ∈ lw_tg) : GoodIn lw_tg (uw y cc n ret) := by
  intro w hw
  rcases List.mem_cons.mp hw with rfl | hw
  · exact lw_tg_good _ h
  · exact lw_tg_good _ hw
section RULES
variable {σ : Type} {wf : σ → va_W} {tys : List (ClassId × FieldType)} {D : va_G} {A : Nat → Prop} {st u : σ}
def BX (wf : σ → va_W) (tys : List (ClassId × FieldType)) (D : va_G) (st : σ) (sz : Nat) : State → Prop := fun U => U.heap.size = sz ∧ va_P D vwCl (wf st) U.heap ∧ va_K D vwCl tys U ∧ va_D (fun _ => True) (wf st) ∧ nw_ok U
def EX (wf : σ → va_W) (tys : List (ClassId × FieldType)) (D : va_G) (A : Nat → Prop) : σ → State → Prop := fun u t => va_P D vwCl (wf u) t.heap ∧ va_K D vwCl tys t ∧ va_D A (wf u)
def HX (wf : σ → va_W) (tys : List (ClassId × FieldType)) (D : va_G) (A : Nat → Prop) (H0 : Heap) (s : State) (st : σ) (H : Heap) (locs : List Loc) : Prop := va_K D vwCl tys s ∧ va_P D vwCl (wf st) H ∧ va_D A (wf st) ∧ va_S A H0 H locs ∧ (∀ q, H0.size ≤ q → A q) ∧ nw_ok s
def CT (l : Launch) (y : MethodName) (cc : ByteArray) (n : Nat) (ret : Option FieldType) (rm : Room) (wf : σ → va_W) (tys : List (ClassId × FieldType)) (D : va_G) (As : List Value) (st : σ) (Qf : (σ → State → Prop) → (Nat → Prop) → Array Value → State → Outcome → State → Prop) : Prop :=
  ∀ sz : Nat, Met l y (uw y cc n ret) rm (va_Pc As (BX wf tys D st sz)) (Qf (EX wf tys D (va_A (wf st) sz)) (va_A (wf st) sz)) 0 0 (va_A (wf st) sz)
def PT (l : Launch) (y : MethodName) (cc : ByteArray) (n : Nat) (ret : Option FieldType) (rm : Room) (As : List Value) (Q : Array Value → State → Outcome → State → Prop) : Prop :=
  Met l y (uw y cc n ret) rm (va_Pc As nw_ok) Q 0 0 (fun _ => False)
def CV (y : MethodName) (C : String) (bytes : ByteArray) (maxL : Nat) (ret : Option FieldType) (n : Nat) : Prop := Cond.instanceMethod y ∈ lw_tg ∧ Cond.selects C y y ∈ lw_tg ∧ Cond.initialized C ∈ lw_tg ∧ Cond.code y bytes maxL ret ∈ lw_tg ∧ (y.cls = C ∧ y.cls ≠ "java/lang/invoke/MethodHandle" ∧ y.cls ≠ "java/lang/invoke/VarHandle" ∧ (parseMethodDescriptor y.desc).map (fun d => d.parameters.length) = some n)
def CS (y : MethodName) (bytes : ByteArray) (maxL : Nat) (ret : Option FieldType) (n : Nat) : Prop := Cond.static y ∈ lw_tg ∧ Cond.initialized y.cls ∈ lw_tg ∧ Cond.code y bytes maxL ret ∈ lw_tg ∧ (y.cls ≠ "java/lang/invoke/MethodHandle" ∧ y.cls ≠ "java/lang/invoke/VarHandle" ∧ (parseMethodDescriptor y.desc).map (fun d => d.parameters.length) = some n)
def CI (y : MethodName) (bytes : ByteArray) (maxL : Nat) (n : Nat) : Prop := Cond.instanceMethod y ∈ lw_tg ∧ Cond.initialized y.cls ∈ lw_tg ∧ Cond.code y bytes maxL none ∈ lw_tg ∧ y.name = "<init>" ∧ (y.cls ≠ "java/lang/invoke/MethodHandle" ∧ y.cls ≠ "java/lang/invoke/VarHandle" ∧ (parseMethodDescriptor y.desc).map (fun d => d.parameters.length) = some n)
theorem bx_blind {As : List Value} {sz : Nat} : FrameBlind (va_Pc As (BX wf tys D st sz)) := fun a U g mk q => by
  obtain ⟨q0, q1, qP, qK, qD, qN⟩ := q
  exact ⟨q0, q1, qP, va_K.moved (u := U) (U := U.calling g mk a) (Vm.Alike.refl U.vm) qK, qD, nw_same (s := U) (U := U.calling g mk a) rfl qN⟩
theorem pt_blind {As : List Value} : FrameBlind (va_Pc As nw_ok) := fun a U g mk q => ⟨q.1, nw_same (s := U) (U := U.calling g mk a) rfl q.2⟩
theorem CT.of {l : Launch} {y : MethodName} {cc : ByteArray} {n : Nat} {ret : Option FieldType} {f w : Nat} {As : List Value} {own : String} {Qf : (σ → State → Prop) → (Nat → Prop) → Array Value → State → Outcome → State → Prop}
    (hy : plainName y.cls = true) (ho : y.cls = own) (hsl : (lg_sl As).length ≤ n)
    (body : ∀ p e s m args below meth c (A : Nat → Prop) (Q : State → Prop), CallFix p m c cc n s args lw_tg own → meth.sig.returnType = ret → meth.locks = false → HX wf tys D A s.heap s st s.heap [] → MQ below (Qf (EX wf tys D A) A) args s 0 0 A = Q → ∀ ls : Array Slot, lv_has ls n (lv_args 0 As) →
      W p l e (rmk f w) s m args below meth c s.heap [] 0 0 Q (F0 m 0 ls [])) : CT l y cc n ret (rmk f w) wf tys D As st Qf := by
  intro sz
  refine Met.ofW (cc := cc) (maxL := n) (ret := ret) hy rfl ?_
  intro p e s m args below meth c s₁ B hml hv
  obtain ⟨ha, hsz, hP, hK, hD, hN⟩ := hv
  subst hsz
  have hts := atoms_spec (ws := uw y cc n ret) B.pre
  have hown : s.vm.findClass y.cls = some m.cls := findClass_of_methodNamed B.named
  have hl := lv_entry As (n := n) hsl
  have hb := body p e s m args below meth c (va_A (wf st) s.heap.size) _ ⟨B.exec, B.bytes, hml, by rw [← ho]; exact hown, fun w h => hts w (List.mem_cons_of_mem _ h)⟩ B.returns B.notSynchronized ⟨hK, hP, hD.self, va_S.rf, fun q h => Or.inr h, hN⟩ rfl _ hl
  rw [ha, lg_entry_eq]
  rw [ha] at hb
  exact hb
theorem PT.of {l : Launch} {y : MethodName} {cc : ByteArray} {n : Nat} {ret : Option FieldType} {f w : Nat} {As : List Value} {own : String} {Qp : Array Value → State → Outcome → State → Prop}
    (hy : plainName y.cls = true) (ho : y.cls = own) (hsl : (lg_sl As).length ≤ n)
    (body : ∀ p e s m args below meth c (Q : State → Prop), CallFix p m c cc n s args lw_tg own → meth.sig.returnType = ret → meth.locks = false → nw_ok s → MQ below Qp args s 0 0 (fun _ => False) = Q → ∀ ls : Array Slot, lv_has ls n (lv_args 0 As) →
      W p l e (rmk f w) s m args below meth c s.heap [] 0 0 Q (F0 m 0 ls [])) : PT l y cc n ret (rmk f w) As Qp := by
  refine Met.ofW (cc := cc) (maxL := n) (ret := ret) hy rfl ?_
  intro p e s m args below meth c s₁ B hml hv
  obtain ⟨ha, hN⟩ := hv
  have hts := atoms_spec (ws := uw y cc n ret) B.pre
  have hown : s.vm.findClass y.cls = some m.cls := findClass_of_methodNamed B.named
  have hl := lv_entry As (n := n) hsl
  have hb := body p e s m args below meth c _ ⟨B.exec, B.bytes, hml, by rw [← ho]; exact hown, fun w h => hts w (List.mem_cons_of_mem _ h)⟩ B.returns B.notSynchronized hN rfl _ hl
  rw [ha, lg_entry_eq]
  rw [ha] at hb
  exact hb
variable {p : Program} {l : Launch} {e : Env} {R : Room} {s : State} {m : MethodId} {args : Array Value} {below : List Frame} {meth : Method} {c : Code} {H H0 : Heap} {locs : List Loc} {cells slots : Nat} {Q : State → Prop}
variable {cc : ByteArray} {nL pc : Nat} {ls : Array Slot} {rest st0 : List Value} {own : String}
-- ends
theorem r_ireti {post : Int32 → σ → Prop} {v : Int32} (hC : CallFix p m c cc nL s args lw_tg own) (hr : meth.sig.returnType = some .int) (hlk : meth.locks = false) (hW : HX wf tys D A s.heap s u H locs) (hQ : MQ below (va_Qi post (EX wf tys D A) A) args s 0 0 A = Q) (hp : post v u) (hdg : decode cc pc = .ok (.ireturn, 1)) : W p l e R s m args below meth c H locs 0 0 Q (F0 m pc ls [.int v]) :=
  hQ ▸ W.iret hC.1 hC.2.1 hr (fun _ ht hU => ⟨⟨v, u, rfl, hp, by rw [ht]; exact hW.2.1, va_K.moved hU.alike hW.1, hW.2.2.1⟩, hW.2.2.2.1.F ht⟩) hW.2.2.2.1.2.2 hdg hlk
theorem r_iretz {post : Int32 → σ → Prop} {v : Int32} (hC : CallFix p m c cc nL s args lw_tg own) (hr : meth.sig.returnType = some .boolean) (hlk : meth.locks = false) (hW : HX wf tys D A s.heap s u H locs) (hQ : MQ below (va_Qi post (EX wf tys D A) A) args s 0 0 A = Q) (hp : post v u) (hn : narrow .boolean (.int v) = .int v) (hdg : decode cc pc = .ok (.ireturn, 1)) : W p l e R s m args below meth c H locs 0 0 Q (F0 m pc ls [.int v]) :=
  hQ ▸ W.zret hC.1 hC.2.1 hr hn (fun _ ht hU => ⟨⟨v, u, rfl, hp, by rw [ht]; exact hW.2.1, va_K.moved hU.alike hW.1, hW.2.2.1⟩, hW.2.2.2.1.F ht⟩) hW.2.2.2.1.2.2 hdg hlk
theorem r_lret {post : Int64 → σ → Prop} {v : Int64} (hC : CallFix p m c cc nL s args lw_tg own) (hr : meth.sig.returnType = some .long) (hlk : meth.locks = false) (hW : HX wf tys D A s.heap s u H locs) (hQ : MQ below (va_Ql post (EX wf tys D A) A) args s 0 0 A = Q) (hp : post v u) (hdg : decode cc pc = .ok (.lreturn, 1)) : W p l e R s m args below meth c H locs 0 0 Q (F0 m pc ls [.long v]) :=
  hQ ▸ W.lret hC.1 hC.2.1 hr (fun _ ht hU => ⟨⟨v, u, rfl, hp, by rw [ht]; exact hW.2.1, va_K.moved hU.alike hW.1, hW.2.2.1⟩, hW.2.2.2.1.F ht⟩) hW.2.2.2.1.2.2 hdg hlk
theorem r_vret {post : σ → Prop} (hC : CallFix p m c cc nL s args lw_tg own) (hr : meth.sig.returnType = none) (hlk : meth.locks = false) (hW : HX wf tys D A s.heap s u H locs) (hQ : MQ below (va_Qv post (EX wf tys D A) A) args s 0 0 A = Q) (hp : post u) (hdg : decode cc pc = .ok (.return_, 1)) : W p l e R s m args below meth c H locs 0 0 Q (F0 m pc ls []) :=
  hQ ▸ W.vret hC.1 hC.2.1 hr (fun _ ht hU => ⟨⟨u, rfl, hp, by rw [ht]; exact hW.2.1, va_K.moved hU.alike hW.1, hW.2.2.1⟩, hW.2.2.2.1.F ht⟩) hW.2.2.2.1.2.2 hdg hlk
theorem r_pi {post : Int32 → Prop} {v : Int32} (hC : CallFix p m c cc nL s args lw_tg own) (hr : meth.sig.returnType = some .int) (hlk : meth.locks = false) (hQ : MQ below (vp_Si post) args s 0 0 (fun _ => False) = Q) (hp : post v) (hdg : decode cc pc = .ok (.ireturn, 1)) : W p l e R s m args below meth c s.heap [] 0 0 Q (F0 m pc ls [.int v]) :=
  hQ ▸ W.iret hC.1 hC.2.1 hr (fun _ ht _ => ⟨v, rfl, hp, ht⟩) (fun _ h => by cases h) hdg hlk
theorem r_pz {post : Int32 → Prop} {v : Int32} (hC : CallFix p m c cc nL s args lw_tg own) (hr : meth.sig.returnType = some .boolean) (hlk : meth.locks = false) (hQ : MQ below (vp_Si post) args s 0 0 (fun _ => False) = Q) (hp : post v) (hn : narrow .boolean (.int v) = .int v) (hdg : decode cc pc = .ok (.ireturn, 1)) : W p l e R s m args below meth c s.heap [] 0 0 Q (F0 m pc ls [.int v]) :=
  hQ ▸ W.zret hC.1 hC.2.1 hr hn (fun _ ht _ => ⟨v, rfl, hp, ht⟩) (fun _ h => by cases h) hdg hlk
theorem r_pl {post : Int64 → Prop} {v : Int64} (hC : CallFix p m c cc nL s args lw_tg own) (hr : meth.sig.returnType = some .long) (hlk : meth.locks = false) (hQ : MQ below (vp_Sl post) args s 0 0 (fun _ => False) = Q) (hp : post v) (hdg : decode cc pc = .ok (.lreturn, 1)) : W p l e R s m args below meth c s.heap [] 0 0 Q (F0 m pc ls [.long v]) :=
  hQ ▸ W.lret hC.1 hC.2.1 hr (fun _ ht _ => ⟨v, rfl, hp, ht⟩) (fun _ h => by cases h) hdg hlk
theorem r_top {x y : Int32} (h : x = y) (kk : W p l e R s m args below meth c H locs cells slots Q (F0 m pc ls (.int y :: rest))) : W p l e R s m args below meth c H locs cells slots Q (F0 m pc ls (.int x :: rest)) := by
  rw [h]; exact kk
theorem r_topl {x y : Int64} (h : x = y) (kk : W p l e R s m args below meth c H locs cells slots Q (F0 m pc ls (.long y :: rest))) : W p l e R s m args below meth c H locs cells slots Q (F0 m pc ls (.long x :: rest)) := by
  rw [h]; exact kk
-- fields
theorem r_get {C : String} {T : u_T} {N ci index q0 k a : Nat} {ref : String} {fs : List Value} {v : Value} (hC : CallFix p m c cc nL s args lw_tg own) (hW : HX wf tys D A H0 s st H locs)
    (hin : ∀ w ∈ u_ws C T N, w ∈ lw_tg) (he : (wf st)[q0]? = some (a, .inr (ci, fs))) (hc : vwCl[ci]? = some (C, T, N)) (hk : k < N) (hT : (T k).1 = ref) (hlink : Cond.fieldLink own index ref (T k).2.1 (T k).2.2.1 ∈ lw_tg) (hv : fs[k]? = some v) (hdg : decode cc pc = .ok (.getfield index, 3))
    (kk : W p l e R s m args below meth c H locs cells slots Q (F0 m (pc + 3) ls (v :: rest))) : W p l e R s m args below meth c H locs cells slots Q (F0 m pc ls (.ref a :: rest)) :=
  va_get hC.1 hC.2.1 hC.2.2.2.2 hin hC.2.2.2.1 hW.1 hW.2.1 q0 he hc k hk (hC.2.2.2.2 _ hlink) (fun _ h => by rw [← hT]; exact h) hv hdg kk
theorem r_put {C : String} {T : u_T} {N ci index q0 k a : Nat} {ref : String} {fs : List Value} {v : Value} {ty : FieldType} {st' : σ} (hC : CallFix p m c cc nL s args lw_tg own) (hW : HX wf tys D A H0 s st H locs)
    (hin : ∀ w ∈ u_ws C T N, w ∈ lw_tg) {ty0 : Nat → FieldType} (hty : ∀ k, k < N → parseFieldDescriptor (T k).2.2.1 = some (ty0 k)) (hnm : ∀ a, a < N → ∀ b, b < N → a ≠ b → (T a).2.1 ≠ (T b).2.1) (he : (wf st)[q0]? = some (a, .inr (ci, fs))) (hc : vwCl[ci]? = some (C, T, N)) (hk : k < N) (hT : (T k).1 = ref) (hlink : Cond.fieldLink own index ref (T k).2.1 (T k).2.2.1 ∈ lw_tg) (hfin : (T k).2.2.2 = false) (hd : parseFieldDescriptor (T k).2.2.1 = some ty) (hn : narrow ty v = v) (hfit : fits ty v = true) (hl : k < fs.length)
    (hset : (wf st).set q0 (a, .inr (ci, fs.set k v)) = wf st') (hdg : decode cc pc = .ok (.putfield index, 3))
    (kk : ∀ (H1 : Heap) (locs1 : List Loc), HX wf tys D A H0 s st' H1 locs1 → W p l e R s m args below meth c H1 locs1 cells slots Q (F0 m (pc + 3) ls rest)) : W p l e R s m args below meth c H locs cells slots Q (F0 m pc ls (v :: .ref a :: rest)) :=
  va_put hC.1 hC.2.1 hC.2.2.2.2 hin ty0 hty hnm hC.2.2.2.1 hW.1 hW.2.1 hW.2.2.1 hW.2.2.2.1 q0 he hc k hk (hC.2.2.2.2 _ hlink) (fun _ h => by rw [← hT]; exact h) hfin hd hn hfit hl hdg (fun H1 locs1 h1 h2 h3 => kk H1 locs1 ⟨hW.1, by rw [← hset]; exact h1, by rw [← hset]; exact h2, h3, hW.2.2.2.2⟩)
-- arrays
theorem r_ild {q0 t0 a n : Nat} {cA : ClassId} {f : Nat → Int32} {i : Int32} (hC : CallFix p m c cc nL s args lw_tg own) (hW : HX wf tys D A H0 s st H locs) (he : (wf st)[q0]? = some (a, .inl (cA, n, .inl f))) (ht : tys[t0]? = some (cA, .int)) (hin : vp_in i n) (hdg : decode cc pc = .ok (.iaload, 1))
    (kk : W p l e R s m args below meth c H locs cells slots Q (F0 m (pc + 1) ls (.int (f i.toNatClampNeg) :: rest))) : W p l e R s m args below meth c H locs cells slots Q (F0 m pc ls (.int i :: .ref a :: rest)) :=
  va_iald hC.1 hC.2.1 hW.1 hW.2.1 q0 t0 he ht hin hdg kk
theorem r_ildN {q0 t0 a n j : Nat} {cA : ClassId} {f : Nat → Int32} {i : Int32} (hC : CallFix p m c cc nL s args lw_tg own) (hW : HX wf tys D A H0 s st H locs) (he : (wf st)[q0]? = some (a, .inl (cA, n, .inl f))) (ht : tys[t0]? = some (cA, .int)) (hi : i = nI j) (hj : j < n) (hn : n < 2 ^ 31) (hdg : decode cc pc = .ok (.iaload, 1))
    (kk : W p l e R s m args below meth c H locs cells slots Q (F0 m (pc + 1) ls (.int (f j) :: rest))) : W p l e R s m args below meth c H locs cells slots Q (F0 m pc ls (.int i :: .ref a :: rest)) := by
  subst hi
  refine va_iald hC.1 hC.2.1 hW.1 hW.2.1 q0 t0 he ht (vp_in_nI hj hn) hdg ?_
  rw [nI_clamp (by omega)]
  exact kk
theorem r_istN {q0 t0 a n j : Nat} {cA : ClassId} {f : Nat → Int32} {i x : Int32} {st' : σ} (hC : CallFix p m c cc nL s args lw_tg own) (hW : HX wf tys D A H0 s st H locs) (he : (wf st)[q0]? = some (a, .inl (cA, n, .inl f))) (ht : tys[t0]? = some (cA, .int)) (hi : i = nI j) (hj : j < n) (hn : n < 2 ^ 31) (hset : (wf st).set q0 (a, .inl (cA, n, .inl (upd f j x))) = wf st') (hdg : decode cc pc = .ok (.iastore, 1))
    (kk : ∀ (H1 : Heap) (locs1 : List Loc), HX wf tys D A H0 s st' H1 locs1 → W p l e R s m args below meth c H1 locs1 cells slots Q (F0 m (pc + 1) ls rest)) : W p l e R s m args below meth c H locs cells slots Q (F0 m pc ls (.int x :: .int i :: .ref a :: rest)) := by
  subst hi
  refine va_iast hC.1 hC.2.1 hW.1 hW.2.1 hW.2.2.1 hW.2.2.2.1 q0 t0 he ht (vp_in_nI hj hn) hdg ?_
  rw [nI_clamp (by omega), hset]
  exact fun H1 locs1 h1 h2 h3 => kk H1 locs1 ⟨hW.1, h1, h2, h3, hW.2.2.2.2⟩
theorem r_aldN {q0 t0 a n j b : Nat} {cA : ClassId} {C : String} {f : Nat → Option Nat} {i : Int32} (hC : CallFix p m c cc nL s args lw_tg own) (hW : HX wf tys D A H0 s st H locs) (he : (wf st)[q0]? = some (a, .inl (cA, n, .inr (.inr (.inr (.inr f)))))) (ht : tys[t0]? = some (cA, .object C)) (hi : i = nI j) (hj : j < n) (hn : n < 2 ^ 31) (hv : f j = some b) (hdg : decode cc pc = .ok (.aaload, 1))
    (kk : W p l e R s m args below meth c H locs cells slots Q (F0 m (pc + 1) ls (.ref b :: rest))) : W p l e R s m args below meth c H locs cells slots Q (F0 m pc ls (.int i :: .ref a :: rest)) := by
  subst hi
  refine va_aldq hC.1 hC.2.1 hW.1 hW.2.1 q0 t0 he ht (vp_in_nI hj hn) hdg ?_
  rw [nI_clamp (by omega), hv]
  exact kk
theorem r_alen {q0 t0 a : Nat} {cA : ClassId} {x : vp_A} {ty : FieldType} {v : Int32} (hC : CallFix p m c cc nL s args lw_tg own) (hW : HX wf tys D A H0 s st H locs) (he : (wf st)[q0]? = some (a, .inl (cA, x))) (ht : tys[t0]? = some (cA, ty)) (hv : Int32.ofNat x.1 = v) (hdg : decode cc pc = .ok (.arraylength, 1))
    (kk : W p l e R s m args below meth c H locs cells slots Q (F0 m (pc + 1) ls (.int v :: rest))) : W p l e R s m args below meth c H locs cells slots Q (F0 m pc ls (.ref a :: rest)) :=
  va_alen hC.1 hC.2.1 hW.1 hW.2.1 q0 t0 he ht hv hdg kk
theorem r_copy {q0 q1 t0 a a0 n0 n1 index : Nat} {cA : ClassId} {f g : Nat → Int32} {st' : σ} {sp dp n : Int32} (hC : CallFix p m c cc nL s args lw_tg own) (hW : HX wf tys D A H0 s st H locs) (hsz : ls.size = nL) (hlink : Cond.methodLink own index arraycopyName ∈ lw_tg)
    (ha0 : (wf st)[q0]? = some (a0, .inl (cA, n0, .inl f))) (ha1 : (wf st)[q1]? = some (a, .inl (cA, n1, .inl g))) (ht : tys[t0]? = some (cA, .int)) (h1 : ¬ sp < 0) (h2 : ¬ dp < 0) (h3 : ¬ n < 0) (h4 : sp.toNatClampNeg + n.toNatClampNeg ≤ n0) (h5 : dp.toNatClampNeg + n.toNatClampNeg ≤ n1)
    (hset : (wf st).set q1 (a, .inl (cA, n1, .inl (va_cpy f g sp.toNatClampNeg dp.toNatClampNeg n.toNatClampNeg))) = wf st') (hR : 1 ≤ R.frames ∧ (rest.map fun v => v.category).sum + (nativeFrameWords "java/lang/System" "arraycopy" 5 + 11) ≤ R.locals) (hdg : decode cc pc = .ok (.invokestatic index, 3))
    (kk : ∀ (H1 : Heap) (locs1 : List Loc), HX wf tys D A H0 s st' H1 locs1 → W p l e R s m args below meth c H1 locs1 cells slots Q (F0 m (pc + 3) ls rest)) : W p l e R s m args below meth c H locs cells slots Q (F0 m pc ls (.int n :: .int dp :: .ref a :: .int sp :: .ref a0 :: rest)) := by
  refine va_copyi hC.1 hC.2.1 (hC.2.2.1.trans hsz.symm) hC.2.2.2.1 (hC.2.2.2.2 _ hlink) (hC.2.2.2.2 _ q_na_arraycopy) (hC.2.2.2.2 _ q_st_arraycopy) (hC.2.2.2.2 _ q_in_RJ10) hW.1 hW.2.1 hW.2.2.1 hW.2.2.2.1 q0 q1 t0 t0 ha0 ha1 ht ht rfl h1 h2 h3 h4 h5 (fun i _ => rfl) hR.1 hR.2 hdg ?_
  rw [hset]
  exact fun H1 locs1 h1 h2 h3 => kk H1 locs1 ⟨hW.1, h1, h2, h3, hW.2.2.2.2⟩
-- calls
theorem hx_free (hW : HX wf tys D A H0 s st H locs) : ∀ q, va_A (wf st) H.size q → A q := by
  intro q h
  rcases h with ⟨k, e, h⟩ | h
  · exact hW.2.2.1.2 k (q, e) h
  · exact hW.2.2.2.2.1 q (Nat.le_trans hW.2.2.2.1.1 h)
theorem hx_after {t : State} {H1 : Heap} {locs1 : List Loc} (hW : HX wf tys D A H0 s st H locs) (hB : EX wf tys D (va_A (wf st) H.size) u t) (ht : t.heap = H1) (hS : va_S A H0 H1 locs1) : HX wf tys D A H0 s u H1 locs1 :=
  ⟨hW.1, by rw [← ht]; exact hB.1, hB.2.2.weaken (fun _ q _ h => hx_free hW q.1 h), hS, hW.2.2.2.2⟩
theorem fin_i {post : Int32 → σ → Prop} {a : Array Value} (hr : va_Run p l e R s m args below meth c H locs cells slots 0 0 (F0 m pc ls st0) rest (va_Qi post (EX wf tys D (va_A (wf st) H.size)) (va_A (wf st) H.size) a) (va_A (wf st) H.size)) (hW : HX wf tys D A H0 s st H locs)
    (kk : ∀ (r : Int32) (u : σ) (H1 : Heap) (locs1 : List Loc), post r u → HX wf tys D A H0 s u H1 locs1 → W p l e R s m args below meth c H1 locs1 cells slots Q (F0 m (pc + 3) ls (.int r :: rest))) : W p l e R s m args below meth c H locs cells slots Q (F0 m pc ls st0) :=
  va_calli hr hW.2.2.2.1 (fun q _ h => hx_free hW q h) (hx_free hW) (fun r u _ H1 locs1 ht _ hp hB _ _ hS => kk r u H1 locs1 hp (hx_after hW hB ht hS))
theorem fin_l {post : Int64 → σ → Prop} {a : Array Value} (hr : va_Run p l e R s m args below meth c H locs cells slots 0 0 (F0 m pc ls st0) rest (va_Ql post (EX wf tys D (va_A (wf st) H.size)) (va_A (wf st) H.size) a) (va_A (wf st) H.size)) (hW : HX wf tys D A H0 s st H locs)
    (kk : ∀ (r : Int64) (u : σ) (H1 : Heap) (locs1 : List Loc), post r u → HX wf tys D A H0 s u H1 locs1 → W p l e R s m args below meth c H1 locs1 cells slots Q (F0 m (pc + 3) ls (.long r :: rest))) : W p l e R s m args below meth c H locs cells slots Q (F0 m pc ls st0) :=
  va_calll hr hW.2.2.2.1 (fun q _ h => hx_free hW q h) (hx_free hW) (fun r u _ H1 locs1 ht _ hp hB _ _ hS => kk r u H1 locs1 hp (hx_after hW hB ht hS))
theorem fin_v {post : σ → Prop} {a : Array Value} (hr : va_Run p l e R s m args below meth c H locs cells slots 0 0 (F0 m pc ls st0) rest (va_Qv post (EX wf tys D (va_A (wf st) H.size)) (va_A (wf st) H.size) a) (va_A (wf st) H.size)) (hW : HX wf tys D A H0 s st H locs)
    (kk : ∀ (u : σ) (H1 : Heap) (locs1 : List Loc), post u → HX wf tys D A H0 s u H1 locs1 → W p l e R s m args below meth c H1 locs1 cells slots Q (F0 m (pc + 3) ls rest)) : W p l e R s m args below meth c H locs cells slots Q (F0 m pc ls st0) :=
  va_callv hr hW.2.2.2.1 (fun q _ h => hx_free hW q h) (hx_free hW) (fun u _ H1 locs1 ht _ hp hB _ _ hS => kk u H1 locs1 hp (hx_after hW hB ht hS))
theorem bx_of (hW : HX wf tys D A H0 s st H locs) (U : State) (hU : U.heap = H) (hw : s.WarmedH U.vm) : BX wf tys D st H.size U :=
  ⟨by rw [hU], by rw [hU]; exact hW.2.1, va_K.moved hw.alike hW.1, hW.2.2.1.weaken (fun _ _ _ _ => trivial), nw_warm hw hW.2.2.2.2.2⟩
theorem run_V {y : MethodName} {bytes : ByteArray} {maxL n index q0 ci b N : Nat} {ret : Option FieldType} {rm : Room} {C : String} {T : u_T} {fs : List Value} {As : List Value} {Qf : (σ → State → Prop) → (Nat → Prop) → Array Value → State → Outcome → State → Prop}
    (hC : CallFix p m c cc nL s args lw_tg own) (hW : HX wf tys D A H0 s st H locs) (hM : CT l y bytes maxL ret rm wf tys D (.ref b :: As) st Qf) (k : CV y C bytes maxL ret n) (hrm : rm.cells = 0 ∧ rm.slots = 0) (hlink : Cond.methodLink own index y ∈ lw_tg) (he : (wf st)[q0]? = some (b, .inr (ci, fs))) (hc : vwCl[ci]? = some (C, T, N))
    (hn : As.length = n) (hsz : ls.size = nL) (hst : st0 = As.reverse ++ .ref b :: rest) (hcat : (rest.map fun v => v.category).sum ≤ 8) (hR : rm.frames + 1 ≤ R.frames ∧ 8 + (maxL + 11) + rm.locals ≤ R.locals) (hdg : decode cc pc = .ok (.invokevirtual index, 3)) (hf : cells + 0 ≤ R.cells ∧ slots + 0 ≤ R.slots) :
    va_Run p l e R s m args below meth c H locs cells slots 0 0 (F0 m pc ls st0) rest (Qf (EX wf tys D (va_A (wf st) H.size)) (va_A (wf st) H.size) (Value.ref b :: As).toArray) (va_A (wf st) H.size) :=
  va_runV (ws := uw y bytes maxL ret) hC (hM H.size)
    ⟨callB_of n hC.2.2.2.2 (uw_good k.2.2.2.1) rfl hrm.1 hrm.2 (by rw [k.2.2.2.2.1]; exact hC.2.2.2.2 _ k.2.2.1) (hC.2.2.2.2 _ hlink) k.2.2.2.2.2 hR, hC.2.2.2.2 _ k.1, hC.2.2.2.2 _ k.2.1⟩
    ⟨bx_blind, va_recv hW.1 hW.2.1 hc he, fun U hU hw => ⟨rfl, bx_of hW U hU hw⟩⟩ rfl hn hsz hst (lv_room hcat) hdg hf
theorem run_S {y : MethodName} {bytes : ByteArray} {maxL n index : Nat} {ret : Option FieldType} {rm : Room} {As : List Value} {Qf : (σ → State → Prop) → (Nat → Prop) → Array Value → State → Outcome → State → Prop}
    (hC : CallFix p m c cc nL s args lw_tg own) (hW : HX wf tys D A H0 s st H locs) (hM : CT l y bytes maxL ret rm wf tys D As st Qf) (k : CS y bytes maxL ret n) (hrm : rm.cells = 0 ∧ rm.slots = 0) (hlink : Cond.methodLink own index y ∈ lw_tg)
    (hn : As.length = n) (hsz : ls.size = nL) (hst : st0 = As.reverse ++ rest) (hcat : (rest.map fun v => v.category).sum ≤ 8) (hR : rm.frames + 1 ≤ R.frames ∧ 8 + (maxL + 11) + rm.locals ≤ R.locals) (hdg : decode cc pc = .ok (.invokestatic index, 3)) (hf : cells + 0 ≤ R.cells ∧ slots + 0 ≤ R.slots) :
    va_Run p l e R s m args below meth c H locs cells slots 0 0 (F0 m pc ls st0) rest (Qf (EX wf tys D (va_A (wf st) H.size)) (va_A (wf st) H.size) As.toArray) (va_A (wf st) H.size) :=
  va_runS (ws := uw y bytes maxL ret) hC (hM H.size)
    ⟨callB_of n hC.2.2.2.2 (uw_good k.2.2.1) rfl hrm.1 hrm.2 (hC.2.2.2.2 _ k.2.1) (hC.2.2.2.2 _ hlink) k.2.2.2 hR, hC.2.2.2.2 _ k.1⟩
    ⟨bx_blind, fun U hU hw => ⟨rfl, bx_of hW U hU hw⟩⟩ rfl hn hsz hst (lv_room hcat) hdg hf
theorem run_P {y : MethodName} {bytes : ByteArray} {maxL n index : Nat} {ret : Option FieldType} {rm : Room} {As : List Value} {Qp : Array Value → State → Outcome → State → Prop}
    (hC : CallFix p m c cc nL s args lw_tg own) (hN : nw_ok s) (hM : PT l y bytes maxL ret rm As Qp) (k : CS y bytes maxL ret n) (hrm : rm.cells = 0 ∧ rm.slots = 0) (hlink : Cond.methodLink own index y ∈ lw_tg)
    (hn : As.length = n) (hsz : ls.size = nL) (hst : st0 = As.reverse ++ rest) (hcat : (rest.map fun v => v.category).sum ≤ 8) (hR : rm.frames + 1 ≤ R.frames ∧ 8 + (maxL + 11) + rm.locals ≤ R.locals) (hdg : decode cc pc = .ok (.invokestatic index, 3)) (hf : cells + 0 ≤ R.cells ∧ slots + 0 ≤ R.slots) :
    va_Run p l e R s m args below meth c H locs cells slots 0 0 (F0 m pc ls st0) rest (Qp As.toArray) (fun _ => False) :=
  va_runS (ws := uw y bytes maxL ret) hC hM
    ⟨callB_of n hC.2.2.2.2 (uw_good k.2.2.1) rfl hrm.1 hrm.2 (hC.2.2.2.2 _ k.2.1) (hC.2.2.2.2 _ hlink) k.2.2.2 hR, hC.2.2.2.2 _ k.1⟩
    ⟨pt_blind, fun U hU hw => ⟨rfl, nw_warm hw hN⟩⟩ rfl hn hsz hst (lv_room hcat) hdg hf
theorem run_PN {y : MethodName} {bytes : ByteArray} {maxL n index : Nat} {ret : Option FieldType} {rm : Room} {As : List Value} {Qp : Array Value → State → Outcome → State → Prop} {host : String}
    (hC : CallFix p m c cc nL s args lw_tg own) (hN : nw_ok s) (hM : PT l y bytes maxL ret rm As Qp) (k : CS y bytes maxL ret n) (hrm : rm.cells = 0 ∧ rm.slots = 0) (hlink : va_Nw (.methodLinkNest own index y host) s)
    (hn : As.length = n) (hsz : ls.size = nL) (hst : st0 = As.reverse ++ rest) (hcat : (rest.map fun v => v.category).sum ≤ 8) (hR : rm.frames + 1 ≤ R.frames ∧ 8 + (maxL + 11) + rm.locals ≤ R.locals) (hdg : decode cc pc = .ok (.invokestatic index, 3)) (hf : cells + 0 ≤ R.cells ∧ slots + 0 ≤ R.slots) :
    va_Run p l e R s m args below meth c H locs cells slots 0 0 (F0 m pc ls st0) rest (Qp As.toArray) (fun _ => False) :=
  va_runSN (ws := uw y bytes maxL ret) hC hM
    ⟨va_cnB n hC.2.2.2.2 (uw_good k.2.2.1) rfl hrm.1 hrm.2 hlink (hC.2.2.2.2 _ k.2.1) k.2.2.2 hR, hC.2.2.2.2 _ k.1, trivial⟩
    ⟨pt_blind, fun U hU hw => ⟨rfl, nw_warm hw hN⟩⟩ rfl hn hsz hst (lv_room hcat) hdg hf
theorem fin_pi {post : Int32 → Prop} {a : Array Value} (hr : va_Run p l e R s m args below meth c H locs cells slots 0 0 (F0 m pc ls st0) rest (vp_Si post a) (fun _ => False))
    (kk : ∀ (r : Int32), post r → W p l e R s m args below meth c H locs cells slots Q (F0 m (pc + 3) ls (.int r :: rest))) : W p l e R s m args below meth c H locs cells slots Q (F0 m pc ls st0) := by
  intro T hT X
  obtain ⟨v, st₀, t, T', L, h0, X', hL, e1, e2, ⟨r, hv, hp, hh⟩, st⟩ := hr T hT X
  cases hv
  obtain ⟨t2, a1, b1⟩ := kk r hp T' (by rw [e1, hh, h0]) (by
    have : L = [] := by
      cases L with
      | nil => rfl
      | cons a L => exact absurd (hL a List.mem_cons_self) (fun h => h)
    rw [this, List.append_nil] at X'
    exact X')
  exact ⟨t2, st t2 a1, b1⟩
theorem fin_pl {post : Int64 → Prop} {a : Array Value} (hr : va_Run p l e R s m args below meth c H locs cells slots 0 0 (F0 m pc ls st0) rest (vp_Sl post a) (fun _ => False))
    (kk : ∀ (r : Int64), post r → W p l e R s m args below meth c H locs cells slots Q (F0 m (pc + 3) ls (.long r :: rest))) : W p l e R s m args below meth c H locs cells slots Q (F0 m pc ls st0) := by
  intro T hT X
  obtain ⟨v, st₀, t, T', L, h0, X', hL, e1, e2, ⟨r, hv, hp, hh⟩, st⟩ := hr T hT X
  cases hv
  obtain ⟨t2, a1, b1⟩ := kk r hp T' (by rw [e1, hh, h0]) (by
    have : L = [] := by
      cases L with
      | nil => rfl
      | cons a L => exact absurd (hL a List.mem_cons_self) (fun h => h)
    rw [this, List.append_nil] at X'
    exact X')
  exact ⟨t2, st t2 a1, b1⟩
theorem r_max {index : Nat} {x y : Int32} (hC : CallFix p m c cc nL s args lw_tg own) (hsz : ls.size = nL) (hlink : Cond.methodLink own index Lib.Math.max.name ∈ lw_tg) (hR : 1 ≤ R.frames ∧ (rest.map fun v => v.category).sum + 13 ≤ R.locals) (hf : cells ≤ R.cells ∧ slots ≤ R.slots) (hdg : decode cc pc = .ok (.invokestatic index, 3))
    (kk : W p l e R s m args below meth c H locs cells slots Q (F0 m (pc + 3) ls (.int (if x < y then y else x) :: rest))) : W p l e R s m args below meth c H locs cells slots Q (F0 m pc ls (.int y :: .int x :: rest)) :=
  va_mmax hC.1 hC.2.1 (hC.2.2.1.trans hsz.symm) hC.2.2.2.1 (hC.2.2.2.2 _ hlink) (hC.2.2.2.2 _ q_st_max) (hC.2.2.2.2 _ q_in_RJ9) (hC.2.2.2.2 _ q_co_max) hR.1 hR.2 hf.1 hf.2 hdg kk
theorem r_min {index : Nat} {x y : Int32} (hC : CallFix p m c cc nL s args lw_tg own) (hsz : ls.size = nL) (hlink : Cond.methodLink own index Lib.Math.min.name ∈ lw_tg) (hR : 1 ≤ R.frames ∧ (rest.map fun v => v.category).sum + 13 ≤ R.locals) (hf : cells ≤ R.cells ∧ slots ≤ R.slots) (hdg : decode cc pc = .ok (.invokestatic index, 3))
    (kk : W p l e R s m args below meth c H locs cells slots Q (F0 m (pc + 3) ls (.int (if y < x then y else x) :: rest))) : W p l e R s m args below meth c H locs cells slots Q (F0 m pc ls (.int y :: .int x :: rest)) :=
  va_mmin hC.1 hC.2.1 (hC.2.2.1.trans hsz.symm) hC.2.2.2.1 (hC.2.2.2.2 _ hlink) (hC.2.2.2.2 _ q_st_min) (hC.2.2.2.2 _ q_in_RJ9) (hC.2.2.2.2 _ q_co_min) hR.1 hR.2 hf.1 hf.2 hdg kk
end RULES
