/-- the world that a writing method leaves -/
def wB {S : Type} (D : va_G) (tys : List (ClassId × FieldType)) (w' : S → va_W) (A : Nat → Prop) : S → State → Prop := fun u t => va_P D cls (w' u) t.heap ∧ va_K D cls tys t ∧ va_D A (w' u)
def wS (D : va_G) (tys : List (ClassId × FieldType)) (ws : va_W) (sz : Nat) (U : State) : Prop := U.heap.size = sz ∧ wd D tys ws U ∧ va_D (fun _ => True) ws
theorem wS_blind {D : va_G} {tys : List (ClassId × FieldType)} {ws : va_W} {sz : Nat} {av : List Value} : FrameBlind (va_Pc av (wS D tys ws sz)) := fun a U g mk q => ⟨q.1, q.2.1, ⟨q.2.2.1.1, va_K.moved (u := U) (U := U.calling g mk a) (Vm.Alike.refl U.vm) q.2.2.1.2⟩, q.2.2.2⟩
theorem fm_of {ws wc : va_W} {is : List Nat} (h : is.map (fun i => ws[i]?) = wc.map some) : is.filterMap (fun i => ws[i]?) = wc := by
  induction is generalizing wc with
  | nil => cases wc with
    | nil => rfl
    | cons x t => simp at h
  | cons i t ih => cases wc with
    | nil => simp at h
    | cons x u =>
      simp only [List.map_cons, List.cons.injEq] at h
      rw [List.filterMap_cons, h.1]
      simp [ih h.2]
def WV {S : Type} (l : Launch) (D : va_G) (tys : List (ClassId × FieldType)) (ws : va_W) (w' : S → va_W) (post : S → Prop) (y : MethodName) (bs : ByteArray) (mL : Nat) (f lo : Nat) (av : List Value) : Prop :=
  ∀ sz : Nat, Met l y (Cond.code y bs mL none :: Cw) ({ frames := f, cells := 0, slots := 0, locals := lo }) (va_Pc av (wS D tys ws sz)) (va_Qv post (wB D tys w' (va_A ws sz)) (va_A ws sz)) 0 0 (va_A ws sz)
theorem WV.of {S : Type} {l : Launch} {D : va_G} {tys : List (ClassId × FieldType)} {ws : va_W} {w' : S → va_W} {post : S → Prop} {y : MethodName} {bs : ByteArray} {mL : Nat} {f lo : Nat} {av : List Value} (hy : plainName y.cls = true) (hn : (lg_sl av).length ≤ mL)
    (body : ∀ (p : Program) (e : Env) (s : State) (m : MethodId) (args : Array Value) (below : List Frame) (meth : Method) (c : Code) (ls : Array Slot) (A : Nat → Prop), CallFix p m c bs mL s args Cw y.cls → meth.sig.returnType = none → meth.locks = false → (∀ q : Nat, s.heap.size ≤ q → A q) → va_P D cls ws s.heap → va_K D cls tys s → va_D A ws → lv_has ls mL (lv_args 0 av) →
      W p l e ({ frames := f, cells := 0, slots := 0, locals := lo }) s m args below meth c s.heap [] 0 0 (MQ below (va_Qv post (wB D tys w' A) A) args s 0 0 A) (F0 m 0 ls [])) : WV l D tys ws w' post y bs mL f lo av := by
  intro sz
  refine Met.ofW (cc := bs) (maxL := mL) (ret := none) hy rfl ?_
  intro p e s m args below meth c s₁ B hml hv
  obtain ⟨rfl, hsz, ⟨hP, hK⟩, hD0⟩ := hv
  subst hsz
  have hD := hD0.self (sz := s.heap.size)
  have hts := atoms_spec (ws := Cond.code y bs mL none :: Cw) B.pre
  have hl := lv_entry av (n := mL) hn
  rw [lg_entry_eq]
  exact body p e s m _ below meth c _ (va_A ws s.heap.size) ⟨B.exec, B.bytes, hml, findClass_of_methodNamed B.named, fun w hw => hts w (List.mem_cons_of_mem _ hw)⟩ B.returns B.notSynchronized (fun q h => Or.inr h) hP hK hD hl
section
variable {p : Program} {l : Launch} {e : Env} {R : Room} {s : State} {m : MethodId} {args : Array Value} {below : List Frame} {meth : Method} {c : Code} {H : Heap} {locs : List Loc} {cells slots : Nat} {Q : State → Prop}
variable {cc : ByteArray} {pc : Nat} {ls : Array Slot} {rest st : List Value}
theorem WV.ret {S : Type} {D : va_G} {tys : List (ClassId × FieldType)} {w' : S → va_W} {post : S → Prop} {A : Nat → Prop} (hx : p.tables.exec = Jvm.exec) (hb : c.code = cc) (hr : meth.sig.returnType = none) (hlocks : meth.locks = false) (hK : va_K D cls tys s) (hS : va_S A s.heap H locs) (d : decode cc pc = .ok (.return_, 1)) (u : S) (hu : post u) (hP : va_P D cls (w' u) H) (hD : va_D A (w' u)) : W p l e R s m args below meth c H locs 0 0 (MQ below (va_Qv post (wB D tys w' A) A) args s 0 0 A) (F0 m pc ls []) :=
  W.vret hx hb hr (fun t ht hW => ⟨⟨u, rfl, hu, by rw [ht]; exact hP, va_K.moved hW.alike hK, hD⟩, hS.F ht⟩) hS.2.2 d hlocks
theorem WV.callV {S : Type} {D : va_G} {tys : List (ClassId × FieldType)} {ws wc wr : va_W} {w' : S → va_W} {post : S → Prop} {A : Nat → Prop} {H0 : Heap} {nL : Nat} {own : String} {y : MethodName} {bs : ByteArray} {mL : Nat} {f lo b idx : Nat} {As : List Value} (S0 : CallFix p m c cc nL s args Cw own) (hM : WV l D tys wc w' post y bs mL f lo (.ref b :: As))
    (k1 : Cond.methodLink own idx y ∈ Cw) (k2 : Cond.instanceMethod y ∈ Cw) (k3 : Cond.selects y.cls y y ∈ Cw) (k4 : Cond.initialized y.cls ∈ Cw) (k5 : Cond.code y bs mL none ∈ Cw) (hd : y.cls ≠ "java/lang/invoke/MethodHandle" ∧ y.cls ≠ "java/lang/invoke/VarHandle" ∧ (parseMethodDescriptor y.desc).map (fun d => d.parameters.length) = some As.length)
    (hR : f + 1 ≤ R.frames ∧ 8 + (mL + 11) + lo ≤ R.locals) (hf : cells ≤ R.cells ∧ slots ≤ R.slots) (hP : va_P D cls ws H) (hK : va_K D cls tys s) (hD : va_D A ws) (hS : va_S A H0 H locs) (hA : ∀ q : Nat, H0.size ≤ q → A q) (isC isR : List Nat) (hC : isC.map (fun i => ws[i]?) = wc.map some) (hRr : isR.map (fun i => ws[i]?) = wr.map some) (hnC : va_nd isC = true) (hnR : va_nd isR = true) (hdis : ∀ i ∈ isR, i ∉ isC)
    (q0 ci : Nat) {q : vw_C} {fs : List Value} (hc : cls[ci]? = some q) (hq : q.1 = y.cls) (he : wc[q0]? = some (b, .inr (ci, fs)))
    (hl : ls.size = nL) (hrest : (rest.map fun v => v.category).sum ≤ 8) (hst : st = As.reverse ++ .ref b :: rest) (d : decode cc pc = .ok (.invokevirtual idx, 3))
    (k : ∀ (u : S) (H1 : Heap) (locs1 : List Loc), post u → va_P D cls (wr ++ w' u) H1 → va_D A (wr ++ w' u) → va_S A H0 H1 locs1 → W p l e R s m args below meth c H1 locs1 cells slots Q (F0 m (pc + 3) ls rest)) : W p l e R s m args below meth c H locs cells slots Q (F0 m pc ls st) := by
  have hPc := hP.sub (ws' := wc) isC (fm_of hC)
  have hDc := hD.sub (ws' := wc) isC hnC hC
  have hFc := va_free (wc := wc) hD hS hA isC hC
  refine va_callv (va_runV (g := F0 m pc ls st) (As := As) (rest := rest) (b := b) S0 (hM H.size) (cwV As.length S0.2.2.2.2 (cw_V k1 k2 k3 k4 k5) rfl rfl rfl ⟨rfl, hd⟩ hR) ⟨wS_blind, by rw [← hq]; exact va_recv hK hPc hc he, fun U hU hW => ⟨rfl, by rw [hU], ⟨by rw [hU]; exact hPc, va_K.moved hW.alike hK⟩, hDc.weaken (fun _ _ _ _ => trivial)⟩⟩ rfl rfl hl hst (lv_room hrest) d hf) hS (fun q9 _ h => hFc q9 h) hFc (fun u t H1 locs1 ht hvm hw hB hz1 hk1 hS1 => ?_)
  obtain ⟨hP1, -, hD1⟩ := hB
  rw [ht] at hP1
  obtain ⟨hP2, hD2⟩ := va_join (wr := wr) (w1 := w' u) hP hD isC isR hC hRr hnR hdis hk1 hFc hP1 hD1
  exact k u H1 locs1 hw hP2 hD2 hS1
end
def WI {S : Type} (l : Launch) (D : va_G) (tys : List (ClassId × FieldType)) (ws : va_W) (w' : S → va_W) (post : Int32 → S → Prop) (y : MethodName) (bs : ByteArray) (mL : Nat) (ret : Option FieldType) (f lo : Nat) (av : List Value) : Prop :=
  ∀ sz : Nat, Met l y (Cond.code y bs mL ret :: Cw) ({ frames := f, cells := 0, slots := 0, locals := lo }) (va_Pc av (wS D tys ws sz)) (va_Qi post (wB D tys w' (va_A ws sz)) (va_A ws sz)) 0 0 (va_A ws sz)
theorem WI.of {S : Type} {l : Launch} {D : va_G} {tys : List (ClassId × FieldType)} {ws : va_W} {w' : S → va_W} {post : Int32 → S → Prop} {y : MethodName} {bs : ByteArray} {mL : Nat} {ret : Option FieldType} {f lo : Nat} {av : List Value} (hy : plainName y.cls = true) (hn : (lg_sl av).length ≤ mL)
    (body : ∀ (p : Program) (e : Env) (s : State) (m : MethodId) (args : Array Value) (below : List Frame) (meth : Method) (c : Code) (ls : Array Slot) (A : Nat → Prop), CallFix p m c bs mL s args Cw y.cls → meth.sig.returnType = ret → meth.locks = false → (∀ q : Nat, s.heap.size ≤ q → A q) → va_P D cls ws s.heap → va_K D cls tys s → va_D A ws → lv_has ls mL (lv_args 0 av) →
      W p l e ({ frames := f, cells := 0, slots := 0, locals := lo }) s m args below meth c s.heap [] 0 0 (MQ below (va_Qi post (wB D tys w' A) A) args s 0 0 A) (F0 m 0 ls [])) : WI l D tys ws w' post y bs mL ret f lo av := by
  intro sz
  refine Met.ofW (cc := bs) (maxL := mL) (ret := ret) hy rfl ?_
  intro p e s m args below meth c s₁ B hml hv
  obtain ⟨rfl, hsz, ⟨hP, hK⟩, hD0⟩ := hv
  subst hsz
  have hD := hD0.self (sz := s.heap.size)
  have hts := atoms_spec (ws := Cond.code y bs mL ret :: Cw) B.pre
  have hl := lv_entry av (n := mL) hn
  rw [lg_entry_eq]
  exact body p e s m _ below meth c _ (va_A ws s.heap.size) ⟨B.exec, B.bytes, hml, findClass_of_methodNamed B.named, fun w hw => hts w (List.mem_cons_of_mem _ hw)⟩ B.returns B.notSynchronized (fun q h => Or.inr h) hP hK hD hl
section
variable {p : Program} {l : Launch} {e : Env} {R : Room} {s : State} {m : MethodId} {args : Array Value} {below : List Frame} {meth : Method} {c : Code} {H : Heap} {locs : List Loc} {cells slots : Nat} {Q : State → Prop}
variable {cc : ByteArray} {pc : Nat} {ls : Array Slot} {rest st : List Value}
theorem WI.iret {S : Type} {D : va_G} {tys : List (ClassId × FieldType)} {w' : S → va_W} {post : Int32 → S → Prop} {A : Nat → Prop} {v : Int32} (hx : p.tables.exec = Jvm.exec) (hb : c.code = cc) (hr : meth.sig.returnType = some .int) (hlocks : meth.locks = false) (hK : va_K D cls tys s) (hS : va_S A s.heap H locs) (d : decode cc pc = .ok (.ireturn, 1)) (u : S) (hu : post v u) (hP : va_P D cls (w' u) H) (hD : va_D A (w' u)) : W p l e R s m args below meth c H locs 0 0 (MQ below (va_Qi post (wB D tys w' A) A) args s 0 0 A) (F0 m pc ls [.int v]) :=
  W.iret (v := v) hx hb hr (fun t ht hW => ⟨⟨v, u, rfl, hu, by rw [ht]; exact hP, va_K.moved hW.alike hK, hD⟩, hS.F ht⟩) hS.2.2 d hlocks
theorem WI.zret {S : Type} {D : va_G} {tys : List (ClassId × FieldType)} {w' : S → va_W} {post : Int32 → S → Prop} {A : Nat → Prop} {b : Bool} (hx : p.tables.exec = Jvm.exec) (hb : c.code = cc) (hr : meth.sig.returnType = some .boolean) (hlocks : meth.locks = false) (hK : va_K D cls tys s) (hS : va_S A s.heap H locs) (d : decode cc pc = .ok (.ireturn, 1)) (u : S) (hu : post (bI b) u) (hP : va_P D cls (w' u) H) (hD : va_D A (w' u)) : W p l e R s m args below meth c H locs 0 0 (MQ below (va_Qi post (wB D tys w' A) A) args s 0 0 A) (F0 m pc ls [.int (bI b)]) :=
  W.zret (v := bI b) hx hb hr (bI_n b) (fun t ht hW => ⟨⟨bI b, u, rfl, hu, by rw [ht]; exact hP, va_K.moved hW.alike hK, hD⟩, hS.F ht⟩) hS.2.2 d hlocks
theorem WI.callV {S : Type} {D : va_G} {tys : List (ClassId × FieldType)} {ws wc wr : va_W} {w' : S → va_W} {post : Int32 → S → Prop} {A : Nat → Prop} {H0 : Heap} {nL : Nat} {own : String} {y : MethodName} {bs : ByteArray} {mL : Nat} {ret : Option FieldType} {f lo b idx : Nat} {As : List Value} (S0 : CallFix p m c cc nL s args Cw own) (hM : WI l D tys wc w' post y bs mL ret f lo (.ref b :: As))
    (k1 : Cond.methodLink own idx y ∈ Cw) (k2 : Cond.instanceMethod y ∈ Cw) (k3 : Cond.selects y.cls y y ∈ Cw) (k4 : Cond.initialized y.cls ∈ Cw) (k5 : Cond.code y bs mL ret ∈ Cw) (hd : y.cls ≠ "java/lang/invoke/MethodHandle" ∧ y.cls ≠ "java/lang/invoke/VarHandle" ∧ (parseMethodDescriptor y.desc).map (fun d => d.parameters.length) = some As.length)
    (hR : f + 1 ≤ R.frames ∧ 8 + (mL + 11) + lo ≤ R.locals) (hf : cells ≤ R.cells ∧ slots ≤ R.slots) (hP : va_P D cls ws H) (hK : va_K D cls tys s) (hD : va_D A ws) (hS : va_S A H0 H locs) (hA : ∀ q : Nat, H0.size ≤ q → A q) (isC isR : List Nat) (hC : isC.map (fun i => ws[i]?) = wc.map some) (hRr : isR.map (fun i => ws[i]?) = wr.map some) (hnC : va_nd isC = true) (hnR : va_nd isR = true) (hdis : ∀ i ∈ isR, i ∉ isC)
    (q0 ci : Nat) {q : vw_C} {fs : List Value} (hc : cls[ci]? = some q) (hq : q.1 = y.cls) (he : wc[q0]? = some (b, .inr (ci, fs)))
    (hl : ls.size = nL) (hrest : (rest.map fun v => v.category).sum ≤ 8) (hst : st = As.reverse ++ .ref b :: rest) (d : decode cc pc = .ok (.invokevirtual idx, 3))
    (k : ∀ (r : Int32) (u : S) (H1 : Heap) (locs1 : List Loc), post r u → va_P D cls (wr ++ w' u) H1 → va_D A (wr ++ w' u) → va_S A H0 H1 locs1 → W p l e R s m args below meth c H1 locs1 cells slots Q (F0 m (pc + 3) ls (.int r :: rest))) : W p l e R s m args below meth c H locs cells slots Q (F0 m pc ls st) := by
  have hPc := hP.sub (ws' := wc) isC (fm_of hC)
  have hDc := hD.sub (ws' := wc) isC hnC hC
  have hFc := va_free (wc := wc) hD hS hA isC hC
  refine va_calli (va_runV (g := F0 m pc ls st) (As := As) (rest := rest) (b := b) S0 (hM H.size) (cwV As.length S0.2.2.2.2 (cw_V k1 k2 k3 k4 k5) rfl rfl rfl ⟨rfl, hd⟩ hR) ⟨wS_blind, by rw [← hq]; exact va_recv hK hPc hc he, fun U hU hW => ⟨rfl, by rw [hU], ⟨by rw [hU]; exact hPc, va_K.moved hW.alike hK⟩, hDc.weaken (fun _ _ _ _ => trivial)⟩⟩ rfl rfl hl hst (lv_room hrest) d hf) hS (fun q9 _ h => hFc q9 h) hFc (fun r u t H1 locs1 ht hvm hw hB hz1 hk1 hS1 => ?_)
  obtain ⟨hP1, -, hD1⟩ := hB
  rw [ht] at hP1
  obtain ⟨hP2, hD2⟩ := va_join (wr := wr) (w1 := w' u) hP hD isC isR hC hRr hnR hdis hk1 hFc hP1 hD1
  exact k r u H1 locs1 hw hP2 hD2 hS1
end
