/-! what a throw needs of the state; contracts of methods that answer nothing, that throw, that write -/
def BW : List Cond := [.castable "java/lang/IllegalArgumentException" "java/lang/IllegalArgumentException", .castable "java/lang/IndexOutOfBoundsException" "java/lang/IndexOutOfBoundsException", .declares ⟨"java/lang/RuntimeException", "<init>", "(Ljava/lang/String;)V"⟩, .declares ⟨"java/lang/Exception", "<init>", "(Ljava/lang/String;)V"⟩, .declares ⟨"java/lang/Throwable", "<init>", "(Ljava/lang/String;)V"⟩]
theorem BW_warm {s U : State} (hW : s.WarmedH U.vm) (h : ∀ w ∈ BW, va_Nw w s) : ∀ w ∈ BW, va_Nw w U := by
  intro w hw
  have h0 := h w hw
  simp only [BW, List.mem_cons, List.not_mem_nil, or_false] at hw
  rcases hw with rfl | rfl | rfl | rfl | rfl
  · exact va_Nw.warmC hW h0
  · exact va_Nw.warmC hW h0
  · exact va_Nw.warmD hW h0
  · exact va_Nw.warmD hW h0
  · exact va_Nw.warmD hW h0
theorem BW_use {U : State} {A : Array Value} (h : ∀ w ∈ BW, va_Nw w U) : ∀ w ∈ BW, w.before A U = true := by
  intro w hw
  have h0 := h w hw
  simp only [BW, List.mem_cons, List.not_mem_nil, or_false] at hw
  rcases hw with rfl | rfl | rfl | rfl | rfl <;> exact va_Nw.use rfl h0
def sT : List (Nat × String) := [(38, "the number of nodes is not 2 to 8"), (113, "there is no such node"), (51, "the self-parent is no event of the node"), (56, "the other-parent is no event of another node"), (60, "there are 120 events"), (118, "there is no such event"), (111, "there is no such count")]
/-- what a throw needs: two statics of Throwable, the texts, a few words -/
def TE (A : Nat → Prop) (sa : Nat → Nat) (U : State) (H : Heap) : Prop := (vx_Zq Bundle.tN "UNASSIGNED_STACK" Bundle.steD A U H ∧ vx_Zq Bundle.tN "SUPPRESSED_SENTINEL" Bundle.listD A U H) ∧ (∀ w ∈ BW, va_Nw w U) ∧ ∀ (i : Nat) (q : Nat × String), sT[i]? = some q → vk_R "SightGraph" q.1 q.2 (sa i) U
theorem TE.warm {A : Nat → Prop} {sa : Nat → Nat} {s U : State} {H : Heap} (hW : s.WarmedH U.vm) (h : TE A sa s H) : TE A sa U H := ⟨⟨vx_Zq.moved hW.alike h.1.1, vx_Zq.moved hW.alike h.1.2⟩, BW_warm hW h.2.1, fun i q hq => vk_R.warm hW (h.2.2 i q hq)⟩
theorem TE.kept {A : Nat → Prop} {sa : Nat → Nat} {U : State} {H H1 : Heap} (h : TE A sa U H) (hq : ∀ a : Nat, a < H.size → ¬ A a → H1[a]? = H[a]?) : TE A sa U H1 := ⟨⟨vx_Zq.kept h.1.1 hq, vx_Zq.kept h.1.2 hq⟩, h.2⟩
theorem TE.narrow {A B : Nat → Prop} {sa : Nat → Nat} {U : State} {H : Heap} (h : TE A sa U H) (hAB : ∀ q, B q → A q) : TE B sa U H := ⟨⟨vx_Zq.narrow h.1.1 hAB, vx_Zq.narrow h.1.2 hAB⟩, h.2⟩
def noA : Nat → Prop := fun _ => False
theorem at_40 : ∀ w ∈ (vx_atS "SightGraph" 40 "java/lang/IllegalArgumentException" ["java/lang/RuntimeException", "java/lang/Exception"]).filter goodWord, w ∈ lw_tbl := by decide +kernel
theorem ab_40 : ∀ w ∈ (vx_atS "SightGraph" 40 "java/lang/IllegalArgumentException" ["java/lang/RuntimeException", "java/lang/Exception"]).filter (fun w => !goodWord w), w ∈ BW := by decide +kernel
theorem ag_40 : ∀ w ∈ Cond.classLink "SightGraph" 36 "java/lang/IllegalArgumentException" :: Cond.initialized "java/lang/IllegalArgumentException" :: vx_atS "SightGraph" 40 "java/lang/IllegalArgumentException" ["java/lang/RuntimeException", "java/lang/Exception"], vx_ot w = true := by decide +kernel
theorem ah_40 {args : Array Value} {s : State} (htc : ∀ w ∈ Cw, w.before args s = true) (hB : ∀ w ∈ BW, va_Nw w s) : ∀ w ∈ vx_atS "SightGraph" 40 "java/lang/IllegalArgumentException" ["java/lang/RuntimeException", "java/lang/Exception"], w.before args s = true :=
  vx_hat (B := BW) (fun w hw => htc w (List.mem_filter.mpr ⟨at_40 w hw, (List.mem_filter.mp hw).2⟩)) ab_40 (BW_use hB)
theorem at_62 : ∀ w ∈ (vx_atS "SightGraph" 62 "java/lang/IndexOutOfBoundsException" ["java/lang/RuntimeException", "java/lang/Exception"]).filter goodWord, w ∈ lw_tbl := by decide +kernel
theorem ab_62 : ∀ w ∈ (vx_atS "SightGraph" 62 "java/lang/IndexOutOfBoundsException" ["java/lang/RuntimeException", "java/lang/Exception"]).filter (fun w => !goodWord w), w ∈ BW := by decide +kernel
theorem ag_62 : ∀ w ∈ Cond.classLink "SightGraph" 58 "java/lang/IndexOutOfBoundsException" :: Cond.initialized "java/lang/IndexOutOfBoundsException" :: vx_atS "SightGraph" 62 "java/lang/IndexOutOfBoundsException" ["java/lang/RuntimeException", "java/lang/Exception"], vx_ot w = true := by decide +kernel
theorem ah_62 {args : Array Value} {s : State} (htc : ∀ w ∈ Cw, w.before args s = true) (hB : ∀ w ∈ BW, va_Nw w s) : ∀ w ∈ vx_atS "SightGraph" 62 "java/lang/IndexOutOfBoundsException" ["java/lang/RuntimeException", "java/lang/Exception"], w.before args s = true :=
  vx_hat (B := BW) (fun w hw => htc w (List.mem_filter.mpr ⟨at_62 w hw, (List.mem_filter.mp hw).2⟩)) ab_62 (BW_use hB)
theorem fn_ok : ∀ n ∈ (["java/lang/RuntimeException", "java/lang/Exception"] : List String), Bundle.fit n = true := by decide +kernel
/-- old cells as they were, one more -/
def XCe (E : String) : String → State → State → Prop := fun E' st t => E' = E ∧ st.heap.size ≤ t.heap.size ∧ ∀ q : Nat, q < st.heap.size → t.heap[q]? = st.heap[q]?
def QFa : Array Value → State → Outcome → State → Prop := fun _ _ _ _ => False
def wt9 (D : va_G) (tys : List (ClassId × FieldType)) (ws : va_W) (sa : Nat → Nat) (U : State) : Prop := wd D tys ws U ∧ TE noA sa U U.heap
theorem wt9_blind {D : va_G} {tys : List (ClassId × FieldType)} {ws : va_W} {sa : Nat → Nat} {av : List Value} : FrameBlind (va_Pc av (wt9 D tys ws sa)) := fun a U g mk q => ⟨q.1, ⟨q.2.1.1, va_K.moved (u := U) (U := U.calling g mk a) (Vm.Alike.refl U.vm) q.2.1.2⟩, TE.warm (s := U) (U := U.calling g mk a) (State.WarmedH.refl U) q.2.2⟩
/-- a method that throws E, and writes nothing -/
def XT (l : Launch) (D : va_G) (tys : List (ClassId × FieldType)) (ws : va_W) (sa : Nat → Nat) (y : MethodName) (bs : ByteArray) (mL : Nat) (ret : Option FieldType) (f lo : Nat) (av : List Value) (E : String) : Prop :=
  vx_Met l y (Cond.code y bs mL ret :: Cw) ({ frames := f, cells := 1, slots := 6, locals := lo }) (va_Pc av (wt9 D tys ws sa)) QFa (XCe E) 1 6 nofree
theorem XT.of {l : Launch} {D : va_G} {tys : List (ClassId × FieldType)} {ws : va_W} {sa : Nat → Nat} {y : MethodName} {bs : ByteArray} {mL : Nat} {ret : Option FieldType} {f lo : Nat} {av : List Value} {E : String} (hy : plainName y.cls = true) (hn : (lg_sl av).length ≤ mL)
    (body : ∀ (p : Program) (e : Env) (s : State) (m : MethodId) (args : Array Value) (below : List Frame) (meth : Method) (c : Code) (ls : Array Slot), CallFix p m c bs mL s args Cw y.cls → meth.sig.returnType = ret → meth.locks = false → (∀ x ∈ c.exceptionTable.toList, False) → va_P D cls ws s.heap → va_K D cls tys s → TE noA sa s s.heap → lv_has ls mL (lv_args 0 av) →
      W p l e ({ frames := f, cells := 1, slots := 6, locals := lo }) s m args below meth c s.heap [] 0 0 (vx_MQ below QFa (XCe E) args s 1 6 nofree) (F0 m 0 ls [])) : XT l D tys ws sa y bs mL ret f lo av E := by
  refine vx_ofW (cc := bs) (maxL := mL) (ret := ret) hy rfl ?_
  intro p e s m args below meth c s₁ B hml ht hv
  obtain ⟨rfl, ⟨hP, hK⟩, hTE⟩ := hv
  have hts := atoms_spec (ws := Cond.code y bs mL ret :: Cw) B.pre
  have hl := lv_entry av (n := mL) hn
  rw [lg_entry_eq]
  exact body p e s m _ below meth c _ ⟨B.exec, B.bytes, hml, findClass_of_methodNamed B.named, fun w hw => hts w (List.mem_cons_of_mem _ hw)⟩ B.returns B.notSynchronized ht hP hK hTE hl
section XTR
variable {p : Program} {l : Launch} {e : Env} {R : Room} {s : State} {m : MethodId} {args : Array Value} {below : List Frame} {meth : Method} {c : Code} {H : Heap} {locs : List Loc} {cells slots : Nat} {Q : State → Prop}
variable {cc : ByteArray} {pc : Nat} {ls : Array Slot} {rest st : List Value}
theorem XT.thI {nL : Nat} {sa : Nat → Nat} (hl0 : l.stackTraces = false) (S : CallFix p m c cc nL s args Cw "SightGraph") (ht : ∀ x ∈ c.exceptionTable.toList, False) (hTE : TE noA sa s s.heap) (hlocks : meth.locks = false) (hl : ls.size = nL) (i : Nat) {q : Nat × String} (hq : sT[i]? = some q) (hR : 5 < R.frames ∧ (rest.map fun v => v.category).sum + 82 ≤ R.locals ∧ 1 ≤ R.cells ∧ 6 ≤ R.slots)
    (d0 : decode cc pc = .ok (.new 36, 3)) (d3 : decode cc (pc + 3) = .ok (.dup, 1)) (d4 : decode cc (pc + 4) = .ok (.ldc q.1, 2)) (d6 : decode cc (pc + 6) = .ok (.invokespecial 40, 3)) (d9 : decode cc (pc + 9) = .ok (.athrow, 1)) :
    W p l e R s m args below meth c s.heap [] 0 0 (vx_MQ below QFa (XCe "java/lang/IllegalArgumentException") args s 1 6 nofree) (F0 m pc ls rest) := by
  obtain ⟨hx, hb, hml, hown, htc⟩ := id S
  exact vx_throwS (A := noA) (own := "SightGraph") (cls := "java/lang/IllegalArgumentException") (names := ["java/lang/RuntimeException", "java/lang/Exception"]) hx hb hl0 hown (by decide +kernel) fn_ok (htc _ k_1_53) (htc _ k_1_6) (hTE.2.2 i q hq) (ah_40 htc hTE.2.1) ag_40 hTE.1.1 hTE.1.2 va_S.rf (by rw [hl, hml]) d0 d3 d4 d6 d9 (fun x hx9 => (ht x hx9).elim) hR.1 hR.2.1 (by simpa using hR.2.2.1) (by simpa using hR.2.2.2) hlocks (fun t _ h1 h2 => ⟨rfl, h1, h2⟩) (fun _ h => nomatch h) (Nat.le_refl _) (Nat.le_refl _)
theorem XT.thB {nL : Nat} {sa : Nat → Nat} (hl0 : l.stackTraces = false) (S : CallFix p m c cc nL s args Cw "SightGraph") (ht : ∀ x ∈ c.exceptionTable.toList, False) (hTE : TE noA sa s s.heap) (hlocks : meth.locks = false) (hl : ls.size = nL) (i : Nat) {q : Nat × String} (hq : sT[i]? = some q) (hR : 5 < R.frames ∧ (rest.map fun v => v.category).sum + 82 ≤ R.locals ∧ 1 ≤ R.cells ∧ 6 ≤ R.slots)
    (d0 : decode cc pc = .ok (.new 58, 3)) (d3 : decode cc (pc + 3) = .ok (.dup, 1)) (d4 : decode cc (pc + 4) = .ok (.ldc q.1, 2)) (d6 : decode cc (pc + 6) = .ok (.invokespecial 62, 3)) (d9 : decode cc (pc + 9) = .ok (.athrow, 1)) :
    W p l e R s m args below meth c s.heap [] 0 0 (vx_MQ below QFa (XCe "java/lang/IndexOutOfBoundsException") args s 1 6 nofree) (F0 m pc ls rest) := by
  obtain ⟨hx, hb, hml, hown, htc⟩ := id S
  exact vx_throwS (A := noA) (own := "SightGraph") (cls := "java/lang/IndexOutOfBoundsException") (names := ["java/lang/RuntimeException", "java/lang/Exception"]) hx hb hl0 hown (by decide +kernel) fn_ok (htc _ k_1_147) (htc _ k_1_7) (hTE.2.2 i q hq) (ah_62 htc hTE.2.1) ag_62 hTE.1.1 hTE.1.2 va_S.rf (by rw [hl, hml]) d0 d3 d4 d6 d9 (fun x hx9 => (ht x hx9).elim) hR.1 hR.2.1 (by simpa using hR.2.2.1) (by simpa using hR.2.2.2) hlocks (fun t _ h1 h2 => ⟨rfl, h1, h2⟩) (fun _ h => nomatch h) (Nat.le_refl _) (Nat.le_refl _)
theorem XT.pass {D : va_G} {tys : List (ClassId × FieldType)} {ws : va_W} {sa : Nat → Nat} {nL : Nat} {own : String} {y : MethodName} {bs : ByteArray} {mL : Nat} {ret : Option FieldType} {f lo b idx : Nat} {As : List Value} {E : String} (S : CallFix p m c cc nL s args Cw own) (hM : XT l D tys ws sa y bs mL ret f lo (.ref b :: As) E)
    (k1 : Cond.methodLink own idx y ∈ Cw) (k2 : Cond.instanceMethod y ∈ Cw) (k3 : Cond.selects y.cls y y ∈ Cw) (k4 : Cond.initialized y.cls ∈ Cw) (k5 : Cond.code y bs mL ret ∈ Cw) (hd : y.cls ≠ "java/lang/invoke/MethodHandle" ∧ y.cls ≠ "java/lang/invoke/VarHandle" ∧ (parseMethodDescriptor y.desc).map (fun d => d.parameters.length) = some As.length)
    (hR : f + 1 ≤ R.frames ∧ 8 + (mL + 11) + lo ≤ R.locals) (hf : 1 ≤ R.cells ∧ 6 ≤ R.slots) (hP : va_P D cls ws s.heap) (hK : va_K D cls tys s) (hTE : TE noA sa s s.heap) (ht : ∀ x ∈ c.exceptionTable.toList, False) (hlocks : meth.locks = false) (q0 ci : Nat) {q : vw_C} {fs : List Value} (hc : cls[ci]? = some q) (hq : q.1 = y.cls) (he : ws[q0]? = some (b, .inr (ci, fs)))
    (hl : ls.size = nL) (hrest : (rest.map fun v => v.category).sum ≤ 8) (hst : st = As.reverse ++ .ref b :: rest) (d : decode cc pc = .ok (.invokevirtual idx, 3)) :
    W p l e R s m args below meth c s.heap [] 0 0 (vx_MQ below QFa (XCe E) args s 1 6 nofree) (F0 m pc ls st) := by
  intro T hT X
  have hr := vx_runV (p := p) (l := l) (e := e) (R := R) (below := below) (meth := meth) (H := s.heap) (locs := []) (cells := 0) (slots := 0) (g := F0 m pc ls st) (As := As) (rest := rest) (b := b) S hM (cwV As.length S.2.2.2.2 (cw_V k1 k2 k3 k4 k5) rfl rfl rfl ⟨rfl, hd⟩ hR) ⟨wt9_blind, by rw [← hq]; exact va_recv hK hP hc he, fun U hU hW => ⟨rfl, ⟨by rw [hU]; exact hP, va_K.moved hW.alike hK⟩, by rw [hU]; exact TE.warm hW hTE⟩⟩ rfl rfl hl hst (lv_room hrest) d (by simpa using hf)
  rcases hr T hT X with ⟨v, st₀, t, T', L, h0, X', hL, e1, e2, hq9, stp⟩ | ⟨q9, st₀, t, T', L, E', ce, h0, X', hL, e1, e2, ⟨hE, hz, hk⟩, hce, hcv, hcl, stp⟩
  · exact hq9.elim
  · have ho := vx_out (p := p) (l := l) (e := e) (R := R) (s := s) (m := m) (args := args) (below := below) (meth := meth) (c := c) (H := T'.heap) (locs := [] ++ L) (cells := 0 + 1) (slots := 0 + 6) (ls := ls) (rest := rest) (pc := pc) (E := E') (ce := ce) (q := q9) (mc := 1) (ms := 6) (free := nofree) (Qc := QFa) (XC := XCe E) (fun x hx9 => (ht x hx9).elim) hlocks (by rw [e1]; exact hce) hcv hcl
      (fun u hu _ => ⟨hE, by rw [hu, e1, ← h0]; exact hz, fun j hj => by rw [hu, e1, ← h0]; exact hk j (by rw [h0]; exact hj)⟩) (fun z hz9 => by simpa using hL z (by simpa using hz9)) (by omega) (by omega)
    obtain ⟨t2, a1, b1⟩ := ho T' rfl X'
    exact ⟨t2, stp.trans a1, b1⟩
end XTR
/-- a method that answers nothing and writes nothing -/
def PV (l : Launch) (D : va_G) (tys : List (ClassId × FieldType)) (ws : va_W) (y : MethodName) (bs : ByteArray) (mL : Nat) (f lo : Nat) (av : List Value) : Prop :=
  Met l y (Cond.code y bs mL none :: Cw) ({ frames := f, cells := 0, slots := 0, locals := lo }) (va_Pc av (wd D tys ws)) (va_Sv (fun _ => True)) 0 0 (fun _ => False)
theorem PV.of {l : Launch} {D : va_G} {tys : List (ClassId × FieldType)} {ws : va_W} {y : MethodName} {bs : ByteArray} {mL : Nat} {f lo : Nat} {av : List Value} (hy : plainName y.cls = true) (hn : (lg_sl av).length ≤ mL)
    (body : ∀ (p : Program) (e : Env) (s : State) (m : MethodId) (args : Array Value) (below : List Frame) (meth : Method) (c : Code) (ls : Array Slot), CallFix p m c bs mL s args Cw y.cls → meth.sig.returnType = none → meth.locks = false → va_P D cls ws s.heap → va_K D cls tys s → lv_has ls mL (lv_args 0 av) →
      W p l e ({ frames := f, cells := 0, slots := 0, locals := lo }) s m args below meth c s.heap [] 0 0 (MQ below (va_Sv (fun _ => True)) args s 0 0 (fun _ => False)) (F0 m 0 ls [])) : PV l D tys ws y bs mL f lo av := by
  refine Met.ofW (cc := bs) (maxL := mL) (ret := none) hy rfl ?_
  intro p e s m args below meth c s₁ B hml hv
  obtain ⟨rfl, hP, hK⟩ := hv
  have hts := atoms_spec (ws := Cond.code y bs mL none :: Cw) B.pre
  have hl := lv_entry av (n := mL) hn
  rw [lg_entry_eq]
  exact body p e s m _ below meth c _ ⟨B.exec, B.bytes, hml, findClass_of_methodNamed B.named, fun w hw => hts w (List.mem_cons_of_mem _ hw)⟩ B.returns B.notSynchronized hP hK hl
section PVR
variable {p : Program} {l : Launch} {e : Env} {R : Room} {s : State} {m : MethodId} {args : Array Value} {below : List Frame} {meth : Method} {c : Code} {H : Heap} {locs : List Loc} {cells slots : Nat} {Q : State → Prop}
variable {cc : ByteArray} {pc : Nat} {ls : Array Slot} {rest st : List Value}
theorem PV.ret (hx : p.tables.exec = Jvm.exec) (hb : c.code = cc) (hr : meth.sig.returnType = none) (hlocks : meth.locks = false) (d : decode cc pc = .ok (.return_, 1)) : W p l e R s m args below meth c s.heap [] 0 0 (MQ below (va_Sv (fun _ => True)) args s 0 0 (fun _ => False)) (F0 m pc ls []) :=
  W.vret hx hb hr (fun t ht _ => ⟨rfl, trivial, ht⟩) (fun _ h => nomatch h) d hlocks
theorem PV.callV {D : va_G} {tys : List (ClassId × FieldType)} {ws : va_W} {nL : Nat} {own : String} {y : MethodName} {bs : ByteArray} {mL : Nat} {f lo b idx : Nat} {As : List Value} (S : CallFix p m c cc nL s args Cw own) (hM : PV l D tys ws y bs mL f lo (.ref b :: As))
    (k1 : Cond.methodLink own idx y ∈ Cw) (k2 : Cond.instanceMethod y ∈ Cw) (k3 : Cond.selects y.cls y y ∈ Cw) (k4 : Cond.initialized y.cls ∈ Cw) (k5 : Cond.code y bs mL none ∈ Cw) (hd : y.cls ≠ "java/lang/invoke/MethodHandle" ∧ y.cls ≠ "java/lang/invoke/VarHandle" ∧ (parseMethodDescriptor y.desc).map (fun d => d.parameters.length) = some As.length)
    (hR : f + 1 ≤ R.frames ∧ 8 + (mL + 11) + lo ≤ R.locals) (hf : cells ≤ R.cells ∧ slots ≤ R.slots) (hP : va_P D cls ws H) (hK : va_K D cls tys s) (q0 ci : Nat) {q : vw_C} {fs : List Value} (hc : cls[ci]? = some q) (hq : q.1 = y.cls) (he : ws[q0]? = some (b, .inr (ci, fs)))
    (hl : ls.size = nL) (hrest : (rest.map fun v => v.category).sum ≤ 8) (hst : st = As.reverse ++ .ref b :: rest) (d : decode cc pc = .ok (.invokevirtual idx, 3))
    (k : W p l e R s m args below meth c H locs cells slots Q (F0 m (pc + 3) ls rest)) : W p l e R s m args below meth c H locs cells slots Q (F0 m pc ls st) :=
  va_csv (post := fun _ => True) (W.runV (g := F0 m pc ls st) (As := As) (rest := rest) (b := b) S hM (cwV As.length S.2.2.2.2 (cw_V k1 k2 k3 k4 k5) rfl rfl rfl ⟨rfl, hd⟩ hR) ⟨wd_blind, by rw [← hq]; exact va_recv hK hP hc he, fun U hU hW => ⟨rfl, by rw [hU]; exact hP, va_K.moved hW.alike hK⟩⟩ rfl rfl hl hst (lv_room hrest) d hf) (fun _ => k)
end PVR
