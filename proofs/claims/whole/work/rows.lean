section
/-! a throw that is caught in the method's own table: the rows ahead name other classes; the search may resolve the classes that they name -/
section FX
theorem fx_row {e : Env} {s : State} {f : JFrame} {a : Addr} {x : ExceptionTableEntry} {t : List ExceptionTableEntry} {c : ClassId} {cell : Cell} (hx : covers x f.pc = true) (h0 : x.catchType ≠ 0)
    (hl : s.vm.ClassLinks e.platform f.method.cls x.catchType c) (hcell : s.heap[a]? = some cell) (hobj : ∀ k, cell.vm ≠ .statics k) (hk : ∃ k, s.vm.classes[cell.cls]? = some k) (hc : ∃ k, s.vm.classes[c]? = some k)
    {Q : Handler → Pre} {E : CtlPost} {d : Bool} {acts : List Action} :
    wp (findHandler.go f a (x :: t)) Q E e d acts s ↔ if s.vm.assignable cell.cls c = true then Q (.found x.handlerPc) d acts (s.setVm (s.vm.noted f.method.cls x.catchType (.cls c))) else wp (findHandler.go f a t) Q E e d acts (s.setVm (s.vm.noted f.method.cls x.catchType (.cls c))) := by
  simp only [covers] at hx
  have hr := (resolveClass_links e.toSetting hl).op (op := VmOp.resolveClass f.method.cls x.catchType) rfl
  have hal : s.vm.Alike (s.vm.noted f.method.cls x.catchType (.cls c)) := (Vm.Alike.refl s.vm).noted _ _ _
  obtain ⟨k1, hk1⟩ := hk
  obtain ⟨k2, hk2⟩ := hc
  obtain ⟨k3, hk3, -⟩ := hal.2.2 _ _ hk1
  obtain ⟨k4, hk4, -⟩ := hal.2.2 _ _ hk2
  by_cases hf : s.vm.assignable cell.cls c = true
  · have hf2 : (s.vm.noted f.method.cls x.catchType (.cls c)).assignable cell.cls c = true := by rw [hal.assignable]; exact hf
    rw [if_pos hf]
    simp [findHandler.go, hx, h0, hr.1, hr.2, hcell, hobj, hk3, hk4, hf2, VmOp.dirties, VmOp.acts]
  · have hf2 : (s.vm.noted f.method.cls x.catchType (.cls c)).assignable cell.cls c = false := by rw [hal.assignable]; simpa using hf
    rw [if_neg hf]
    simp [findHandler.go, hx, h0, hr.1, hr.2, hcell, hobj, hk3, hk4, hf2, VmOp.dirties, VmOp.acts]
def fx_pass (pl : Platform) (s₀ : State) (d : ClassId) (pc : Nat) (th : ClassId) (y : ExceptionTableEntry) : Prop := covers y pc = false ∨ (y.catchType ≠ 0 ∧ ∃ c, s₀.vm.ClassLinks pl d y.catchType c ∧ s₀.vm.assignable th c = false)
theorem fx_go {e : Env} {s₀ : State} {f : JFrame} {a : Addr} {cell : Cell} (hobj : ∀ k, cell.vm ≠ .statics k) (hk0 : ∃ k, s₀.vm.classes[cell.cls]? = some k) {x : ExceptionTableEntry} {rest : List ExceptionTableEntry} (hx : covers x f.pc = true) (h0 : x.catchType ≠ 0)
    {cx : ClassId} (hlx : s₀.vm.ClassLinks e.platform f.method.cls x.catchType cx) (hfit : s₀.vm.assignable cell.cls cx = true) (pre : List ExceptionTableEntry) :
    ∀ (S : State), s₀.WarmedH S.vm → S.heap[a]? = some cell → (∀ y ∈ pre, fx_pass e.platform s₀ f.method.cls f.pc cell.cls y) →
      ∃ vm', s₀.WarmedH vm' ∧ ∀ (Q : Handler → Pre) (E : CtlPost) (d : Bool) (acts : List Action), wp (findHandler.go f a (pre ++ x :: rest)) Q E e d acts S ↔ Q (.found x.handlerPc) d acts (S.setVm vm') := by
  obtain ⟨k0, hk0⟩ := hk0
  induction pre with
  | nil =>
    intro S hW hcell _
    obtain ⟨k1, hk1, -⟩ := hW.alike.2.2 _ _ hk0
    obtain ⟨dk, _, _, kt, hd, _, _, _, _, hkt, _, hopen⟩ := hlx.here
    obtain ⟨k2, hk2, -⟩ := hW.alike.2.2 _ _ hkt
    refine ⟨_, hW.noted hd hopen (State.rightAt_cls hlx), fun Q E d acts => ?_⟩
    rw [List.nil_append, fx_row hx h0 (hW.classLinks hlx) hcell hobj ⟨k1, hk1⟩ ⟨k2, hk2⟩, if_pos (by rw [hW.alike.assignable]; exact hfit)]
  | cons y ys ih =>
    intro S hW hcell hp
    have hr : ∀ z ∈ ys, fx_pass e.platform s₀ f.method.cls f.pc cell.cls z := fun z hz => hp z (List.mem_cons_of_mem _ hz)
    by_cases hcv : covers y f.pc = true
    · rcases hp y List.mem_cons_self with h | ⟨hy0, cy, hly, hno⟩
      · rw [h] at hcv; cases hcv
      · obtain ⟨k1, hk1, -⟩ := hW.alike.2.2 _ _ hk0
        obtain ⟨dk, _, _, kt, hd, _, _, _, _, hkt, _, hopen⟩ := hly.here
        obtain ⟨k2, hk2, -⟩ := hW.alike.2.2 _ _ hkt
        obtain ⟨vm', hW', hq⟩ := ih (S.setVm (S.vm.noted f.method.cls y.catchType (.cls cy))) (hW.noted hd hopen (State.rightAt_cls hly)) hcell hr
        refine ⟨vm', hW', fun Q E d acts => ?_⟩
        rw [List.cons_append, fx_row hcv hy0 (hW.classLinks hly) hcell hobj ⟨k1, hk1⟩ ⟨k2, hk2⟩, if_neg (by rw [hW.alike.assignable, hno]; decide)]
        exact hq Q E d acts
    · obtain ⟨vm', hW', hq⟩ := ih S hW hcell hr
      refine ⟨vm', hW', fun Q E d acts => ?_⟩
      rw [List.cons_append, Jvm.W.findHandler_go_skip (by simpa using hcv)]
      exact hq Q E d acts
theorem fx_caught {p : Program} {l : Launch} {e : Env} {R : Room} {s : State} {m : MethodId} {args : Array Value} {below : List Frame} {meth : Method} {c : Code} {T : State} {locs : List Loc} {cells slots : Nat} (X : Stand p l e R s m args below meth c T locs cells slots) (a : Addr) {g : JFrame} (hg : g.method = m)
    {cell : Cell} (hcell : T.heap[a]? = some cell) (hobj : cell.vm.isStatics = false) (hk0 : ∃ k, s.vm.classes[cell.cls]? = some k) (pre : List ExceptionTableEntry) (x : ExceptionTableEntry) (suf : List ExceptionTableEntry) (hsplit : c.exceptionTable.toList = pre ++ x :: suf)
    (hpass : ∀ y ∈ pre, fx_pass e.platform s m.cls g.pc cell.cls y) (hx : covers x g.pc = true) (h0 : x.catchType ≠ 0) {cx : ClassId} (hlx : s.vm.ClassLinks e.platform m.cls x.catchType cx) (hfit : s.vm.assignable cell.cls cx = true) :
    ∃ vm', Stand p l e R s m args below meth c (T.setVm vm') locs cells slots ∧ Steps p.tables e below ((T.setTop g).pushFrame (.throwing a)) ((T.setVm vm').setTop { g with pc := x.handlerPc, stack := [.ref a] }) := by
  subst hg
  obtain ⟨vm', hW', hq⟩ := fx_go (e := e) (f := g) (a := a) (cell := cell) (rest := suf) (fun k hk => by rw [hk] at hobj; cases hobj) hk0 hx h0 hlx hfit pre ((T.setTop g).pushFrame (.throwing a)) X.warmed hcell hpass
  have hfind : ∀ (Q : Handler → Pre) (E : CtlPost) (d : Bool) (acts : List Action), wp (findHandler g a) Q E e d acts ((T.setTop g).pushFrame (.throwing a)) ↔ Q (.found x.handlerPc) d acts (((T.setTop g).pushFrame (.throwing a)).setVm vm') := by
    intro Q E d acts
    rw [Jvm.W.findHandler_eq (s := (T.setTop g).pushFrame (.throwing a)) (meth := meth) (code := c) X.method' X.code, hsplit]
    exact hq Q E d acts
  refine ⟨vm', X.noted hW', ?_⟩
  obtain ⟨hgo, hw⟩ := X.here.throwing a
  refine Steps.head hgo hw ?_
  obtain ⟨g₀, hg0⟩ := Option.isSome_iff_exists.mp X.here.top
  obtain ⟨r, hr⟩ := State.topJava?_eq_some.mp hg0
  have hst : (stepThrowing e ((T.setTop g).pushFrame (.throwing a)) a (.java g :: T.frames.tail)).1 = (((T.setTop g).pushFrame (.throwing a)).setVm vm').setFrames (.java { g with pc := x.handlerPc, stack := [.ref a] } :: T.frames.tail) := by
    simp only [stepThrowing, searchFrame, vmDo]
    generalize hgo9 : Sem.go _ e false [] _ = res
    obtain ⟨as, rfl, ha⟩ := Sem.eq_ok_of hgo9 (a := Handler.found x.handlerPc) (s' := ((T.setTop g).pushFrame (.throwing a)).setVm vm') (acts' := []) (by simp [hfind _ _ _ _])
    rfl
  rw [stepThread_throwing (frames_entered X.here.top _), hst]
  have e1 : (((T.setTop g).pushFrame (.throwing a)).setVm vm').setFrames (.java { g with pc := x.handlerPc, stack := [.ref a] } :: T.frames.tail) = (T.setVm vm').setTop { g with pc := x.handlerPc, stack := [.ref a] } := by
    have hr' : (T.setVm vm').frames = .java g₀ :: r := hr
    rw [State.setTop_of_frames _ hr', hr, List.tail_cons, State.pushFrame, State.setTop_of_frames _ hr]
    show ((T.setVm vm').setFrames _ |>.setFrames _ |>.setFrames _) = _
    rw [State.setFrames_setFrames, State.setFrames_setFrames]
  rw [e1]
  exact Steps.refl _
end FX
end
section
/-! ===== BEGIN words of one list among another's, by their places ===== -/
theorem goodIn_r {big : List Cond} (ws : List Cond) (ps : List Nat) (hp : ws = ps.filterMap (fun i => big[i]?)) (h : ws.all goodWord = true) : GoodIn big ws := by
  intro w hw
  have h1 := List.all_eq_true.mp h w hw
  rw [hp] at hw
  obtain ⟨i, -, hi⟩ := List.mem_filterMap.mp hw
  have hm : w ∈ big := by first | exact List.mem_of_getElem? hi | exact List.getElem?_mem hi
  exact ⟨hm, good_of_word h1⟩
theorem goodIn_app {big a b : List Cond} (ha : GoodIn big a) (hb : GoodIn big b) : GoodIn big (a ++ b) := fun w h => (List.mem_append.mp h).elim (ha w) (hb w)
theorem goodIn_ca {big a b : List Cond} {c : Cond} (ha : GoodIn big (c :: a)) (hb : GoodIn big b) : GoodIn big (c :: (a ++ b)) := fun w h => (List.mem_cons.mp h).elim (fun e => ha w (List.mem_cons.mpr (Or.inl e))) (fun h => (List.mem_append.mp h).elim (fun h => ha w (List.mem_cons.mpr (Or.inr h))) (hb w))
theorem goodIn_sub {big ws : List Cond} (hm : ∀ w ∈ ws, w ∈ big) (h : ws.all goodWord = true) : GoodIn big ws := fun w hw => ⟨hm w hw, good_of_word (List.all_eq_true.mp h w hw)⟩
/-! ===== END ===== -/

/-! ===== BEGIN exceptions that leave a method, and their catching by the caller (launches without stack traces) ===== -/
section VXA
/-! The laws vx_back, vx_callV, vx_callS, vx_callSW, vx_throw0, vx_throwS follow proofs of the library, with one case more: JvmDerived/Free/Laws.lean (Back.of_free), Shelf42/LK1.lean (callV, callS), Shelf/KitTraced.lean (throwNew0V, throwNewS). -/
/-- where a method has thrown q: the class by its name, the cell, what was written, the world -/
def vx_T (XC : String → State → State → Prop) (st : State) (q : Addr) (t : State) (mc ms : Nat) (free : Addr → Prop) : Prop :=
  ∃ (E : String) (ce : Cell) (L : List Loc), XC E st t ∧ t.heap[q]? = some ce ∧ ce.vm = .none ∧ st.vm.findClass E = some ce.cls ∧ st.WarmedH t.vm ∧ st.sameButNew ({ t with vm := st.vm } : State) L mc ms ∧ ∀ z ∈ L, free z.base
def vx_Q (Qc : Array Value → State → Outcome → State → Prop) (XC : String → State → State → Prop) (mc ms : Nat) (free : Addr → Prop) : Array Value → State → Outcome → State → Prop := fun a st o t =>
  (Qc a st o t ∧ ∃ L, FrameEnd st o t L mc ms ∧ ∀ q ∈ L, free q.base) ∨ ∃ q, o = .threw q ∧ vx_T XC st q t mc ms free
/-- a callee that returns or throws -/
def vx_Met (l : Launch) (y : MethodName) (ws : List Cond) (rm : Room) (Pc : Array Value → State → Prop) (Qc : Array Value → State → Outcome → State → Prop) (XC : String → State → State → Prop) (mc ms : Nat) (free : Addr → Prop) : Prop :=
  MetFree l y (headSpec ws rm) Pc (fun _ _ _ _ _ => True) (vx_Q Qc XC mc ms free)
def vx_Post (XC : String → State → State → Prop) (mc ms : Nat) (free : Addr → Prop) : Pt → Array Value → Addr → Pt → Prop := fun A a q B =>
  ∃ (g : JFrame) (mk : MethodId) (t : State) (L : List Loc) (E : String) (ce : Cell), B.U.heap = t.heap ∧ B.U.vm = t.vm ∧ XC E (A.U.calling g mk a) t ∧ t.heap[q]? = some ce ∧ ce.vm = .none ∧ A.U.vm.findClass E = some ce.cls ∧ B.locs = A.locs ++ L ∧ (∀ z ∈ L, free z.base) ∧ B.cells = A.cells + mc ∧ B.slots = A.slots + ms
def vx_Back (l : Launch) (R : Room) (p : Program) (e : Env) (below : List Frame) (s : State) (sargs : Array Value) (y : MethodName) (len W9 : Nat)
    (Pre : Pt → Array Value → Prop) (Post : Pt → Array Value → Option Value → Pt → Prop) (PostX : Pt → Array Value → Addr → Pt → Prop) : Prop :=
  ∀ (m : MethodId) (meth : Method) (c : Code) (A : Pt) (g : JFrame) (ig : Instr) (mk : MethodId) (a : Array Value),
    Stand p l e R s m sargs below meth c A.U A.locs A.cells A.slots → g.method = m → g.locals.size = c.maxLocals → decode c.code g.pc = .ok (ig, len) →
    2 * g.monitorRoom + (g.stack.map fun v => v.category).sum ≤ W9 → A.U.methodNamed? y = some mk → Pre A a →
    (∃ (v : Option Value) (B : Pt), Stand p l e R s m sargs below meth c B.U B.locs B.cells B.slots ∧ Post A a v B ∧
      Steps p.tables e below (doInvoke e (A.U.setTop g) [] mk a).1 (B.U.setTop { g with pc := g.pc + len, stack := v.toList ++ g.stack })) ∨
    (∃ (q : Addr) (B : Pt), Stand p l e R s m sargs below meth c B.U B.locs B.cells B.slots ∧ PostX A a q B ∧
      Steps p.tables e below (doInvoke e (A.U.setTop g) [] mk a).1 ((B.U.setTop g).pushFrame (.throwing q)))
section Payer
variable {l : Launch} {R : Room} {p : Program} {e : Env} {below : List Frame} {s : State} {sargs : Array Value} {y : MethodName} {len W9 : Nat}
theorem vx_back {ws : List Cond} {rm : Room} {Pc : Array Value → State → Prop} {Qc : Array Value → State → Outcome → State → Prop} {XC : String → State → State → Prop} {mc ms : Nat} {free : Addr → Prop} {bytes : ByteArray} {maxL : Nat} {ret : Option FieldType}
    (hM : vx_Met l y ws rm Pc Qc XC mc ms free) (hblind : FrameBlind Pc) (hrc : rm.cells = mc) (hrs : rm.slots = ms)
    (hframes : rm.frames + 1 ≤ R.frames) (hlocals : W9 + (maxL + 11) + rm.locals ≤ R.locals)
    (hws : ∀ w ∈ ws, ∀ a' U, s.WarmedH U.vm → w.before a' U = true) (hcode : Cond.code y bytes maxL ret ∈ ws) (hinit : ∀ a' U, s.WarmedH U.vm → (Cond.initialized y.cls).before a' U = true) :
    vx_Back l R p e below s sargs y len W9 (PreOf R mc ms Pc) (PostOf Qc mc ms free) (vx_Post XC mc ms free) := by
  intro m meth c A g ig mk a X hg hsize hdg hW hn hp
  have h1 : (headSpec ws rm).pre.before a A.U = true := atoms_intro fun w hw => hws w hw _ _ X.warmed
  have h2 : (Cond.code y bytes maxL ret).before a A.U = true := hws _ hcode _ _ X.warmed
  have h3 : (Cond.initialized y.cls).before a A.U = true := hinit _ _ X.warmed
  have h4 : A.cells + (headSpec ws rm).room.cells ≤ R.cells := by rw [show (headSpec ws rm).room.cells = mc from hrc]; exact hp.1
  have h5 : A.slots + (headSpec ws rm).room.slots ≤ R.slots := by rw [show (headSpec ws rm).room.slots = ms from hrs]; exact hp.2.1
  have hPc : Pc a (A.U.calling g mk a) := hblind _ _ _ _ hp.2.2
  obtain ⟨U, Ls, c0, s0⟩ := A
  dsimp only [Pt.U, Pt.locs, Pt.cells, Pt.slots] at h1 h2 h3 h4 h5 X hn hPc ⊢
  obtain ⟨methY, cY, hmY, hcY, -, hlY, -, -, -, -⟩ := Cond.code_spec hn h2
  obtain ⟨kY, hkY, -⟩ := className_of_methodNamed hn
  have hinitY : kY.init = .initialized := Cond.initialized_spec (findClass_of_methodNamed hn) hkY h3
  have h : At U g.method c below := by rw [hg]; exact X.here
  have hlocals9 : W9 + (maxL + 11) + (headSpec ws rm).room.locals ≤ R.locals := hlocals
  have happ : (headSpec ws rm).appliesLoose y e.platform (U.calling g mk a) = true :=
    Spec.appliesLoose_calling (g := g) h hdg hn hkY hinitY
      (X.room_calling (g := g) (R' := (headSpec ws rm).room) hsize hmY hcY hframes (by rw [hlY]; omega) h4 h5) h1
  obtain ⟨mid, hmid⟩ := h.above
  have hfr : (U.setTop g).frames = (.java g :: mid) ++ below := by rw [State.frames_setTop' g h.top, hmid]; rfl
  obtain ⟨o, s₂, hsteps, -, hend, hq⟩ := Steps.callFree hM p X.admits X.cas X.clock (acts := []) hfr happ hPc trivial
  have hq' : vx_Q Qc XC mc ms free a (U.calling g mk a) o s₂ := hq
  rw [State.frames_setTop' g h.top] at hend
  obtain ⟨g₀, hg0⟩ := Option.isSome_iff_exists.mp h.top
  obtain ⟨r, hr⟩ := State.topJava?_eq_some.mp hg0
  have hr' : (({ U with heap := s₂.heap, slotsUsed := s₂.slotsUsed } : State).setVm s₂.vm).frames = .java g₀ :: r := hr
  rcases hq' with ⟨hqc, L, hfe, hL⟩ | ⟨q, rfl, E, ce, L, hx, hce, hcv, hcl, hW₂, hsm, hL⟩
  · obtain ⟨⟨v, rfl⟩, hW₂, e2, q2, q3, q4, q5, q6⟩ := id hfe
    have e3 : s₂ = ({ (U.calling g mk a).setFrames s₂.frames with heap := s₂.heap, slotsUsed := s₂.slotsUsed } : State).setVm s₂.vm := by
      have : s₂ = ({ s₂ with vm := (U.calling g mk a).vm } : State).setVm s₂.vm := rfl
      rw [e2] at this
      exact this
    obtain ⟨c₂, i₂, len₂, hc₂, hd₂, hf₂⟩ := hend
    have hW' : U.WarmedH s₂.vm := hW₂
    have hcc : c₂ = c := by
      have h1 : s₂.code? g.method = U.code? g.method := by
        rw [State.code?_eq, State.code?_eq, hW'.alike.method?]
      exact Option.some.inj (hc₂.symm.trans (h1.trans h.code))
    subst hcc
    have hlen : len₂ = len := by rw [hdg] at hd₂; cases hd₂; rfl
    subst hlen
    have hs₂ : s₂ = (({ U with heap := s₂.heap, slotsUsed := s₂.slotsUsed } : State).setVm s₂.vm).setTop { g with pc := g.pc + len₂, stack := v.toList ++ g.stack } := by
      refine e3.trans ?_
      rw [hf₂, State.calling_eq h.top, State.setFrames_setFrames, State.setTop_of_frames _ hr', hr]
      rfl
    have hsame : U.sameButNew ({ U with heap := s₂.heap, slotsUsed := s₂.slotsUsed } : State) L mc ms := by
      refine ⟨?_, q2, q3, q4, q5, q6⟩
      obtain ⟨t, ht, -⟩ := State.frames_cons hr
      show ({ U with heap := s₂.heap, slotsUsed := s₂.slotsUsed } : State) = { U.setFrames U.frames with heap := s₂.heap, slotsUsed := s₂.slotsUsed }
      rw [State.setFrames_self ht]
    subst hg
    refine Or.inl ⟨v, ⟨(({ U with heap := s₂.heap, slotsUsed := s₂.slotsUsed } : State).setVm s₂.vm), Ls ++ L, c0 + mc, s0 + ms⟩,
      ⟨X.admits, X.cas, X.clock, X.frames, X.room, X.hears, X.method, X.code, (X.here.setHeapUsed s₂.heap s₂.slotsUsed).setVm hW'.alike, X.tail, State.WarmedH.trans X.warmed hW', X.limits, X.bytes, X.same.trans (hsame.setVm s.vm)⟩,
      ⟨g, mk, s₂, L, rfl, rfl, hqc, rfl, hL, rfl, rfl⟩, ?_⟩
    show Steps p.tables e below _ ((({ U with heap := s₂.heap, slotsUsed := s₂.slotsUsed } : State).setVm s₂.vm).setTop { g with pc := g.pc + len₂, stack := v.toList ++ g.stack })
    rw [← hs₂]
    exact hsteps
  · obtain ⟨e2, q2, q3, q4, q5, q6⟩ := id hsm
    have e3 : s₂ = ({ (U.calling g mk a).setFrames s₂.frames with heap := s₂.heap, slotsUsed := s₂.slotsUsed } : State).setVm s₂.vm := by
      have : s₂ = ({ s₂ with vm := (U.calling g mk a).vm } : State).setVm s₂.vm := rfl
      rw [e2] at this
      exact this
    have hf₂ : s₂.frames = .throwing q :: .java g :: U.frames.tail := hend
    have hW' : U.WarmedH s₂.vm := hW₂
    have hs₂ : s₂ = ((({ U with heap := s₂.heap, slotsUsed := s₂.slotsUsed } : State).setVm s₂.vm).setTop g).pushFrame (.throwing q) := by
      refine e3.trans ?_
      rw [hf₂, State.calling_eq h.top, State.setFrames_setFrames, State.pushFrame, State.frames_setTop _ hr', State.setTop_of_frames _ hr', State.setFrames_setFrames, hr]
      rfl
    have hsame : U.sameButNew ({ U with heap := s₂.heap, slotsUsed := s₂.slotsUsed } : State) L mc ms := by
      refine ⟨?_, q2, q3, q4, q5, q6⟩
      obtain ⟨t, ht, -⟩ := State.frames_cons hr
      show ({ U with heap := s₂.heap, slotsUsed := s₂.slotsUsed } : State) = { U.setFrames U.frames with heap := s₂.heap, slotsUsed := s₂.slotsUsed }
      rw [State.setFrames_self ht]
    subst hg
    refine Or.inr ⟨q, ⟨(({ U with heap := s₂.heap, slotsUsed := s₂.slotsUsed } : State).setVm s₂.vm), Ls ++ L, c0 + mc, s0 + ms⟩,
      ⟨X.admits, X.cas, X.clock, X.frames, X.room, X.hears, X.method, X.code, (X.here.setHeapUsed s₂.heap s₂.slotsUsed).setVm hW'.alike, X.tail, State.WarmedH.trans X.warmed hW', X.limits, X.bytes, X.same.trans (hsame.setVm s.vm)⟩,
      ⟨g, mk, s₂, L, E, ce, rfl, rfl, hx, hce, hcv, hcl, rfl, hL, rfl, rfl⟩, ?_⟩
    show Steps p.tables e below _ (((({ U with heap := s₂.heap, slotsUsed := s₂.slotsUsed } : State).setVm s₂.vm).setTop g).pushFrame (.throwing q))
    rw [← hs₂]
    exact hsteps
end Payer
section Calls
variable {p : Program} {l : Launch} {e : Env} {R : Room} {s : State} {m : MethodId} {args : Array Value} {below : List Frame} {meth : Method} {c : Code} {T : State} {locs : List Loc} {cells slots : Nat}
theorem vx_callV (X : Stand p l e R s m args below meth c T locs cells slots) (hexec : p.tables.exec = Jvm.exec) {own C : String} {index : Nat} {y : MethodName} {bytes : ByteArray} {maxL : Nat} {ret : Option FieldType}
    (hown : s.vm.findClass own = some m.cls) (hlink : (Cond.methodLink own index y).before args s = true) (hinst : (Cond.instanceMethod y).before args s = true) (hsel : (Cond.selects C y y).before args s = true)
    (hcode : (Cond.code y bytes maxL ret).before args s = true) (hy : y.cls ≠ "java/lang/invoke/MethodHandle" ∧ y.cls ≠ "java/lang/invoke/VarHandle")
    {W9 : Nat} {Pre : Pt → Array Value → Prop} {Post : Pt → Array Value → Option Value → Pt → Prop} {PostX : Pt → Array Value → Addr → Pt → Prop} (hK : vx_Back l R p e below s args y 3 W9 Pre Post PostX)
    {b : Addr} {cellB : Cell} (hcell : T.heap[b]? = some cellB) (hobj : cellB.vm.isStatics = false) (hcls : s.vm.findClass C = some cellB.cls)
    {g : JFrame} (hg : g.method = m) (hsize : g.locals.size = c.maxLocals) {argsL rest : List Value} (hlen : ∀ sig, parseMethodDescriptor y.desc = some sig → argsL.length = sig.parameters.length)
    (hstack : g.stack = argsL.reverse ++ .ref b :: rest) (hW : 2 * g.monitorRoom + (rest.map fun v => v.category).sum ≤ W9) (hdg : decode c.code g.pc = .ok (.invokevirtual index, 3))
    (hpre : ∀ vm₁, s.WarmedH vm₁ → Pre ⟨T.setVm vm₁, locs, cells, slots⟩ (Value.ref b :: argsL).toArray) :
    (∃ (v : Option Value) (vm₁ : Vm) (B : Pt), s.WarmedH vm₁ ∧ Stand p l e R s m args below meth c B.U B.locs B.cells B.slots ∧ Post ⟨T.setVm vm₁, locs, cells, slots⟩ (Value.ref b :: argsL).toArray v B ∧
      ∀ target, Steps p.tables e below (B.U.setTop { g with pc := g.pc + 3, stack := v.toList ++ rest }) target → Steps p.tables e below (T.setTop g) target) ∨
    (∃ (q : Addr) (vm₁ : Vm) (B : Pt), s.WarmedH vm₁ ∧ Stand p l e R s m args below meth c B.U B.locs B.cells B.slots ∧ PostX ⟨T.setVm vm₁, locs, cells, slots⟩ (Value.ref b :: argsL).toArray q B ∧
      Steps p.tables e below (T.setTop g) ((B.U.setTop { g with stack := rest }).pushFrame (.throwing q))) := by
  obtain ⟨mk, methM, hnamed, hmethM, hstM, habM⟩ := Cond.instanceMethod_spec hinst
  obtain ⟨methM', cM, hmethM', -, -, -, -, -, -, hsigM⟩ := Cond.code_spec hnamed hcode
  cases hmethM.symm.trans hmethM'
  obtain ⟨c2, r2, m2, q1, q2, q3, q4, kP, hkP, hkPi⟩ := Cond.selects_spec hsel
  cases hcls.symm.trans q1
  cases (State.methodFound?_of_named hnamed hy).symm.trans q2
  cases hnamed.symm.trans q3
  have hselP : selectMethod e.platform s.vm cellB.cls mk = .method mk := by rw [Launch.admits_selectMethod X.admits]; exact q4
  obtain ⟨vm₁, X₁, hstep₁⟩ := X.invokevirtual hexec hown hlink hnamed hmethM hstM hkP hkPi hy (a := b) (cell := cellB) hcell
    (fun z h => by rw [h] at hobj; cases hobj) hselP hmethM habM hkP hkPi (g := g) hg (argsL := argsL) (rest := rest) (hlen _ hsigM) hstack hdg
  rcases hK m meth c ⟨T.setVm vm₁, locs, cells, slots⟩ { g with stack := rest } (.invokevirtual index) mk (Value.ref b :: argsL).toArray X₁ hg hsize hdg hW (X₁.named hnamed) (hpre vm₁ X₁.warmed) with ⟨v, B, X', hpost, hsteps⟩ | ⟨q, B, X', hpost, hsteps⟩
  · exact Or.inl ⟨v, vm₁, B, X₁.warmed, X', hpost, fun target h => hstep₁ _ fun acts => by rw [doInvoke_state]; exact hsteps.trans h⟩
  · exact Or.inr ⟨q, vm₁, B, X₁.warmed, X', hpost, hstep₁ _ fun acts => by rw [doInvoke_state]; exact hsteps⟩
theorem vx_callS (X : Stand p l e R s m args below meth c T locs cells slots) (hexec : p.tables.exec = Jvm.exec) {own : String} {index : Nat} {y : MethodName} {bytes : ByteArray} {maxL : Nat} {ret : Option FieldType}
    (hown : s.vm.findClass own = some m.cls) (hlink : (Cond.methodLink own index y).before args s = true) (hstat : (Cond.static y).before args s = true) (hinit : (Cond.initialized y.cls).before args s = true)
    (hcode : (Cond.code y bytes maxL ret).before args s = true) (hy : y.cls ≠ "java/lang/invoke/MethodHandle" ∧ y.cls ≠ "java/lang/invoke/VarHandle")
    {W9 : Nat} {Pre : Pt → Array Value → Prop} {Post : Pt → Array Value → Option Value → Pt → Prop} {PostX : Pt → Array Value → Addr → Pt → Prop} (hK : vx_Back l R p e below s args y 3 W9 Pre Post PostX)
    {g : JFrame} (hg : g.method = m) (hsize : g.locals.size = c.maxLocals) {argsL rest : List Value} (hlen : ∀ sig, parseMethodDescriptor y.desc = some sig → argsL.length = sig.parameters.length)
    (hstack : g.stack = argsL.reverse ++ rest) (hW : 2 * g.monitorRoom + (rest.map fun v => v.category).sum ≤ W9) (hdg : decode c.code g.pc = .ok (.invokestatic index, 3))
    (hpre : ∀ vm₁, s.WarmedH vm₁ → Pre ⟨T.setVm vm₁, locs, cells, slots⟩ argsL.toArray) :
    (∃ (v : Option Value) (vm₁ : Vm) (B : Pt), s.WarmedH vm₁ ∧ Stand p l e R s m args below meth c B.U B.locs B.cells B.slots ∧ Post ⟨T.setVm vm₁, locs, cells, slots⟩ argsL.toArray v B ∧
      ∀ target, Steps p.tables e below (B.U.setTop { g with pc := g.pc + 3, stack := v.toList ++ rest }) target → Steps p.tables e below (T.setTop g) target) ∨
    (∃ (q : Addr) (vm₁ : Vm) (B : Pt), s.WarmedH vm₁ ∧ Stand p l e R s m args below meth c B.U B.locs B.cells B.slots ∧ PostX ⟨T.setVm vm₁, locs, cells, slots⟩ argsL.toArray q B ∧
      Steps p.tables e below (T.setTop g) ((B.U.setTop { g with stack := rest }).pushFrame (.throwing q))) := by
  obtain ⟨mk, hnamed⟩ := Cond.code_named hcode
  obtain ⟨methM, cM, hmethM, -, -, -, -, -, -, hsigM⟩ := Cond.code_spec hnamed hcode
  have hstatic : methM.isStatic = true := Cond.static_spec hnamed hmethM hstat
  obtain ⟨kP, hkP, -⟩ := className_of_methodNamed hnamed
  have hinitP : kP.init = .initialized := Cond.initialized_spec (findClass_of_methodNamed hnamed) hkP hinit
  obtain ⟨vm₁, X₁, hstep₁⟩ := X.invokestatic hexec hown hlink hnamed hmethM hstatic hkP hinitP hy (g := g) hg (argsL := argsL) (rest := rest) (hlen _ hsigM) hstack hdg
  rcases hK m meth c ⟨T.setVm vm₁, locs, cells, slots⟩ { g with stack := rest } (.invokestatic index) mk argsL.toArray X₁ hg hsize hdg hW (X₁.named hnamed) (hpre vm₁ X₁.warmed) with ⟨v, B, X', hpost, hsteps⟩ | ⟨q, B, X', hpost, hsteps⟩
  · exact Or.inl ⟨v, vm₁, B, X₁.warmed, X', hpost, fun target h => hstep₁ _ fun acts => by rw [doInvoke_state]; exact hsteps.trans h⟩
  · exact Or.inr ⟨q, vm₁, B, X₁.warmed, X', hpost, hstep₁ _ fun acts => by rw [doInvoke_state]; exact hsteps⟩
end Calls
theorem vx_cls {s : State} {T : State} {vm₁ : Vm} {E : String} {k : ClassId} (hW : s.WarmedH vm₁) (h : (T.setVm vm₁).vm.findClass E = some k) : s.vm.findClass E = some k := by
  have h1 : vm₁.findClass E = some k := h
  rw [hW.alike.findClass] at h1
  exact h1
/-- the method's frame g, with q thrown over it -/
def vx_W (p : Program) (l : Launch) (e : Env) (R : Room) (s : State) (m : MethodId) (args : Array Value) (below : List Frame) (meth : Method) (c : Code) (H : Heap) (locs : List Loc) (cells slots : Nat) (Q : State → Prop) (g : JFrame) (q : Addr) : Prop :=
  ∀ T : State, T.heap = H → Stand p l e R s m args below meth c T locs cells slots → ∃ t, Steps p.tables e below ((T.setTop g).pushFrame (.throwing q)) t ∧ Q t
def vx_Run (p : Program) (l : Launch) (e : Env) (R : Room) (s : State) (m : MethodId) (args : Array Value) (below : List Frame) (meth : Method) (c : Code) (H : Heap) (locs : List Loc) (cells slots mc ms : Nat) (g : JFrame) (rest : List Value) (Qa : State → Outcome → State → Prop) (XC : String → State → State → Prop) (free : Addr → Prop) : Prop :=
  ∀ T : State, T.heap = H → Stand p l e R s m args below meth c T locs cells slots →
    (∃ (v : Option Value) (st₀ t T' : State) (L : List Loc), st₀.heap = H ∧ Stand p l e R s m args below meth c T' (locs ++ L) (cells + mc) (slots + ms) ∧ (∀ q ∈ L, free q.base) ∧ T'.heap = t.heap ∧ T'.vm = t.vm ∧ Qa st₀ (.returned v) t ∧
      Goes p e below T g T' { g with pc := g.pc + 3, stack := v.toList ++ rest }) ∨
    (∃ (q : Addr) (st₀ t T' : State) (L : List Loc) (E : String) (ce : Cell), st₀.heap = H ∧ Stand p l e R s m args below meth c T' (locs ++ L) (cells + mc) (slots + ms) ∧ (∀ z ∈ L, free z.base) ∧ T'.heap = t.heap ∧ T'.vm = t.vm ∧ XC E st₀ t ∧ t.heap[q]? = some ce ∧ ce.vm = .none ∧ s.vm.findClass E = some ce.cls ∧
      Steps p.tables e below (T.setTop g) ((T'.setTop { g with stack := rest }).pushFrame (.throwing q)))
def vx_X {S : Type} (px : S → Prop) (B : String → S → State → Prop) (A : Nat → Prop) : String → State → State → Prop := fun E st t => ∃ u : S, px u ∧ B E u t ∧ va_F A st t
section Runs
variable {p : Program} {l : Launch} {e : Env} {R : Room} {s : State} {m : MethodId} {args : Array Value} {below : List Frame} {meth : Method} {c : Code} {H : Heap} {locs : List Loc} {cells slots : Nat}
variable {y : MethodName} {bytes cc : ByteArray} {maxL nL mc ms n index : Nat} {ret : Option FieldType} {ws : List Cond} {rm : Room} {Pc : Array Value → State → Prop} {Qc : Array Value → State → Outcome → State → Prop} {XC : String → State → State → Prop} {free : Addr → Prop} {Ts : List Cond} {own C : String} {b : Addr} {As rest : List Value} {g : JFrame}
theorem vx_callBack (cb : CallB R s args own index y bytes maxL ret ws rm mc ms n) (hM : vx_Met l y ws rm Pc Qc XC mc ms free) (hbl : FrameBlind Pc) : vx_Back l R p e below s args y 3 8 (PreOf R mc ms Pc) (PostOf Qc mc ms free) (vx_Post XC mc ms free) := by
  obtain ⟨hrc, hrs, hfr, hlo, hws, hcw, -, hini, -⟩ := cb
  exact vx_back (bytes := bytes) (maxL := maxL) (ret := ret) hM hbl hrc hrs hfr hlo hws hcw (fun a' U hW => word_at hW (Or.inl (by first | rfl | simp [Cond.onTables, Cond.keeps, Cond.steady])) hini)
theorem vx_runV (S : CallFix p m c cc nL s args Ts own) (hM : vx_Met l y ws rm Pc Qc XC mc ms free) (cw : CallW R s args own C index y bytes maxL ret ws rm mc ms n) (hp : PreV s H C b Pc As)
    (hg : g.method = m) (hn : As.length = n) (hsize : g.locals.size = nL) (hstack : g.stack = As.reverse ++ .ref b :: rest) (hW : 2 * g.monitorRoom + (rest.map fun v => v.category).sum ≤ 8) (hdg : decode cc g.pc = .ok (.invokevirtual index, 3)) (hf : cells + mc ≤ R.cells ∧ slots + ms ≤ R.slots) :
    vx_Run p l e R s m args below meth c H locs cells slots mc ms g rest (Qc (Value.ref b :: As).toArray) XC free := by
  have hK : vx_Back l R p e below s args y 3 8 (PreOf R mc ms Pc) (PostOf Qc mc ms free) (vx_Post XC mc ms free) := vx_callBack cw.1 hM hp.1
  obtain ⟨⟨-, -, -, -, -, -, hcode, -, hy, hlen, hl⟩, hin, hse⟩ := cw
  obtain ⟨hx, hb, hml, ho, -⟩ := S
  obtain ⟨-, ⟨cellB, hcB, hoB, hclB⟩, hPc⟩ := hp
  intro T hT X
  rcases vx_callV X hx (C := C) (bytes := bytes) (maxL := maxL) (ret := ret) ho hl hin hse hcode hy hK (by rw [hT]; exact hcB) hoB hclB hg (hsize.trans hml.symm) (argsL := As) (rest := rest) (fun sig h => hn.trans (hlen sig h)) hstack hW (by rw [hb]; exact hdg)
    (fun vm₁ hW₁ => ⟨hf.1, hf.2, hPc (T.setVm vm₁) hT hW₁⟩) with ⟨v, vm₁, ⟨U', l2, c2, s2⟩, hW₁, X', ⟨g', mk, t, L, e1, e2, hq, h1, hL, h2, h3⟩, st⟩ | ⟨q, vm₁, ⟨U', l2, c2, s2⟩, hW₁, X', ⟨g', mk, t, L, E, ce, e1, e2, hq, hce, hcv, hcl, h1, hL, h2, h3⟩, st⟩
  · dsimp only [Pt.U, Pt.locs, Pt.cells, Pt.slots] at X' e1 e2 h1 h2 h3 st
    subst h1; subst h2; subst h3
    exact Or.inl ⟨v, (T.setVm vm₁).calling g' mk (Value.ref b :: As).toArray, t, U', L, hT, X', hL, e1, e2, hq, st⟩
  · dsimp only [Pt.U, Pt.locs, Pt.cells, Pt.slots] at X' e1 e2 h1 h2 h3 st hcl
    subst h1; subst h2; subst h3
    exact Or.inr ⟨q, (T.setVm vm₁).calling g' mk (Value.ref b :: As).toArray, t, U', L, E, ce, hT, X', hL, e1, e2, hq, hce, hcv, vx_cls hW₁ hcl, st⟩
theorem vx_runS (S : CallFix p m c cc nL s args Ts own) (hM : vx_Met l y ws rm Pc Qc XC mc ms free) (cw : CallB R s args own index y bytes maxL ret ws rm mc ms n ∧ (Cond.static y).before args s = true) (hp : PreS s H Pc As)
    (hg : g.method = m) (hn : As.length = n) (hsize : g.locals.size = nL) (hstack : g.stack = As.reverse ++ rest) (hW : 2 * g.monitorRoom + (rest.map fun v => v.category).sum ≤ 8) (hdg : decode cc g.pc = .ok (.invokestatic index, 3)) (hf : cells + mc ≤ R.cells ∧ slots + ms ≤ R.slots) :
    vx_Run p l e R s m args below meth c H locs cells slots mc ms g rest (Qc As.toArray) XC free := by
  have hK : vx_Back l R p e below s args y 3 8 (PreOf R mc ms Pc) (PostOf Qc mc ms free) (vx_Post XC mc ms free) := vx_callBack cw.1 hM hp.1
  obtain ⟨⟨-, -, -, -, -, -, hcode, hini, hy, hlen, hl⟩, hstt⟩ := cw
  obtain ⟨hx, hb, hml, ho, -⟩ := S
  intro T hT X
  rcases vx_callS X hx (bytes := bytes) (maxL := maxL) (ret := ret) ho hl hstt hini hcode hy hK hg (hsize.trans hml.symm) (argsL := As) (rest := rest) (fun sig h => hn.trans (hlen sig h)) hstack hW (by rw [hb]; exact hdg)
    (fun vm₁ hW₁ => ⟨hf.1, hf.2, hp.2 (T.setVm vm₁) hT hW₁⟩) with ⟨v, vm₁, ⟨U', l2, c2, s2⟩, hW₁, X', ⟨g', mk, t, L, e1, e2, hq, h1, hL, h2, h3⟩, st⟩ | ⟨q, vm₁, ⟨U', l2, c2, s2⟩, hW₁, X', ⟨g', mk, t, L, E, ce, e1, e2, hq, hce, hcv, hcl, h1, hL, h2, h3⟩, st⟩
  · dsimp only [Pt.U, Pt.locs, Pt.cells, Pt.slots] at X' e1 e2 h1 h2 h3 st
    subst h1; subst h2; subst h3
    exact Or.inl ⟨v, (T.setVm vm₁).calling g' mk As.toArray, t, U', L, hT, X', hL, e1, e2, hq, st⟩
  · dsimp only [Pt.U, Pt.locs, Pt.cells, Pt.slots] at X' e1 e2 h1 h2 h3 st hcl
    subst h1; subst h2; subst h3
    exact Or.inr ⟨q, (T.setVm vm₁).calling g' mk As.toArray, t, U', L, E, ce, hT, X', hL, e1, e2, hq, hce, hcv, vx_cls hW₁ hcl, st⟩
end Runs
section Rows
variable {p : Program} {l : Launch} {e : Env} {R : Room} {s : State} {m : MethodId} {args : Array Value} {below : List Frame} {meth : Method} {c : Code} {H : Heap} {locs : List Loc} {cells slots : Nat} {Q : State → Prop}
variable {mc ms : Nat} {free : Addr → Prop} {A0 A1 : Nat → Prop} {H0 : Heap} {a : Array Value} {pc : Nat} {ls : Array Slot} {st0 rest : List Value}
theorem vx_keep {st₀ t T' : State} {L : List Loc} (h0 : st₀.heap = H) (e1 : T'.heap = t.heap) (hS : va_S A0 H0 H locs) (hA : ∀ q, q < H.size → A1 q → A0 q) (hf : ∀ q, free q → A0 q) (hL : ∀ q ∈ L, free q.base) (hF : va_F A1 st₀ t) :
    H.size ≤ T'.heap.size ∧ (∀ q : Nat, q < H.size → ¬ A1 q → T'.heap[q]? = H[q]?) ∧ va_S A0 H0 T'.heap (locs ++ L) := by
  obtain ⟨hz, hk⟩ := hF
  rw [h0] at hz hk
  exact ⟨by rw [e1]; exact hz, fun q h1 h2 => by rw [e1]; exact hk q h1 h2,
    ⟨Nat.le_trans hS.1 (by rw [e1]; exact hz), fun q h1 h2 => by rw [e1, hk q (Nat.lt_of_lt_of_le h1 hS.1) (fun z => h2 (hA q (Nat.lt_of_lt_of_le h1 hS.1) z))]; exact hS.2.1 q h1 h2, fun q hq => by
      rcases List.mem_append.mp hq with h | h
      · exact hS.2.2 q h
      · exact hf _ (hL q h)⟩⟩
theorem vx_calli {S SX : Type} {post : Int32 → S → Prop} {px : SX → Prop} {B : S → State → Prop} {BX : String → SX → State → Prop} {AX : Nat → Prop} (hr : vx_Run p l e R s m args below meth c H locs cells slots mc ms (F0 m pc ls st0) rest (va_Qi post B A1 a) (vx_X px BX AX) free) (hS : va_S A0 H0 H locs) (hA : ∀ q, q < H.size → A1 q → A0 q) (hf : ∀ q, free q → A0 q) (hAX : ∀ q, q < H.size → AX q → A0 q)
    (kx : ∀ (E : String) (ce : Cell) (q9 : Addr) (u : SX) (t : State) (H1 : Heap) (locs1 : List Loc), t.heap = H1 → s.vm.Alike t.vm → px u → BX E u t → H.size ≤ H1.size → (∀ q : Nat, q < H.size → ¬ AX q → H1[q]? = H[q]?) → va_S A0 H0 H1 locs1 → H1[q9]? = some ce → ce.vm = .none → s.vm.findClass E = some ce.cls → vx_W p l e R s m args below meth c H1 locs1 (cells + mc) (slots + ms) Q (F0 m pc ls rest) q9)
    (kk : ∀ (r : Int32) (u : S) (t : State) (H1 : Heap) (locs1 : List Loc), t.heap = H1 → s.vm.Alike t.vm → post r u → B u t → H.size ≤ H1.size → (∀ q : Nat, q < H.size → ¬ A1 q → H1[q]? = H[q]?) → va_S A0 H0 H1 locs1 → W p l e R s m args below meth c H1 locs1 (cells + mc) (slots + ms) Q (F0 m (pc + 3) ls (.int r :: rest))) : W p l e R s m args below meth c H locs cells slots Q (F0 m pc ls st0) := by
  intro T hT X
  rcases hr T hT X with ⟨v, st₀, t, T', L, h0, X', hL, e1, e2, ⟨⟨r, u, hv, hp, hb⟩, hF⟩, st⟩ | ⟨q, st₀, t, T', L, E, ce, h0, X', hL, e1, e2, ⟨u, hp, hb, hF⟩, hce, hcv, hcl, st⟩
  · cases hv
    obtain ⟨k1, k2, k3⟩ := vx_keep h0 e1 hS hA hf hL hF
    obtain ⟨t2, a1, b1⟩ := kk r u t T'.heap (locs ++ L) e1.symm (by rw [← e2]; exact X'.warmed.alike) hp hb k1 k2 k3 T' rfl X'
    exact ⟨t2, st t2 a1, b1⟩
  · obtain ⟨k1, k2, k3⟩ := vx_keep h0 e1 hS hAX hf hL hF
    obtain ⟨t2, a1, b1⟩ := kx E ce q u t T'.heap (locs ++ L) e1.symm (by rw [← e2]; exact X'.warmed.alike) hp hb k1 k2 k3 (by rw [e1]; exact hce) hcv hcl T' rfl X'
    exact ⟨t2, st.trans a1, b1⟩
theorem vx_calll {S SX : Type} {post : Int64 → S → Prop} {px : SX → Prop} {B : S → State → Prop} {BX : String → SX → State → Prop} {AX : Nat → Prop} (hr : vx_Run p l e R s m args below meth c H locs cells slots mc ms (F0 m pc ls st0) rest (va_Ql post B A1 a) (vx_X px BX AX) free) (hS : va_S A0 H0 H locs) (hA : ∀ q, q < H.size → A1 q → A0 q) (hf : ∀ q, free q → A0 q) (hAX : ∀ q, q < H.size → AX q → A0 q)
    (kx : ∀ (E : String) (ce : Cell) (q9 : Addr) (u : SX) (t : State) (H1 : Heap) (locs1 : List Loc), t.heap = H1 → s.vm.Alike t.vm → px u → BX E u t → H.size ≤ H1.size → (∀ q : Nat, q < H.size → ¬ AX q → H1[q]? = H[q]?) → va_S A0 H0 H1 locs1 → H1[q9]? = some ce → ce.vm = .none → s.vm.findClass E = some ce.cls → vx_W p l e R s m args below meth c H1 locs1 (cells + mc) (slots + ms) Q (F0 m pc ls rest) q9)
    (kk : ∀ (r : Int64) (u : S) (t : State) (H1 : Heap) (locs1 : List Loc), t.heap = H1 → s.vm.Alike t.vm → post r u → B u t → H.size ≤ H1.size → (∀ q : Nat, q < H.size → ¬ A1 q → H1[q]? = H[q]?) → va_S A0 H0 H1 locs1 → W p l e R s m args below meth c H1 locs1 (cells + mc) (slots + ms) Q (F0 m (pc + 3) ls (.long r :: rest))) : W p l e R s m args below meth c H locs cells slots Q (F0 m pc ls st0) := by
  intro T hT X
  rcases hr T hT X with ⟨v, st₀, t, T', L, h0, X', hL, e1, e2, ⟨⟨r, u, hv, hp, hb⟩, hF⟩, st⟩ | ⟨q, st₀, t, T', L, E, ce, h0, X', hL, e1, e2, ⟨u, hp, hb, hF⟩, hce, hcv, hcl, st⟩
  · cases hv
    obtain ⟨k1, k2, k3⟩ := vx_keep h0 e1 hS hA hf hL hF
    obtain ⟨t2, a1, b1⟩ := kk r u t T'.heap (locs ++ L) e1.symm (by rw [← e2]; exact X'.warmed.alike) hp hb k1 k2 k3 T' rfl X'
    exact ⟨t2, st t2 a1, b1⟩
  · obtain ⟨k1, k2, k3⟩ := vx_keep h0 e1 hS hAX hf hL hF
    obtain ⟨t2, a1, b1⟩ := kx E ce q u t T'.heap (locs ++ L) e1.symm (by rw [← e2]; exact X'.warmed.alike) hp hb k1 k2 k3 (by rw [e1]; exact hce) hcv hcl T' rfl X'
    exact ⟨t2, st.trans a1, b1⟩
theorem vx_callf {S SX : Type} {post : UInt32 → S → Prop} {px : SX → Prop} {B : S → State → Prop} {BX : String → SX → State → Prop} {AX : Nat → Prop} (hr : vx_Run p l e R s m args below meth c H locs cells slots mc ms (F0 m pc ls st0) rest (va_Qf post B A1 a) (vx_X px BX AX) free) (hS : va_S A0 H0 H locs) (hA : ∀ q, q < H.size → A1 q → A0 q) (hf : ∀ q, free q → A0 q) (hAX : ∀ q, q < H.size → AX q → A0 q)
    (kx : ∀ (E : String) (ce : Cell) (q9 : Addr) (u : SX) (t : State) (H1 : Heap) (locs1 : List Loc), t.heap = H1 → s.vm.Alike t.vm → px u → BX E u t → H.size ≤ H1.size → (∀ q : Nat, q < H.size → ¬ AX q → H1[q]? = H[q]?) → va_S A0 H0 H1 locs1 → H1[q9]? = some ce → ce.vm = .none → s.vm.findClass E = some ce.cls → vx_W p l e R s m args below meth c H1 locs1 (cells + mc) (slots + ms) Q (F0 m pc ls rest) q9)
    (kk : ∀ (r : UInt32) (u : S) (t : State) (H1 : Heap) (locs1 : List Loc), t.heap = H1 → s.vm.Alike t.vm → post r u → B u t → H.size ≤ H1.size → (∀ q : Nat, q < H.size → ¬ A1 q → H1[q]? = H[q]?) → va_S A0 H0 H1 locs1 → W p l e R s m args below meth c H1 locs1 (cells + mc) (slots + ms) Q (F0 m (pc + 3) ls (.float r :: rest))) : W p l e R s m args below meth c H locs cells slots Q (F0 m pc ls st0) := by
  intro T hT X
  rcases hr T hT X with ⟨v, st₀, t, T', L, h0, X', hL, e1, e2, ⟨⟨r, u, hv, hp, hb⟩, hF⟩, st⟩ | ⟨q, st₀, t, T', L, E, ce, h0, X', hL, e1, e2, ⟨u, hp, hb, hF⟩, hce, hcv, hcl, st⟩
  · cases hv
    obtain ⟨k1, k2, k3⟩ := vx_keep h0 e1 hS hA hf hL hF
    obtain ⟨t2, a1, b1⟩ := kk r u t T'.heap (locs ++ L) e1.symm (by rw [← e2]; exact X'.warmed.alike) hp hb k1 k2 k3 T' rfl X'
    exact ⟨t2, st t2 a1, b1⟩
  · obtain ⟨k1, k2, k3⟩ := vx_keep h0 e1 hS hAX hf hL hF
    obtain ⟨t2, a1, b1⟩ := kx E ce q u t T'.heap (locs ++ L) e1.symm (by rw [← e2]; exact X'.warmed.alike) hp hb k1 k2 k3 (by rw [e1]; exact hce) hcv hcl T' rfl X'
    exact ⟨t2, st.trans a1, b1⟩
theorem vx_calld {S SX : Type} {post : UInt64 → S → Prop} {px : SX → Prop} {B : S → State → Prop} {BX : String → SX → State → Prop} {AX : Nat → Prop} (hr : vx_Run p l e R s m args below meth c H locs cells slots mc ms (F0 m pc ls st0) rest (va_Qd post B A1 a) (vx_X px BX AX) free) (hS : va_S A0 H0 H locs) (hA : ∀ q, q < H.size → A1 q → A0 q) (hf : ∀ q, free q → A0 q) (hAX : ∀ q, q < H.size → AX q → A0 q)
    (kx : ∀ (E : String) (ce : Cell) (q9 : Addr) (u : SX) (t : State) (H1 : Heap) (locs1 : List Loc), t.heap = H1 → s.vm.Alike t.vm → px u → BX E u t → H.size ≤ H1.size → (∀ q : Nat, q < H.size → ¬ AX q → H1[q]? = H[q]?) → va_S A0 H0 H1 locs1 → H1[q9]? = some ce → ce.vm = .none → s.vm.findClass E = some ce.cls → vx_W p l e R s m args below meth c H1 locs1 (cells + mc) (slots + ms) Q (F0 m pc ls rest) q9)
    (kk : ∀ (r : UInt64) (u : S) (t : State) (H1 : Heap) (locs1 : List Loc), t.heap = H1 → s.vm.Alike t.vm → post r u → B u t → H.size ≤ H1.size → (∀ q : Nat, q < H.size → ¬ A1 q → H1[q]? = H[q]?) → va_S A0 H0 H1 locs1 → W p l e R s m args below meth c H1 locs1 (cells + mc) (slots + ms) Q (F0 m (pc + 3) ls (.double r :: rest))) : W p l e R s m args below meth c H locs cells slots Q (F0 m pc ls st0) := by
  intro T hT X
  rcases hr T hT X with ⟨v, st₀, t, T', L, h0, X', hL, e1, e2, ⟨⟨r, u, hv, hp, hb⟩, hF⟩, st⟩ | ⟨q, st₀, t, T', L, E, ce, h0, X', hL, e1, e2, ⟨u, hp, hb, hF⟩, hce, hcv, hcl, st⟩
  · cases hv
    obtain ⟨k1, k2, k3⟩ := vx_keep h0 e1 hS hA hf hL hF
    obtain ⟨t2, a1, b1⟩ := kk r u t T'.heap (locs ++ L) e1.symm (by rw [← e2]; exact X'.warmed.alike) hp hb k1 k2 k3 T' rfl X'
    exact ⟨t2, st t2 a1, b1⟩
  · obtain ⟨k1, k2, k3⟩ := vx_keep h0 e1 hS hAX hf hL hF
    obtain ⟨t2, a1, b1⟩ := kx E ce q u t T'.heap (locs ++ L) e1.symm (by rw [← e2]; exact X'.warmed.alike) hp hb k1 k2 k3 (by rw [e1]; exact hce) hcv hcl T' rfl X'
    exact ⟨t2, st.trans a1, b1⟩
theorem vx_callv {S SX : Type} {post : S → Prop} {px : SX → Prop} {B : S → State → Prop} {BX : String → SX → State → Prop} {AX : Nat → Prop} (hr : vx_Run p l e R s m args below meth c H locs cells slots mc ms (F0 m pc ls st0) rest (va_Qv post B A1 a) (vx_X px BX AX) free) (hS : va_S A0 H0 H locs) (hA : ∀ q, q < H.size → A1 q → A0 q) (hf : ∀ q, free q → A0 q) (hAX : ∀ q, q < H.size → AX q → A0 q)
    (kx : ∀ (E : String) (ce : Cell) (q9 : Addr) (u : SX) (t : State) (H1 : Heap) (locs1 : List Loc), t.heap = H1 → s.vm.Alike t.vm → px u → BX E u t → H.size ≤ H1.size → (∀ q : Nat, q < H.size → ¬ AX q → H1[q]? = H[q]?) → va_S A0 H0 H1 locs1 → H1[q9]? = some ce → ce.vm = .none → s.vm.findClass E = some ce.cls → vx_W p l e R s m args below meth c H1 locs1 (cells + mc) (slots + ms) Q (F0 m pc ls rest) q9)
    (kk : ∀ (u : S) (t : State) (H1 : Heap) (locs1 : List Loc), t.heap = H1 → s.vm.Alike t.vm → post u → B u t → H.size ≤ H1.size → (∀ q : Nat, q < H.size → ¬ A1 q → H1[q]? = H[q]?) → va_S A0 H0 H1 locs1 → W p l e R s m args below meth c H1 locs1 (cells + mc) (slots + ms) Q (F0 m (pc + 3) ls (rest))) : W p l e R s m args below meth c H locs cells slots Q (F0 m pc ls st0) := by
  intro T hT X
  rcases hr T hT X with ⟨v, st₀, t, T', L, h0, X', hL, e1, e2, ⟨⟨u, hv, hp, hb⟩, hF⟩, st⟩ | ⟨q, st₀, t, T', L, E, ce, h0, X', hL, e1, e2, ⟨u, hp, hb, hF⟩, hce, hcv, hcl, st⟩
  · cases hv
    obtain ⟨k1, k2, k3⟩ := vx_keep h0 e1 hS hA hf hL hF
    obtain ⟨t2, a1, b1⟩ := kk u t T'.heap (locs ++ L) e1.symm (by rw [← e2]; exact X'.warmed.alike) hp hb k1 k2 k3 T' rfl X'
    exact ⟨t2, st t2 a1, b1⟩
  · obtain ⟨k1, k2, k3⟩ := vx_keep h0 e1 hS hAX hf hL hF
    obtain ⟨t2, a1, b1⟩ := kx E ce q u t T'.heap (locs ++ L) e1.symm (by rw [← e2]; exact X'.warmed.alike) hp hb k1 k2 k3 (by rw [e1]; exact hce) hcv hcl T' rfl X'
    exact ⟨t2, st.trans a1, b1⟩
/-- caught by the row x of this method's table; the rows ahead don't take it -/
theorem vx_catch {own name : String} {E : String} {ce : Cell} {q : Addr} (hown : s.vm.findClass own = some m.cls) (pre : List ExceptionTableEntry) (x : ExceptionTableEntry) (suf : List ExceptionTableEntry) (hsplit : c.exceptionTable.toList = pre ++ x :: suf)
    (hpass : ∀ z ∈ pre, covers z pc = false ∨ (z.catchType ≠ 0 ∧ ∃ nm : String, (Cond.classLink own z.catchType nm).before args s = true ∧ va_Nc E nm s)) (hx : covers x pc = true) (h0 : x.catchType ≠ 0)
    (hlink : (Cond.classLink own x.catchType name).before args s = true) (hcast : (Cond.castable E name).before args s = true) (hcell : H[q]? = some ce) (hv : ce.vm = .none) (hcl : s.vm.findClass E = some ce.cls)
    (kk : W p l e R s m args below meth c H locs cells slots Q (F0 m x.handlerPc ls [.ref q])) : vx_W p l e R s m args below meth c H locs cells slots Q (F0 m pc ls rest) q := by
  intro T hT X
  have hpl : e.platform.magicAccessors = ({} : Platform).magicAccessors := by rw [X.admits.platform]
  obtain ⟨c3, c4, hc3, hc4, hasg⟩ := Cond.castable_spec hcast
  cases Option.some.inj (hc3.symm.trans hcl)
  obtain ⟨c5, hc5, hcl5⟩ := Cond.classLink_spec hown hlink e.platform hpl
  cases Option.some.inj (hc4.symm.trans hc5)
  obtain ⟨vm', X', st⟩ := fx_caught X q (g := F0 m pc ls rest) rfl (by rw [hT]; exact hcell) (by rw [hv]; rfl) (by obtain ⟨k9, h9, -⟩ := Vm.findClass_spec hcl; exact ⟨k9, h9⟩) pre x suf hsplit
    (fun z hz => by
      rcases hpass z hz with h | ⟨hz0, nm, hl1, hn1⟩
      · exact Or.inl h
      · obtain ⟨c6, hc6, hcl6⟩ := Cond.classLink_spec hown hl1 e.platform hpl
        obtain ⟨a8, b8, h1, h2, h3⟩ := hn1
        cases Option.some.inj (h1.symm.trans hcl)
        cases Option.some.inj (h2.symm.trans hc6)
        exact Or.inr ⟨hz0, _, hcl6, h3⟩) hx h0 hcl5 hasg
  obtain ⟨t, a1, b1⟩ := kk (T.setVm vm') hT X'
  exact ⟨t, st.trans a1, b1⟩
end Rows
section Ends
variable {p : Program} {l : Launch} {e : Env} {R : Room} {s : State} {m : MethodId} {args : Array Value} {below : List Frame} {meth : Method} {c : Code} {H : Heap} {locs : List Loc} {cells slots : Nat} {Q : State → Prop}
variable {mc ms : Nat} {free : Addr → Prop} {A0 A1 : Nat → Prop} {H0 : Heap} {a : Array Value} {ls : Array Slot} {st0 rest : List Value}
variable {Qc : Array Value → State → Outcome → State → Prop} {XC : String → State → State → Prop}
/-- what a body that may throw owes at its end -/
def vx_MQ (below : List Frame) (Qc : Array Value → State → Outcome → State → Prop) (XC : String → State → State → Prop) (a : Array Value) (s : State) (mc ms : Nat) (free : Addr → Prop) : State → Prop := fun t =>
  ∃ o, t.status = .running ∧ Ended t below o ∧ vx_Q Qc XC mc ms free a s o t
theorem vx_ret {g : JFrame} {mc ms : Nat} (k : W p l e R s m args below meth c H locs cells slots (MQ below Qc args s mc ms free) g) : W p l e R s m args below meth c H locs cells slots (vx_MQ below Qc XC args s mc ms free) g := by
  intro T hT X
  obtain ⟨t, a1, o, b1, b2, b3, b4⟩ := k T hT X
  exact ⟨t, a1, o, b1, b2, Or.inl ⟨b3, b4⟩⟩
/-- not caught here: it goes on to the caller -/
theorem vx_widen {g : JFrame} {q : Addr} {k n : Nat} (h1 : cells ≤ k) (h2 : slots ≤ n) (kk : vx_W p l e R s m args below meth c H locs k n Q g q) : vx_W p l e R s m args below meth c H locs cells slots Q g q := fun T hT X => kk T hT (stand_widen X h1 h2)
theorem vx_out {pc : Nat} {E : String} {ce : Cell} {q : Addr} {mc ms : Nat} (hout : ∀ x ∈ c.exceptionTable.toList, covers x pc = false) (hlocks : meth.locks = false) (hcell : H[q]? = some ce) (hv : ce.vm = .none) (hcl : s.vm.findClass E = some ce.cls)
    (hx : ∀ t : State, t.heap = H → s.vm.Alike t.vm → XC E s t) (hf : ∀ z ∈ locs, free z.base) (hc : cells ≤ mc) (hs : slots ≤ ms) :
    vx_W p l e R s m args below meth c H locs cells slots (vx_MQ below Qc XC args s mc ms free) (F0 m pc ls rest) q := by
  intro T hT X
  obtain ⟨st1, hrun, hend, hW, hsm⟩ := X.leaveThrown q (g := F0 m pc ls rest) rfl rfl rfl hout hlocks
  have hcell9 : (T.setFrames (.throwing q :: below)).heap[q]? = some ce := by
    show T.heap[q]? = some ce
    rw [hT]; exact hcell
  exact ⟨_, st1, .threw q, hrun, hend, Or.inr ⟨q, rfl, E, ce, locs, hx _ hT hW.alike, hcell9, hv, hcl, hW, hsm.mono hc hs, hf⟩⟩
theorem vx_frame {U : State} {k n : Nat} (h : s.sameButNew ({ U with vm := s.vm } : State) locs k n) : s.heap.size ≤ U.heap.size ∧ ∀ q : Nat, q < s.heap.size → (∀ z ∈ locs, z.base ≠ q) → U.heap[q]? = s.heap[q]? := by
  obtain ⟨-, h2, -, -, -, h6⟩ := h
  refine ⟨h2, fun q hq hz => ?_⟩
  obtain ⟨c9, e1, e2, e3, e4⟩ := h6 q _ (Array.getElem?_eq_getElem hq)
  have hs : c9.slots = (s.heap[q]).slots := Array.ext_getElem? fun i => e4 i fun hm => hz _ hm rfl
  have h9 : c9 = s.heap[q] := by
    rw [hs] at e2
    exact e2
  have e5 : U.heap[q]? = some c9 := e1
  rw [e5, h9, Array.getElem?_eq_getElem hq]
/-- the words of a throw but the four that speak of the heap -/
def vx_no (w : Cond) : Bool := decide (w ≠ .isRef (.static Bundle.tN "UNASSIGNED_STACK" Bundle.steD)) && decide (w ≠ .isRef (.static Bundle.tN "SUPPRESSED_SENTINEL" Bundle.listD)) && decide (w ≠ .laysStatic Bundle.tN "UNASSIGNED_STACK" Bundle.steD) && decide (w ≠ .laysStatic Bundle.tN "SUPPRESSED_SENTINEL" Bundle.listD)
def vx_at0 (own : String) (ic : Nat) (X : String) (names : List String) : List Cond := (Bundle.ownAtoms0 own ic X names).filter vx_no
def vx_atS (own : String) (ic : Nat) (X : String) (names : List String) : List Cond := (Bundle.ownAtoms own ic X names).filter vx_no
/-- a word that the tables alone decide, or a good one -/
def vx_ot (w : Cond) : Bool := w.onTables || goodWord w
theorem vx_ot_at {args a' : Array Value} {s U : State} {w : Cond} (hW : s.WarmedH U.vm) (hvm : s.vm = U.vm) (hg : vx_ot w = true) (h : w.before args s = true) : w.before a' U = true := by
  simp only [vx_ot, Bool.or_eq_true] at hg
  rcases hg with hg | hg
  · exact va_tabs hg hvm h
  · exact word_at hW (good_of_word hg) h
/-- a list's words: the good ones out of the method's own list, the others by premises of their own -/
theorem vx_hat {args : Array Value} {s : State} {L B : List Cond} (h1 : ∀ w ∈ L.filter goodWord, w.before args s = true) (h2 : ∀ w ∈ L.filter (fun w => !goodWord w), w ∈ B) (h3 : ∀ w ∈ B, w.before args s = true) : ∀ w ∈ L, w.before args s = true := by
  intro w hw
  by_cases g : goodWord w = true
  · exact h1 w (List.mem_filter.mpr ⟨hw, g⟩)
  · refine h3 w (h2 w (List.mem_filter.mpr ⟨hw, ?_⟩))
    show (!goodWord w) = true
    cases hgw : goodWord w
    · rfl
    · exact absurd hgw g
theorem vx_c {args : Array Value} {s : State} {w : Cond} {B : List Cond} (h : w.before args s = true) (t : ∀ w ∈ B, w.before args s = true) : ∀ w' ∈ w :: B, w'.before args s = true := fun w' h' => (List.mem_cons.mp h').elim (fun e => by rw [e]; exact h) (t w')
theorem vx_n {args : Array Value} {s : State} : ∀ w ∈ ([] : List Cond), w.before args s = true := fun _ h => nomatch h
theorem vx_own {args : Array Value} {s : State} {L : List Cond} (h1 : ∀ w ∈ L.filter vx_no, w.before args s = true)
    (hU : (Cond.isRef (.static Bundle.tN "UNASSIGNED_STACK" Bundle.steD)).before args s = true) (hN : (Cond.isRef (.static Bundle.tN "SUPPRESSED_SENTINEL" Bundle.listD)).before args s = true)
    (lU : (Cond.laysStatic Bundle.tN "UNASSIGNED_STACK" Bundle.steD).before args s = true) (lN : (Cond.laysStatic Bundle.tN "SUPPRESSED_SENTINEL" Bundle.listD).before args s = true) : ∀ w ∈ L, w.before args s = true := by
  intro w hw
  by_cases e1 : w = .isRef (.static Bundle.tN "UNASSIGNED_STACK" Bundle.steD)
  · rw [e1]; exact hU
  · by_cases e2 : w = .isRef (.static Bundle.tN "SUPPRESSED_SENTINEL" Bundle.listD)
    · rw [e2]; exact hN
    · by_cases e3 : w = .laysStatic Bundle.tN "UNASSIGNED_STACK" Bundle.steD
      · rw [e3]; exact lU
      · by_cases e4 : w = .laysStatic Bundle.tN "SUPPRESSED_SENTINEL" Bundle.listD
        · rw [e4]; exact lN
        · exact h1 w (List.mem_filter.mpr ⟨hw, by unfold vx_no; rw [decide_eq_true e1, decide_eq_true e2, decide_eq_true e3, decide_eq_true e4]; rfl⟩)
/-- where a static field lies, its class's statics cell in H -/
def vx_L (C n d : String) (A : Nat → Prop) (U : State) (H : Heap) : Prop := ∃ (c : ClassId) (k : Class) (i : Nat) (f : Field) (a : Nat) (cell : Cell), U.vm.findClass C = some c ∧ U.fieldFound? C n d = some (c, k, i, f) ∧ f.isStatic = true ∧ k.statics = some a ∧ H[a]? = some cell ∧ cell.vm.isStatics = true ∧ cell.cls = c ∧ f.slot < cell.slots.size ∧ k.staticTypes[f.slot]? = some f.type ∧ ¬ A a
theorem vx_L.moved {C n d : String} {A : Nat → Prop} {u U : State} {H : Heap} (hvm : u.vm.Alike U.vm) (h : vx_L C n d A u H) : vx_L C n d A U H := by
  obtain ⟨c, k, i, f, a, cell, h1, h2, h3, h4, h5, h6, h7, h8, h9, h10⟩ := h
  obtain ⟨k', hi', he⟩ := State.fieldFound?_setVm hvm h2
  exact ⟨c, k', i, f, a, cell, by rw [hvm.findClass]; exact h1, hi', h3, by rw [he]; exact h4, h5, h6, h7, h8, by rw [he]; exact h9, h10⟩
theorem vx_L.kept {C n d : String} {A : Nat → Prop} {U : State} {H H1 : Heap} (h : vx_L C n d A U H) (hq : ∀ a : Nat, a < H.size → ¬ A a → H1[a]? = H[a]?) : vx_L C n d A U H1 := by
  obtain ⟨c, k, i, f, a, cell, h1, h2, h3, h4, h5, h6, h7, h8, h9, h10⟩ := h
  exact ⟨c, k, i, f, a, cell, h1, h2, h3, h4, by rw [hq a (Array.getElem?_eq_some_iff.mp h5).1 h10]; exact h5, h6, h7, h8, h9, h10⟩
theorem vx_L.narrow {C n d : String} {A B : Nat → Prop} {U : State} {H : Heap} (h : vx_L C n d A U H) (hAB : ∀ q, B q → A q) : vx_L C n d B U H := by
  obtain ⟨c, k, i, f, a, cell, h1, h2, h3, h4, h5, h6, h7, h8, h9, h10⟩ := h
  exact ⟨c, k, i, f, a, cell, h1, h2, h3, h4, h5, h6, h7, h8, h9, fun z => h10 (hAB _ z)⟩
theorem vx_L.word {C n d : String} {A : Nat → Prop} {s : State} {args : Array Value} (h : vx_L C n d A s s.heap) : (Cond.laysStatic C n d).before args s = true := by
  obtain ⟨c, k, i, f, a, cell, h1, h2, h3, h4, h5, h6, h7, h8, h9, -⟩ := h
  show (Cond.laysStatic C n d).holds args s none s [] = true
  exact Cond.laysStatic_of h1 h2 h3 h4 h5 h6 h7 h8 h9
/-- .. and what it holds: null or some reference -/
def vx_Zq (C n d : String) (A : Nat → Prop) (U : State) (H : Heap) : Prop := va_Zq C n d A U H ∧ vx_L C n d A U H
theorem vx_Zq.moved {C n d : String} {A : Nat → Prop} {u U : State} {H : Heap} (hvm : u.vm.Alike U.vm) (h : vx_Zq C n d A u H) : vx_Zq C n d A U H := ⟨va_Zq.moved hvm h.1, vx_L.moved hvm h.2⟩
theorem vx_Zq.kept {C n d : String} {A : Nat → Prop} {U : State} {H H1 : Heap} (h : vx_Zq C n d A U H) (hq : ∀ a : Nat, a < H.size → ¬ A a → H1[a]? = H[a]?) : vx_Zq C n d A U H1 := ⟨va_Zq.kept h.1 hq, vx_L.kept h.2 hq⟩
theorem vx_Zq.narrow {C n d : String} {A B : Nat → Prop} {U : State} {H : Heap} (h : vx_Zq C n d A U H) (hAB : ∀ q, B q → A q) : vx_Zq C n d B U H := ⟨va_Zq.narrow h.1 hAB, vx_L.narrow h.2 hAB⟩
theorem vx_Zqof {args : Array Value} {s : State} {C n d : String} {A : Nat → Prop} (hl : (Cond.laysStatic C n d).before args s = true) (hini : (Cond.initialized C).before args s = true) (h : (Cond.isRef (.static C n d)).before args s = true) (hA : ∀ a : Nat, a < s.heap.size → ¬ A a) : vx_Zq C n d A s s.heap := by
  refine ⟨va_Zqof hl hini h hA, ?_⟩
  obtain ⟨c, k, i, f, a, cell, h1, h2, h3, h4, h5, h6, h7, h8, h9⟩ := Cond.laysStatic_spec hl
  exact ⟨c, k, i, f, a, cell, h1, h2, h3, h4, h5, h6, h7, h8, h9, hA a (Array.getElem?_eq_some_iff.mp h5).1⟩
theorem vx_isRef {C n d : String} {v : Value} {A : Nat → Prop} {s : State} {args : Array Value} (h : va_Z C n d v A s s.heap) (hv : v.isRef = true) : (Cond.isRef (.static C n d)).before args s = true := by
  obtain ⟨cf, kf, fi, f, a, cell, h1, h2, h3, h4, h5, h6, h7, -⟩ := h
  have he : (Term.static C n d).eval args s none [] s = some v := by
    simp [Term.eval, State.fieldNamed?, h1, h2, h4, h5, h6, h7]
  simp only [Cond.before, Cond.holds, Cond.value, he]
  cases v <;> simp_all [Value.isRef]
theorem vx_isRefq {C n d : String} {A : Nat → Prop} {s : State} {args : Array Value} (h : va_Zq C n d A s s.heap) : (Cond.isRef (.static C n d)).before args s = true := by
  rcases h with h | ⟨t, h⟩
  · exact vx_isRef h rfl
  · exact vx_isRef h rfl
/-- the same frame, seen from here: as if the method were called anew in this heap -/
theorem vx_rebase {T : State} (X : Stand p l e R s m args below meth c T locs cells slots) {R' : Room} (hf : R'.frames ≤ R.frames) (hl : R'.locals ≤ R.locals) (hc : cells + R'.cells ≤ R.cells) (hs : slots + R'.slots ≤ R.slots) :
    Stand p l e R' ((T.setVm s.vm).setFrames (.invoking m args :: below)) m args below meth c T [] 0 0 := by
  have htop : (T.setVm s.vm).topJava?.isSome := X.here.top
  have hF : ((T.setVm s.vm).setFrames (.invoking m args :: below)).frames = .invoking m args :: below := State.frames_setFrames _ (State.cur_lt_of_top htop)
  obtain ⟨g₀, hg0⟩ := Option.isSome_iff_exists.mp htop
  obtain ⟨r, hr⟩ := State.topJava?_eq_some.mp hg0
  have hl9 : e.platform.stackLimits (T.setVm s.vm).me = e.platform.stackLimits s.me := X.limits
  have hb9 : (T.setVm s.vm).me.stackBytes = s.me.stackBytes := X.bytes
  refine ⟨X.admits, X.cas, X.clock, hF, ?_, X.hears, X.method, X.code, X.here, X.tail, X.warmed, ?_, ?_, ?_⟩
  · have h := X.room
    have hU : ((T.setVm s.vm).setFrames (.invoking m args :: below)).localsInUse = s.localsInUse := by
      rw [State.localsInUse_invoking hF (meth := meth) (c := c) X.method X.code, State.localsInUse_invoking X.frames X.method X.code]
    simp only [State.hasRoom, Bool.and_eq_true, decide_eq_true_eq] at h ⊢
    obtain ⟨⟨⟨⟨h1, h2, h3, h4, h5, h6⟩, h7⟩, h8⟩, h9⟩ := h
    rw [X.frames, List.length_cons] at h2 h3
    have q1 := X.heapSize
    have q2 := X.used
    simp only [hF, hU, List.length_cons, State.stackLimits_setFrames, State.stackBytes_setFrames, hl9, hb9]
    refine ⟨⟨⟨⟨by omega, by omega, by omega, by omega, by omega, h6⟩, ?_⟩, ?_⟩, X.book⟩
    · show T.heap.size + R'.cells ≤ e.platform.maxCells
      omega
    · show T.slotsUsed + R'.slots ≤ e.platform.maxSlots
      omega
  · rw [State.stackLimits_setFrames]; rfl
  · rw [State.stackBytes_setFrames]; rfl
  · refine ⟨?_, Nat.le_refl _, Nat.le_refl _, ?_, ?_, fun a c9 h9 => ⟨c9, h9, rfl, rfl, fun _ _ => rfl⟩⟩
    · obtain ⟨t, ht, -⟩ := State.frames_cons hr
      show T.setVm s.vm = { ((T.setVm s.vm).setFrames (.invoking m args :: below)).setFrames (T.setVm s.vm).frames with heap := T.heap, slotsUsed := T.slotsUsed }
      rw [State.setFrames_setFrames, State.setFrames_self ht]
      rfl
    · show T.slotsUsed = T.slotsUsed + ((T.heap.toList.drop T.heap.size).map (·.slots.size)).sum
      rw [List.drop_eq_nil_of_le (Nat.le_of_eq Array.length_toList)]
      rfl
    · show ((T.heap.toList.drop T.heap.size).map (·.slots.size)).sum ≤ 0
      rw [List.drop_eq_nil_of_le (Nat.le_of_eq Array.length_toList)]
      exact Nat.le_refl _
/-- 'throw new E()': new; dup; invokespecial; athrow -/
theorem vx_throw0 {cc : ByteArray} {pc : Nat} (hexec : p.tables.exec = Jvm.exec) (hb : c.code = cc) (hl : l.stackTraces = false) {own cls : String} {names : List String} {ik ic mc ms : Nat} {A : Nat → Prop}
    (hown : s.vm.findClass own = some m.cls) (hcls : Bundle.fit cls = true) (hnames : ∀ n ∈ names, Bundle.fit n = true)
    (hk : (Cond.classLink own ik cls).before args s = true) (hini : (Cond.initialized cls).before args s = true) (hat : ∀ w ∈ vx_at0 own ic cls names, w.before args s = true)
    (hgood : ∀ w ∈ Cond.classLink own ik cls :: Cond.initialized cls :: vx_at0 own ic cls names, vx_ot w = true)
    (hU : vx_Zq Bundle.tN "UNASSIGNED_STACK" Bundle.steD A s s.heap) (hN : vx_Zq Bundle.tN "SUPPRESSED_SENTINEL" Bundle.listD A s s.heap) (hS : va_S A s.heap H locs) (hsize : ls.size = c.maxLocals)
    (d0 : decode cc pc = .ok (.new ik, 3)) (d3 : decode cc (pc + 3) = .ok (.dup, 1)) (d4 : decode cc (pc + 4) = .ok (.invokespecial ic, 3)) (d7 : decode cc (pc + 7) = .ok (.athrow, 1))
    (hout : ∀ x ∈ c.exceptionTable.toList, covers x (pc + 7) = false)
    (hRframes : names.length + 3 < R.frames) (hRlocals : (rest.map fun v => v.category).sum + (13 * (names.length + 1) + 42) ≤ R.locals) (hRcells : cells + 1 ≤ R.cells) (hRslots : slots + 6 ≤ R.slots) (hlocks : meth.locks = false)
    (hx : ∀ t : State, s.vm.Alike t.vm → H.size ≤ t.heap.size → (∀ q : Nat, q < H.size → t.heap[q]? = H[q]?) → XC cls s t)
    (hf : ∀ z ∈ locs, free z.base) (hc : cells + 1 ≤ mc) (hs : slots + 6 ≤ ms) :
    W p l e R s m args below meth c H locs cells slots (vx_MQ below Qc XC args s mc ms free) (F0 m pc ls rest) := by
  intro T hT X
  have htr : e.platform.stackTraces = false := (show e.platform.stackTraces = l.stackTraces by rw [X.admits.platform]).trans hl
  have Y := vx_rebase X (R' := { frames := R.frames, locals := R.locals, cells := 1, slots := 6 }) (Nat.le_refl _) (Nat.le_refl _) hRcells hRslots
  obtain ⟨s', hA⟩ : ∃ z, z = (T.setVm s.vm).setFrames (.invoking m args :: below) := ⟨_, rfl⟩
  rw [← hA] at Y
  have hvm : s'.vm = s.vm := by rw [hA]; rfl
  have hhp : s'.heap = H := by rw [hA]; exact hT
  have hW0 : s.WarmedH s'.vm := by rw [hvm]; exact State.WarmedH.refl s
  have hat' : ∀ w ∈ vx_at0 own ic cls names, w.before args s' = true := fun w hw => vx_ot_at hW0 hvm.symm (hgood w (List.mem_cons_of_mem _ (List.mem_cons_of_mem _ hw))) (hat w hw)
  have hk' : (Cond.classLink own ik cls).before args s' = true := vx_ot_at hW0 hvm.symm (hgood _ List.mem_cons_self) hk
  have hini' : (Cond.initialized cls).before args s' = true := vx_ot_at hW0 hvm.symm (hgood _ (List.mem_cons_of_mem _ List.mem_cons_self)) hini
  have hU' : vx_Zq Bundle.tN "UNASSIGNED_STACK" Bundle.steD A s' s'.heap := by rw [hhp]; exact vx_Zq.moved hW0.alike (hU.kept hS.2.1)
  have hN' : vx_Zq Bundle.tN "SUPPRESSED_SENTINEL" Bundle.listD A s' s'.heap := by rw [hhp]; exact vx_Zq.moved hW0.alike (hN.kept hS.2.1)
  have h : ∀ w ∈ Bundle.ownAtoms0 own ic cls names, w.before args s' = true := vx_own hat' (vx_isRefq hU'.1) (vx_isRefq hN'.1) hU'.2.word hN'.2.word
  have hown' : s'.vm.findClass own = some m.cls := by rw [hvm]; exact hown
  have hins : (Cond.instantiable cls 6).before args s' = true := h _ (by simp [Bundle.ownAtoms0])
  obtain ⟨vm₁, cX, kX, hfX, hkX, -, -, X₁, st1⟩ := Y.newCold hexec (own := own) (C := cls) (index := ik) (n := 6) hown' hk' hins hini'
    (g := F0 m pc ls rest) rfl (by rw [hb]; exact d0) (Nat.le_refl _) (Nat.le_refl _)
  generalize hT1 : (T.setVm vm₁).pushCell { cls := cX, slots := kX.instanceTypes.map defaultValue, vm := .none } = T1 at X₁ st1
  have hcat : (Value.ref T.heap.size).category = 1 := rfl
  have hcellA : T1.heap[T.heap.size]? = some (freshCell cX kX) := by rw [← hT1]; exact State.heap_pushCell_size _ _
  have d3' : decode c.code (pc + 3) = .ok (.dup, 1) := by rw [hb]; exact d3
  obtain ⟨U, hsteps, hrun, hend, hW, hsame, ce, hce, hO⟩ := X₁.ctorThrow0 hexec htr (own := own) (cls := cls) (names := names) (ic := ic) hown' hcls hnames h (fun x hx => nomatch hx) hfX hkX hcellA (by rw [hhp, hT]; exact Nat.le_refl _)
    (g := { method := m, pc := pc + 4, locals := ls, stack := .ref T.heap.size :: .ref T.heap.size :: rest, locked := none }) rfl hsize rfl rfl (rest := rest) rfl
    (by rw [hb]; exact d4) (by rw [hb]; exact d7) hout hRframes (by simp only [List.map_cons, List.sum_cons, hcat]; omega) hlocks
  obtain ⟨f1, f2⟩ := vx_frame hsame
  rw [hhp] at f1 f2
  have hWs : s.WarmedH U.vm := State.WarmedH.trans hW0 hW
  have hcl : s.vm.findClass cls = some ce.cls := by
    have h9 := hO.cls
    rw [hvm] at h9
    exact h9
  have hall : s.sameButNew ({ U with vm := s.vm } : State) locs mc ms := by
    subst hA
    obtain ⟨e1, e2⟩ := hsame
    rw [State.setFrames_setFrames] at e1
    have h2 : (T.setVm s.vm).sameButNew ({ U with vm := s.vm } : State) [] (0 + 1) (0 + 6) := ⟨e1, e2⟩
    have h3 := X.same.trans h2
    rw [List.append_nil] at h3
    exact h3.mono hc hs
  refine ⟨U, ?_, .threw T.heap.size, hrun, hend, Or.inr ⟨T.heap.size, rfl, cls, ce, locs, hx U hWs.alike f1 (fun q hq => f2 q hq (fun z hz => nomatch hz)), hce, hO.vm, hcl, hWs, hall, hf⟩⟩
  refine st1 _ ?_
  show Steps p.tables e below (T1.setTop { method := m, pc := pc + 3, locals := ls, stack := .ref T.heap.size :: rest, locked := none }) _
  jvm_step X₁.here [X₁.here.top, hexec, d3', Value.category]
  exact hsteps
/-- 'throw new E("text")': new; dup; ldc; invokespecial; athrow -/
theorem vx_throwS {cc : ByteArray} {pc : Nat} (hexec : p.tables.exec = Jvm.exec) (hb : c.code = cc) (hl : l.stackTraces = false) {own cls text : String} {names : List String} {ik is ic mc ms sa : Nat} {A : Nat → Prop}
    (hown : s.vm.findClass own = some m.cls) (hcls : Bundle.fit cls = true) (hnames : ∀ n ∈ names, Bundle.fit n = true)
    (hk : (Cond.classLink own ik cls).before args s = true) (hini : (Cond.initialized cls).before args s = true) (hstr : vk_R own is text sa s) (hat : ∀ w ∈ vx_atS own ic cls names, w.before args s = true)
    (hgood : ∀ w ∈ Cond.classLink own ik cls :: Cond.initialized cls :: vx_atS own ic cls names, vx_ot w = true)
    (hU : vx_Zq Bundle.tN "UNASSIGNED_STACK" Bundle.steD A s s.heap) (hN : vx_Zq Bundle.tN "SUPPRESSED_SENTINEL" Bundle.listD A s s.heap) (hS : va_S A s.heap H locs) (hsize : ls.size = c.maxLocals)
    (d0 : decode cc pc = .ok (.new ik, 3)) (d3 : decode cc (pc + 3) = .ok (.dup, 1)) (d4 : decode cc (pc + 4) = .ok (.ldc is, 2)) (d6 : decode cc (pc + 6) = .ok (.invokespecial ic, 3)) (d9 : decode cc (pc + 9) = .ok (.athrow, 1))
    (hout : ∀ x ∈ c.exceptionTable.toList, covers x (pc + 9) = false)
    (hRframes : names.length + 3 < R.frames) (hRlocals : (rest.map fun v => v.category).sum + (13 * (names.length + 1) + 43) ≤ R.locals) (hRcells : cells + 1 ≤ R.cells) (hRslots : slots + 6 ≤ R.slots) (hlocks : meth.locks = false)
    (hx : ∀ t : State, s.vm.Alike t.vm → H.size ≤ t.heap.size → (∀ q : Nat, q < H.size → t.heap[q]? = H[q]?) → XC cls s t)
    (hf : ∀ z ∈ locs, free z.base) (hc : cells + 1 ≤ mc) (hs : slots + 6 ≤ ms) :
    W p l e R s m args below meth c H locs cells slots (vx_MQ below Qc XC args s mc ms free) (F0 m pc ls rest) := by
  intro T hT X
  have htr : e.platform.stackTraces = false := (show e.platform.stackTraces = l.stackTraces by rw [X.admits.platform]).trans hl
  have Y := vx_rebase X (R' := { frames := R.frames, locals := R.locals, cells := 1, slots := 6 }) (Nat.le_refl _) (Nat.le_refl _) hRcells hRslots
  obtain ⟨s', hA⟩ : ∃ z, z = (T.setVm s.vm).setFrames (.invoking m args :: below) := ⟨_, rfl⟩
  rw [← hA] at Y
  have hvm : s'.vm = s.vm := by rw [hA]; rfl
  have hhp : s'.heap = H := by rw [hA]; exact hT
  have hW0 : s.WarmedH s'.vm := by rw [hvm]; exact State.WarmedH.refl s
  have hat' : ∀ w ∈ vx_atS own ic cls names, w.before args s' = true := fun w hw => vx_ot_at hW0 hvm.symm (hgood w (List.mem_cons_of_mem _ (List.mem_cons_of_mem _ hw))) (hat w hw)
  have hk' : (Cond.classLink own ik cls).before args s' = true := vx_ot_at hW0 hvm.symm (hgood _ List.mem_cons_self) hk
  have hini' : (Cond.initialized cls).before args s' = true := vx_ot_at hW0 hvm.symm (hgood _ (List.mem_cons_of_mem _ List.mem_cons_self)) hini
  have hU' : vx_Zq Bundle.tN "UNASSIGNED_STACK" Bundle.steD A s' s'.heap := by rw [hhp]; exact vx_Zq.moved hW0.alike (hU.kept hS.2.1)
  have hN' : vx_Zq Bundle.tN "SUPPRESSED_SENTINEL" Bundle.listD A s' s'.heap := by rw [hhp]; exact vx_Zq.moved hW0.alike (hN.kept hS.2.1)
  have h : ∀ w ∈ Bundle.ownAtoms own ic cls names, w.before args s' = true := vx_own hat' (vx_isRefq hU'.1) (vx_isRefq hN'.1) hU'.2.word hN'.2.word
  have hown' : s'.vm.findClass own = some m.cls := by rw [hvm]; exact hown
  have hins : (Cond.instantiable cls 6).before args s' = true := h _ (by simp [Bundle.ownAtoms])
  obtain ⟨vm₁, cX, kX, hfX, hkX, -, -, X₁, st1⟩ := Y.newCold hexec (own := own) (C := cls) (index := ik) (n := 6) hown' hk' hins hini'
    (g := F0 m pc ls rest) rfl (by rw [hb]; exact d0) (Nat.le_refl _) (Nat.le_refl _)
  generalize hT1 : (T.setVm vm₁).pushCell { cls := cX, slots := kX.instanceTypes.map defaultValue, vm := .none } = T1 at X₁ st1
  have hcat : (Value.ref T.heap.size).category = 1 := rfl
  have hcellA : T1.heap[T.heap.size]? = some (freshCell cX kX) := by rw [← hT1]; exact State.heap_pushCell_size _ _
  have d3' : decode c.code (pc + 3) = .ok (.dup, 1) := by rw [hb]; exact d3
  have d4' : decode c.code (pc + 4) = .ok (.ldc is, 2) := by rw [hb]; exact d4
  have hstr' : vk_R own is text sa s' := vk_R.warm hW0 hstr
  obtain ⟨U, hsteps, hrun, hend, hW, hsame, ce, hce, hO⟩ := X₁.ctorThrowS hexec htr (own := own) (cls := cls) (names := names) (ic := ic) hown' hcls hnames h (fun x hx => nomatch hx) hfX hkX hcellA (by rw [hhp, hT]; exact Nat.le_refl _) (msg := .ref sa) rfl
    (g := { method := m, pc := pc + 6, locals := ls, stack := .ref sa :: .ref T.heap.size :: .ref T.heap.size :: rest, locked := none }) rfl hsize rfl rfl (rest := rest) rfl
    (by rw [hb]; exact d6) (by rw [hb]; exact d9) hout hRframes (by simp only [List.map_cons, List.sum_cons, hcat]; omega) hlocks
  obtain ⟨f1, f2⟩ := vx_frame hsame
  rw [hhp] at f1 f2
  have hWs : s.WarmedH U.vm := State.WarmedH.trans hW0 hW
  have hcl : s.vm.findClass cls = some ce.cls := by
    have h9 := hO.cls
    rw [hvm] at h9
    exact h9
  have hall : s.sameButNew ({ U with vm := s.vm } : State) locs mc ms := by
    subst hA
    obtain ⟨e1, e2⟩ := hsame
    rw [State.setFrames_setFrames] at e1
    have h2 : (T.setVm s.vm).sameButNew ({ U with vm := s.vm } : State) [] (0 + 1) (0 + 6) := ⟨e1, e2⟩
    have h3 := X.same.trans h2
    rw [List.append_nil] at h3
    exact h3.mono hc hs
  refine ⟨U, ?_, .threw T.heap.size, hrun, hend, Or.inr ⟨T.heap.size, rfl, cls, ce, locs, hx U hWs.alike f1 (fun q hq => f2 q hq (fun z hz => nomatch hz)), hce, hO.vm, hcl, hWs, hall, hf⟩⟩
  refine st1 _ ?_
  show Steps p.tables e below (T1.setTop { method := m, pc := pc + 3, locals := ls, stack := .ref T.heap.size :: rest, locked := none }) _
  jvm_step X₁.here [X₁.here.top, hexec, d3', Value.category]
  exact X₁.ldcString hexec (own := own) (text := text) (index := is) (a := sa) hown' hstr'.1 hstr'.2
    (g := { method := m, pc := pc + 4, locals := ls, stack := .ref T.heap.size :: .ref T.heap.size :: rest, locked := none }) rfl d4' _ hsteps
/-- 'throw new E("text")', the text by a wide index -/
theorem vx_throwSW {cc : ByteArray} {pc : Nat} (hexec : p.tables.exec = Jvm.exec) (hb : c.code = cc) (hl : l.stackTraces = false) {own cls text : String} {names : List String} {ik is ic mc ms sa : Nat} {A : Nat → Prop}
    (hown : s.vm.findClass own = some m.cls) (hcls : Bundle.fit cls = true) (hnames : ∀ n ∈ names, Bundle.fit n = true)
    (hk : (Cond.classLink own ik cls).before args s = true) (hini : (Cond.initialized cls).before args s = true) (hstr : vk_R own is text sa s) (hat : ∀ w ∈ vx_atS own ic cls names, w.before args s = true)
    (hgood : ∀ w ∈ Cond.classLink own ik cls :: Cond.initialized cls :: vx_atS own ic cls names, vx_ot w = true)
    (hU : vx_Zq Bundle.tN "UNASSIGNED_STACK" Bundle.steD A s s.heap) (hN : vx_Zq Bundle.tN "SUPPRESSED_SENTINEL" Bundle.listD A s s.heap) (hS : va_S A s.heap H locs) (hsize : ls.size = c.maxLocals)
    (d0 : decode cc pc = .ok (.new ik, 3)) (d3 : decode cc (pc + 3) = .ok (.dup, 1)) (d4 : decode cc (pc + 4) = .ok (.ldc_w is, 3)) (d7 : decode cc (pc + 7) = .ok (.invokespecial ic, 3)) (d10 : decode cc (pc + 10) = .ok (.athrow, 1))
    (hout : ∀ x ∈ c.exceptionTable.toList, covers x (pc + 10) = false)
    (hRframes : names.length + 3 < R.frames) (hRlocals : (rest.map fun v => v.category).sum + (13 * (names.length + 1) + 43) ≤ R.locals) (hRcells : cells + 1 ≤ R.cells) (hRslots : slots + 6 ≤ R.slots) (hlocks : meth.locks = false)
    (hx : ∀ t : State, s.vm.Alike t.vm → H.size ≤ t.heap.size → (∀ q : Nat, q < H.size → t.heap[q]? = H[q]?) → XC cls s t)
    (hf : ∀ z ∈ locs, free z.base) (hc : cells + 1 ≤ mc) (hs : slots + 6 ≤ ms) :
    W p l e R s m args below meth c H locs cells slots (vx_MQ below Qc XC args s mc ms free) (F0 m pc ls rest) := by
  intro T hT X
  have htr : e.platform.stackTraces = false := (show e.platform.stackTraces = l.stackTraces by rw [X.admits.platform]).trans hl
  have Y := vx_rebase X (R' := { frames := R.frames, locals := R.locals, cells := 1, slots := 6 }) (Nat.le_refl _) (Nat.le_refl _) hRcells hRslots
  obtain ⟨s', hA⟩ : ∃ z, z = (T.setVm s.vm).setFrames (.invoking m args :: below) := ⟨_, rfl⟩
  rw [← hA] at Y
  have hvm : s'.vm = s.vm := by rw [hA]; rfl
  have hhp : s'.heap = H := by rw [hA]; exact hT
  have hW0 : s.WarmedH s'.vm := by rw [hvm]; exact State.WarmedH.refl s
  have hat' : ∀ w ∈ vx_atS own ic cls names, w.before args s' = true := fun w hw => vx_ot_at hW0 hvm.symm (hgood w (List.mem_cons_of_mem _ (List.mem_cons_of_mem _ hw))) (hat w hw)
  have hk' : (Cond.classLink own ik cls).before args s' = true := vx_ot_at hW0 hvm.symm (hgood _ List.mem_cons_self) hk
  have hini' : (Cond.initialized cls).before args s' = true := vx_ot_at hW0 hvm.symm (hgood _ (List.mem_cons_of_mem _ List.mem_cons_self)) hini
  have hU' : vx_Zq Bundle.tN "UNASSIGNED_STACK" Bundle.steD A s' s'.heap := by rw [hhp]; exact vx_Zq.moved hW0.alike (hU.kept hS.2.1)
  have hN' : vx_Zq Bundle.tN "SUPPRESSED_SENTINEL" Bundle.listD A s' s'.heap := by rw [hhp]; exact vx_Zq.moved hW0.alike (hN.kept hS.2.1)
  have h : ∀ w ∈ Bundle.ownAtoms own ic cls names, w.before args s' = true := vx_own hat' (vx_isRefq hU'.1) (vx_isRefq hN'.1) hU'.2.word hN'.2.word
  have hown' : s'.vm.findClass own = some m.cls := by rw [hvm]; exact hown
  have hins : (Cond.instantiable cls 6).before args s' = true := h _ (by simp [Bundle.ownAtoms])
  obtain ⟨vm₁, cX, kX, hfX, hkX, -, -, X₁, st1⟩ := Y.newCold hexec (own := own) (C := cls) (index := ik) (n := 6) hown' hk' hins hini'
    (g := F0 m pc ls rest) rfl (by rw [hb]; exact d0) (Nat.le_refl _) (Nat.le_refl _)
  generalize hT1 : (T.setVm vm₁).pushCell { cls := cX, slots := kX.instanceTypes.map defaultValue, vm := .none } = T1 at X₁ st1
  have hcat : (Value.ref T.heap.size).category = 1 := rfl
  have hcellA : T1.heap[T.heap.size]? = some (freshCell cX kX) := by rw [← hT1]; exact State.heap_pushCell_size _ _
  have d3' : decode c.code (pc + 3) = .ok (.dup, 1) := by rw [hb]; exact d3
  have d4' : decode c.code (pc + 4) = .ok (.ldc_w is, 3) := by rw [hb]; exact d4
  have hstr' : vk_R own is text sa s' := vk_R.warm hW0 hstr
  obtain ⟨U, hsteps, hrun, hend, hW, hsame, ce, hce, hO⟩ := X₁.ctorThrowS hexec htr (own := own) (cls := cls) (names := names) (ic := ic) hown' hcls hnames h (fun x hx => nomatch hx) hfX hkX hcellA (by rw [hhp, hT]; exact Nat.le_refl _) (msg := .ref sa) rfl
    (g := { method := m, pc := pc + 7, locals := ls, stack := .ref sa :: .ref T.heap.size :: .ref T.heap.size :: rest, locked := none }) rfl hsize rfl rfl (rest := rest) rfl
    (by rw [hb]; exact d7) (by rw [hb]; exact d10) hout hRframes (by simp only [List.map_cons, List.sum_cons, hcat]; omega) hlocks
  obtain ⟨f1, f2⟩ := vx_frame hsame
  rw [hhp] at f1 f2
  have hWs : s.WarmedH U.vm := State.WarmedH.trans hW0 hW
  have hcl : s.vm.findClass cls = some ce.cls := by
    have h9 := hO.cls
    rw [hvm] at h9
    exact h9
  have hall : s.sameButNew ({ U with vm := s.vm } : State) locs mc ms := by
    subst hA
    obtain ⟨e1, e2⟩ := hsame
    rw [State.setFrames_setFrames] at e1
    have h2 : (T.setVm s.vm).sameButNew ({ U with vm := s.vm } : State) [] (0 + 1) (0 + 6) := ⟨e1, e2⟩
    have h3 := X.same.trans h2
    rw [List.append_nil] at h3
    exact h3.mono hc hs
  refine ⟨U, ?_, .threw T.heap.size, hrun, hend, Or.inr ⟨T.heap.size, rfl, cls, ce, locs, hx U hWs.alike f1 (fun q hq => f2 q hq (fun z hz => nomatch hz)), hce, hO.vm, hcl, hWs, hall, hf⟩⟩
  refine st1 _ ?_
  show Steps p.tables e below (T1.setTop { method := m, pc := pc + 3, locals := ls, stack := .ref T.heap.size :: rest, locked := none }) _
  jvm_step X₁.here [X₁.here.top, hexec, d3', Value.category]
  exact X₁.ldcStringW hexec (own := own) (text := text) (index := is) (a := sa) hown' hstr'.1 hstr'.2
    (g := { method := m, pc := pc + 4, locals := ls, stack := .ref T.heap.size :: .ref T.heap.size :: rest, locked := none }) rfl d4' _ hsteps
end Ends
section Bodies
variable {l : Launch}
theorem vx_ofW {y : MethodName} {ws ws' : List Cond} {rm : Room} {Pc : Array Value → State → Prop} {Qc : Array Value → State → Outcome → State → Prop} {XC : String → State → State → Prop} {mc ms : Nat} {free : Addr → Prop} {cc : ByteArray} {maxL : Nat} {ret : Option FieldType}
    (hy : plainName y.cls = true) (hw : ws = Cond.code y cc maxL ret :: ws')
    (body : ∀ p e s m args below meth c s₁, BodyLoose p l y (headSpec ws rm) cc maxL ret e s m args below meth c s₁ → c.maxLocals = maxL → (∀ x ∈ c.exceptionTable.toList, False) → Pc args s →
      W p l e (headSpec ws rm).room s m args below meth c s.heap [] 0 0 (vx_MQ below Qc XC args s mc ms free) (entryFrame m args maxL)) : vx_Met l y ws rm Pc Qc XC mc ms free := by
  refine MetFree.of_bodyS (code := cc) (maxLocals := maxL) (ret := ret) hy ?_ ?_
  · intro args s m h hn
    obtain ⟨meth, c, h1, h2, h3, h4, h5, h6, -, -⟩ := Cond.code_spec hn (atoms_spec (ws := ws) h _ (by rw [hw]; exact List.mem_cons_self))
    exact ⟨meth, c, h1, h2, h3, h4, h5, h6⟩
  · intro p e s m args below meth c s₁ B hml hP _
    have hh0 : s₁.heap = s.heap := by rw [B.state]; rfl
    have ht : ∀ x ∈ c.exceptionTable.toList, False := by
      obtain ⟨meth9, c9, h1, h2, -, -, -, -, h7, -⟩ := Cond.code_spec B.named (atoms_spec (ws := ws) B.pre _ (by rw [hw]; exact List.mem_cons_self))
      cases Option.some.inj (h1.symm.trans B.method)
      cases Option.some.inj (h2.symm.trans (Stand.of_body B).code)
      intro x hx
      rw [Array.isEmpty_iff.mp h7] at hx
      cases hx
    obtain ⟨t, a1, o, b1, b2, b3⟩ := body p e s m args below meth c s₁ B hml ht hP s₁ hh0 (Stand.of_body B)
    exact ⟨t, o, a1, b1, b2, b3⟩
/-- the table of a body with handlers -/
theorem vx_table {p : Program} {x y : MethodName} {S : Spec} {cc bytes : ByteArray} {maxL maxL' : Nat} {ret ret' : Option FieldType} {e : Env} {s s₁ : State} {m : MethodId} {args : Array Value} {below : List Frame} {meth : Method} {c : Code} {hh : List (Nat × Nat × Nat × Nat)}
    (B : BodyLoose p l y S cc maxL ret e s m args below meth c s₁) (h : (Cond.codeWith y bytes maxL' ret' hh).before args s = true) : c.exceptionTable.toList = tableOf hh := by
  obtain ⟨m9, meth9, c9, hn9, h1, h2, -, -, h6, -⟩ := Cond.codeWith_spec h
  cases Option.some.inj (hn9.symm.trans B.named)
  cases Option.some.inj (h1.symm.trans B.method)
  cases Option.some.inj (h2.symm.trans (Stand.of_body B).code)
  rw [← h6, table_eq]
end Bodies
end VXA
/-! ===== END ===== -/
/-! ===== BEGIN a static call of a method with an exception table ===== -/
section VXS
variable {p : Program} {l : Launch} {e : Env} {R : Room} {s : State} {m : MethodId} {args : Array Value} {below : List Frame} {meth : Method} {c : Code} {T : State} {H : Heap} {locs : List Loc} {cells slots : Nat}
abbrev vx_CSW (R : Room) (s : State) (args : Array Value) (own : String) (index : Nat) (y : MethodName) (bytes : ByteArray) (maxL : Nat) (ret : Option FieldType) (hh : List (Nat × Nat × Nat × Nat)) (ws : List Cond) (rm : Room) (mc ms n : Nat) : Prop :=
  (rm.cells = mc ∧ rm.slots = ms ∧ rm.frames + 1 ≤ R.frames ∧ 8 + (maxL + 11) + rm.locals ≤ R.locals ∧ (∀ w ∈ ws, ∀ (a' : Array Value) (U : State), s.WarmedH U.vm → w.before a' U = true) ∧ Cond.codeWith y bytes maxL ret hh ∈ ws) ∧
  (Cond.codeWith y bytes maxL ret hh).before args s = true ∧ (Cond.initialized y.cls).before args s = true ∧ (y.cls ≠ "java/lang/invoke/MethodHandle" ∧ y.cls ≠ "java/lang/invoke/VarHandle") ∧
  (∀ sig, parseMethodDescriptor y.desc = some sig → n = sig.parameters.length) ∧ (Cond.methodLink own index y).before args s = true ∧ (Cond.static y).before args s = true
theorem vx_cwSW {own : String} {index maxL mc ms : Nat} {y : MethodName} {bytes : ByteArray} {ret : Option FieldType} {hh : List (Nat × Nat × Nat × Nat)} {Ts ws ws' : List Cond} {rm : Room} (n : Nat) (ht : ∀ w ∈ Ts, w.before args s = true) (hT : GoodIn Ts (va_wsS own index y ws)) (hw : ws = Cond.codeWith y bytes maxL ret hh :: ws') (hrc : rm.cells = mc) (hrs : rm.slots = ms)
    (hd : y.cls ≠ "java/lang/invoke/MethodHandle" ∧ y.cls ≠ "java/lang/invoke/VarHandle" ∧ (parseMethodDescriptor y.desc).map (fun d => d.parameters.length) = some n) (hR : rm.frames + 1 ≤ R.frames ∧ 8 + (maxL + 11) + rm.locals ≤ R.locals) :
    vx_CSW R s args own index y bytes maxL ret hh ws rm mc ms n := by
  have ok : ∀ w ∈ va_wsS own index y ws, w.before args s = true := fun w h => ht w (hT w h).1
  have hG : GoodIn Ts ws := fun w h => hT w (by unfold va_wsS; exact List.mem_append_right _ h)
  have hc : Cond.codeWith y bytes maxL ret hh ∈ ws := by rw [hw]; exact List.mem_cons_self
  refine ⟨⟨hrc, hrs, hR.1, hR.2, pay_in ht hG, hc⟩, ht _ (hG _ hc).1, ok _ (by simp [va_wsS]), ⟨hd.1, hd.2.1⟩, fun sig h => ?_, ok _ (by simp [va_wsS]), ok _ (by simp [va_wsS])⟩
  have h2 := hd.2.2
  rw [h] at h2
  exact (Option.some.inj h2).symm
theorem vx_callSW (X : Stand p l e R s m args below meth c T locs cells slots) (hexec : p.tables.exec = Jvm.exec) {own : String} {index : Nat} {y : MethodName} {bytes : ByteArray} {maxL : Nat} {ret : Option FieldType} {hh : List (Nat × Nat × Nat × Nat)}
    (hown : s.vm.findClass own = some m.cls) (hlink : (Cond.methodLink own index y).before args s = true) (hstat : (Cond.static y).before args s = true) (hinit : (Cond.initialized y.cls).before args s = true)
    (hcode : (Cond.codeWith y bytes maxL ret hh).before args s = true) (hy : y.cls ≠ "java/lang/invoke/MethodHandle" ∧ y.cls ≠ "java/lang/invoke/VarHandle")
    {W9 : Nat} {Pre : Pt → Array Value → Prop} {Post : Pt → Array Value → Option Value → Pt → Prop} (hK : Back l R p e below s args y 3 W9 Pre Post)
    {g : JFrame} (hg : g.method = m) (hsize : g.locals.size = c.maxLocals) {argsL rest : List Value} (hlen : ∀ sig, parseMethodDescriptor y.desc = some sig → argsL.length = sig.parameters.length)
    (hstack : g.stack = argsL.reverse ++ rest) (hW : 2 * g.monitorRoom + (rest.map fun v => v.category).sum ≤ W9) (hdg : decode c.code g.pc = .ok (.invokestatic index, 3))
    (hpre : ∀ vm₁, s.WarmedH vm₁ → Pre ⟨T.setVm vm₁, locs, cells, slots⟩ argsL.toArray) :
    ∃ (v : Option Value) (vm₁ : Vm) (B : Pt), s.WarmedH vm₁ ∧ Stand p l e R s m args below meth c B.U B.locs B.cells B.slots ∧ Post ⟨T.setVm vm₁, locs, cells, slots⟩ argsL.toArray v B ∧
      ∀ target, Steps p.tables e below (B.U.setTop { g with pc := g.pc + 3, stack := v.toList ++ rest }) target → Steps p.tables e below (T.setTop g) target := by
  obtain ⟨mk, methM, cM, hnamed, hmethM, -, -, -, -, -, -, hsigM⟩ := Cond.codeWith_spec hcode
  have hstatic : methM.isStatic = true := Cond.static_spec hnamed hmethM hstat
  obtain ⟨kP, hkP, -⟩ := className_of_methodNamed hnamed
  have hinitP : kP.init = .initialized := Cond.initialized_spec (findClass_of_methodNamed hnamed) hkP hinit
  obtain ⟨vm₁, X₁, hstep₁⟩ := X.invokestatic hexec hown hlink hnamed hmethM hstatic hkP hinitP hy (g := g) hg (argsL := argsL) (rest := rest) (hlen _ hsigM) hstack hdg
  obtain ⟨v, B, X', hpost, hsteps⟩ := hK m meth c ⟨T.setVm vm₁, locs, cells, slots⟩ { g with stack := rest } (.invokestatic index) mk argsL.toArray X₁ hg hsize hdg hW (X₁.named hnamed) (hpre vm₁ X₁.warmed)
  exact ⟨v, vm₁, B, X₁.warmed, X', hpost, fun target h => hstep₁ _ fun acts => by rw [doInvoke_state]; exact hsteps.trans h⟩
theorem vx_runSW {y : MethodName} {bytes cc : ByteArray} {maxL nL mc ms n index : Nat} {ret : Option FieldType} {hh : List (Nat × Nat × Nat × Nat)} {ws : List Cond} {rm : Room} {Pc : Array Value → State → Prop} {Qc : Array Value → State → Outcome → State → Prop} {free : Addr → Prop} {Ts : List Cond} {own : String} {As rest : List Value} {g : JFrame}
    (S : CallFix p m c cc nL s args Ts own) (hM : Met l y ws rm Pc Qc mc ms free) (cw : vx_CSW R s args own index y bytes maxL ret hh ws rm mc ms n) (hp : PreS s H Pc As)
    (hg : g.method = m) (hn : As.length = n) (hsize : g.locals.size = nL) (hstack : g.stack = As.reverse ++ rest) (hW : 2 * g.monitorRoom + (rest.map fun v => v.category).sum ≤ 8) (hdg : decode cc g.pc = .ok (.invokestatic index, 3)) (hf : cells + mc ≤ R.cells ∧ slots + ms ≤ R.slots) :
    va_Run p l e R s m args below meth c H locs cells slots mc ms g rest (Qc As.toArray) (free) := by
  obtain ⟨⟨hrc, hrs, hfr, hlo, hws, hcw⟩, hcode, hini, hy, hlen, hl, hstt⟩ := cw
  have hK : Back l R p e below s args y 3 8 (PreOf R mc ms Pc) (PostOf Qc mc ms free) := va_backW (hh := hh) (bytes := bytes) (maxL := maxL) (ret := ret) hM hp.1 hrc hrs hfr hlo hws hcw (fun a' U hW => word_at hW (Or.inl (by first | rfl | simp [Cond.onTables, Cond.keeps, Cond.steady])) hini)
  obtain ⟨hx, hb, hml, ho, -⟩ := S
  intro T hT X
  obtain ⟨v, vm₁, ⟨U', l2, c2, s2⟩, hW₁, X', ⟨g', mk, t, L, e1, e2, hq, h1, hL, h2, h3⟩, st⟩ := vx_callSW X hx (hh := hh) (bytes := bytes) (maxL := maxL) (ret := ret) ho hl hstt hini hcode hy hK hg (hsize.trans hml.symm) (argsL := As) (rest := rest) (fun sig h => hn.trans (hlen sig h)) hstack hW (by rw [hb]; exact hdg)
    (fun vm₁ hW₁ => ⟨hf.1, hf.2, hp.2 (T.setVm vm₁) hT hW₁⟩)
  dsimp only [Pt.U, Pt.locs, Pt.cells, Pt.slots] at X' e1 e2 h1 h2 h3 st
  subst h1; subst h2; subst h3
  exact ⟨v, (T.setVm vm₁).calling g' mk As.toArray, t, U', L, hT, X', hL, e1, e2, hq, st⟩
/-- a thing of a world lies in the heap -/
theorem vx_lt {D : va_G} {cl : List vw_C} {ws : va_W} {H1 : Heap} (h : va_P D cl ws H1) {k : Nat} {q : Nat × va_E} (hk : ws[k]? = some q) : q.1 < H1.size := (h k q hk).lt
end VXS
/-! ===== END ===== -/
/-! ===== BEGIN methods with a table of their own: called by a name, returning or throwing ===== -/
section VXH
/-! vx_backW, vx_callVX, vx_callSX, vx_callVW, vx_runVW, vx_runVX, vx_runSX, vx_ofWH follow the same proofs as their sisters above (Free/Laws.lean, Shelf42/LK1.lean); vx_outP calls Shelf42/NT130.lean (outThrough). -/
section
variable {l : Launch} {R : Room} {p : Program} {e : Env} {below : List Frame} {s : State} {sargs : Array Value} {y : MethodName} {len W9 : Nat}
theorem vx_backW {ws : List Cond} {rm : Room} {Pc : Array Value → State → Prop} {Qc : Array Value → State → Outcome → State → Prop} {XC : String → State → State → Prop} {mc ms : Nat} {free : Addr → Prop} {bytes : ByteArray} {maxL : Nat} {ret : Option FieldType} {hh : List (Nat × Nat × Nat × Nat)}
    (hM : vx_Met l y ws rm Pc Qc XC mc ms free) (hblind : FrameBlind Pc) (hrc : rm.cells = mc) (hrs : rm.slots = ms)
    (hframes : rm.frames + 1 ≤ R.frames) (hlocals : W9 + (maxL + 11) + rm.locals ≤ R.locals)
    (hws : ∀ w ∈ ws, ∀ a' U, s.WarmedH U.vm → w.before a' U = true) (hcode : Cond.codeWith y bytes maxL ret hh ∈ ws) (hinit : ∀ a' U, s.WarmedH U.vm → (Cond.initialized y.cls).before a' U = true) :
    vx_Back l R p e below s sargs y len W9 (PreOf R mc ms Pc) (PostOf Qc mc ms free) (vx_Post XC mc ms free) := by
  intro m meth c A g ig mk a X hg hsize hdg hW hn hp
  have h1 : (headSpec ws rm).pre.before a A.U = true := atoms_intro fun w hw => hws w hw _ _ X.warmed
  have h2 : (Cond.codeWith y bytes maxL ret hh).before a A.U = true := hws _ hcode _ _ X.warmed
  have h3 : (Cond.initialized y.cls).before a A.U = true := hinit _ _ X.warmed
  have h4 : A.cells + (headSpec ws rm).room.cells ≤ R.cells := by rw [show (headSpec ws rm).room.cells = mc from hrc]; exact hp.1
  have h5 : A.slots + (headSpec ws rm).room.slots ≤ R.slots := by rw [show (headSpec ws rm).room.slots = ms from hrs]; exact hp.2.1
  have hPc : Pc a (A.U.calling g mk a) := hblind _ _ _ _ hp.2.2
  obtain ⟨U, Ls, c0, s0⟩ := A
  dsimp only [Pt.U, Pt.locs, Pt.cells, Pt.slots] at h1 h2 h3 h4 h5 X hn hPc ⊢
  obtain ⟨m9, methY, cY, hn9, hmY, hcY, -, hlY, -⟩ := Cond.codeWith_spec h2
  cases Option.some.inj (hn9.symm.trans hn)
  obtain ⟨kY, hkY, -⟩ := className_of_methodNamed hn
  have hinitY : kY.init = .initialized := Cond.initialized_spec (findClass_of_methodNamed hn) hkY h3
  have h : At U g.method c below := by rw [hg]; exact X.here
  have hlocals9 : W9 + (maxL + 11) + (headSpec ws rm).room.locals ≤ R.locals := hlocals
  have happ : (headSpec ws rm).appliesLoose y e.platform (U.calling g mk a) = true :=
    Spec.appliesLoose_calling (g := g) h hdg hn hkY hinitY
      (X.room_calling (g := g) (R' := (headSpec ws rm).room) hsize hmY hcY hframes (by rw [hlY]; omega) h4 h5) h1
  obtain ⟨mid, hmid⟩ := h.above
  have hfr : (U.setTop g).frames = (.java g :: mid) ++ below := by rw [State.frames_setTop' g h.top, hmid]; rfl
  obtain ⟨o, s₂, hsteps, -, hend, hq⟩ := Steps.callFree hM p X.admits X.cas X.clock (acts := []) hfr happ hPc trivial
  have hq' : vx_Q Qc XC mc ms free a (U.calling g mk a) o s₂ := hq
  rw [State.frames_setTop' g h.top] at hend
  obtain ⟨g₀, hg0⟩ := Option.isSome_iff_exists.mp h.top
  obtain ⟨r, hr⟩ := State.topJava?_eq_some.mp hg0
  have hr' : (({ U with heap := s₂.heap, slotsUsed := s₂.slotsUsed } : State).setVm s₂.vm).frames = .java g₀ :: r := hr
  rcases hq' with ⟨hqc, L, hfe, hL⟩ | ⟨q, rfl, E, ce, L, hx, hce, hcv, hcl, hW₂, hsm, hL⟩
  · obtain ⟨⟨v, rfl⟩, hW₂, e2, q2, q3, q4, q5, q6⟩ := id hfe
    have e3 : s₂ = ({ (U.calling g mk a).setFrames s₂.frames with heap := s₂.heap, slotsUsed := s₂.slotsUsed } : State).setVm s₂.vm := by
      have : s₂ = ({ s₂ with vm := (U.calling g mk a).vm } : State).setVm s₂.vm := rfl
      rw [e2] at this
      exact this
    obtain ⟨c₂, i₂, len₂, hc₂, hd₂, hf₂⟩ := hend
    have hW' : U.WarmedH s₂.vm := hW₂
    have hcc : c₂ = c := by
      have h1 : s₂.code? g.method = U.code? g.method := by
        rw [State.code?_eq, State.code?_eq, hW'.alike.method?]
      exact Option.some.inj (hc₂.symm.trans (h1.trans h.code))
    subst hcc
    have hlen : len₂ = len := by rw [hdg] at hd₂; cases hd₂; rfl
    subst hlen
    have hs₂ : s₂ = (({ U with heap := s₂.heap, slotsUsed := s₂.slotsUsed } : State).setVm s₂.vm).setTop { g with pc := g.pc + len₂, stack := v.toList ++ g.stack } := by
      refine e3.trans ?_
      rw [hf₂, State.calling_eq h.top, State.setFrames_setFrames, State.setTop_of_frames _ hr', hr]
      rfl
    have hsame : U.sameButNew ({ U with heap := s₂.heap, slotsUsed := s₂.slotsUsed } : State) L mc ms := by
      refine ⟨?_, q2, q3, q4, q5, q6⟩
      obtain ⟨t, ht, -⟩ := State.frames_cons hr
      show ({ U with heap := s₂.heap, slotsUsed := s₂.slotsUsed } : State) = { U.setFrames U.frames with heap := s₂.heap, slotsUsed := s₂.slotsUsed }
      rw [State.setFrames_self ht]
    subst hg
    refine Or.inl ⟨v, ⟨(({ U with heap := s₂.heap, slotsUsed := s₂.slotsUsed } : State).setVm s₂.vm), Ls ++ L, c0 + mc, s0 + ms⟩,
      ⟨X.admits, X.cas, X.clock, X.frames, X.room, X.hears, X.method, X.code, (X.here.setHeapUsed s₂.heap s₂.slotsUsed).setVm hW'.alike, X.tail, State.WarmedH.trans X.warmed hW', X.limits, X.bytes, X.same.trans (hsame.setVm s.vm)⟩,
      ⟨g, mk, s₂, L, rfl, rfl, hqc, rfl, hL, rfl, rfl⟩, ?_⟩
    show Steps p.tables e below _ ((({ U with heap := s₂.heap, slotsUsed := s₂.slotsUsed } : State).setVm s₂.vm).setTop { g with pc := g.pc + len₂, stack := v.toList ++ g.stack })
    rw [← hs₂]
    exact hsteps
  · obtain ⟨e2, q2, q3, q4, q5, q6⟩ := id hsm
    have e3 : s₂ = ({ (U.calling g mk a).setFrames s₂.frames with heap := s₂.heap, slotsUsed := s₂.slotsUsed } : State).setVm s₂.vm := by
      have : s₂ = ({ s₂ with vm := (U.calling g mk a).vm } : State).setVm s₂.vm := rfl
      rw [e2] at this
      exact this
    have hf₂ : s₂.frames = .throwing q :: .java g :: U.frames.tail := hend
    have hW' : U.WarmedH s₂.vm := hW₂
    have hs₂ : s₂ = ((({ U with heap := s₂.heap, slotsUsed := s₂.slotsUsed } : State).setVm s₂.vm).setTop g).pushFrame (.throwing q) := by
      refine e3.trans ?_
      rw [hf₂, State.calling_eq h.top, State.setFrames_setFrames, State.pushFrame, State.frames_setTop _ hr', State.setTop_of_frames _ hr', State.setFrames_setFrames, hr]
      rfl
    have hsame : U.sameButNew ({ U with heap := s₂.heap, slotsUsed := s₂.slotsUsed } : State) L mc ms := by
      refine ⟨?_, q2, q3, q4, q5, q6⟩
      obtain ⟨t, ht, -⟩ := State.frames_cons hr
      show ({ U with heap := s₂.heap, slotsUsed := s₂.slotsUsed } : State) = { U.setFrames U.frames with heap := s₂.heap, slotsUsed := s₂.slotsUsed }
      rw [State.setFrames_self ht]
    subst hg
    refine Or.inr ⟨q, ⟨(({ U with heap := s₂.heap, slotsUsed := s₂.slotsUsed } : State).setVm s₂.vm), Ls ++ L, c0 + mc, s0 + ms⟩,
      ⟨X.admits, X.cas, X.clock, X.frames, X.room, X.hears, X.method, X.code, (X.here.setHeapUsed s₂.heap s₂.slotsUsed).setVm hW'.alike, X.tail, State.WarmedH.trans X.warmed hW', X.limits, X.bytes, X.same.trans (hsame.setVm s.vm)⟩,
      ⟨g, mk, s₂, L, E, ce, rfl, rfl, hx, hce, hcv, hcl, rfl, hL, rfl, rfl⟩, ?_⟩
    show Steps p.tables e below _ (((({ U with heap := s₂.heap, slotsUsed := s₂.slotsUsed } : State).setVm s₂.vm).setTop g).pushFrame (.throwing q))
    rw [← hs₂]
    exact hsteps
end
variable {p : Program} {l : Launch} {e : Env} {R : Room} {s : State} {m : MethodId} {args : Array Value} {below : List Frame} {meth : Method} {c : Code} {T : State} {H : Heap} {locs : List Loc} {cells slots : Nat}
theorem vx_callVX (X : Stand p l e R s m args below meth c T locs cells slots) (hexec : p.tables.exec = Jvm.exec) {own C : String} {index : Nat} {y : MethodName} {bytes : ByteArray} {maxL : Nat} {ret : Option FieldType} {hh : List (Nat × Nat × Nat × Nat)}
    (hown : s.vm.findClass own = some m.cls) (hlink : (Cond.methodLink own index y).before args s = true) (hinst : (Cond.instanceMethod y).before args s = true) (hsel : (Cond.selects C y y).before args s = true)
    (hcode : (Cond.codeWith y bytes maxL ret hh).before args s = true) (hy : y.cls ≠ "java/lang/invoke/MethodHandle" ∧ y.cls ≠ "java/lang/invoke/VarHandle")
    {W9 : Nat} {Pre : Pt → Array Value → Prop} {Post : Pt → Array Value → Option Value → Pt → Prop} {PostX : Pt → Array Value → Addr → Pt → Prop} (hK : vx_Back l R p e below s args y 3 W9 Pre Post PostX)
    {b : Addr} {cellB : Cell} (hcell : T.heap[b]? = some cellB) (hobj : cellB.vm.isStatics = false) (hcls : s.vm.findClass C = some cellB.cls)
    {g : JFrame} (hg : g.method = m) (hsize : g.locals.size = c.maxLocals) {argsL rest : List Value} (hlen : ∀ sig, parseMethodDescriptor y.desc = some sig → argsL.length = sig.parameters.length)
    (hstack : g.stack = argsL.reverse ++ .ref b :: rest) (hW : 2 * g.monitorRoom + (rest.map fun v => v.category).sum ≤ W9) (hdg : decode c.code g.pc = .ok (.invokevirtual index, 3))
    (hpre : ∀ vm₁, s.WarmedH vm₁ → Pre ⟨T.setVm vm₁, locs, cells, slots⟩ (Value.ref b :: argsL).toArray) :
    (∃ (v : Option Value) (vm₁ : Vm) (B : Pt), s.WarmedH vm₁ ∧ Stand p l e R s m args below meth c B.U B.locs B.cells B.slots ∧ Post ⟨T.setVm vm₁, locs, cells, slots⟩ (Value.ref b :: argsL).toArray v B ∧
      ∀ target, Steps p.tables e below (B.U.setTop { g with pc := g.pc + 3, stack := v.toList ++ rest }) target → Steps p.tables e below (T.setTop g) target) ∨
    (∃ (q : Addr) (vm₁ : Vm) (B : Pt), s.WarmedH vm₁ ∧ Stand p l e R s m args below meth c B.U B.locs B.cells B.slots ∧ PostX ⟨T.setVm vm₁, locs, cells, slots⟩ (Value.ref b :: argsL).toArray q B ∧
      Steps p.tables e below (T.setTop g) ((B.U.setTop { g with stack := rest }).pushFrame (.throwing q))) := by
  obtain ⟨mk, methM, hnamed, hmethM, hstM, habM⟩ := Cond.instanceMethod_spec hinst
  obtain ⟨m8, methM', cM, hn8, hmethM', -, -, -, -, -, -, hsigM⟩ := Cond.codeWith_spec hcode
  cases Option.some.inj (hn8.symm.trans hnamed)
  cases hmethM.symm.trans hmethM'
  obtain ⟨c2, r2, m2, q1, q2, q3, q4, kP, hkP, hkPi⟩ := Cond.selects_spec hsel
  cases hcls.symm.trans q1
  cases (State.methodFound?_of_named hnamed hy).symm.trans q2
  cases hnamed.symm.trans q3
  have hselP : selectMethod e.platform s.vm cellB.cls mk = .method mk := by rw [Launch.admits_selectMethod X.admits]; exact q4
  obtain ⟨vm₁, X₁, hstep₁⟩ := X.invokevirtual hexec hown hlink hnamed hmethM hstM hkP hkPi hy (a := b) (cell := cellB) hcell
    (fun z h => by rw [h] at hobj; cases hobj) hselP hmethM habM hkP hkPi (g := g) hg (argsL := argsL) (rest := rest) (hlen _ hsigM) hstack hdg
  rcases hK m meth c ⟨T.setVm vm₁, locs, cells, slots⟩ { g with stack := rest } (.invokevirtual index) mk (Value.ref b :: argsL).toArray X₁ hg hsize hdg hW (X₁.named hnamed) (hpre vm₁ X₁.warmed) with ⟨v, B, X', hpost, hsteps⟩ | ⟨q, B, X', hpost, hsteps⟩
  · exact Or.inl ⟨v, vm₁, B, X₁.warmed, X', hpost, fun target h => hstep₁ _ fun acts => by rw [doInvoke_state]; exact hsteps.trans h⟩
  · exact Or.inr ⟨q, vm₁, B, X₁.warmed, X', hpost, hstep₁ _ fun acts => by rw [doInvoke_state]; exact hsteps⟩
theorem vx_callSX (X : Stand p l e R s m args below meth c T locs cells slots) (hexec : p.tables.exec = Jvm.exec) {own : String} {index : Nat} {y : MethodName} {bytes : ByteArray} {maxL : Nat} {ret : Option FieldType} {hh : List (Nat × Nat × Nat × Nat)}
    (hown : s.vm.findClass own = some m.cls) (hlink : (Cond.methodLink own index y).before args s = true) (hstat : (Cond.static y).before args s = true) (hinit : (Cond.initialized y.cls).before args s = true)
    (hcode : (Cond.codeWith y bytes maxL ret hh).before args s = true) (hy : y.cls ≠ "java/lang/invoke/MethodHandle" ∧ y.cls ≠ "java/lang/invoke/VarHandle")
    {W9 : Nat} {Pre : Pt → Array Value → Prop} {Post : Pt → Array Value → Option Value → Pt → Prop} {PostX : Pt → Array Value → Addr → Pt → Prop} (hK : vx_Back l R p e below s args y 3 W9 Pre Post PostX)
    {g : JFrame} (hg : g.method = m) (hsize : g.locals.size = c.maxLocals) {argsL rest : List Value} (hlen : ∀ sig, parseMethodDescriptor y.desc = some sig → argsL.length = sig.parameters.length)
    (hstack : g.stack = argsL.reverse ++ rest) (hW : 2 * g.monitorRoom + (rest.map fun v => v.category).sum ≤ W9) (hdg : decode c.code g.pc = .ok (.invokestatic index, 3))
    (hpre : ∀ vm₁, s.WarmedH vm₁ → Pre ⟨T.setVm vm₁, locs, cells, slots⟩ argsL.toArray) :
    (∃ (v : Option Value) (vm₁ : Vm) (B : Pt), s.WarmedH vm₁ ∧ Stand p l e R s m args below meth c B.U B.locs B.cells B.slots ∧ Post ⟨T.setVm vm₁, locs, cells, slots⟩ argsL.toArray v B ∧
      ∀ target, Steps p.tables e below (B.U.setTop { g with pc := g.pc + 3, stack := v.toList ++ rest }) target → Steps p.tables e below (T.setTop g) target) ∨
    (∃ (q : Addr) (vm₁ : Vm) (B : Pt), s.WarmedH vm₁ ∧ Stand p l e R s m args below meth c B.U B.locs B.cells B.slots ∧ PostX ⟨T.setVm vm₁, locs, cells, slots⟩ argsL.toArray q B ∧
      Steps p.tables e below (T.setTop g) ((B.U.setTop { g with stack := rest }).pushFrame (.throwing q))) := by
  obtain ⟨mk, methM, cM, hnamed, hmethM, -, -, -, -, -, -, hsigM⟩ := Cond.codeWith_spec hcode
  have hstatic : methM.isStatic = true := Cond.static_spec hnamed hmethM hstat
  obtain ⟨kP, hkP, -⟩ := className_of_methodNamed hnamed
  have hinitP : kP.init = .initialized := Cond.initialized_spec (findClass_of_methodNamed hnamed) hkP hinit
  obtain ⟨vm₁, X₁, hstep₁⟩ := X.invokestatic hexec hown hlink hnamed hmethM hstatic hkP hinitP hy (g := g) hg (argsL := argsL) (rest := rest) (hlen _ hsigM) hstack hdg
  rcases hK m meth c ⟨T.setVm vm₁, locs, cells, slots⟩ { g with stack := rest } (.invokestatic index) mk argsL.toArray X₁ hg hsize hdg hW (X₁.named hnamed) (hpre vm₁ X₁.warmed) with ⟨v, B, X', hpost, hsteps⟩ | ⟨q, B, X', hpost, hsteps⟩
  · exact Or.inl ⟨v, vm₁, B, X₁.warmed, X', hpost, fun target h => hstep₁ _ fun acts => by rw [doInvoke_state]; exact hsteps.trans h⟩
  · exact Or.inr ⟨q, vm₁, B, X₁.warmed, X', hpost, hstep₁ _ fun acts => by rw [doInvoke_state]; exact hsteps⟩
theorem vx_callVW (X : Stand p l e R s m args below meth c T locs cells slots) (hexec : p.tables.exec = Jvm.exec) {own C : String} {index : Nat} {y : MethodName} {bytes : ByteArray} {maxL : Nat} {ret : Option FieldType} {hh : List (Nat × Nat × Nat × Nat)}
    (hown : s.vm.findClass own = some m.cls) (hlink : (Cond.methodLink own index y).before args s = true) (hinst : (Cond.instanceMethod y).before args s = true) (hsel : (Cond.selects C y y).before args s = true)
    (hcode : (Cond.codeWith y bytes maxL ret hh).before args s = true) (hy : y.cls ≠ "java/lang/invoke/MethodHandle" ∧ y.cls ≠ "java/lang/invoke/VarHandle")
    {W9 : Nat} {Pre : Pt → Array Value → Prop} {Post : Pt → Array Value → Option Value → Pt → Prop} (hK : Back l R p e below s args y 3 W9 Pre Post)
    {b : Addr} {cellB : Cell} (hcell : T.heap[b]? = some cellB) (hobj : cellB.vm.isStatics = false) (hcls : s.vm.findClass C = some cellB.cls)
    {g : JFrame} (hg : g.method = m) (hsize : g.locals.size = c.maxLocals) {argsL rest : List Value} (hlen : ∀ sig, parseMethodDescriptor y.desc = some sig → argsL.length = sig.parameters.length)
    (hstack : g.stack = argsL.reverse ++ .ref b :: rest) (hW : 2 * g.monitorRoom + (rest.map fun v => v.category).sum ≤ W9) (hdg : decode c.code g.pc = .ok (.invokevirtual index, 3))
    (hpre : ∀ vm₁, s.WarmedH vm₁ → Pre ⟨T.setVm vm₁, locs, cells, slots⟩ (Value.ref b :: argsL).toArray) :
    ∃ (v : Option Value) (vm₁ : Vm) (B : Pt), s.WarmedH vm₁ ∧ Stand p l e R s m args below meth c B.U B.locs B.cells B.slots ∧ Post ⟨T.setVm vm₁, locs, cells, slots⟩ (Value.ref b :: argsL).toArray v B ∧
      ∀ target, Steps p.tables e below (B.U.setTop { g with pc := g.pc + 3, stack := v.toList ++ rest }) target → Steps p.tables e below (T.setTop g) target := by
  obtain ⟨mk, methM, hnamed, hmethM, hstM, habM⟩ := Cond.instanceMethod_spec hinst
  obtain ⟨m8, methM', cM, hn8, hmethM', -, -, -, -, -, -, hsigM⟩ := Cond.codeWith_spec hcode
  cases Option.some.inj (hn8.symm.trans hnamed)
  cases hmethM.symm.trans hmethM'
  obtain ⟨c2, r2, m2, q1, q2, q3, q4, kP, hkP, hkPi⟩ := Cond.selects_spec hsel
  cases hcls.symm.trans q1
  cases (State.methodFound?_of_named hnamed hy).symm.trans q2
  cases hnamed.symm.trans q3
  have hselP : selectMethod e.platform s.vm cellB.cls mk = .method mk := by rw [Launch.admits_selectMethod X.admits]; exact q4
  obtain ⟨vm₁, X₁, hstep₁⟩ := X.invokevirtual hexec hown hlink hnamed hmethM hstM hkP hkPi hy (a := b) (cell := cellB) hcell
    (fun z h => by rw [h] at hobj; cases hobj) hselP hmethM habM hkP hkPi (g := g) hg (argsL := argsL) (rest := rest) (hlen _ hsigM) hstack hdg
  obtain ⟨v, B, X', hpost, hsteps⟩ := hK m meth c ⟨T.setVm vm₁, locs, cells, slots⟩ { g with stack := rest } (.invokevirtual index) mk (Value.ref b :: argsL).toArray X₁ hg hsize hdg hW (X₁.named hnamed) (hpre vm₁ X₁.warmed)
  exact ⟨v, vm₁, B, X₁.warmed, X', hpost, fun target h => hstep₁ _ fun acts => by rw [doInvoke_state]; exact hsteps.trans h⟩
abbrev vx_CVW (R : Room) (s : State) (args : Array Value) (own C : String) (index : Nat) (y : MethodName) (bytes : ByteArray) (maxL : Nat) (ret : Option FieldType) (hh : List (Nat × Nat × Nat × Nat)) (ws : List Cond) (rm : Room) (mc ms n : Nat) : Prop :=
  (rm.cells = mc ∧ rm.slots = ms ∧ rm.frames + 1 ≤ R.frames ∧ 8 + (maxL + 11) + rm.locals ≤ R.locals ∧ (∀ w ∈ ws, ∀ (a' : Array Value) (U : State), s.WarmedH U.vm → w.before a' U = true) ∧ Cond.codeWith y bytes maxL ret hh ∈ ws) ∧
  (Cond.codeWith y bytes maxL ret hh).before args s = true ∧ (Cond.initialized y.cls).before args s = true ∧ (y.cls ≠ "java/lang/invoke/MethodHandle" ∧ y.cls ≠ "java/lang/invoke/VarHandle") ∧
  (∀ sig, parseMethodDescriptor y.desc = some sig → n = sig.parameters.length) ∧ (Cond.methodLink own index y).before args s = true ∧ (Cond.instanceMethod y).before args s = true ∧ (Cond.selects C y y).before args s = true
theorem vx_cwVW {own C : String} {index maxL mc ms : Nat} {y : MethodName} {bytes : ByteArray} {ret : Option FieldType} {hh : List (Nat × Nat × Nat × Nat)} {Ts ws ws' : List Cond} {rm : Room} (n : Nat) (ht : ∀ w ∈ Ts, w.before args s = true) (hT : GoodIn Ts (wsV own index C y ws)) (hw : ws = Cond.codeWith y bytes maxL ret hh :: ws') (hrc : rm.cells = mc) (hrs : rm.slots = ms)
    (hd : y.cls = C ∧ y.cls ≠ "java/lang/invoke/MethodHandle" ∧ y.cls ≠ "java/lang/invoke/VarHandle" ∧ (parseMethodDescriptor y.desc).map (fun d => d.parameters.length) = some n) (hR : rm.frames + 1 ≤ R.frames ∧ 8 + (maxL + 11) + rm.locals ≤ R.locals) :
    vx_CVW R s args own C index y bytes maxL ret hh ws rm mc ms n := by
  obtain ⟨hC, hd⟩ := hd
  subst hC
  have ok : ∀ w ∈ wsV own index y.cls y ws, w.before args s = true := fun w h => ht w (hT w h).1
  have hG : GoodIn Ts ws := fun w h => hT w (by unfold wsV; exact List.mem_append_right _ h)
  have hc : Cond.codeWith y bytes maxL ret hh ∈ ws := by rw [hw]; exact List.mem_cons_self
  refine ⟨⟨hrc, hrs, hR.1, hR.2, pay_in ht hG, hc⟩, ht _ (hG _ hc).1, ok _ (by simp [wsV]), ⟨hd.1, hd.2.1⟩, fun sig h => ?_, ok _ (by simp [wsV]), ok _ (by simp [wsV]), ok _ (by simp [wsV])⟩
  have h2 := hd.2.2
  rw [h] at h2
  exact (Option.some.inj h2).symm
theorem vx_runVW {y : MethodName} {bytes cc : ByteArray} {maxL nL mc ms n index : Nat} {ret : Option FieldType} {hh : List (Nat × Nat × Nat × Nat)} {ws : List Cond} {rm : Room} {Pc : Array Value → State → Prop} {Qc : Array Value → State → Outcome → State → Prop} {free : Addr → Prop} {Ts : List Cond} {own C : String} {b : Addr} {As rest : List Value} {g : JFrame}
    (S : CallFix p m c cc nL s args Ts own) (hM : Met l y ws rm Pc Qc mc ms free) (cw : vx_CVW R s args own C index y bytes maxL ret hh ws rm mc ms n) (hp : PreV s H C b Pc As)
    (hg : g.method = m) (hn : As.length = n) (hsize : g.locals.size = nL) (hstack : g.stack = As.reverse ++ .ref b :: rest) (hW : 2 * g.monitorRoom + (rest.map fun v => v.category).sum ≤ 8) (hdg : decode cc g.pc = .ok (.invokevirtual index, 3)) (hf : cells + mc ≤ R.cells ∧ slots + ms ≤ R.slots) :
    va_Run p l e R s m args below meth c H locs cells slots mc ms g rest (Qc (Value.ref b :: As).toArray) free := by
  obtain ⟨⟨hrc, hrs, hfr, hlo, hws, hcw⟩, hcode, hini, hy, hlen, hl, hin, hse⟩ := cw
  have hK : Back l R p e below s args y 3 8 (PreOf R mc ms Pc) (PostOf Qc mc ms free) := va_backW (hh := hh) (bytes := bytes) (maxL := maxL) (ret := ret) hM hp.1 hrc hrs hfr hlo hws hcw (fun a' U hW => word_at hW (Or.inl (by first | rfl | simp [Cond.onTables, Cond.keeps, Cond.steady])) hini)
  obtain ⟨hx, hb, hml, ho, -⟩ := S
  obtain ⟨-, ⟨cellB, hcB, hoB, hclB⟩, hPc⟩ := hp
  intro T hT X
  obtain ⟨v, vm₁, ⟨U', l2, c2, s2⟩, hW₁, X', ⟨g', mk, t, L, e1, e2, hq, h1, hL, h2, h3⟩, st⟩ := vx_callVW X hx (C := C) (hh := hh) (bytes := bytes) (maxL := maxL) (ret := ret) ho hl hin hse hcode hy hK (by rw [hT]; exact hcB) hoB hclB hg (hsize.trans hml.symm) (argsL := As) (rest := rest) (fun sig h => hn.trans (hlen sig h)) hstack hW (by rw [hb]; exact hdg)
    (fun vm₁ hW₁ => ⟨hf.1, hf.2, hPc (T.setVm vm₁) hT hW₁⟩)
  dsimp only [Pt.U, Pt.locs, Pt.cells, Pt.slots] at X' e1 e2 h1 h2 h3 st
  subst h1; subst h2; subst h3
  exact ⟨v, (T.setVm vm₁).calling g' mk (Value.ref b :: As).toArray, t, U', L, hT, X', hL, e1, e2, hq, st⟩
section
variable {y : MethodName} {bytes cc : ByteArray} {maxL nL mc ms n index : Nat} {ret : Option FieldType} {ws : List Cond} {rm : Room} {Pc : Array Value → State → Prop} {Qc : Array Value → State → Outcome → State → Prop} {XC : String → State → State → Prop} {free : Addr → Prop} {Ts : List Cond} {own C : String} {b : Addr} {As rest : List Value} {g : JFrame}
theorem vx_runVX {hh : List (Nat × Nat × Nat × Nat)} (S : CallFix p m c cc nL s args Ts own) (hM : vx_Met l y ws rm Pc Qc XC mc ms free) (cw : vx_CVW R s args own C index y bytes maxL ret hh ws rm mc ms n) (hp : PreV s H C b Pc As)
    (hg : g.method = m) (hn : As.length = n) (hsize : g.locals.size = nL) (hstack : g.stack = As.reverse ++ .ref b :: rest) (hW : 2 * g.monitorRoom + (rest.map fun v => v.category).sum ≤ 8) (hdg : decode cc g.pc = .ok (.invokevirtual index, 3)) (hf : cells + mc ≤ R.cells ∧ slots + ms ≤ R.slots) :
    vx_Run p l e R s m args below meth c H locs cells slots mc ms g rest (Qc (Value.ref b :: As).toArray) XC free := by
  obtain ⟨⟨hrc, hrs, hfr, hlo, hws, hcw⟩, hcode, hini, hy, hlen, hl, hin, hse⟩ := cw
  have hK : vx_Back l R p e below s args y 3 8 (PreOf R mc ms Pc) (PostOf Qc mc ms free) (vx_Post XC mc ms free) := vx_backW (hh := hh) (bytes := bytes) (maxL := maxL) (ret := ret) hM hp.1 hrc hrs hfr hlo hws hcw (fun a' U hW => word_at hW (Or.inl (by first | rfl | simp [Cond.onTables, Cond.keeps, Cond.steady])) hini)
  obtain ⟨hx, hb, hml, ho, -⟩ := S
  obtain ⟨-, ⟨cellB, hcB, hoB, hclB⟩, hPc⟩ := hp
  intro T hT X
  rcases vx_callVX X hx (C := C) (hh := hh) (bytes := bytes) (maxL := maxL) (ret := ret) ho hl hin hse hcode hy hK (by rw [hT]; exact hcB) hoB hclB hg (hsize.trans hml.symm) (argsL := As) (rest := rest) (fun sig h => hn.trans (hlen sig h)) hstack hW (by rw [hb]; exact hdg)
    (fun vm₁ hW₁ => ⟨hf.1, hf.2, hPc (T.setVm vm₁) hT hW₁⟩) with ⟨v, vm₁, ⟨U', l2, c2, s2⟩, hW₁, X', ⟨g', mk, t, L, e1, e2, hq, h1, hL, h2, h3⟩, st⟩ | ⟨q, vm₁, ⟨U', l2, c2, s2⟩, hW₁, X', ⟨g', mk, t, L, E, ce, e1, e2, hq, hce, hcv, hcl, h1, hL, h2, h3⟩, st⟩
  · dsimp only [Pt.U, Pt.locs, Pt.cells, Pt.slots] at X' e1 e2 h1 h2 h3 st
    subst h1; subst h2; subst h3
    exact Or.inl ⟨v, (T.setVm vm₁).calling g' mk (Value.ref b :: As).toArray, t, U', L, hT, X', hL, e1, e2, hq, st⟩
  · dsimp only [Pt.U, Pt.locs, Pt.cells, Pt.slots] at X' e1 e2 h1 h2 h3 st hcl
    subst h1; subst h2; subst h3
    exact Or.inr ⟨q, (T.setVm vm₁).calling g' mk (Value.ref b :: As).toArray, t, U', L, E, ce, hT, X', hL, e1, e2, hq, hce, hcv, vx_cls hW₁ hcl, st⟩
theorem vx_runSX {hh : List (Nat × Nat × Nat × Nat)} (S : CallFix p m c cc nL s args Ts own) (hM : vx_Met l y ws rm Pc Qc XC mc ms free) (cw : vx_CSW R s args own index y bytes maxL ret hh ws rm mc ms n) (hp : PreS s H Pc As)
    (hg : g.method = m) (hn : As.length = n) (hsize : g.locals.size = nL) (hstack : g.stack = As.reverse ++ rest) (hW : 2 * g.monitorRoom + (rest.map fun v => v.category).sum ≤ 8) (hdg : decode cc g.pc = .ok (.invokestatic index, 3)) (hf : cells + mc ≤ R.cells ∧ slots + ms ≤ R.slots) :
    vx_Run p l e R s m args below meth c H locs cells slots mc ms g rest (Qc As.toArray) XC free := by
  obtain ⟨⟨hrc, hrs, hfr, hlo, hws, hcw⟩, hcode, hini, hy, hlen, hl, hstt⟩ := cw
  have hK : vx_Back l R p e below s args y 3 8 (PreOf R mc ms Pc) (PostOf Qc mc ms free) (vx_Post XC mc ms free) := vx_backW (hh := hh) (bytes := bytes) (maxL := maxL) (ret := ret) hM hp.1 hrc hrs hfr hlo hws hcw (fun a' U hW => word_at hW (Or.inl (by first | rfl | simp [Cond.onTables, Cond.keeps, Cond.steady])) hini)
  obtain ⟨hx, hb, hml, ho, -⟩ := S
  intro T hT X
  rcases vx_callSX X hx (hh := hh) (bytes := bytes) (maxL := maxL) (ret := ret) ho hl hstt hini hcode hy hK hg (hsize.trans hml.symm) (argsL := As) (rest := rest) (fun sig h => hn.trans (hlen sig h)) hstack hW (by rw [hb]; exact hdg)
    (fun vm₁ hW₁ => ⟨hf.1, hf.2, hp.2 (T.setVm vm₁) hT hW₁⟩) with ⟨v, vm₁, ⟨U', l2, c2, s2⟩, hW₁, X', ⟨g', mk, t, L, e1, e2, hq, h1, hL, h2, h3⟩, st⟩ | ⟨q, vm₁, ⟨U', l2, c2, s2⟩, hW₁, X', ⟨g', mk, t, L, E, ce, e1, e2, hq, hce, hcv, hcl, h1, hL, h2, h3⟩, st⟩
  · dsimp only [Pt.U, Pt.locs, Pt.cells, Pt.slots] at X' e1 e2 h1 h2 h3 st
    subst h1; subst h2; subst h3
    exact Or.inl ⟨v, (T.setVm vm₁).calling g' mk As.toArray, t, U', L, hT, X', hL, e1, e2, hq, st⟩
  · dsimp only [Pt.U, Pt.locs, Pt.cells, Pt.slots] at X' e1 e2 h1 h2 h3 st hcl
    subst h1; subst h2; subst h3
    exact Or.inr ⟨q, (T.setVm vm₁).calling g' mk As.toArray, t, U', L, E, ce, hT, X', hL, e1, e2, hq, hce, hcv, vx_cls hW₁ hcl, st⟩
end
end VXH
theorem vx_ofWH {l : Launch} {y : MethodName} {ws ws' : List Cond} {rm : Room} {Pc : Array Value → State → Prop} {Qc : Array Value → State → Outcome → State → Prop} {XC : String → State → State → Prop} {mc ms : Nat} {free : Addr → Prop} {cc : ByteArray} {maxL : Nat} {ret : Option FieldType} {hh : List (Nat × Nat × Nat × Nat)}
    (hy : plainName y.cls = true) (hw : ws = Cond.codeWith y cc maxL ret hh :: ws')
    (body : ∀ p e s m args below meth c s₁, BodyLoose p l y (headSpec ws rm) cc maxL ret e s m args below meth c s₁ → c.maxLocals = maxL → Pc args s →
      W p l e (headSpec ws rm).room s m args below meth c s.heap [] 0 0 (vx_MQ below Qc XC args s mc ms free) (entryFrame m args maxL)) : vx_Met l y ws rm Pc Qc XC mc ms free := by
  refine MetFree.of_bodyS (code := cc) (maxLocals := maxL) (ret := ret) hy ?_ ?_
  · intro args s m h hn
    obtain ⟨m9, meth, c, hn9, h1, h2, h3, h4, -, h5, h6, -⟩ := Cond.codeWith_spec (atoms_spec (ws := ws) h _ (by rw [hw]; exact List.mem_cons_self))
    cases hn.symm.trans hn9
    exact ⟨meth, c, h1, h2, h3, h4, h5, h6⟩
  · intro p e s m args below meth c s₁ B hml hP _
    have hh0 : s₁.heap = s.heap := by rw [B.state]; rfl
    obtain ⟨t, a1, o, b1, b2, b3⟩ := body p e s m args below meth c s₁ B hml hP s₁ hh0 (Stand.of_body B)
    exact ⟨t, o, a1, b1, b2, b3⟩
/-! ===== END ===== -/
end
section
-- ===== PART A: goes FIRST, ahead of the names: the tables' words, and 'selects' of the private methods out of them =====
/-- a private method of a class that the tables say can be made, by its rows of tables_1 -/
def lw_okq (q : MethodName × Nat) : Prop := (q.1.cls ≠ "java/lang/invoke/MethodHandle" ∧ q.1.cls ≠ "java/lang/invoke/VarHandle") ∧ Cond.instantiable q.1.cls q.2 ∈ tables_1 ∧ Cond.privateMethod q.1 ∈ tables_1 ∧ Cond.instanceMethod q.1 ∈ tables_1
theorem lw_p0 : lw_okq (⟨"java/lang/Throwable", "fillInStackTrace", "(I)Ljava/lang/Throwable;"⟩, 6) := ⟨⟨by decide +kernel, by decide +kernel⟩, List.mem_of_getElem? (i := 91) (by decide +kernel), List.mem_of_getElem? (i := 89) (by decide +kernel), List.mem_of_getElem? (i := 90) (by decide +kernel)⟩
theorem lw_p1 : lw_okq (⟨"SightGraph", "requireNode", "(I)V"⟩, 8) := ⟨⟨by decide +kernel, by decide +kernel⟩, List.mem_of_getElem? (i := 11) (by decide +kernel), List.mem_of_getElem? (i := 129) (by decide +kernel), List.mem_of_getElem? (i := 130) (by decide +kernel)⟩
theorem lw_p2 : lw_okq (⟨"SightGraph", "mayBeSelfParent", "(II)Z"⟩, 8) := ⟨⟨by decide +kernel, by decide +kernel⟩, List.mem_of_getElem? (i := 11) (by decide +kernel), List.mem_of_getElem? (i := 134) (by decide +kernel), List.mem_of_getElem? (i := 135) (by decide +kernel)⟩
theorem lw_p3 : lw_okq (⟨"SightGraph", "isEvent", "(I)Z"⟩, 8) := ⟨⟨by decide +kernel, by decide +kernel⟩, List.mem_of_getElem? (i := 11) (by decide +kernel), List.mem_of_getElem? (i := 138) (by decide +kernel), List.mem_of_getElem? (i := 139) (by decide +kernel)⟩
theorem lw_p4 : lw_okq (⟨"SightGraph", "mayBeOtherParent", "(II)Z"⟩, 8) := ⟨⟨by decide +kernel, by decide +kernel⟩, List.mem_of_getElem? (i := 11) (by decide +kernel), List.mem_of_getElem? (i := 143) (by decide +kernel), List.mem_of_getElem? (i := 144) (by decide +kernel)⟩
theorem lw_p5 : lw_okq (⟨"SightGraph", "gatherAncestors", "(III)V"⟩, 8) := ⟨⟨by decide +kernel, by decide +kernel⟩, List.mem_of_getElem? (i := 11) (by decide +kernel), List.mem_of_getElem? (i := 164) (by decide +kernel), List.mem_of_getElem? (i := 165) (by decide +kernel)⟩
theorem lw_p6 : lw_okq (⟨"SightGraph", "addAncestorsOf", "(II)V"⟩, 8) := ⟨⟨by decide +kernel, by decide +kernel⟩, List.mem_of_getElem? (i := 11) (by decide +kernel), List.mem_of_getElem? (i := 168) (by decide +kernel), List.mem_of_getElem? (i := 169) (by decide +kernel)⟩
theorem lw_p7 : lw_okq (⟨"SightGraph", "forkersWithin", "(JJ)I"⟩, 8) := ⟨⟨by decide +kernel, by decide +kernel⟩, List.mem_of_getElem? (i := 11) (by decide +kernel), List.mem_of_getElem? (i := 172) (by decide +kernel), List.mem_of_getElem? (i := 173) (by decide +kernel)⟩
theorem lw_p8 : lw_okq (⟨"SightGraph", "hasForkWithin", "(JJI)Z"⟩, 8) := ⟨⟨by decide +kernel, by decide +kernel⟩, List.mem_of_getElem? (i := 11) (by decide +kernel), List.mem_of_getElem? (i := 176) (by decide +kernel), List.mem_of_getElem? (i := 177) (by decide +kernel)⟩
theorem lw_p9 : lw_okq (⟨"SightGraph", "roundFrom", "(III)I"⟩, 8) := ⟨⟨by decide +kernel, by decide +kernel⟩, List.mem_of_getElem? (i := 11) (by decide +kernel), List.mem_of_getElem? (i := 183) (by decide +kernel), List.mem_of_getElem? (i := 184) (by decide +kernel)⟩
theorem lw_p10 : lw_okq (⟨"SightGraph", "roundOfParent", "(I)I"⟩, 8) := ⟨⟨by decide +kernel, by decide +kernel⟩, List.mem_of_getElem? (i := 11) (by decide +kernel), List.mem_of_getElem? (i := 187) (by decide +kernel), List.mem_of_getElem? (i := 188) (by decide +kernel)⟩
theorem lw_p11 : lw_okq (⟨"SightGraph", "nodesWithWitnessFor", "(II)I"⟩, 8) := ⟨⟨by decide +kernel, by decide +kernel⟩, List.mem_of_getElem? (i := 11) (by decide +kernel), List.mem_of_getElem? (i := 194) (by decide +kernel), List.mem_of_getElem? (i := 195) (by decide +kernel)⟩
theorem lw_p12 : lw_okq (⟨"SightGraph", "opensRound", "(I)Z"⟩, 8) := ⟨⟨by decide +kernel, by decide +kernel⟩, List.mem_of_getElem? (i := 11) (by decide +kernel), List.mem_of_getElem? (i := 198) (by decide +kernel), List.mem_of_getElem? (i := 199) (by decide +kernel)⟩
theorem lw_p13 : lw_okq (⟨"SightGraph", "nodesBetween", "(II)I"⟩, 8) := ⟨⟨by decide +kernel, by decide +kernel⟩, List.mem_of_getElem? (i := 11) (by decide +kernel), List.mem_of_getElem? (i := 202) (by decide +kernel), List.mem_of_getElem? (i := 203) (by decide +kernel)⟩
theorem lw_p14 : lw_okq (⟨"SightGraph", "hasSight", "(II)Z"⟩, 8) := ⟨⟨by decide +kernel, by decide +kernel⟩, List.mem_of_getElem? (i := 11) (by decide +kernel), List.mem_of_getElem? (i := 206) (by decide +kernel), List.mem_of_getElem? (i := 207) (by decide +kernel)⟩
theorem lw_p15 : lw_okq (⟨"SightGraph", "hasAncestor", "(II)Z"⟩, 8) := ⟨⟨by decide +kernel, by decide +kernel⟩, List.mem_of_getElem? (i := 11) (by decide +kernel), List.mem_of_getElem? (i := 210) (by decide +kernel), List.mem_of_getElem? (i := 211) (by decide +kernel)⟩
def lw_privs_1 : List (MethodName × Nat) := [(⟨"java/lang/Throwable", "fillInStackTrace", "(I)Ljava/lang/Throwable;"⟩, 6), (⟨"SightGraph", "requireNode", "(I)V"⟩, 8), (⟨"SightGraph", "mayBeSelfParent", "(II)Z"⟩, 8), (⟨"SightGraph", "isEvent", "(I)Z"⟩, 8), (⟨"SightGraph", "mayBeOtherParent", "(II)Z"⟩, 8), (⟨"SightGraph", "gatherAncestors", "(III)V"⟩, 8), (⟨"SightGraph", "addAncestorsOf", "(II)V"⟩, 8), (⟨"SightGraph", "forkersWithin", "(JJ)I"⟩, 8), (⟨"SightGraph", "hasForkWithin", "(JJI)Z"⟩, 8), (⟨"SightGraph", "roundFrom", "(III)I"⟩, 8), (⟨"SightGraph", "roundOfParent", "(I)I"⟩, 8), (⟨"SightGraph", "nodesWithWitnessFor", "(II)I"⟩, 8), (⟨"SightGraph", "opensRound", "(I)Z"⟩, 8), (⟨"SightGraph", "nodesBetween", "(II)I"⟩, 8), (⟨"SightGraph", "hasSight", "(II)Z"⟩, 8), (⟨"SightGraph", "hasAncestor", "(II)Z"⟩, 8)]
theorem lw_r1 : ∀ q ∈ lw_privs_1, lw_okq q := List.forall_mem_cons.mpr ⟨lw_p0, List.forall_mem_cons.mpr ⟨lw_p1, List.forall_mem_cons.mpr ⟨lw_p2, List.forall_mem_cons.mpr ⟨lw_p3, List.forall_mem_cons.mpr ⟨lw_p4, List.forall_mem_cons.mpr ⟨lw_p5, List.forall_mem_cons.mpr ⟨lw_p6, List.forall_mem_cons.mpr ⟨lw_p7, List.forall_mem_cons.mpr ⟨lw_p8, List.forall_mem_cons.mpr ⟨lw_p9, List.forall_mem_cons.mpr ⟨lw_p10, List.forall_mem_cons.mpr ⟨lw_p11, List.forall_mem_cons.mpr ⟨lw_p12, List.forall_mem_cons.mpr ⟨lw_p13, List.forall_mem_cons.mpr ⟨lw_p14, List.forall_mem_cons.mpr ⟨lw_p15, fun _ h => absurd h List.not_mem_nil⟩⟩⟩⟩⟩⟩⟩⟩⟩⟩⟩⟩⟩⟩⟩⟩
theorem lw_p16 : lw_okq (⟨"SightGraph", "isMany", "(I)Z"⟩, 8) := ⟨⟨by decide +kernel, by decide +kernel⟩, List.mem_of_getElem? (i := 11) (by decide +kernel), List.mem_of_getElem? (i := 223) (by decide +kernel), List.mem_of_getElem? (i := 224) (by decide +kernel)⟩
theorem lw_p17 : lw_okq (⟨"SightGraph", "requireEvent", "(I)V"⟩, 8) := ⟨⟨by decide +kernel, by decide +kernel⟩, List.mem_of_getElem? (i := 11) (by decide +kernel), List.mem_of_getElem? (i := 234) (by decide +kernel), List.mem_of_getElem? (i := 235) (by decide +kernel)⟩
theorem lw_p18 : lw_okq (⟨"SightGraph", "forkersOfAll", "()I"⟩, 8) := ⟨⟨by decide +kernel, by decide +kernel⟩, List.mem_of_getElem? (i := 11) (by decide +kernel), List.mem_of_getElem? (i := 295) (by decide +kernel), List.mem_of_getElem? (i := 296) (by decide +kernel)⟩
theorem lw_p19 : lw_okq (⟨"SightGraph", "greatestRound", "()I"⟩, 8) := ⟨⟨by decide +kernel, by decide +kernel⟩, List.mem_of_getElem? (i := 11) (by decide +kernel), List.mem_of_getElem? (i := 303) (by decide +kernel), List.mem_of_getElem? (i := 304) (by decide +kernel)⟩
theorem lw_p20 : lw_okq (⟨"SightGraphModel", "fails", "(ZI)Z"⟩, 10) := ⟨⟨by decide +kernel, by decide +kernel⟩, List.mem_of_getElem? (i := 308) (by decide +kernel), List.mem_of_getElem? (i := 359) (by decide +kernel), List.mem_of_getElem? (i := 360) (by decide +kernel)⟩
theorem lw_p21 : lw_okq (⟨"SightGraphModel", "isEvent", "(I)Z"⟩, 10) := ⟨⟨by decide +kernel, by decide +kernel⟩, List.mem_of_getElem? (i := 308) (by decide +kernel), List.mem_of_getElem? (i := 367) (by decide +kernel), List.mem_of_getElem? (i := 368) (by decide +kernel)⟩
theorem lw_p22 : lw_okq (⟨"SightGraphModel", "ways", "(I)V"⟩, 10) := ⟨⟨by decide +kernel, by decide +kernel⟩, List.mem_of_getElem? (i := 308) (by decide +kernel), List.mem_of_getElem? (i := 371) (by decide +kernel), List.mem_of_getElem? (i := 372) (by decide +kernel)⟩
theorem lw_p23 : lw_okq (⟨"SightGraphModel", "isAbove", "(II)Z"⟩, 10) := ⟨⟨by decide +kernel, by decide +kernel⟩, List.mem_of_getElem? (i := 308) (by decide +kernel), List.mem_of_getElem? (i := 375) (by decide +kernel), List.mem_of_getElem? (i := 376) (by decide +kernel)⟩
theorem lw_p24 : lw_okq (⟨"SightGraphModel", "isFork", "(II)Z"⟩, 10) := ⟨⟨by decide +kernel, by decide +kernel⟩, List.mem_of_getElem? (i := 308) (by decide +kernel), List.mem_of_getElem? (i := 379) (by decide +kernel), List.mem_of_getElem? (i := 380) (by decide +kernel)⟩
theorem lw_p25 : lw_okq (⟨"SightGraphModel", "isOwn", "(II)Z"⟩, 10) := ⟨⟨by decide +kernel, by decide +kernel⟩, List.mem_of_getElem? (i := 308) (by decide +kernel), List.mem_of_getElem? (i := 383) (by decide +kernel), List.mem_of_getElem? (i := 384) (by decide +kernel)⟩
theorem lw_p26 : lw_okq (⟨"SightGraphModel", "isWitness", "(I)Z"⟩, 10) := ⟨⟨by decide +kernel, by decide +kernel⟩, List.mem_of_getElem? (i := 308) (by decide +kernel), List.mem_of_getElem? (i := 388) (by decide +kernel), List.mem_of_getElem? (i := 389) (by decide +kernel)⟩
theorem lw_p27 : lw_okq (⟨"SightGraphModel", "isStrong", "(II)Z"⟩, 10) := ⟨⟨by decide +kernel, by decide +kernel⟩, List.mem_of_getElem? (i := 308) (by decide +kernel), List.mem_of_getElem? (i := 392) (by decide +kernel), List.mem_of_getElem? (i := 393) (by decide +kernel)⟩
theorem lw_p28 : lw_okq (⟨"SightGraphModel", "strengthOf", "(II)I"⟩, 10) := ⟨⟨by decide +kernel, by decide +kernel⟩, List.mem_of_getElem? (i := 308) (by decide +kernel), List.mem_of_getElem? (i := 396) (by decide +kernel), List.mem_of_getElem? (i := 397) (by decide +kernel)⟩
theorem lw_p29 : lw_okq (⟨"SightGraphModel", "isSeen", "(II)Z"⟩, 10) := ⟨⟨by decide +kernel, by decide +kernel⟩, List.mem_of_getElem? (i := 308) (by decide +kernel), List.mem_of_getElem? (i := 400) (by decide +kernel), List.mem_of_getElem? (i := 401) (by decide +kernel)⟩
def lw_privs_2 : List (MethodName × Nat) := [(⟨"SightGraph", "isMany", "(I)Z"⟩, 8), (⟨"SightGraph", "requireEvent", "(I)V"⟩, 8), (⟨"SightGraph", "forkersOfAll", "()I"⟩, 8), (⟨"SightGraph", "greatestRound", "()I"⟩, 8), (⟨"SightGraphModel", "fails", "(ZI)Z"⟩, 10), (⟨"SightGraphModel", "isEvent", "(I)Z"⟩, 10), (⟨"SightGraphModel", "ways", "(I)V"⟩, 10), (⟨"SightGraphModel", "isAbove", "(II)Z"⟩, 10), (⟨"SightGraphModel", "isFork", "(II)Z"⟩, 10), (⟨"SightGraphModel", "isOwn", "(II)Z"⟩, 10), (⟨"SightGraphModel", "isWitness", "(I)Z"⟩, 10), (⟨"SightGraphModel", "isStrong", "(II)Z"⟩, 10), (⟨"SightGraphModel", "strengthOf", "(II)I"⟩, 10), (⟨"SightGraphModel", "isSeen", "(II)Z"⟩, 10)]
theorem lw_r2 : ∀ q ∈ lw_privs_2, lw_okq q := List.forall_mem_cons.mpr ⟨lw_p16, List.forall_mem_cons.mpr ⟨lw_p17, List.forall_mem_cons.mpr ⟨lw_p18, List.forall_mem_cons.mpr ⟨lw_p19, List.forall_mem_cons.mpr ⟨lw_p20, List.forall_mem_cons.mpr ⟨lw_p21, List.forall_mem_cons.mpr ⟨lw_p22, List.forall_mem_cons.mpr ⟨lw_p23, List.forall_mem_cons.mpr ⟨lw_p24, List.forall_mem_cons.mpr ⟨lw_p25, List.forall_mem_cons.mpr ⟨lw_p26, List.forall_mem_cons.mpr ⟨lw_p27, List.forall_mem_cons.mpr ⟨lw_p28, List.forall_mem_cons.mpr ⟨lw_p29, fun _ h => absurd h List.not_mem_nil⟩⟩⟩⟩⟩⟩⟩⟩⟩⟩⟩⟩⟩⟩
def lw_privs : List (MethodName × Nat) := lw_privs_1 ++ (lw_privs_2)
def lw_tbl : List Cond := k2_sels lw_privs ++ tables_1
theorem lw_privs_ok : ∀ q ∈ lw_privs, lw_okq q := by
  show ∀ q ∈ lw_privs_1 ++ (lw_privs_2), lw_okq q
  exact List.forall_mem_append.mpr ⟨lw_r1, lw_r2⟩
end
section
-- names: methods, their bytes; the words that all methods share; a row a word
abbrev y_g_init : MethodName := ⟨"SightGraph", "<init>", "()V"⟩
abbrev b_g_init : ByteArray := prog_1_method_1_code
abbrev y_l_begin : MethodName := ⟨"SightGraphLaw", "begin", "(LSightGraph;I)I"⟩
abbrev b_l_begin : ByteArray := method_3_code
abbrev y_g_begin : MethodName := ⟨"SightGraph", "begin", "(I)V"⟩
abbrev b_g_begin : ByteArray := prog_1_method_2_code
abbrev y_l_event : MethodName := ⟨"SightGraphLaw", "event", "(LSightGraph;III[J)I"⟩
abbrev b_l_event : ByteArray := method_4_code
abbrev y_g_event : MethodName := ⟨"SightGraph", "event", "(III)I"⟩
abbrev b_g_event : ByteArray := prog_1_method_3_code
abbrev y_g_requireNode : MethodName := ⟨"SightGraph", "requireNode", "(I)V"⟩
abbrev b_g_requireNode : ByteArray := prog_1_method_13_code
abbrev y_g_mayBeSelfParent : MethodName := ⟨"SightGraph", "mayBeSelfParent", "(II)Z"⟩
abbrev b_g_mayBeSelfParent : ByteArray := prog_1_method_16_code
abbrev y_g_isEvent : MethodName := ⟨"SightGraph", "isEvent", "(I)Z"⟩
abbrev b_g_isEvent : ByteArray := prog_1_method_15_code
abbrev y_g_mayBeOtherParent : MethodName := ⟨"SightGraph", "mayBeOtherParent", "(II)Z"⟩
abbrev b_g_mayBeOtherParent : ByteArray := prog_1_method_17_code
abbrev y_g_gatherAncestors : MethodName := ⟨"SightGraph", "gatherAncestors", "(III)V"⟩
abbrev b_g_gatherAncestors : ByteArray := prog_1_method_18_code
abbrev y_g_addAncestorsOf : MethodName := ⟨"SightGraph", "addAncestorsOf", "(II)V"⟩
abbrev b_g_addAncestorsOf : ByteArray := prog_1_method_19_code
abbrev y_g_forkersWithin : MethodName := ⟨"SightGraph", "forkersWithin", "(JJ)I"⟩
abbrev b_g_forkersWithin : ByteArray := prog_1_method_25_code
abbrev y_g_hasForkWithin : MethodName := ⟨"SightGraph", "hasForkWithin", "(JJI)Z"⟩
abbrev b_g_hasForkWithin : ByteArray := prog_1_method_26_code
abbrev y_g_isWithin : MethodName := ⟨"SightGraph", "isWithin", "(JJI)Z"⟩
abbrev b_g_isWithin : ByteArray := prog_1_method_21_code
abbrev y_g_roundFrom : MethodName := ⟨"SightGraph", "roundFrom", "(III)I"⟩
abbrev b_g_roundFrom : ByteArray := prog_1_method_30_code
abbrev y_g_roundOfParent : MethodName := ⟨"SightGraph", "roundOfParent", "(I)I"⟩
abbrev b_g_roundOfParent : ByteArray := prog_1_method_31_code
abbrev y_g_nodesWithWitnessFor : MethodName := ⟨"SightGraph", "nodesWithWitnessFor", "(II)I"⟩
abbrev b_g_nodesWithWitnessFor : ByteArray := prog_1_method_32_code
abbrev y_g_opensRound : MethodName := ⟨"SightGraph", "opensRound", "(I)Z"⟩
abbrev b_g_opensRound : ByteArray := prog_1_method_33_code
abbrev y_g_nodesBetween : MethodName := ⟨"SightGraph", "nodesBetween", "(II)I"⟩
abbrev b_g_nodesBetween : ByteArray := prog_1_method_28_code
abbrev y_g_hasSight : MethodName := ⟨"SightGraph", "hasSight", "(II)Z"⟩
abbrev b_g_hasSight : ByteArray := prog_1_method_27_code
abbrev y_g_hasAncestor : MethodName := ⟨"SightGraph", "hasAncestor", "(II)Z"⟩
abbrev b_g_hasAncestor : ByteArray := prog_1_method_20_code
abbrev y_g_hasBit : MethodName := ⟨"SightGraph", "hasBit", "(II)Z"⟩
abbrev b_g_hasBit : ByteArray := prog_1_method_22_code
abbrev y_j_bitCount : MethodName := ⟨"java/lang/Integer", "bitCount", "(I)I"⟩
abbrev b_j_bitCount : ByteArray := prog_7_method_49_code
abbrev y_g_isMany : MethodName := ⟨"SightGraph", "isMany", "(I)Z"⟩
abbrev b_g_isMany : ByteArray := prog_1_method_29_code
abbrev y_l_ancestor : MethodName := ⟨"SightGraphLaw", "ancestor", "(LSightGraph;II[J)I"⟩
abbrev b_l_ancestor : ByteArray := method_5_code
abbrev y_g_ancestor : MethodName := ⟨"SightGraph", "ancestor", "(II)Z"⟩
abbrev b_g_ancestor : ByteArray := prog_1_method_4_code
abbrev y_g_requireEvent : MethodName := ⟨"SightGraph", "requireEvent", "(I)V"⟩
abbrev b_g_requireEvent : ByteArray := prog_1_method_14_code
abbrev y_l_own : MethodName := ⟨"SightGraphLaw", "own", "(LSightGraph;II[J)I"⟩
abbrev b_l_own : ByteArray := method_6_code
abbrev y_g_own : MethodName := ⟨"SightGraph", "own", "(II)Z"⟩
abbrev b_g_own : ByteArray := prog_1_method_5_code
abbrev y_l_forked : MethodName := ⟨"SightGraphLaw", "forked", "(LSightGraph;II[J)I"⟩
abbrev b_l_forked : ByteArray := method_7_code
abbrev y_g_forked : MethodName := ⟨"SightGraph", "forked", "(II)Z"⟩
abbrev b_g_forked : ByteArray := prog_1_method_6_code
abbrev y_l_sees : MethodName := ⟨"SightGraphLaw", "sees", "(LSightGraph;II[J)I"⟩
abbrev b_l_sees : ByteArray := method_8_code
abbrev y_g_sees : MethodName := ⟨"SightGraph", "sees", "(II)Z"⟩
abbrev b_g_sees : ByteArray := prog_1_method_7_code
abbrev y_l_strength : MethodName := ⟨"SightGraphLaw", "strength", "(LSightGraph;II[J)I"⟩
abbrev b_l_strength : ByteArray := method_9_code
abbrev y_g_strength : MethodName := ⟨"SightGraph", "strength", "(II)I"⟩
abbrev b_g_strength : ByteArray := prog_1_method_8_code
abbrev y_l_strongly : MethodName := ⟨"SightGraphLaw", "strongly", "(LSightGraph;II[J)I"⟩
abbrev b_l_strongly : ByteArray := method_10_code
abbrev y_g_strongly : MethodName := ⟨"SightGraph", "strongly", "(II)Z"⟩
abbrev b_g_strongly : ByteArray := prog_1_method_9_code
abbrev y_l_round : MethodName := ⟨"SightGraphLaw", "round", "(LSightGraph;I[J)I"⟩
abbrev b_l_round : ByteArray := method_11_code
abbrev y_g_round : MethodName := ⟨"SightGraph", "round", "(I)I"⟩
abbrev b_g_round : ByteArray := prog_1_method_10_code
abbrev y_l_witness : MethodName := ⟨"SightGraphLaw", "witness", "(LSightGraph;I[J)I"⟩
abbrev b_l_witness : ByteArray := method_12_code
abbrev y_g_witness : MethodName := ⟨"SightGraph", "witness", "(I)Z"⟩
abbrev b_g_witness : ByteArray := prog_1_method_11_code
abbrev y_l_count : MethodName := ⟨"SightGraphLaw", "count", "(LSightGraph;I[J)I"⟩
abbrev b_l_count : ByteArray := method_13_code
abbrev y_g_count : MethodName := ⟨"SightGraph", "count", "(I)I"⟩
abbrev b_g_count : ByteArray := prog_1_method_12_code
abbrev y_g_forkersOfAll : MethodName := ⟨"SightGraph", "forkersOfAll", "()I"⟩
abbrev b_g_forkersOfAll : ByteArray := prog_1_method_24_code
abbrev y_g_lowestBits : MethodName := ⟨"SightGraph", "lowestBits", "(I)J"⟩
abbrev b_g_lowestBits : ByteArray := prog_1_method_23_code
abbrev y_g_greatestRound : MethodName := ⟨"SightGraph", "greatestRound", "()I"⟩
abbrev b_g_greatestRound : ByteArray := prog_1_method_34_code
abbrev y_r_init : MethodName := ⟨"SightGraphModel", "<init>", "()V"⟩
abbrev b_r_init : ByteArray := prog_3_method_1_code
abbrev y_r_thrown : MethodName := ⟨"SightGraphModel", "thrown", "()I"⟩
abbrev b_r_thrown : ByteArray := prog_3_method_2_code
abbrev y_r_begin : MethodName := ⟨"SightGraphModel", "begin", "(I)V"⟩
abbrev b_r_begin : ByteArray := prog_3_method_9_code
abbrev y_r_in : MethodName := ⟨"SightGraphModel", "in", "(JJJ)Z"⟩
abbrev b_r_in : ByteArray := prog_3_method_3_code
abbrev y_r_fails : MethodName := ⟨"SightGraphModel", "fails", "(ZI)Z"⟩
abbrev b_r_fails : ByteArray := prog_3_method_4_code
abbrev y_r_event : MethodName := ⟨"SightGraphModel", "event", "(III)I"⟩
abbrev b_r_event : ByteArray := prog_3_method_11_code
abbrev y_r_isEvent : MethodName := ⟨"SightGraphModel", "isEvent", "(I)Z"⟩
abbrev b_r_isEvent : ByteArray := prog_3_method_5_code
abbrev y_r_ways : MethodName := ⟨"SightGraphModel", "ways", "(I)V"⟩
abbrev b_r_ways : ByteArray := prog_3_method_10_code
abbrev y_r_isAbove : MethodName := ⟨"SightGraphModel", "isAbove", "(II)Z"⟩
abbrev b_r_isAbove : ByteArray := prog_3_method_6_code
abbrev y_r_isFork : MethodName := ⟨"SightGraphModel", "isFork", "(II)Z"⟩
abbrev b_r_isFork : ByteArray := prog_3_method_8_code
abbrev y_r_isOwn : MethodName := ⟨"SightGraphModel", "isOwn", "(II)Z"⟩
abbrev b_r_isOwn : ByteArray := prog_3_method_7_code
abbrev y_r_isWitness : MethodName := ⟨"SightGraphModel", "isWitness", "(I)Z"⟩
abbrev b_r_isWitness : ByteArray := prog_3_method_15_code
abbrev y_r_isStrong : MethodName := ⟨"SightGraphModel", "isStrong", "(II)Z"⟩
abbrev b_r_isStrong : ByteArray := prog_3_method_14_code
abbrev y_r_strengthOf : MethodName := ⟨"SightGraphModel", "strengthOf", "(II)I"⟩
abbrev b_r_strengthOf : ByteArray := prog_3_method_13_code
abbrev y_r_isSeen : MethodName := ⟨"SightGraphModel", "isSeen", "(II)Z"⟩
abbrev b_r_isSeen : ByteArray := prog_3_method_12_code
abbrev y_r_ancestor : MethodName := ⟨"SightGraphModel", "ancestor", "(II)Z"⟩
abbrev b_r_ancestor : ByteArray := prog_3_method_16_code
abbrev y_r_own : MethodName := ⟨"SightGraphModel", "own", "(II)Z"⟩
abbrev b_r_own : ByteArray := prog_3_method_17_code
abbrev y_r_forked : MethodName := ⟨"SightGraphModel", "forked", "(II)Z"⟩
abbrev b_r_forked : ByteArray := prog_3_method_18_code
abbrev y_r_sees : MethodName := ⟨"SightGraphModel", "sees", "(II)Z"⟩
abbrev b_r_sees : ByteArray := prog_3_method_19_code
abbrev y_r_strength : MethodName := ⟨"SightGraphModel", "strength", "(II)I"⟩
abbrev b_r_strength : ByteArray := prog_3_method_20_code
abbrev y_r_strongly : MethodName := ⟨"SightGraphModel", "strongly", "(II)Z"⟩
abbrev b_r_strongly : ByteArray := prog_3_method_21_code
abbrev y_r_round : MethodName := ⟨"SightGraphModel", "round", "(I)I"⟩
abbrev b_r_round : ByteArray := prog_3_method_22_code
abbrev y_r_witness : MethodName := ⟨"SightGraphModel", "witness", "(I)Z"⟩
abbrev b_r_witness : ByteArray := prog_3_method_23_code
abbrev y_r_count : MethodName := ⟨"SightGraphModel", "count", "(I)I"⟩
abbrev b_r_count : ByteArray := prog_3_method_24_code
theorem h_l_begin : y_l_begin.cls ≠ "java/lang/invoke/MethodHandle" ∧ y_l_begin.cls ≠ "java/lang/invoke/VarHandle" ∧ (parseMethodDescriptor y_l_begin.desc).map (fun d => d.parameters.length) = some 2 := by decide +kernel
theorem h_g_begin : y_g_begin.cls ≠ "java/lang/invoke/MethodHandle" ∧ y_g_begin.cls ≠ "java/lang/invoke/VarHandle" ∧ (parseMethodDescriptor y_g_begin.desc).map (fun d => d.parameters.length) = some 1 := by decide +kernel
theorem h_l_event : y_l_event.cls ≠ "java/lang/invoke/MethodHandle" ∧ y_l_event.cls ≠ "java/lang/invoke/VarHandle" ∧ (parseMethodDescriptor y_l_event.desc).map (fun d => d.parameters.length) = some 5 := by decide +kernel
theorem h_g_event : y_g_event.cls ≠ "java/lang/invoke/MethodHandle" ∧ y_g_event.cls ≠ "java/lang/invoke/VarHandle" ∧ (parseMethodDescriptor y_g_event.desc).map (fun d => d.parameters.length) = some 3 := by decide +kernel
theorem h_g_requireNode : y_g_requireNode.cls ≠ "java/lang/invoke/MethodHandle" ∧ y_g_requireNode.cls ≠ "java/lang/invoke/VarHandle" ∧ (parseMethodDescriptor y_g_requireNode.desc).map (fun d => d.parameters.length) = some 1 := by decide +kernel
theorem h_g_mayBeSelfParent : y_g_mayBeSelfParent.cls ≠ "java/lang/invoke/MethodHandle" ∧ y_g_mayBeSelfParent.cls ≠ "java/lang/invoke/VarHandle" ∧ (parseMethodDescriptor y_g_mayBeSelfParent.desc).map (fun d => d.parameters.length) = some 2 := by decide +kernel
theorem h_g_isEvent : y_g_isEvent.cls ≠ "java/lang/invoke/MethodHandle" ∧ y_g_isEvent.cls ≠ "java/lang/invoke/VarHandle" ∧ (parseMethodDescriptor y_g_isEvent.desc).map (fun d => d.parameters.length) = some 1 := by decide +kernel
theorem h_g_mayBeOtherParent : y_g_mayBeOtherParent.cls ≠ "java/lang/invoke/MethodHandle" ∧ y_g_mayBeOtherParent.cls ≠ "java/lang/invoke/VarHandle" ∧ (parseMethodDescriptor y_g_mayBeOtherParent.desc).map (fun d => d.parameters.length) = some 2 := by decide +kernel
theorem h_g_gatherAncestors : y_g_gatherAncestors.cls ≠ "java/lang/invoke/MethodHandle" ∧ y_g_gatherAncestors.cls ≠ "java/lang/invoke/VarHandle" ∧ (parseMethodDescriptor y_g_gatherAncestors.desc).map (fun d => d.parameters.length) = some 3 := by decide +kernel
theorem h_g_addAncestorsOf : y_g_addAncestorsOf.cls ≠ "java/lang/invoke/MethodHandle" ∧ y_g_addAncestorsOf.cls ≠ "java/lang/invoke/VarHandle" ∧ (parseMethodDescriptor y_g_addAncestorsOf.desc).map (fun d => d.parameters.length) = some 2 := by decide +kernel
theorem h_g_forkersWithin : y_g_forkersWithin.cls ≠ "java/lang/invoke/MethodHandle" ∧ y_g_forkersWithin.cls ≠ "java/lang/invoke/VarHandle" ∧ (parseMethodDescriptor y_g_forkersWithin.desc).map (fun d => d.parameters.length) = some 2 := by decide +kernel
theorem h_g_hasForkWithin : y_g_hasForkWithin.cls ≠ "java/lang/invoke/MethodHandle" ∧ y_g_hasForkWithin.cls ≠ "java/lang/invoke/VarHandle" ∧ (parseMethodDescriptor y_g_hasForkWithin.desc).map (fun d => d.parameters.length) = some 3 := by decide +kernel
theorem h_g_isWithin : y_g_isWithin.cls ≠ "java/lang/invoke/MethodHandle" ∧ y_g_isWithin.cls ≠ "java/lang/invoke/VarHandle" ∧ (parseMethodDescriptor y_g_isWithin.desc).map (fun d => d.parameters.length) = some 3 := by decide +kernel
theorem h_g_roundFrom : y_g_roundFrom.cls ≠ "java/lang/invoke/MethodHandle" ∧ y_g_roundFrom.cls ≠ "java/lang/invoke/VarHandle" ∧ (parseMethodDescriptor y_g_roundFrom.desc).map (fun d => d.parameters.length) = some 3 := by decide +kernel
theorem h_g_roundOfParent : y_g_roundOfParent.cls ≠ "java/lang/invoke/MethodHandle" ∧ y_g_roundOfParent.cls ≠ "java/lang/invoke/VarHandle" ∧ (parseMethodDescriptor y_g_roundOfParent.desc).map (fun d => d.parameters.length) = some 1 := by decide +kernel
theorem h_g_nodesWithWitnessFor : y_g_nodesWithWitnessFor.cls ≠ "java/lang/invoke/MethodHandle" ∧ y_g_nodesWithWitnessFor.cls ≠ "java/lang/invoke/VarHandle" ∧ (parseMethodDescriptor y_g_nodesWithWitnessFor.desc).map (fun d => d.parameters.length) = some 2 := by decide +kernel
theorem h_g_opensRound : y_g_opensRound.cls ≠ "java/lang/invoke/MethodHandle" ∧ y_g_opensRound.cls ≠ "java/lang/invoke/VarHandle" ∧ (parseMethodDescriptor y_g_opensRound.desc).map (fun d => d.parameters.length) = some 1 := by decide +kernel
theorem h_g_nodesBetween : y_g_nodesBetween.cls ≠ "java/lang/invoke/MethodHandle" ∧ y_g_nodesBetween.cls ≠ "java/lang/invoke/VarHandle" ∧ (parseMethodDescriptor y_g_nodesBetween.desc).map (fun d => d.parameters.length) = some 2 := by decide +kernel
theorem h_g_hasSight : y_g_hasSight.cls ≠ "java/lang/invoke/MethodHandle" ∧ y_g_hasSight.cls ≠ "java/lang/invoke/VarHandle" ∧ (parseMethodDescriptor y_g_hasSight.desc).map (fun d => d.parameters.length) = some 2 := by decide +kernel
theorem h_g_hasAncestor : y_g_hasAncestor.cls ≠ "java/lang/invoke/MethodHandle" ∧ y_g_hasAncestor.cls ≠ "java/lang/invoke/VarHandle" ∧ (parseMethodDescriptor y_g_hasAncestor.desc).map (fun d => d.parameters.length) = some 2 := by decide +kernel
theorem h_g_hasBit : y_g_hasBit.cls ≠ "java/lang/invoke/MethodHandle" ∧ y_g_hasBit.cls ≠ "java/lang/invoke/VarHandle" ∧ (parseMethodDescriptor y_g_hasBit.desc).map (fun d => d.parameters.length) = some 2 := by decide +kernel
theorem h_j_bitCount : y_j_bitCount.cls ≠ "java/lang/invoke/MethodHandle" ∧ y_j_bitCount.cls ≠ "java/lang/invoke/VarHandle" ∧ (parseMethodDescriptor y_j_bitCount.desc).map (fun d => d.parameters.length) = some 1 := by decide +kernel
theorem h_g_isMany : y_g_isMany.cls ≠ "java/lang/invoke/MethodHandle" ∧ y_g_isMany.cls ≠ "java/lang/invoke/VarHandle" ∧ (parseMethodDescriptor y_g_isMany.desc).map (fun d => d.parameters.length) = some 1 := by decide +kernel
theorem h_l_ancestor : y_l_ancestor.cls ≠ "java/lang/invoke/MethodHandle" ∧ y_l_ancestor.cls ≠ "java/lang/invoke/VarHandle" ∧ (parseMethodDescriptor y_l_ancestor.desc).map (fun d => d.parameters.length) = some 4 := by decide +kernel
theorem h_g_ancestor : y_g_ancestor.cls ≠ "java/lang/invoke/MethodHandle" ∧ y_g_ancestor.cls ≠ "java/lang/invoke/VarHandle" ∧ (parseMethodDescriptor y_g_ancestor.desc).map (fun d => d.parameters.length) = some 2 := by decide +kernel
theorem h_g_requireEvent : y_g_requireEvent.cls ≠ "java/lang/invoke/MethodHandle" ∧ y_g_requireEvent.cls ≠ "java/lang/invoke/VarHandle" ∧ (parseMethodDescriptor y_g_requireEvent.desc).map (fun d => d.parameters.length) = some 1 := by decide +kernel
theorem h_l_own : y_l_own.cls ≠ "java/lang/invoke/MethodHandle" ∧ y_l_own.cls ≠ "java/lang/invoke/VarHandle" ∧ (parseMethodDescriptor y_l_own.desc).map (fun d => d.parameters.length) = some 4 := by decide +kernel
theorem h_g_own : y_g_own.cls ≠ "java/lang/invoke/MethodHandle" ∧ y_g_own.cls ≠ "java/lang/invoke/VarHandle" ∧ (parseMethodDescriptor y_g_own.desc).map (fun d => d.parameters.length) = some 2 := by decide +kernel
theorem h_l_forked : y_l_forked.cls ≠ "java/lang/invoke/MethodHandle" ∧ y_l_forked.cls ≠ "java/lang/invoke/VarHandle" ∧ (parseMethodDescriptor y_l_forked.desc).map (fun d => d.parameters.length) = some 4 := by decide +kernel
theorem h_g_forked : y_g_forked.cls ≠ "java/lang/invoke/MethodHandle" ∧ y_g_forked.cls ≠ "java/lang/invoke/VarHandle" ∧ (parseMethodDescriptor y_g_forked.desc).map (fun d => d.parameters.length) = some 2 := by decide +kernel
theorem h_l_sees : y_l_sees.cls ≠ "java/lang/invoke/MethodHandle" ∧ y_l_sees.cls ≠ "java/lang/invoke/VarHandle" ∧ (parseMethodDescriptor y_l_sees.desc).map (fun d => d.parameters.length) = some 4 := by decide +kernel
theorem h_g_sees : y_g_sees.cls ≠ "java/lang/invoke/MethodHandle" ∧ y_g_sees.cls ≠ "java/lang/invoke/VarHandle" ∧ (parseMethodDescriptor y_g_sees.desc).map (fun d => d.parameters.length) = some 2 := by decide +kernel
theorem h_l_strength : y_l_strength.cls ≠ "java/lang/invoke/MethodHandle" ∧ y_l_strength.cls ≠ "java/lang/invoke/VarHandle" ∧ (parseMethodDescriptor y_l_strength.desc).map (fun d => d.parameters.length) = some 4 := by decide +kernel
theorem h_g_strength : y_g_strength.cls ≠ "java/lang/invoke/MethodHandle" ∧ y_g_strength.cls ≠ "java/lang/invoke/VarHandle" ∧ (parseMethodDescriptor y_g_strength.desc).map (fun d => d.parameters.length) = some 2 := by decide +kernel
theorem h_l_strongly : y_l_strongly.cls ≠ "java/lang/invoke/MethodHandle" ∧ y_l_strongly.cls ≠ "java/lang/invoke/VarHandle" ∧ (parseMethodDescriptor y_l_strongly.desc).map (fun d => d.parameters.length) = some 4 := by decide +kernel
theorem h_g_strongly : y_g_strongly.cls ≠ "java/lang/invoke/MethodHandle" ∧ y_g_strongly.cls ≠ "java/lang/invoke/VarHandle" ∧ (parseMethodDescriptor y_g_strongly.desc).map (fun d => d.parameters.length) = some 2 := by decide +kernel
theorem h_l_round : y_l_round.cls ≠ "java/lang/invoke/MethodHandle" ∧ y_l_round.cls ≠ "java/lang/invoke/VarHandle" ∧ (parseMethodDescriptor y_l_round.desc).map (fun d => d.parameters.length) = some 3 := by decide +kernel
theorem h_g_round : y_g_round.cls ≠ "java/lang/invoke/MethodHandle" ∧ y_g_round.cls ≠ "java/lang/invoke/VarHandle" ∧ (parseMethodDescriptor y_g_round.desc).map (fun d => d.parameters.length) = some 1 := by decide +kernel
theorem h_l_witness : y_l_witness.cls ≠ "java/lang/invoke/MethodHandle" ∧ y_l_witness.cls ≠ "java/lang/invoke/VarHandle" ∧ (parseMethodDescriptor y_l_witness.desc).map (fun d => d.parameters.length) = some 3 := by decide +kernel
theorem h_g_witness : y_g_witness.cls ≠ "java/lang/invoke/MethodHandle" ∧ y_g_witness.cls ≠ "java/lang/invoke/VarHandle" ∧ (parseMethodDescriptor y_g_witness.desc).map (fun d => d.parameters.length) = some 1 := by decide +kernel
theorem h_l_count : y_l_count.cls ≠ "java/lang/invoke/MethodHandle" ∧ y_l_count.cls ≠ "java/lang/invoke/VarHandle" ∧ (parseMethodDescriptor y_l_count.desc).map (fun d => d.parameters.length) = some 3 := by decide +kernel
theorem h_g_count : y_g_count.cls ≠ "java/lang/invoke/MethodHandle" ∧ y_g_count.cls ≠ "java/lang/invoke/VarHandle" ∧ (parseMethodDescriptor y_g_count.desc).map (fun d => d.parameters.length) = some 1 := by decide +kernel
theorem h_g_forkersOfAll : y_g_forkersOfAll.cls ≠ "java/lang/invoke/MethodHandle" ∧ y_g_forkersOfAll.cls ≠ "java/lang/invoke/VarHandle" ∧ (parseMethodDescriptor y_g_forkersOfAll.desc).map (fun d => d.parameters.length) = some 0 := by decide +kernel
theorem h_g_lowestBits : y_g_lowestBits.cls ≠ "java/lang/invoke/MethodHandle" ∧ y_g_lowestBits.cls ≠ "java/lang/invoke/VarHandle" ∧ (parseMethodDescriptor y_g_lowestBits.desc).map (fun d => d.parameters.length) = some 1 := by decide +kernel
theorem h_g_greatestRound : y_g_greatestRound.cls ≠ "java/lang/invoke/MethodHandle" ∧ y_g_greatestRound.cls ≠ "java/lang/invoke/VarHandle" ∧ (parseMethodDescriptor y_g_greatestRound.desc).map (fun d => d.parameters.length) = some 0 := by decide +kernel
theorem h_r_thrown : y_r_thrown.cls ≠ "java/lang/invoke/MethodHandle" ∧ y_r_thrown.cls ≠ "java/lang/invoke/VarHandle" ∧ (parseMethodDescriptor y_r_thrown.desc).map (fun d => d.parameters.length) = some 0 := by decide +kernel
theorem h_r_begin : y_r_begin.cls ≠ "java/lang/invoke/MethodHandle" ∧ y_r_begin.cls ≠ "java/lang/invoke/VarHandle" ∧ (parseMethodDescriptor y_r_begin.desc).map (fun d => d.parameters.length) = some 1 := by decide +kernel
theorem h_r_in : y_r_in.cls ≠ "java/lang/invoke/MethodHandle" ∧ y_r_in.cls ≠ "java/lang/invoke/VarHandle" ∧ (parseMethodDescriptor y_r_in.desc).map (fun d => d.parameters.length) = some 3 := by decide +kernel
theorem h_r_fails : y_r_fails.cls ≠ "java/lang/invoke/MethodHandle" ∧ y_r_fails.cls ≠ "java/lang/invoke/VarHandle" ∧ (parseMethodDescriptor y_r_fails.desc).map (fun d => d.parameters.length) = some 2 := by decide +kernel
theorem h_r_event : y_r_event.cls ≠ "java/lang/invoke/MethodHandle" ∧ y_r_event.cls ≠ "java/lang/invoke/VarHandle" ∧ (parseMethodDescriptor y_r_event.desc).map (fun d => d.parameters.length) = some 3 := by decide +kernel
theorem h_r_isEvent : y_r_isEvent.cls ≠ "java/lang/invoke/MethodHandle" ∧ y_r_isEvent.cls ≠ "java/lang/invoke/VarHandle" ∧ (parseMethodDescriptor y_r_isEvent.desc).map (fun d => d.parameters.length) = some 1 := by decide +kernel
theorem h_r_ways : y_r_ways.cls ≠ "java/lang/invoke/MethodHandle" ∧ y_r_ways.cls ≠ "java/lang/invoke/VarHandle" ∧ (parseMethodDescriptor y_r_ways.desc).map (fun d => d.parameters.length) = some 1 := by decide +kernel
theorem h_r_isAbove : y_r_isAbove.cls ≠ "java/lang/invoke/MethodHandle" ∧ y_r_isAbove.cls ≠ "java/lang/invoke/VarHandle" ∧ (parseMethodDescriptor y_r_isAbove.desc).map (fun d => d.parameters.length) = some 2 := by decide +kernel
theorem h_r_isFork : y_r_isFork.cls ≠ "java/lang/invoke/MethodHandle" ∧ y_r_isFork.cls ≠ "java/lang/invoke/VarHandle" ∧ (parseMethodDescriptor y_r_isFork.desc).map (fun d => d.parameters.length) = some 2 := by decide +kernel
theorem h_r_isOwn : y_r_isOwn.cls ≠ "java/lang/invoke/MethodHandle" ∧ y_r_isOwn.cls ≠ "java/lang/invoke/VarHandle" ∧ (parseMethodDescriptor y_r_isOwn.desc).map (fun d => d.parameters.length) = some 2 := by decide +kernel
theorem h_r_isWitness : y_r_isWitness.cls ≠ "java/lang/invoke/MethodHandle" ∧ y_r_isWitness.cls ≠ "java/lang/invoke/VarHandle" ∧ (parseMethodDescriptor y_r_isWitness.desc).map (fun d => d.parameters.length) = some 1 := by decide +kernel
theorem h_r_isStrong : y_r_isStrong.cls ≠ "java/lang/invoke/MethodHandle" ∧ y_r_isStrong.cls ≠ "java/lang/invoke/VarHandle" ∧ (parseMethodDescriptor y_r_isStrong.desc).map (fun d => d.parameters.length) = some 2 := by decide +kernel
theorem h_r_strengthOf : y_r_strengthOf.cls ≠ "java/lang/invoke/MethodHandle" ∧ y_r_strengthOf.cls ≠ "java/lang/invoke/VarHandle" ∧ (parseMethodDescriptor y_r_strengthOf.desc).map (fun d => d.parameters.length) = some 2 := by decide +kernel
theorem h_r_isSeen : y_r_isSeen.cls ≠ "java/lang/invoke/MethodHandle" ∧ y_r_isSeen.cls ≠ "java/lang/invoke/VarHandle" ∧ (parseMethodDescriptor y_r_isSeen.desc).map (fun d => d.parameters.length) = some 2 := by decide +kernel
theorem h_r_ancestor : y_r_ancestor.cls ≠ "java/lang/invoke/MethodHandle" ∧ y_r_ancestor.cls ≠ "java/lang/invoke/VarHandle" ∧ (parseMethodDescriptor y_r_ancestor.desc).map (fun d => d.parameters.length) = some 2 := by decide +kernel
theorem h_r_own : y_r_own.cls ≠ "java/lang/invoke/MethodHandle" ∧ y_r_own.cls ≠ "java/lang/invoke/VarHandle" ∧ (parseMethodDescriptor y_r_own.desc).map (fun d => d.parameters.length) = some 2 := by decide +kernel
theorem h_r_forked : y_r_forked.cls ≠ "java/lang/invoke/MethodHandle" ∧ y_r_forked.cls ≠ "java/lang/invoke/VarHandle" ∧ (parseMethodDescriptor y_r_forked.desc).map (fun d => d.parameters.length) = some 2 := by decide +kernel
theorem h_r_sees : y_r_sees.cls ≠ "java/lang/invoke/MethodHandle" ∧ y_r_sees.cls ≠ "java/lang/invoke/VarHandle" ∧ (parseMethodDescriptor y_r_sees.desc).map (fun d => d.parameters.length) = some 2 := by decide +kernel
theorem h_r_strength : y_r_strength.cls ≠ "java/lang/invoke/MethodHandle" ∧ y_r_strength.cls ≠ "java/lang/invoke/VarHandle" ∧ (parseMethodDescriptor y_r_strength.desc).map (fun d => d.parameters.length) = some 2 := by decide +kernel
theorem h_r_strongly : y_r_strongly.cls ≠ "java/lang/invoke/MethodHandle" ∧ y_r_strongly.cls ≠ "java/lang/invoke/VarHandle" ∧ (parseMethodDescriptor y_r_strongly.desc).map (fun d => d.parameters.length) = some 2 := by decide +kernel
theorem h_r_round : y_r_round.cls ≠ "java/lang/invoke/MethodHandle" ∧ y_r_round.cls ≠ "java/lang/invoke/VarHandle" ∧ (parseMethodDescriptor y_r_round.desc).map (fun d => d.parameters.length) = some 1 := by decide +kernel
theorem h_r_witness : y_r_witness.cls ≠ "java/lang/invoke/MethodHandle" ∧ y_r_witness.cls ≠ "java/lang/invoke/VarHandle" ∧ (parseMethodDescriptor y_r_witness.desc).map (fun d => d.parameters.length) = some 1 := by decide +kernel
theorem h_r_count : y_r_count.cls ≠ "java/lang/invoke/MethodHandle" ∧ y_r_count.cls ≠ "java/lang/invoke/VarHandle" ∧ (parseMethodDescriptor y_r_count.desc).map (fun d => d.parameters.length) = some 1 := by decide +kernel
def Cw : List Cond := lw_tbl.filter goodWord
theorem cw_1 {w : Cond} (i : Nat) (h : tables_1_1[i]? = some w) (hg : goodWord w = true) : w ∈ Cw := List.mem_filter.mpr ⟨List.mem_append_right _ (List.mem_append_left _ (List.mem_of_getElem? h)), hg⟩
theorem cw_2 {w : Cond} (i : Nat) (h : tables_1_2[i]? = some w) (hg : goodWord w = true) : w ∈ Cw := List.mem_filter.mpr ⟨List.mem_append_right _ (List.mem_append_right _ (List.mem_of_getElem? h)), hg⟩
theorem cw_s {w : Cond} (i : Nat) (h : (k2_sels lw_privs)[i]? = some w) (hg : goodWord w = true) : w ∈ Cw := List.mem_filter.mpr ⟨List.mem_append_left _ (List.mem_of_getElem? h), hg⟩
theorem k_1_0 : (Cond.initialized "SightGraphLaw") ∈ Cw := cw_1 0 rfl rfl
theorem k_1_1 : (Cond.initialized "SightGraph") ∈ Cw := cw_1 1 rfl rfl
theorem k_1_2 : (Cond.initialized "SightGraphModel") ∈ Cw := cw_1 2 rfl rfl
theorem k_1_3 : (Cond.initialized "java/lang/Throwable") ∈ Cw := cw_1 3 rfl rfl
theorem k_1_4 : (Cond.initialized "java/lang/Exception") ∈ Cw := cw_1 4 rfl rfl
theorem k_1_5 : (Cond.initialized "java/lang/RuntimeException") ∈ Cw := cw_1 5 rfl rfl
theorem k_1_6 : (Cond.initialized "java/lang/IllegalArgumentException") ∈ Cw := cw_1 6 rfl rfl
theorem k_1_7 : (Cond.initialized "java/lang/IndexOutOfBoundsException") ∈ Cw := cw_1 7 rfl rfl
theorem k_1_8 : (Cond.initialized "java/lang/Math") ∈ Cw := cw_1 8 rfl rfl
theorem k_1_9 : (Cond.initialized "java/lang/Integer") ∈ Cw := cw_1 9 rfl rfl
theorem k_1_10 : (Cond.classLink "SightGraphLaw" 8 "SightGraph") ∈ Cw := cw_1 10 rfl rfl
theorem k_1_11 : (Cond.instantiable "SightGraph" 8) ∈ Cw := cw_1 11 rfl rfl
theorem k_1_12 : (Cond.methodLink "SightGraphLaw" 52 y_g_init) ∈ Cw := cw_1 12 rfl rfl
theorem k_1_13 : (Cond.instanceMethod y_g_init) ∈ Cw := cw_1 13 rfl rfl
theorem k_1_14 : (Cond.code y_g_init b_g_init 1 none) ∈ Cw := cw_1 14 rfl rfl
theorem k_1_15 : (Cond.methodLink "SightGraph" 1 objectInit) ∈ Cw := cw_1 15 rfl rfl
theorem k_1_16 : (Cond.instanceMethod objectInit) ∈ Cw := cw_1 16 rfl rfl
theorem k_1_17 : (Cond.code objectInit ⟨#[0xb1]⟩ 1 none) ∈ Cw := cw_1 17 rfl rfl
theorem k_1_18 : (Cond.fieldLink "SightGraph" 9 "SightGraph" "nodes" "I") ∈ Cw := cw_1 18 rfl rfl
theorem k_1_19 : (Cond.fieldLink "SightGraph" 13 "SightGraph" "events" "I") ∈ Cw := cw_1 19 rfl rfl
theorem k_1_20 : (Cond.fieldLink "SightGraph" 16 "SightGraph" "creators" "[I") ∈ Cw := cw_1 20 rfl rfl
theorem k_1_21 : (Cond.fieldLink "SightGraph" 20 "SightGraph" "selfParents" "[I") ∈ Cw := cw_1 21 rfl rfl
theorem k_1_22 : (Cond.fieldLink "SightGraph" 23 "SightGraph" "rounds" "[I") ∈ Cw := cw_1 22 rfl rfl
theorem k_1_23 : (Cond.fieldLink "SightGraph" 26 "SightGraph" "forkers" "[I") ∈ Cw := cw_1 23 rfl rfl
theorem k_1_24 : (Cond.fieldLink "SightGraph" 29 "SightGraph" "lowAncestors" "[J") ∈ Cw := cw_1 24 rfl rfl
theorem k_1_25 : (Cond.fieldLink "SightGraph" 33 "SightGraph" "highAncestors" "[J") ∈ Cw := cw_1 25 rfl rfl
theorem k_1_26 : (Cond.lays "SightGraph" "SightGraph" "nodes" "I") ∈ Cw := cw_1 26 rfl rfl
theorem k_1_28 : (Cond.lays "SightGraph" "SightGraph" "events" "I") ∈ Cw := cw_1 28 rfl rfl
theorem k_1_30 : (Cond.laysFinal "SightGraph" "SightGraph" "creators" "[I") ∈ Cw := cw_1 30 rfl rfl
theorem k_1_32 : (Cond.laysFinal "SightGraph" "SightGraph" "selfParents" "[I") ∈ Cw := cw_1 32 rfl rfl
theorem k_1_34 : (Cond.laysFinal "SightGraph" "SightGraph" "rounds" "[I") ∈ Cw := cw_1 34 rfl rfl
theorem k_1_36 : (Cond.laysFinal "SightGraph" "SightGraph" "forkers" "[I") ∈ Cw := cw_1 36 rfl rfl
theorem k_1_38 : (Cond.laysFinal "SightGraph" "SightGraph" "lowAncestors" "[J") ∈ Cw := cw_1 38 rfl rfl
theorem k_1_40 : (Cond.laysFinal "SightGraph" "SightGraph" "highAncestors" "[J") ∈ Cw := cw_1 40 rfl rfl
theorem k_1_43 : (Cond.arrayClass .int) ∈ Cw := cw_1 43 rfl rfl
theorem k_1_44 : (Cond.arrayClass .long) ∈ Cw := cw_1 44 rfl rfl
theorem k_1_45 : (Cond.methodLink "SightGraphLaw" 56 y_l_begin) ∈ Cw := cw_1 45 rfl rfl
theorem k_1_46 : (Cond.static y_l_begin) ∈ Cw := cw_1 46 rfl rfl
theorem k_1_47 : (Cond.codeWith y_l_begin b_l_begin 3 (some .int) [(0, 5, 8, 13)]) ∈ Cw := cw_1 47 rfl rfl
theorem k_1_48 : (Cond.classLink "SightGraphLaw" 13 "java/lang/IllegalArgumentException") ∈ Cw := cw_1 48 rfl rfl
theorem k_1_49 : (Cond.methodLink "SightGraphLaw" 7 y_g_begin) ∈ Cw := cw_1 49 rfl rfl
theorem k_1_50 : (Cond.instanceMethod y_g_begin) ∈ Cw := cw_1 50 rfl rfl
theorem k_1_51 : (Cond.selects "SightGraph" y_g_begin y_g_begin) ∈ Cw := cw_1 51 rfl rfl
theorem k_1_52 : (Cond.code y_g_begin b_g_begin 2 none) ∈ Cw := cw_1 52 rfl rfl
theorem k_1_53 : (Cond.classLink "SightGraph" 36 "java/lang/IllegalArgumentException") ∈ Cw := cw_1 53 rfl rfl
theorem k_1_54 : (Cond.instantiable "java/lang/IllegalArgumentException" 6) ∈ Cw := cw_1 54 rfl rfl
theorem k_1_62 : (Cond.selects "java/lang/IllegalArgumentException" (⟨"java/lang/Throwable", "fillInStackTrace", "(I)Ljava/lang/Throwable;"⟩ : MethodName) (⟨"java/lang/Throwable", "fillInStackTrace", "(I)Ljava/lang/Throwable;"⟩ : MethodName)) ∈ Cw := cw_1 62 rfl rfl
theorem k_1_63 : (Cond.selects "java/lang/IllegalArgumentException" (⟨"java/lang/Throwable", "fillInStackTrace", "()Ljava/lang/Throwable;"⟩ : MethodName) (⟨"java/lang/Throwable", "fillInStackTrace", "()Ljava/lang/Throwable;"⟩ : MethodName)) ∈ Cw := cw_1 63 rfl rfl
theorem k_1_64 : (Cond.lays "java/lang/IllegalArgumentException" "java/lang/Throwable" "cause" "Ljava/lang/Throwable;") ∈ Cw := cw_1 64 rfl rfl
theorem k_1_65 : (Cond.lays "java/lang/Throwable" "java/lang/Throwable" "cause" "Ljava/lang/Throwable;") ∈ Cw := cw_1 65 rfl rfl
theorem k_1_66 : (Cond.lays "java/lang/IllegalArgumentException" "java/lang/Throwable" "stackTrace" "[Ljava/lang/StackTraceElement;") ∈ Cw := cw_1 66 rfl rfl
theorem k_1_67 : (Cond.lays "java/lang/Throwable" "java/lang/Throwable" "stackTrace" "[Ljava/lang/StackTraceElement;") ∈ Cw := cw_1 67 rfl rfl
theorem k_1_68 : (Cond.lays "java/lang/IllegalArgumentException" "java/lang/Throwable" "suppressedExceptions" "Ljava/util/List;") ∈ Cw := cw_1 68 rfl rfl
theorem k_1_69 : (Cond.lays "java/lang/Throwable" "java/lang/Throwable" "suppressedExceptions" "Ljava/util/List;") ∈ Cw := cw_1 69 rfl rfl
theorem k_1_70 : (Cond.lays "java/lang/IllegalArgumentException" "java/lang/Throwable" "detailMessage" "Ljava/lang/String;") ∈ Cw := cw_1 70 rfl rfl
theorem k_1_71 : (Cond.lays "java/lang/Throwable" "java/lang/Throwable" "detailMessage" "Ljava/lang/String;") ∈ Cw := cw_1 71 rfl rfl
theorem k_1_72 : (Cond.lays "java/lang/IllegalArgumentException" "java/lang/Throwable" "backtrace" "Ljava/lang/Object;") ∈ Cw := cw_1 72 rfl rfl
theorem k_1_73 : (Cond.lays "java/lang/Throwable" "java/lang/Throwable" "backtrace" "Ljava/lang/Object;") ∈ Cw := cw_1 73 rfl rfl
theorem k_1_74 : (Cond.fieldLink "java/lang/Throwable" 198 "java/lang/Throwable" "backtrace" "Ljava/lang/Object;") ∈ Cw := cw_1 74 rfl rfl
theorem k_1_76 : (Cond.instanceMethod (⟨"java/lang/Throwable", "<init>", "()V"⟩ : MethodName)) ∈ Cw := cw_1 76 rfl rfl
theorem k_1_77 : (Cond.code (⟨"java/lang/Throwable", "<init>", "()V"⟩ : MethodName) prog_11_method_1_code 1 none) ∈ Cw := cw_1 77 rfl rfl
theorem k_1_78 : (Cond.methodLink "java/lang/Throwable" 1 objectInit) ∈ Cw := cw_1 78 rfl rfl
theorem k_1_79 : (Cond.fieldLink "java/lang/Throwable" 13 "java/lang/Throwable" "UNASSIGNED_STACK" "[Ljava/lang/StackTraceElement;") ∈ Cw := cw_1 79 rfl rfl
theorem k_1_81 : (Cond.fieldLink "java/lang/Throwable" 20 "java/lang/Throwable" "SUPPRESSED_SENTINEL" "Ljava/util/List;") ∈ Cw := cw_1 81 rfl rfl
theorem k_1_83 : (Cond.methodLink "java/lang/Throwable" 27 (⟨"java/lang/Throwable", "fillInStackTrace", "()Ljava/lang/Throwable;"⟩ : MethodName)) ∈ Cw := cw_1 83 rfl rfl
theorem k_1_84 : (Cond.instanceMethod (⟨"java/lang/Throwable", "fillInStackTrace", "()Ljava/lang/Throwable;"⟩ : MethodName)) ∈ Cw := cw_1 84 rfl rfl
theorem k_1_86 : (Cond.selects "java/lang/IndexOutOfBoundsException" (⟨"java/lang/Throwable", "fillInStackTrace", "()Ljava/lang/Throwable;"⟩ : MethodName) (⟨"java/lang/Throwable", "fillInStackTrace", "()Ljava/lang/Throwable;"⟩ : MethodName)) ∈ Cw := cw_1 86 rfl rfl
theorem k_1_87 : (Cond.codeSync (⟨"java/lang/Throwable", "fillInStackTrace", "()Ljava/lang/Throwable;"⟩ : MethodName) prog_11_method_18_code 1 (some (.object "java/lang/Throwable"))) ∈ Cw := cw_1 87 rfl rfl
theorem k_1_88 : (Cond.methodLink "java/lang/Throwable" 202 (⟨"java/lang/Throwable", "fillInStackTrace", "(I)Ljava/lang/Throwable;"⟩ : MethodName)) ∈ Cw := cw_1 88 rfl rfl
theorem k_1_90 : (Cond.instanceMethod (⟨"java/lang/Throwable", "fillInStackTrace", "(I)Ljava/lang/Throwable;"⟩ : MethodName)) ∈ Cw := cw_1 90 rfl rfl
theorem k_1_91 : (Cond.instantiable "java/lang/Throwable" 6) ∈ Cw := cw_1 91 rfl rfl
theorem k_1_94 : (Cond.methodLink "SightGraph" 40 (⟨"java/lang/IllegalArgumentException", "<init>", "(Ljava/lang/String;)V"⟩ : MethodName)) ∈ Cw := cw_1 94 rfl rfl
theorem k_1_95 : (Cond.instanceMethod (⟨"java/lang/IllegalArgumentException", "<init>", "(Ljava/lang/String;)V"⟩ : MethodName)) ∈ Cw := cw_1 95 rfl rfl
theorem k_1_96 : (Cond.code (⟨"java/lang/IllegalArgumentException", "<init>", "(Ljava/lang/String;)V"⟩ : MethodName) prog_5_method_2_code 2 none) ∈ Cw := cw_1 96 rfl rfl
theorem k_1_97 : (Cond.methodLink "java/lang/IllegalArgumentException" 7 (⟨"java/lang/RuntimeException", "<init>", "(Ljava/lang/String;)V"⟩ : MethodName)) ∈ Cw := cw_1 97 rfl rfl
theorem k_1_98 : (Cond.instanceMethod (⟨"java/lang/RuntimeException", "<init>", "(Ljava/lang/String;)V"⟩ : MethodName)) ∈ Cw := cw_1 98 rfl rfl
theorem k_1_99 : (Cond.code (⟨"java/lang/RuntimeException", "<init>", "(Ljava/lang/String;)V"⟩ : MethodName) prog_9_method_2_code 2 none) ∈ Cw := cw_1 99 rfl rfl
theorem k_1_100 : (Cond.methodLink "java/lang/RuntimeException" 7 (⟨"java/lang/Exception", "<init>", "(Ljava/lang/String;)V"⟩ : MethodName)) ∈ Cw := cw_1 100 rfl rfl
theorem k_1_101 : (Cond.instanceMethod (⟨"java/lang/Exception", "<init>", "(Ljava/lang/String;)V"⟩ : MethodName)) ∈ Cw := cw_1 101 rfl rfl
theorem k_1_102 : (Cond.code (⟨"java/lang/Exception", "<init>", "(Ljava/lang/String;)V"⟩ : MethodName) prog_4_method_2_code 2 none) ∈ Cw := cw_1 102 rfl rfl
theorem k_1_103 : (Cond.methodLink "java/lang/Exception" 7 (⟨"java/lang/Throwable", "<init>", "(Ljava/lang/String;)V"⟩ : MethodName)) ∈ Cw := cw_1 103 rfl rfl
theorem k_1_104 : (Cond.instanceMethod (⟨"java/lang/Throwable", "<init>", "(Ljava/lang/String;)V"⟩ : MethodName)) ∈ Cw := cw_1 104 rfl rfl
theorem k_1_105 : (Cond.code (⟨"java/lang/Throwable", "<init>", "(Ljava/lang/String;)V"⟩ : MethodName) prog_11_method_2_code 2 none) ∈ Cw := cw_1 105 rfl rfl
theorem k_1_107 : (Cond.fieldLink "java/lang/Throwable" 31 "java/lang/Throwable" "detailMessage" "Ljava/lang/String;") ∈ Cw := cw_1 107 rfl rfl
theorem k_1_108 : (Cond.fieldLink "java/lang/Throwable" 7 "java/lang/Throwable" "cause" "Ljava/lang/Throwable;") ∈ Cw := cw_1 108 rfl rfl
theorem k_1_109 : (Cond.fieldLink "java/lang/Throwable" 17 "java/lang/Throwable" "stackTrace" "[Ljava/lang/StackTraceElement;") ∈ Cw := cw_1 109 rfl rfl
theorem k_1_110 : (Cond.fieldLink "java/lang/Throwable" 24 "java/lang/Throwable" "suppressedExceptions" "Ljava/util/List;") ∈ Cw := cw_1 110 rfl rfl
theorem k_1_115 : (Cond.lays "java/lang/IllegalArgumentException" "java/lang/Throwable" "depth" "I") ∈ Cw := cw_1 115 rfl rfl
theorem k_1_119 : (Cond.arrayClass .byte) ∈ Cw := cw_1 119 rfl rfl
theorem k_1_120 : (Cond.methodLink "SightGraphLaw" 66 y_l_event) ∈ Cw := cw_1 120 rfl rfl
theorem k_1_121 : (Cond.static y_l_event) ∈ Cw := cw_1 121 rfl rfl
theorem k_1_122 : (Cond.codeWith y_l_event b_l_event 6 (some .int) [(0, 12, 15, 13), (0, 12, 19, 19)]) ∈ Cw := cw_1 122 rfl rfl
theorem k_1_123 : (Cond.classLink "SightGraphLaw" 19 "java/lang/IndexOutOfBoundsException") ∈ Cw := cw_1 123 rfl rfl
theorem k_1_124 : (Cond.methodLink "SightGraphLaw" 15 y_g_event) ∈ Cw := cw_1 124 rfl rfl
theorem k_1_125 : (Cond.instanceMethod y_g_event) ∈ Cw := cw_1 125 rfl rfl
theorem k_1_126 : (Cond.selects "SightGraph" y_g_event y_g_event) ∈ Cw := cw_1 126 rfl rfl
theorem k_1_127 : (Cond.code y_g_event b_g_event 5 (some .int)) ∈ Cw := cw_1 127 rfl rfl
theorem k_1_128 : (Cond.methodLink "SightGraph" 43 y_g_requireNode) ∈ Cw := cw_1 128 rfl rfl
theorem k_1_130 : (Cond.instanceMethod y_g_requireNode) ∈ Cw := cw_1 130 rfl rfl
theorem k_1_131 : (Cond.code y_g_requireNode b_g_requireNode 2 none) ∈ Cw := cw_1 131 rfl rfl
theorem k_1_133 : (Cond.methodLink "SightGraph" 47 y_g_mayBeSelfParent) ∈ Cw := cw_1 133 rfl rfl
theorem k_1_135 : (Cond.instanceMethod y_g_mayBeSelfParent) ∈ Cw := cw_1 135 rfl rfl
theorem k_1_136 : (Cond.code y_g_mayBeSelfParent b_g_mayBeSelfParent 3 (some .boolean)) ∈ Cw := cw_1 136 rfl rfl
theorem k_1_137 : (Cond.methodLink "SightGraph" 115 y_g_isEvent) ∈ Cw := cw_1 137 rfl rfl
theorem k_1_139 : (Cond.instanceMethod y_g_isEvent) ∈ Cw := cw_1 139 rfl rfl
theorem k_1_140 : (Cond.code y_g_isEvent b_g_isEvent 2 (some .boolean)) ∈ Cw := cw_1 140 rfl rfl
theorem k_1_142 : (Cond.methodLink "SightGraph" 53 y_g_mayBeOtherParent) ∈ Cw := cw_1 142 rfl rfl
theorem k_1_144 : (Cond.instanceMethod y_g_mayBeOtherParent) ∈ Cw := cw_1 144 rfl rfl
theorem k_1_145 : (Cond.code y_g_mayBeOtherParent b_g_mayBeOtherParent 3 (some .boolean)) ∈ Cw := cw_1 145 rfl rfl
theorem k_1_147 : (Cond.classLink "SightGraph" 58 "java/lang/IndexOutOfBoundsException") ∈ Cw := cw_1 147 rfl rfl
theorem k_1_148 : (Cond.instantiable "java/lang/IndexOutOfBoundsException" 6) ∈ Cw := cw_1 148 rfl rfl
theorem k_1_150 : (Cond.selects "java/lang/IndexOutOfBoundsException" (⟨"java/lang/Throwable", "fillInStackTrace", "(I)Ljava/lang/Throwable;"⟩ : MethodName) (⟨"java/lang/Throwable", "fillInStackTrace", "(I)Ljava/lang/Throwable;"⟩ : MethodName)) ∈ Cw := cw_1 150 rfl rfl
theorem k_1_151 : (Cond.lays "java/lang/IndexOutOfBoundsException" "java/lang/Throwable" "cause" "Ljava/lang/Throwable;") ∈ Cw := cw_1 151 rfl rfl
theorem k_1_152 : (Cond.lays "java/lang/IndexOutOfBoundsException" "java/lang/Throwable" "stackTrace" "[Ljava/lang/StackTraceElement;") ∈ Cw := cw_1 152 rfl rfl
theorem k_1_153 : (Cond.lays "java/lang/IndexOutOfBoundsException" "java/lang/Throwable" "suppressedExceptions" "Ljava/util/List;") ∈ Cw := cw_1 153 rfl rfl
theorem k_1_154 : (Cond.lays "java/lang/IndexOutOfBoundsException" "java/lang/Throwable" "detailMessage" "Ljava/lang/String;") ∈ Cw := cw_1 154 rfl rfl
theorem k_1_155 : (Cond.lays "java/lang/IndexOutOfBoundsException" "java/lang/Throwable" "backtrace" "Ljava/lang/Object;") ∈ Cw := cw_1 155 rfl rfl
theorem k_1_157 : (Cond.methodLink "SightGraph" 62 (⟨"java/lang/IndexOutOfBoundsException", "<init>", "(Ljava/lang/String;)V"⟩ : MethodName)) ∈ Cw := cw_1 157 rfl rfl
theorem k_1_158 : (Cond.instanceMethod (⟨"java/lang/IndexOutOfBoundsException", "<init>", "(Ljava/lang/String;)V"⟩ : MethodName)) ∈ Cw := cw_1 158 rfl rfl
theorem k_1_159 : (Cond.code (⟨"java/lang/IndexOutOfBoundsException", "<init>", "(Ljava/lang/String;)V"⟩ : MethodName) prog_6_method_2_code 2 none) ∈ Cw := cw_1 159 rfl rfl
theorem k_1_160 : (Cond.methodLink "java/lang/IndexOutOfBoundsException" 7 (⟨"java/lang/RuntimeException", "<init>", "(Ljava/lang/String;)V"⟩ : MethodName)) ∈ Cw := cw_1 160 rfl rfl
theorem k_1_161 : (Cond.lays "java/lang/IndexOutOfBoundsException" "java/lang/Throwable" "depth" "I") ∈ Cw := cw_1 161 rfl rfl
theorem k_1_163 : (Cond.methodLink "SightGraph" 63 y_g_gatherAncestors) ∈ Cw := cw_1 163 rfl rfl
theorem k_1_165 : (Cond.instanceMethod y_g_gatherAncestors) ∈ Cw := cw_1 165 rfl rfl
theorem k_1_166 : (Cond.code y_g_gatherAncestors b_g_gatherAncestors 4 none) ∈ Cw := cw_1 166 rfl rfl
theorem k_1_167 : (Cond.methodLink "SightGraph" 120 y_g_addAncestorsOf) ∈ Cw := cw_1 167 rfl rfl
theorem k_1_169 : (Cond.instanceMethod y_g_addAncestorsOf) ∈ Cw := cw_1 169 rfl rfl
theorem k_1_170 : (Cond.code y_g_addAncestorsOf b_g_addAncestorsOf 3 none) ∈ Cw := cw_1 170 rfl rfl
theorem k_1_171 : (Cond.methodLink "SightGraph" 67 y_g_forkersWithin) ∈ Cw := cw_1 171 rfl rfl
theorem k_1_173 : (Cond.instanceMethod y_g_forkersWithin) ∈ Cw := cw_1 173 rfl rfl
theorem k_1_174 : (Cond.code y_g_forkersWithin b_g_forkersWithin 7 (some .int)) ∈ Cw := cw_1 174 rfl rfl
theorem k_1_175 : (Cond.methodLink "SightGraph" 134 y_g_hasForkWithin) ∈ Cw := cw_1 175 rfl rfl
theorem k_1_177 : (Cond.instanceMethod y_g_hasForkWithin) ∈ Cw := cw_1 177 rfl rfl
theorem k_1_178 : (Cond.code y_g_hasForkWithin b_g_hasForkWithin 9 (some .boolean)) ∈ Cw := cw_1 178 rfl rfl
theorem k_1_179 : (Cond.methodLink "SightGraph" 124 y_g_isWithin) ∈ Cw := cw_1 179 rfl rfl
theorem k_1_180 : (Cond.static y_g_isWithin) ∈ Cw := cw_1 180 rfl rfl
theorem k_1_181 : (Cond.code y_g_isWithin b_g_isWithin 7 (some .boolean)) ∈ Cw := cw_1 181 rfl rfl
theorem k_1_182 : (Cond.methodLink "SightGraph" 71 y_g_roundFrom) ∈ Cw := cw_1 182 rfl rfl
theorem k_1_184 : (Cond.instanceMethod y_g_roundFrom) ∈ Cw := cw_1 184 rfl rfl
theorem k_1_185 : (Cond.code y_g_roundFrom b_g_roundFrom 5 (some .int)) ∈ Cw := cw_1 185 rfl rfl
theorem k_1_186 : (Cond.methodLink "SightGraph" 137 y_g_roundOfParent) ∈ Cw := cw_1 186 rfl rfl
theorem k_1_188 : (Cond.instanceMethod y_g_roundOfParent) ∈ Cw := cw_1 188 rfl rfl
theorem k_1_189 : (Cond.code y_g_roundOfParent b_g_roundOfParent 2 (some .int)) ∈ Cw := cw_1 189 rfl rfl
theorem k_1_190 : (Cond.methodLink "SightGraph" 140 Lib.Math.max.name) ∈ Cw := cw_1 190 rfl rfl
theorem k_1_191 : (Cond.static Lib.Math.max.name) ∈ Cw := cw_1 191 rfl rfl
theorem k_1_192 : (Cond.code Lib.Math.max.name Lib.Math.max.code 2 (some .int)) ∈ Cw := cw_1 192 rfl rfl
theorem k_1_193 : (Cond.methodLink "SightGraph" 145 y_g_nodesWithWitnessFor) ∈ Cw := cw_1 193 rfl rfl
theorem k_1_195 : (Cond.instanceMethod y_g_nodesWithWitnessFor) ∈ Cw := cw_1 195 rfl rfl
theorem k_1_196 : (Cond.code y_g_nodesWithWitnessFor b_g_nodesWithWitnessFor 5 (some .int)) ∈ Cw := cw_1 196 rfl rfl
theorem k_1_197 : (Cond.methodLink "SightGraph" 95 y_g_opensRound) ∈ Cw := cw_1 197 rfl rfl
theorem k_1_199 : (Cond.instanceMethod y_g_opensRound) ∈ Cw := cw_1 199 rfl rfl
theorem k_1_200 : (Cond.code y_g_opensRound b_g_opensRound 3 (some .boolean)) ∈ Cw := cw_1 200 rfl rfl
theorem k_1_201 : (Cond.methodLink "SightGraph" 87 y_g_nodesBetween) ∈ Cw := cw_1 201 rfl rfl
theorem k_1_203 : (Cond.instanceMethod y_g_nodesBetween) ∈ Cw := cw_1 203 rfl rfl
theorem k_1_204 : (Cond.code y_g_nodesBetween b_g_nodesBetween 5 (some .int)) ∈ Cw := cw_1 204 rfl rfl
theorem k_1_205 : (Cond.methodLink "SightGraph" 84 y_g_hasSight) ∈ Cw := cw_1 205 rfl rfl
theorem k_1_207 : (Cond.instanceMethod y_g_hasSight) ∈ Cw := cw_1 207 rfl rfl
theorem k_1_208 : (Cond.code y_g_hasSight b_g_hasSight 3 (some .boolean)) ∈ Cw := cw_1 208 rfl rfl
theorem k_1_209 : (Cond.methodLink "SightGraph" 78 y_g_hasAncestor) ∈ Cw := cw_1 209 rfl rfl
theorem k_1_211 : (Cond.instanceMethod y_g_hasAncestor) ∈ Cw := cw_1 211 rfl rfl
theorem k_1_212 : (Cond.code y_g_hasAncestor b_g_hasAncestor 3 (some .boolean)) ∈ Cw := cw_1 212 rfl rfl
theorem k_1_213 : (Cond.methodLink "SightGraph" 81 y_g_hasBit) ∈ Cw := cw_1 213 rfl rfl
theorem k_1_214 : (Cond.static y_g_hasBit) ∈ Cw := cw_1 214 rfl rfl
theorem k_1_215 : (Cond.code y_g_hasBit b_g_hasBit 2 (some .boolean)) ∈ Cw := cw_1 215 rfl rfl
theorem k_1_216 : (Cond.methodLink "SightGraph" 102 y_j_bitCount) ∈ Cw := cw_1 216 rfl rfl
theorem k_1_217 : (Cond.static y_j_bitCount) ∈ Cw := cw_1 217 rfl rfl
theorem k_1_218 : (Cond.code y_j_bitCount b_j_bitCount 1 (some .int)) ∈ Cw := cw_1 218 rfl rfl
theorem k_1_219 : (Cond.constant "java/lang/Integer" 265 (1431655765 : Int32)) ∈ Cw := cw_1 219 rfl rfl
theorem k_1_220 : (Cond.constant "java/lang/Integer" 266 (858993459 : Int32)) ∈ Cw := cw_1 220 rfl rfl
theorem k_1_221 : (Cond.constant "java/lang/Integer" 267 (252645135 : Int32)) ∈ Cw := cw_1 221 rfl rfl
theorem k_1_222 : (Cond.methodLink "SightGraph" 91 y_g_isMany) ∈ Cw := cw_1 222 rfl rfl
theorem k_1_224 : (Cond.instanceMethod y_g_isMany) ∈ Cw := cw_1 224 rfl rfl
theorem k_1_225 : (Cond.code y_g_isMany b_g_isMany 2 (some .boolean)) ∈ Cw := cw_1 225 rfl rfl
theorem k_1_226 : (Cond.methodLink "SightGraphLaw" 70 y_l_ancestor) ∈ Cw := cw_1 226 rfl rfl
theorem k_1_227 : (Cond.static y_l_ancestor) ∈ Cw := cw_1 227 rfl rfl
theorem k_1_228 : (Cond.codeWith y_l_ancestor b_l_ancestor 5 (some .int) [(0, 17, 20, 19)]) ∈ Cw := cw_1 228 rfl rfl
theorem k_1_229 : (Cond.methodLink "SightGraphLaw" 21 y_g_ancestor) ∈ Cw := cw_1 229 rfl rfl
theorem k_1_230 : (Cond.instanceMethod y_g_ancestor) ∈ Cw := cw_1 230 rfl rfl
theorem k_1_231 : (Cond.selects "SightGraph" y_g_ancestor y_g_ancestor) ∈ Cw := cw_1 231 rfl rfl
theorem k_1_232 : (Cond.code y_g_ancestor b_g_ancestor 3 (some .boolean)) ∈ Cw := cw_1 232 rfl rfl
theorem k_1_233 : (Cond.methodLink "SightGraph" 75 y_g_requireEvent) ∈ Cw := cw_1 233 rfl rfl
theorem k_1_235 : (Cond.instanceMethod y_g_requireEvent) ∈ Cw := cw_1 235 rfl rfl
theorem k_1_236 : (Cond.code y_g_requireEvent b_g_requireEvent 2 none) ∈ Cw := cw_1 236 rfl rfl
theorem k_1_238 : (Cond.methodLink "SightGraphLaw" 74 y_l_own) ∈ Cw := cw_1 238 rfl rfl
theorem k_1_239 : (Cond.static y_l_own) ∈ Cw := cw_1 239 rfl rfl
theorem k_2_0 : (Cond.codeWith y_l_own b_l_own 5 (some .int) [(0, 17, 20, 19)]) ∈ Cw := cw_2 0 rfl rfl
theorem k_2_1 : (Cond.methodLink "SightGraphLaw" 25 y_g_own) ∈ Cw := cw_2 1 rfl rfl
theorem k_2_2 : (Cond.instanceMethod y_g_own) ∈ Cw := cw_2 2 rfl rfl
theorem k_2_3 : (Cond.selects "SightGraph" y_g_own y_g_own) ∈ Cw := cw_2 3 rfl rfl
theorem k_2_4 : (Cond.code y_g_own b_g_own 5 (some .boolean)) ∈ Cw := cw_2 4 rfl rfl
theorem k_2_5 : (Cond.methodLink "SightGraphLaw" 77 y_l_forked) ∈ Cw := cw_2 5 rfl rfl
theorem k_2_6 : (Cond.static y_l_forked) ∈ Cw := cw_2 6 rfl rfl
theorem k_2_7 : (Cond.codeWith y_l_forked b_l_forked 5 (some .int) [(0, 17, 20, 13), (0, 17, 24, 19)]) ∈ Cw := cw_2 7 rfl rfl
theorem k_2_8 : (Cond.methodLink "SightGraphLaw" 28 y_g_forked) ∈ Cw := cw_2 8 rfl rfl
theorem k_2_9 : (Cond.instanceMethod y_g_forked) ∈ Cw := cw_2 9 rfl rfl
theorem k_2_10 : (Cond.selects "SightGraph" y_g_forked y_g_forked) ∈ Cw := cw_2 10 rfl rfl
theorem k_2_11 : (Cond.code y_g_forked b_g_forked 3 (some .boolean)) ∈ Cw := cw_2 11 rfl rfl
theorem k_2_12 : (Cond.methodLink "SightGraphLaw" 80 y_l_sees) ∈ Cw := cw_2 12 rfl rfl
theorem k_2_13 : (Cond.static y_l_sees) ∈ Cw := cw_2 13 rfl rfl
theorem k_2_14 : (Cond.codeWith y_l_sees b_l_sees 5 (some .int) [(0, 17, 20, 19)]) ∈ Cw := cw_2 14 rfl rfl
theorem k_2_15 : (Cond.methodLink "SightGraphLaw" 31 y_g_sees) ∈ Cw := cw_2 15 rfl rfl
theorem k_2_16 : (Cond.instanceMethod y_g_sees) ∈ Cw := cw_2 16 rfl rfl
theorem k_2_17 : (Cond.selects "SightGraph" y_g_sees y_g_sees) ∈ Cw := cw_2 17 rfl rfl
theorem k_2_18 : (Cond.code y_g_sees b_g_sees 3 (some .boolean)) ∈ Cw := cw_2 18 rfl rfl
theorem k_2_19 : (Cond.methodLink "SightGraphLaw" 83 y_l_strength) ∈ Cw := cw_2 19 rfl rfl
theorem k_2_20 : (Cond.static y_l_strength) ∈ Cw := cw_2 20 rfl rfl
theorem k_2_21 : (Cond.codeWith y_l_strength b_l_strength 5 (some .int) [(0, 10, 13, 19)]) ∈ Cw := cw_2 21 rfl rfl
theorem k_2_22 : (Cond.methodLink "SightGraphLaw" 34 y_g_strength) ∈ Cw := cw_2 22 rfl rfl
theorem k_2_23 : (Cond.instanceMethod y_g_strength) ∈ Cw := cw_2 23 rfl rfl
theorem k_2_24 : (Cond.selects "SightGraph" y_g_strength y_g_strength) ∈ Cw := cw_2 24 rfl rfl
theorem k_2_25 : (Cond.code y_g_strength b_g_strength 3 (some .int)) ∈ Cw := cw_2 25 rfl rfl
theorem k_2_26 : (Cond.methodLink "SightGraphLaw" 86 y_l_strongly) ∈ Cw := cw_2 26 rfl rfl
theorem k_2_27 : (Cond.static y_l_strongly) ∈ Cw := cw_2 27 rfl rfl
theorem k_2_28 : (Cond.codeWith y_l_strongly b_l_strongly 5 (some .int) [(0, 17, 20, 19)]) ∈ Cw := cw_2 28 rfl rfl
theorem k_2_29 : (Cond.methodLink "SightGraphLaw" 38 y_g_strongly) ∈ Cw := cw_2 29 rfl rfl
theorem k_2_30 : (Cond.instanceMethod y_g_strongly) ∈ Cw := cw_2 30 rfl rfl
theorem k_2_31 : (Cond.selects "SightGraph" y_g_strongly y_g_strongly) ∈ Cw := cw_2 31 rfl rfl
theorem k_2_32 : (Cond.code y_g_strongly b_g_strongly 3 (some .boolean)) ∈ Cw := cw_2 32 rfl rfl
theorem k_2_33 : (Cond.methodLink "SightGraphLaw" 89 y_l_round) ∈ Cw := cw_2 33 rfl rfl
theorem k_2_34 : (Cond.static y_l_round) ∈ Cw := cw_2 34 rfl rfl
theorem k_2_35 : (Cond.codeWith y_l_round b_l_round 4 (some .int) [(0, 9, 12, 19)]) ∈ Cw := cw_2 35 rfl rfl
theorem k_2_36 : (Cond.methodLink "SightGraphLaw" 41 y_g_round) ∈ Cw := cw_2 36 rfl rfl
theorem k_2_37 : (Cond.instanceMethod y_g_round) ∈ Cw := cw_2 37 rfl rfl
theorem k_2_38 : (Cond.selects "SightGraph" y_g_round y_g_round) ∈ Cw := cw_2 38 rfl rfl
theorem k_2_39 : (Cond.code y_g_round b_g_round 2 (some .int)) ∈ Cw := cw_2 39 rfl rfl
theorem k_2_40 : (Cond.methodLink "SightGraphLaw" 93 y_l_witness) ∈ Cw := cw_2 40 rfl rfl
theorem k_2_41 : (Cond.static y_l_witness) ∈ Cw := cw_2 41 rfl rfl
theorem k_2_42 : (Cond.codeWith y_l_witness b_l_witness 4 (some .int) [(0, 16, 19, 19)]) ∈ Cw := cw_2 42 rfl rfl
theorem k_2_43 : (Cond.methodLink "SightGraphLaw" 45 y_g_witness) ∈ Cw := cw_2 43 rfl rfl
theorem k_2_44 : (Cond.instanceMethod y_g_witness) ∈ Cw := cw_2 44 rfl rfl
theorem k_2_45 : (Cond.selects "SightGraph" y_g_witness y_g_witness) ∈ Cw := cw_2 45 rfl rfl
theorem k_2_46 : (Cond.code y_g_witness b_g_witness 2 (some .boolean)) ∈ Cw := cw_2 46 rfl rfl
theorem k_2_47 : (Cond.methodLink "SightGraphLaw" 96 y_l_count) ∈ Cw := cw_2 47 rfl rfl
theorem k_2_48 : (Cond.static y_l_count) ∈ Cw := cw_2 48 rfl rfl
theorem k_2_49 : (Cond.codeWith y_l_count b_l_count 4 (some .int) [(0, 9, 12, 13)]) ∈ Cw := cw_2 49 rfl rfl
theorem k_2_50 : (Cond.methodLink "SightGraphLaw" 49 y_g_count) ∈ Cw := cw_2 50 rfl rfl
theorem k_2_51 : (Cond.instanceMethod y_g_count) ∈ Cw := cw_2 51 rfl rfl
theorem k_2_52 : (Cond.selects "SightGraph" y_g_count y_g_count) ∈ Cw := cw_2 52 rfl rfl
theorem k_2_53 : (Cond.code y_g_count b_g_count 2 (some .int)) ∈ Cw := cw_2 53 rfl rfl
theorem k_2_54 : (Cond.methodLink "SightGraph" 98 y_g_forkersOfAll) ∈ Cw := cw_2 54 rfl rfl
theorem k_2_56 : (Cond.instanceMethod y_g_forkersOfAll) ∈ Cw := cw_2 56 rfl rfl
theorem k_2_57 : (Cond.code y_g_forkersOfAll b_g_forkersOfAll 1 (some .int)) ∈ Cw := cw_2 57 rfl rfl
theorem k_2_58 : (Cond.methodLink "SightGraph" 130 y_g_lowestBits) ∈ Cw := cw_2 58 rfl rfl
theorem k_2_59 : (Cond.static y_g_lowestBits) ∈ Cw := cw_2 59 rfl rfl
theorem k_2_60 : (Cond.code y_g_lowestBits b_g_lowestBits 1 (some .long)) ∈ Cw := cw_2 60 rfl rfl
theorem k_2_61 : (Cond.constantLong "SightGraph" 128 (-1 : Int64)) ∈ Cw := cw_2 61 rfl rfl
theorem k_2_62 : (Cond.methodLink "SightGraph" 108 y_g_greatestRound) ∈ Cw := cw_2 62 rfl rfl
theorem k_2_64 : (Cond.instanceMethod y_g_greatestRound) ∈ Cw := cw_2 64 rfl rfl
theorem k_2_65 : (Cond.code y_g_greatestRound b_g_greatestRound 3 (some .int)) ∈ Cw := cw_2 65 rfl rfl
theorem k_2_67 : (Cond.classLink "SightGraphLaw" 53 "SightGraphModel") ∈ Cw := cw_2 67 rfl rfl
theorem k_2_68 : (Cond.instantiable "SightGraphModel" 10) ∈ Cw := cw_2 68 rfl rfl
theorem k_2_69 : (Cond.methodLink "SightGraphLaw" 55 y_r_init) ∈ Cw := cw_2 69 rfl rfl
theorem k_2_70 : (Cond.instanceMethod y_r_init) ∈ Cw := cw_2 70 rfl rfl
theorem k_2_71 : (Cond.code y_r_init b_r_init 1 none) ∈ Cw := cw_2 71 rfl rfl
theorem k_2_72 : (Cond.methodLink "SightGraphModel" 1 objectInit) ∈ Cw := cw_2 72 rfl rfl
theorem k_2_73 : (Cond.fieldLink "SightGraphModel" 36 "SightGraphModel" "err" "I") ∈ Cw := cw_2 73 rfl rfl
theorem k_2_74 : (Cond.fieldLink "SightGraphModel" 7 "SightGraphModel" "nodes" "I") ∈ Cw := cw_2 74 rfl rfl
theorem k_2_75 : (Cond.fieldLink "SightGraphModel" 39 "SightGraphModel" "events" "I") ∈ Cw := cw_2 75 rfl rfl
theorem k_2_76 : (Cond.fieldLink "SightGraphModel" 13 "SightGraphModel" "creator" "[I") ∈ Cw := cw_2 76 rfl rfl
theorem k_2_77 : (Cond.fieldLink "SightGraphModel" 17 "SightGraphModel" "self" "[I") ∈ Cw := cw_2 77 rfl rfl
theorem k_2_78 : (Cond.fieldLink "SightGraphModel" 20 "SightGraphModel" "other" "[I") ∈ Cw := cw_2 78 rfl rfl
theorem k_2_79 : (Cond.fieldLink "SightGraphModel" 23 "SightGraphModel" "rounds" "[I") ∈ Cw := cw_2 79 rfl rfl
theorem k_2_80 : (Cond.fieldLink "SightGraphModel" 26 "SightGraphModel" "todo" "[I") ∈ Cw := cw_2 80 rfl rfl
theorem k_2_81 : (Cond.fieldLink "SightGraphModel" 29 "SightGraphModel" "above" "[Z") ∈ Cw := cw_2 81 rfl rfl
theorem k_2_82 : (Cond.fieldLink "SightGraphModel" 33 "SightGraphModel" "forks" "[Z") ∈ Cw := cw_2 82 rfl rfl
theorem k_2_83 : (Cond.lays "SightGraphModel" "SightGraphModel" "err" "I") ∈ Cw := cw_2 83 rfl rfl
theorem k_2_85 : (Cond.lays "SightGraphModel" "SightGraphModel" "nodes" "I") ∈ Cw := cw_2 85 rfl rfl
theorem k_2_87 : (Cond.lays "SightGraphModel" "SightGraphModel" "events" "I") ∈ Cw := cw_2 87 rfl rfl
theorem k_2_89 : (Cond.laysFinal "SightGraphModel" "SightGraphModel" "creator" "[I") ∈ Cw := cw_2 89 rfl rfl
theorem k_2_91 : (Cond.laysFinal "SightGraphModel" "SightGraphModel" "self" "[I") ∈ Cw := cw_2 91 rfl rfl
theorem k_2_93 : (Cond.laysFinal "SightGraphModel" "SightGraphModel" "other" "[I") ∈ Cw := cw_2 93 rfl rfl
theorem k_2_95 : (Cond.laysFinal "SightGraphModel" "SightGraphModel" "rounds" "[I") ∈ Cw := cw_2 95 rfl rfl
theorem k_2_97 : (Cond.laysFinal "SightGraphModel" "SightGraphModel" "todo" "[I") ∈ Cw := cw_2 97 rfl rfl
theorem k_2_99 : (Cond.laysFinal "SightGraphModel" "SightGraphModel" "above" "[Z") ∈ Cw := cw_2 99 rfl rfl
theorem k_2_101 : (Cond.laysFinal "SightGraphModel" "SightGraphModel" "forks" "[Z") ∈ Cw := cw_2 101 rfl rfl
theorem k_2_104 : (Cond.arrayClass .boolean) ∈ Cw := cw_2 104 rfl rfl
theorem k_2_105 : (Cond.methodLink "SightGraphLaw" 62 y_r_thrown) ∈ Cw := cw_2 105 rfl rfl
theorem k_2_106 : (Cond.instanceMethod y_r_thrown) ∈ Cw := cw_2 106 rfl rfl
theorem k_2_107 : (Cond.selects "SightGraphModel" y_r_thrown y_r_thrown) ∈ Cw := cw_2 107 rfl rfl
theorem k_2_108 : (Cond.code y_r_thrown b_r_thrown 1 (some .int)) ∈ Cw := cw_2 108 rfl rfl
theorem k_2_109 : (Cond.methodLink "SightGraphLaw" 61 y_r_begin) ∈ Cw := cw_2 109 rfl rfl
theorem k_2_110 : (Cond.instanceMethod y_r_begin) ∈ Cw := cw_2 110 rfl rfl
theorem k_2_111 : (Cond.selects "SightGraphModel" y_r_begin y_r_begin) ∈ Cw := cw_2 111 rfl rfl
theorem k_2_112 : (Cond.code y_r_begin b_r_begin 2 none) ∈ Cw := cw_2 112 rfl rfl
theorem k_2_113 : (Cond.constantLong "SightGraphModel" 50 (2 : Int64)) ∈ Cw := cw_2 113 rfl rfl
theorem k_2_114 : (Cond.constantLong "SightGraphModel" 52 (8 : Int64)) ∈ Cw := cw_2 114 rfl rfl
theorem k_2_115 : (Cond.methodLink "SightGraphModel" 42 y_r_in) ∈ Cw := cw_2 115 rfl rfl
theorem k_2_116 : (Cond.static y_r_in) ∈ Cw := cw_2 116 rfl rfl
theorem k_2_117 : (Cond.code y_r_in b_r_in 6 (some .boolean)) ∈ Cw := cw_2 117 rfl rfl
theorem k_2_118 : (Cond.methodLink "SightGraphModel" 54 y_r_fails) ∈ Cw := cw_2 118 rfl rfl
theorem k_2_120 : (Cond.instanceMethod y_r_fails) ∈ Cw := cw_2 120 rfl rfl
theorem k_2_121 : (Cond.code y_r_fails b_r_fails 3 (some .boolean)) ∈ Cw := cw_2 121 rfl rfl
theorem k_2_122 : (Cond.methodLink "SightGraphLaw" 69 y_r_event) ∈ Cw := cw_2 122 rfl rfl
theorem k_2_123 : (Cond.instanceMethod y_r_event) ∈ Cw := cw_2 123 rfl rfl
theorem k_2_124 : (Cond.selects "SightGraphModel" y_r_event y_r_event) ∈ Cw := cw_2 124 rfl rfl
theorem k_2_125 : (Cond.code y_r_event b_r_event 10 (some .int)) ∈ Cw := cw_2 125 rfl rfl
theorem k_2_126 : (Cond.methodLink "SightGraphModel" 61 y_r_isEvent) ∈ Cw := cw_2 126 rfl rfl
theorem k_2_128 : (Cond.instanceMethod y_r_isEvent) ∈ Cw := cw_2 128 rfl rfl
theorem k_2_129 : (Cond.code y_r_isEvent b_r_isEvent 2 (some .boolean)) ∈ Cw := cw_2 129 rfl rfl
theorem k_2_130 : (Cond.methodLink "SightGraphModel" 65 y_r_ways) ∈ Cw := cw_2 130 rfl rfl
theorem k_2_132 : (Cond.instanceMethod y_r_ways) ∈ Cw := cw_2 132 rfl rfl
theorem k_2_133 : (Cond.code y_r_ways b_r_ways 4 none) ∈ Cw := cw_2 133 rfl rfl
theorem k_2_134 : (Cond.methodLink "SightGraphModel" 58 y_r_isAbove) ∈ Cw := cw_2 134 rfl rfl
theorem k_2_136 : (Cond.instanceMethod y_r_isAbove) ∈ Cw := cw_2 136 rfl rfl
theorem k_2_137 : (Cond.code y_r_isAbove b_r_isAbove 3 (some .boolean)) ∈ Cw := cw_2 137 rfl rfl
theorem k_2_138 : (Cond.methodLink "SightGraphModel" 69 y_r_isFork) ∈ Cw := cw_2 138 rfl rfl
theorem k_2_140 : (Cond.instanceMethod y_r_isFork) ∈ Cw := cw_2 140 rfl rfl
theorem k_2_141 : (Cond.code y_r_isFork b_r_isFork 3 (some .boolean)) ∈ Cw := cw_2 141 rfl rfl
theorem k_2_142 : (Cond.methodLink "SightGraphModel" 46 y_r_isOwn) ∈ Cw := cw_2 142 rfl rfl
theorem k_2_144 : (Cond.instanceMethod y_r_isOwn) ∈ Cw := cw_2 144 rfl rfl
theorem k_2_145 : (Cond.code y_r_isOwn b_r_isOwn 4 (some .boolean)) ∈ Cw := cw_2 145 rfl rfl
theorem k_2_146 : (Cond.methodLink "SightGraphModel" 72 Lib.Math.max.name) ∈ Cw := cw_2 146 rfl rfl
theorem k_2_147 : (Cond.methodLink "SightGraphModel" 78 y_r_isWitness) ∈ Cw := cw_2 147 rfl rfl
theorem k_2_149 : (Cond.instanceMethod y_r_isWitness) ∈ Cw := cw_2 149 rfl rfl
theorem k_2_150 : (Cond.code y_r_isWitness b_r_isWitness 2 (some .boolean)) ∈ Cw := cw_2 150 rfl rfl
theorem k_2_151 : (Cond.methodLink "SightGraphModel" 81 y_r_isStrong) ∈ Cw := cw_2 151 rfl rfl
theorem k_2_153 : (Cond.instanceMethod y_r_isStrong) ∈ Cw := cw_2 153 rfl rfl
theorem k_2_154 : (Cond.code y_r_isStrong b_r_isStrong 3 (some .boolean)) ∈ Cw := cw_2 154 rfl rfl
theorem k_2_155 : (Cond.methodLink "SightGraphModel" 87 y_r_strengthOf) ∈ Cw := cw_2 155 rfl rfl
theorem k_2_157 : (Cond.instanceMethod y_r_strengthOf) ∈ Cw := cw_2 157 rfl rfl
theorem k_2_158 : (Cond.code y_r_strengthOf b_r_strengthOf 7 (some .int)) ∈ Cw := cw_2 158 rfl rfl
theorem k_2_159 : (Cond.methodLink "SightGraphModel" 84 y_r_isSeen) ∈ Cw := cw_2 159 rfl rfl
theorem k_2_161 : (Cond.instanceMethod y_r_isSeen) ∈ Cw := cw_2 161 rfl rfl
theorem k_2_162 : (Cond.code y_r_isSeen b_r_isSeen 3 (some .boolean)) ∈ Cw := cw_2 162 rfl rfl
theorem k_2_163 : (Cond.methodLink "SightGraphLaw" 73 y_r_ancestor) ∈ Cw := cw_2 163 rfl rfl
theorem k_2_164 : (Cond.instanceMethod y_r_ancestor) ∈ Cw := cw_2 164 rfl rfl
theorem k_2_165 : (Cond.selects "SightGraphModel" y_r_ancestor y_r_ancestor) ∈ Cw := cw_2 165 rfl rfl
theorem k_2_166 : (Cond.code y_r_ancestor b_r_ancestor 3 (some .boolean)) ∈ Cw := cw_2 166 rfl rfl
theorem k_2_167 : (Cond.methodLink "SightGraphLaw" 76 y_r_own) ∈ Cw := cw_2 167 rfl rfl
theorem k_2_168 : (Cond.instanceMethod y_r_own) ∈ Cw := cw_2 168 rfl rfl
theorem k_2_169 : (Cond.selects "SightGraphModel" y_r_own y_r_own) ∈ Cw := cw_2 169 rfl rfl
theorem k_2_170 : (Cond.code y_r_own b_r_own 3 (some .boolean)) ∈ Cw := cw_2 170 rfl rfl
theorem k_2_171 : (Cond.methodLink "SightGraphLaw" 79 y_r_forked) ∈ Cw := cw_2 171 rfl rfl
theorem k_2_172 : (Cond.instanceMethod y_r_forked) ∈ Cw := cw_2 172 rfl rfl
theorem k_2_173 : (Cond.selects "SightGraphModel" y_r_forked y_r_forked) ∈ Cw := cw_2 173 rfl rfl
theorem k_2_174 : (Cond.code y_r_forked b_r_forked 3 (some .boolean)) ∈ Cw := cw_2 174 rfl rfl
theorem k_2_175 : (Cond.methodLink "SightGraphLaw" 82 y_r_sees) ∈ Cw := cw_2 175 rfl rfl
theorem k_2_176 : (Cond.instanceMethod y_r_sees) ∈ Cw := cw_2 176 rfl rfl
theorem k_2_177 : (Cond.selects "SightGraphModel" y_r_sees y_r_sees) ∈ Cw := cw_2 177 rfl rfl
theorem k_2_178 : (Cond.code y_r_sees b_r_sees 3 (some .boolean)) ∈ Cw := cw_2 178 rfl rfl
theorem k_2_179 : (Cond.methodLink "SightGraphLaw" 85 y_r_strength) ∈ Cw := cw_2 179 rfl rfl
theorem k_2_180 : (Cond.instanceMethod y_r_strength) ∈ Cw := cw_2 180 rfl rfl
theorem k_2_181 : (Cond.selects "SightGraphModel" y_r_strength y_r_strength) ∈ Cw := cw_2 181 rfl rfl
theorem k_2_182 : (Cond.code y_r_strength b_r_strength 3 (some .int)) ∈ Cw := cw_2 182 rfl rfl
theorem k_2_183 : (Cond.methodLink "SightGraphLaw" 88 y_r_strongly) ∈ Cw := cw_2 183 rfl rfl
theorem k_2_184 : (Cond.instanceMethod y_r_strongly) ∈ Cw := cw_2 184 rfl rfl
theorem k_2_185 : (Cond.selects "SightGraphModel" y_r_strongly y_r_strongly) ∈ Cw := cw_2 185 rfl rfl
theorem k_2_186 : (Cond.code y_r_strongly b_r_strongly 3 (some .boolean)) ∈ Cw := cw_2 186 rfl rfl
theorem k_2_187 : (Cond.methodLink "SightGraphLaw" 92 y_r_round) ∈ Cw := cw_2 187 rfl rfl
theorem k_2_188 : (Cond.instanceMethod y_r_round) ∈ Cw := cw_2 188 rfl rfl
theorem k_2_189 : (Cond.selects "SightGraphModel" y_r_round y_r_round) ∈ Cw := cw_2 189 rfl rfl
theorem k_2_190 : (Cond.code y_r_round b_r_round 2 (some .int)) ∈ Cw := cw_2 190 rfl rfl
theorem k_2_191 : (Cond.methodLink "SightGraphLaw" 95 y_r_witness) ∈ Cw := cw_2 191 rfl rfl
theorem k_2_192 : (Cond.instanceMethod y_r_witness) ∈ Cw := cw_2 192 rfl rfl
theorem k_2_193 : (Cond.selects "SightGraphModel" y_r_witness y_r_witness) ∈ Cw := cw_2 193 rfl rfl
theorem k_2_194 : (Cond.code y_r_witness b_r_witness 2 (some .boolean)) ∈ Cw := cw_2 194 rfl rfl
theorem k_2_195 : (Cond.methodLink "SightGraphLaw" 98 y_r_count) ∈ Cw := cw_2 195 rfl rfl
theorem k_2_196 : (Cond.instanceMethod y_r_count) ∈ Cw := cw_2 196 rfl rfl
theorem k_2_197 : (Cond.selects "SightGraphModel" y_r_count y_r_count) ∈ Cw := cw_2 197 rfl rfl
theorem k_2_198 : (Cond.code y_r_count b_r_count 7 (some .int)) ∈ Cw := cw_2 198 rfl rfl
theorem k_2_199 : (Cond.constantLong "SightGraphModel" 90 (3 : Int64)) ∈ Cw := cw_2 199 rfl rfl
theorem k_s_1 : (Cond.selects "SightGraph" y_g_requireNode y_g_requireNode) ∈ Cw := cw_s 1 rfl rfl
theorem k_s_2 : (Cond.selects "SightGraph" y_g_mayBeSelfParent y_g_mayBeSelfParent) ∈ Cw := cw_s 2 rfl rfl
theorem k_s_3 : (Cond.selects "SightGraph" y_g_isEvent y_g_isEvent) ∈ Cw := cw_s 3 rfl rfl
theorem k_s_4 : (Cond.selects "SightGraph" y_g_mayBeOtherParent y_g_mayBeOtherParent) ∈ Cw := cw_s 4 rfl rfl
theorem k_s_5 : (Cond.selects "SightGraph" y_g_gatherAncestors y_g_gatherAncestors) ∈ Cw := cw_s 5 rfl rfl
theorem k_s_6 : (Cond.selects "SightGraph" y_g_addAncestorsOf y_g_addAncestorsOf) ∈ Cw := cw_s 6 rfl rfl
theorem k_s_7 : (Cond.selects "SightGraph" y_g_forkersWithin y_g_forkersWithin) ∈ Cw := cw_s 7 rfl rfl
theorem k_s_8 : (Cond.selects "SightGraph" y_g_hasForkWithin y_g_hasForkWithin) ∈ Cw := cw_s 8 rfl rfl
theorem k_s_9 : (Cond.selects "SightGraph" y_g_roundFrom y_g_roundFrom) ∈ Cw := cw_s 9 rfl rfl
theorem k_s_10 : (Cond.selects "SightGraph" y_g_roundOfParent y_g_roundOfParent) ∈ Cw := cw_s 10 rfl rfl
theorem k_s_11 : (Cond.selects "SightGraph" y_g_nodesWithWitnessFor y_g_nodesWithWitnessFor) ∈ Cw := cw_s 11 rfl rfl
theorem k_s_12 : (Cond.selects "SightGraph" y_g_opensRound y_g_opensRound) ∈ Cw := cw_s 12 rfl rfl
theorem k_s_13 : (Cond.selects "SightGraph" y_g_nodesBetween y_g_nodesBetween) ∈ Cw := cw_s 13 rfl rfl
theorem k_s_14 : (Cond.selects "SightGraph" y_g_hasSight y_g_hasSight) ∈ Cw := cw_s 14 rfl rfl
theorem k_s_15 : (Cond.selects "SightGraph" y_g_hasAncestor y_g_hasAncestor) ∈ Cw := cw_s 15 rfl rfl
theorem k_s_16 : (Cond.selects "SightGraph" y_g_isMany y_g_isMany) ∈ Cw := cw_s 16 rfl rfl
theorem k_s_17 : (Cond.selects "SightGraph" y_g_requireEvent y_g_requireEvent) ∈ Cw := cw_s 17 rfl rfl
theorem k_s_18 : (Cond.selects "SightGraph" y_g_forkersOfAll y_g_forkersOfAll) ∈ Cw := cw_s 18 rfl rfl
theorem k_s_19 : (Cond.selects "SightGraph" y_g_greatestRound y_g_greatestRound) ∈ Cw := cw_s 19 rfl rfl
theorem k_s_20 : (Cond.selects "SightGraphModel" y_r_fails y_r_fails) ∈ Cw := cw_s 20 rfl rfl
theorem k_s_21 : (Cond.selects "SightGraphModel" y_r_isEvent y_r_isEvent) ∈ Cw := cw_s 21 rfl rfl
theorem k_s_22 : (Cond.selects "SightGraphModel" y_r_ways y_r_ways) ∈ Cw := cw_s 22 rfl rfl
theorem k_s_23 : (Cond.selects "SightGraphModel" y_r_isAbove y_r_isAbove) ∈ Cw := cw_s 23 rfl rfl
theorem k_s_24 : (Cond.selects "SightGraphModel" y_r_isFork y_r_isFork) ∈ Cw := cw_s 24 rfl rfl
theorem k_s_25 : (Cond.selects "SightGraphModel" y_r_isOwn y_r_isOwn) ∈ Cw := cw_s 25 rfl rfl
theorem k_s_26 : (Cond.selects "SightGraphModel" y_r_isWitness y_r_isWitness) ∈ Cw := cw_s 26 rfl rfl
theorem k_s_27 : (Cond.selects "SightGraphModel" y_r_isStrong y_r_isStrong) ∈ Cw := cw_s 27 rfl rfl
theorem k_s_28 : (Cond.selects "SightGraphModel" y_r_strengthOf y_r_strengthOf) ∈ Cw := cw_s 28 rfl rfl
theorem k_s_29 : (Cond.selects "SightGraphModel" y_r_isSeen y_r_isSeen) ∈ Cw := cw_s 29 rfl rfl
end
section
theorem d_g_init_0 : decode b_g_init 0 = .ok (.aload_n 0, 1) := by decide +kernel
theorem d_g_init_1 : decode b_g_init 1 = .ok (.invokespecial 1, 3) := by decide +kernel
theorem d_g_init_4 : decode b_g_init 4 = .ok (.aload_n 0, 1) := by decide +kernel
theorem d_g_init_5 : decode b_g_init 5 = .ok (.iconst 4, 1) := by decide +kernel
theorem d_g_init_6 : decode b_g_init 6 = .ok (.putfield 9, 3) := by decide +kernel
theorem d_g_init_9 : decode b_g_init 9 = .ok (.aload_n 0, 1) := by decide +kernel
theorem d_g_init_10 : decode b_g_init 10 = .ok (.iconst 0, 1) := by decide +kernel
theorem d_g_init_11 : decode b_g_init 11 = .ok (.putfield 13, 3) := by decide +kernel
theorem d_g_init_14 : decode b_g_init 14 = .ok (.aload_n 0, 1) := by decide +kernel
theorem d_g_init_15 : decode b_g_init 15 = .ok (.bipush 120, 2) := by decide +kernel
theorem d_g_init_17 : decode b_g_init 17 = .ok (.newarray .int, 2) := by decide +kernel
theorem d_g_init_19 : decode b_g_init 19 = .ok (.putfield 16, 3) := by decide +kernel
theorem d_g_init_22 : decode b_g_init 22 = .ok (.aload_n 0, 1) := by decide +kernel
theorem d_g_init_23 : decode b_g_init 23 = .ok (.bipush 120, 2) := by decide +kernel
theorem d_g_init_25 : decode b_g_init 25 = .ok (.newarray .int, 2) := by decide +kernel
theorem d_g_init_27 : decode b_g_init 27 = .ok (.putfield 20, 3) := by decide +kernel
theorem d_g_init_30 : decode b_g_init 30 = .ok (.aload_n 0, 1) := by decide +kernel
theorem d_g_init_31 : decode b_g_init 31 = .ok (.bipush 120, 2) := by decide +kernel
theorem d_g_init_33 : decode b_g_init 33 = .ok (.newarray .int, 2) := by decide +kernel
theorem d_g_init_35 : decode b_g_init 35 = .ok (.putfield 23, 3) := by decide +kernel
theorem d_g_init_38 : decode b_g_init 38 = .ok (.aload_n 0, 1) := by decide +kernel
theorem d_g_init_39 : decode b_g_init 39 = .ok (.bipush 120, 2) := by decide +kernel
theorem d_g_init_41 : decode b_g_init 41 = .ok (.newarray .int, 2) := by decide +kernel
theorem d_g_init_43 : decode b_g_init 43 = .ok (.putfield 26, 3) := by decide +kernel
theorem d_g_init_46 : decode b_g_init 46 = .ok (.aload_n 0, 1) := by decide +kernel
theorem d_g_init_47 : decode b_g_init 47 = .ok (.bipush 120, 2) := by decide +kernel
theorem d_g_init_49 : decode b_g_init 49 = .ok (.newarray .long, 2) := by decide +kernel
theorem d_g_init_51 : decode b_g_init 51 = .ok (.putfield 29, 3) := by decide +kernel
theorem d_g_init_54 : decode b_g_init 54 = .ok (.aload_n 0, 1) := by decide +kernel
theorem d_g_init_55 : decode b_g_init 55 = .ok (.bipush 120, 2) := by decide +kernel
theorem d_g_init_57 : decode b_g_init 57 = .ok (.newarray .long, 2) := by decide +kernel
theorem d_g_init_59 : decode b_g_init 59 = .ok (.putfield 33, 3) := by decide +kernel
theorem d_g_init_62 : decode b_g_init 62 = .ok (.return_, 1) := by decide +kernel
theorem d_g_begin_0 : decode b_g_begin 0 = .ok (.iload_n 1, 1) := by decide +kernel
theorem d_g_begin_1 : decode b_g_begin 1 = .ok (.iconst 2, 1) := by decide +kernel
theorem d_g_begin_2 : decode b_g_begin 2 = .ok (.if_icmp .lt 9, 3) := by decide +kernel
theorem d_g_begin_5 : decode b_g_begin 5 = .ok (.iload_n 1, 1) := by decide +kernel
theorem d_g_begin_6 : decode b_g_begin 6 = .ok (.bipush 8, 2) := by decide +kernel
theorem d_g_begin_8 : decode b_g_begin 8 = .ok (.if_icmp .le 13, 3) := by decide +kernel
theorem d_g_begin_11 : decode b_g_begin 11 = .ok (.new 36, 3) := by decide +kernel
theorem d_g_begin_14 : decode b_g_begin 14 = .ok (.dup, 1) := by decide +kernel
theorem d_g_begin_15 : decode b_g_begin 15 = .ok (.ldc 38, 2) := by decide +kernel
theorem d_g_begin_17 : decode b_g_begin 17 = .ok (.invokespecial 40, 3) := by decide +kernel
theorem d_g_begin_20 : decode b_g_begin 20 = .ok (.athrow, 1) := by decide +kernel
theorem d_g_begin_21 : decode b_g_begin 21 = .ok (.aload_n 0, 1) := by decide +kernel
theorem d_g_begin_22 : decode b_g_begin 22 = .ok (.iload_n 1, 1) := by decide +kernel
theorem d_g_begin_23 : decode b_g_begin 23 = .ok (.putfield 9, 3) := by decide +kernel
theorem d_g_begin_26 : decode b_g_begin 26 = .ok (.aload_n 0, 1) := by decide +kernel
theorem d_g_begin_27 : decode b_g_begin 27 = .ok (.iconst 0, 1) := by decide +kernel
theorem d_g_begin_28 : decode b_g_begin 28 = .ok (.putfield 13, 3) := by decide +kernel
theorem d_g_begin_31 : decode b_g_begin 31 = .ok (.return_, 1) := by decide +kernel
theorem d_g_event_0 : decode b_g_event 0 = .ok (.aload_n 0, 1) := by decide +kernel
theorem d_g_event_1 : decode b_g_event 1 = .ok (.iload_n 1, 1) := by decide +kernel
theorem d_g_event_2 : decode b_g_event 2 = .ok (.invokevirtual 43, 3) := by decide +kernel
theorem d_g_event_5 : decode b_g_event 5 = .ok (.aload_n 0, 1) := by decide +kernel
theorem d_g_event_6 : decode b_g_event 6 = .ok (.iload_n 1, 1) := by decide +kernel
theorem d_g_event_7 : decode b_g_event 7 = .ok (.iload_n 2, 1) := by decide +kernel
theorem d_g_event_8 : decode b_g_event 8 = .ok (.invokevirtual 47, 3) := by decide +kernel
theorem d_g_event_11 : decode b_g_event 11 = .ok (.ifCond .ne 13, 3) := by decide +kernel
theorem d_g_event_14 : decode b_g_event 14 = .ok (.new 36, 3) := by decide +kernel
theorem d_g_event_17 : decode b_g_event 17 = .ok (.dup, 1) := by decide +kernel
theorem d_g_event_18 : decode b_g_event 18 = .ok (.ldc 51, 2) := by decide +kernel
theorem d_g_event_20 : decode b_g_event 20 = .ok (.invokespecial 40, 3) := by decide +kernel
theorem d_g_event_23 : decode b_g_event 23 = .ok (.athrow, 1) := by decide +kernel
theorem d_g_event_24 : decode b_g_event 24 = .ok (.aload_n 0, 1) := by decide +kernel
theorem d_g_event_25 : decode b_g_event 25 = .ok (.iload_n 1, 1) := by decide +kernel
theorem d_g_event_26 : decode b_g_event 26 = .ok (.iload_n 3, 1) := by decide +kernel
theorem d_g_event_27 : decode b_g_event 27 = .ok (.invokevirtual 53, 3) := by decide +kernel
theorem d_g_event_30 : decode b_g_event 30 = .ok (.ifCond .ne 13, 3) := by decide +kernel
theorem d_g_event_33 : decode b_g_event 33 = .ok (.new 36, 3) := by decide +kernel
theorem d_g_event_36 : decode b_g_event 36 = .ok (.dup, 1) := by decide +kernel
theorem d_g_event_37 : decode b_g_event 37 = .ok (.ldc 56, 2) := by decide +kernel
theorem d_g_event_39 : decode b_g_event 39 = .ok (.invokespecial 40, 3) := by decide +kernel
theorem d_g_event_42 : decode b_g_event 42 = .ok (.athrow, 1) := by decide +kernel
theorem d_g_event_43 : decode b_g_event 43 = .ok (.aload_n 0, 1) := by decide +kernel
theorem d_g_event_44 : decode b_g_event 44 = .ok (.getfield 13, 3) := by decide +kernel
theorem d_g_event_47 : decode b_g_event 47 = .ok (.bipush 120, 2) := by decide +kernel
theorem d_g_event_49 : decode b_g_event 49 = .ok (.if_icmp .lt 13, 3) := by decide +kernel
theorem d_g_event_52 : decode b_g_event 52 = .ok (.new 58, 3) := by decide +kernel
theorem d_g_event_55 : decode b_g_event 55 = .ok (.dup, 1) := by decide +kernel
theorem d_g_event_56 : decode b_g_event 56 = .ok (.ldc 60, 2) := by decide +kernel
theorem d_g_event_58 : decode b_g_event 58 = .ok (.invokespecial 62, 3) := by decide +kernel
theorem d_g_event_61 : decode b_g_event 61 = .ok (.athrow, 1) := by decide +kernel
theorem d_g_event_62 : decode b_g_event 62 = .ok (.aload_n 0, 1) := by decide +kernel
theorem d_g_event_63 : decode b_g_event 63 = .ok (.getfield 13, 3) := by decide +kernel
theorem d_g_event_66 : decode b_g_event 66 = .ok (.istore 4, 2) := by decide +kernel
theorem d_g_event_68 : decode b_g_event 68 = .ok (.aload_n 0, 1) := by decide +kernel
theorem d_g_event_69 : decode b_g_event 69 = .ok (.getfield 16, 3) := by decide +kernel
theorem d_g_event_72 : decode b_g_event 72 = .ok (.iload 4, 2) := by decide +kernel
theorem d_g_event_74 : decode b_g_event 74 = .ok (.iload_n 1, 1) := by decide +kernel
theorem d_g_event_75 : decode b_g_event 75 = .ok (.iastore, 1) := by decide +kernel
theorem d_g_event_76 : decode b_g_event 76 = .ok (.aload_n 0, 1) := by decide +kernel
theorem d_g_event_77 : decode b_g_event 77 = .ok (.getfield 20, 3) := by decide +kernel
theorem d_g_event_80 : decode b_g_event 80 = .ok (.iload 4, 2) := by decide +kernel
theorem d_g_event_82 : decode b_g_event 82 = .ok (.iload_n 2, 1) := by decide +kernel
theorem d_g_event_83 : decode b_g_event 83 = .ok (.iastore, 1) := by decide +kernel
theorem d_g_event_84 : decode b_g_event 84 = .ok (.aload_n 0, 1) := by decide +kernel
theorem d_g_event_85 : decode b_g_event 85 = .ok (.iload 4, 2) := by decide +kernel
theorem d_g_event_87 : decode b_g_event 87 = .ok (.iload_n 2, 1) := by decide +kernel
theorem d_g_event_88 : decode b_g_event 88 = .ok (.iload_n 3, 1) := by decide +kernel
theorem d_g_event_89 : decode b_g_event 89 = .ok (.invokevirtual 63, 3) := by decide +kernel
theorem d_g_event_92 : decode b_g_event 92 = .ok (.aload_n 0, 1) := by decide +kernel
theorem d_g_event_93 : decode b_g_event 93 = .ok (.getfield 26, 3) := by decide +kernel
theorem d_g_event_96 : decode b_g_event 96 = .ok (.iload 4, 2) := by decide +kernel
theorem d_g_event_98 : decode b_g_event 98 = .ok (.aload_n 0, 1) := by decide +kernel
theorem d_g_event_99 : decode b_g_event 99 = .ok (.aload_n 0, 1) := by decide +kernel
theorem d_g_event_100 : decode b_g_event 100 = .ok (.getfield 29, 3) := by decide +kernel
theorem d_g_event_103 : decode b_g_event 103 = .ok (.iload 4, 2) := by decide +kernel
theorem d_g_event_105 : decode b_g_event 105 = .ok (.laload, 1) := by decide +kernel
theorem d_g_event_106 : decode b_g_event 106 = .ok (.aload_n 0, 1) := by decide +kernel
theorem d_g_event_107 : decode b_g_event 107 = .ok (.getfield 33, 3) := by decide +kernel
theorem d_g_event_110 : decode b_g_event 110 = .ok (.iload 4, 2) := by decide +kernel
theorem d_g_event_112 : decode b_g_event 112 = .ok (.laload, 1) := by decide +kernel
theorem d_g_event_113 : decode b_g_event 113 = .ok (.invokevirtual 67, 3) := by decide +kernel
theorem d_g_event_116 : decode b_g_event 116 = .ok (.iastore, 1) := by decide +kernel
theorem d_g_event_117 : decode b_g_event 117 = .ok (.aload_n 0, 1) := by decide +kernel
theorem d_g_event_118 : decode b_g_event 118 = .ok (.getfield 23, 3) := by decide +kernel
theorem d_g_event_121 : decode b_g_event 121 = .ok (.iload 4, 2) := by decide +kernel
theorem d_g_event_123 : decode b_g_event 123 = .ok (.aload_n 0, 1) := by decide +kernel
theorem d_g_event_124 : decode b_g_event 124 = .ok (.iload 4, 2) := by decide +kernel
theorem d_g_event_126 : decode b_g_event 126 = .ok (.iload_n 2, 1) := by decide +kernel
theorem d_g_event_127 : decode b_g_event 127 = .ok (.iload_n 3, 1) := by decide +kernel
theorem d_g_event_128 : decode b_g_event 128 = .ok (.invokevirtual 71, 3) := by decide +kernel
theorem d_g_event_131 : decode b_g_event 131 = .ok (.iastore, 1) := by decide +kernel
theorem d_g_event_132 : decode b_g_event 132 = .ok (.aload_n 0, 1) := by decide +kernel
theorem d_g_event_133 : decode b_g_event 133 = .ok (.iload 4, 2) := by decide +kernel
theorem d_g_event_135 : decode b_g_event 135 = .ok (.iconst 1, 1) := by decide +kernel
theorem d_g_event_136 : decode b_g_event 136 = .ok (.iadd, 1) := by decide +kernel
theorem d_g_event_137 : decode b_g_event 137 = .ok (.putfield 13, 3) := by decide +kernel
theorem d_g_event_140 : decode b_g_event 140 = .ok (.iload 4, 2) := by decide +kernel
theorem d_g_event_142 : decode b_g_event 142 = .ok (.ireturn, 1) := by decide +kernel
theorem d_g_ancestor_0 : decode b_g_ancestor 0 = .ok (.aload_n 0, 1) := by decide +kernel
theorem d_g_ancestor_1 : decode b_g_ancestor 1 = .ok (.iload_n 1, 1) := by decide +kernel
theorem d_g_ancestor_2 : decode b_g_ancestor 2 = .ok (.invokevirtual 75, 3) := by decide +kernel
theorem d_g_ancestor_5 : decode b_g_ancestor 5 = .ok (.aload_n 0, 1) := by decide +kernel
theorem d_g_ancestor_6 : decode b_g_ancestor 6 = .ok (.iload_n 2, 1) := by decide +kernel
theorem d_g_ancestor_7 : decode b_g_ancestor 7 = .ok (.invokevirtual 75, 3) := by decide +kernel
theorem d_g_ancestor_10 : decode b_g_ancestor 10 = .ok (.aload_n 0, 1) := by decide +kernel
theorem d_g_ancestor_11 : decode b_g_ancestor 11 = .ok (.iload_n 1, 1) := by decide +kernel
theorem d_g_ancestor_12 : decode b_g_ancestor 12 = .ok (.iload_n 2, 1) := by decide +kernel
theorem d_g_ancestor_13 : decode b_g_ancestor 13 = .ok (.invokevirtual 78, 3) := by decide +kernel
theorem d_g_ancestor_16 : decode b_g_ancestor 16 = .ok (.ireturn, 1) := by decide +kernel
theorem d_g_own_0 : decode b_g_own 0 = .ok (.aload_n 0, 1) := by decide +kernel
theorem d_g_own_1 : decode b_g_own 1 = .ok (.iload_n 1, 1) := by decide +kernel
theorem d_g_own_2 : decode b_g_own 2 = .ok (.invokevirtual 75, 3) := by decide +kernel
theorem d_g_own_5 : decode b_g_own 5 = .ok (.aload_n 0, 1) := by decide +kernel
theorem d_g_own_6 : decode b_g_own 6 = .ok (.iload_n 2, 1) := by decide +kernel
theorem d_g_own_7 : decode b_g_own 7 = .ok (.invokevirtual 75, 3) := by decide +kernel
theorem d_g_own_10 : decode b_g_own 10 = .ok (.iload_n 1, 1) := by decide +kernel
theorem d_g_own_11 : decode b_g_own 11 = .ok (.istore_n 3, 1) := by decide +kernel
theorem d_g_own_12 : decode b_g_own 12 = .ok (.iload_n 1, 1) := by decide +kernel
theorem d_g_own_13 : decode b_g_own 13 = .ok (.istore 4, 2) := by decide +kernel
theorem d_g_own_15 : decode b_g_own 15 = .ok (.iload 4, 2) := by decide +kernel
theorem d_g_own_17 : decode b_g_own 17 = .ok (.iload_n 2, 1) := by decide +kernel
theorem d_g_own_18 : decode b_g_own 18 = .ok (.if_icmp .le 23, 3) := by decide +kernel
theorem d_g_own_21 : decode b_g_own 21 = .ok (.iload 4, 2) := by decide +kernel
theorem d_g_own_23 : decode b_g_own 23 = .ok (.iload_n 3, 1) := by decide +kernel
theorem d_g_own_24 : decode b_g_own 24 = .ok (.if_icmp .ne 11, 3) := by decide +kernel
theorem d_g_own_27 : decode b_g_own 27 = .ok (.aload_n 0, 1) := by decide +kernel
theorem d_g_own_28 : decode b_g_own 28 = .ok (.getfield 20, 3) := by decide +kernel
theorem d_g_own_31 : decode b_g_own 31 = .ok (.iload 4, 2) := by decide +kernel
theorem d_g_own_33 : decode b_g_own 33 = .ok (.iaload, 1) := by decide +kernel
theorem d_g_own_34 : decode b_g_own 34 = .ok (.istore_n 3, 1) := by decide +kernel
theorem d_g_own_35 : decode b_g_own 35 = .ok (.iinc 4 (-1), 3) := by decide +kernel
theorem d_g_own_38 : decode b_g_own 38 = .ok (.goto (-23), 3) := by decide +kernel
theorem d_g_own_41 : decode b_g_own 41 = .ok (.iload_n 3, 1) := by decide +kernel
theorem d_g_own_42 : decode b_g_own 42 = .ok (.iload_n 2, 1) := by decide +kernel
theorem d_g_own_43 : decode b_g_own 43 = .ok (.if_icmp .ne 7, 3) := by decide +kernel
theorem d_g_own_46 : decode b_g_own 46 = .ok (.iconst 1, 1) := by decide +kernel
theorem d_g_own_47 : decode b_g_own 47 = .ok (.goto 4, 3) := by decide +kernel
theorem d_g_own_50 : decode b_g_own 50 = .ok (.iconst 0, 1) := by decide +kernel
theorem d_g_own_51 : decode b_g_own 51 = .ok (.ireturn, 1) := by decide +kernel
theorem d_g_forked_0 : decode b_g_forked 0 = .ok (.aload_n 0, 1) := by decide +kernel
theorem d_g_forked_1 : decode b_g_forked 1 = .ok (.iload_n 2, 1) := by decide +kernel
theorem d_g_forked_2 : decode b_g_forked 2 = .ok (.invokevirtual 43, 3) := by decide +kernel
theorem d_g_forked_5 : decode b_g_forked 5 = .ok (.aload_n 0, 1) := by decide +kernel
theorem d_g_forked_6 : decode b_g_forked 6 = .ok (.iload_n 1, 1) := by decide +kernel
theorem d_g_forked_7 : decode b_g_forked 7 = .ok (.invokevirtual 75, 3) := by decide +kernel
theorem d_g_forked_10 : decode b_g_forked 10 = .ok (.aload_n 0, 1) := by decide +kernel
theorem d_g_forked_11 : decode b_g_forked 11 = .ok (.getfield 26, 3) := by decide +kernel
theorem d_g_forked_14 : decode b_g_forked 14 = .ok (.iload_n 1, 1) := by decide +kernel
theorem d_g_forked_15 : decode b_g_forked 15 = .ok (.iaload, 1) := by decide +kernel
theorem d_g_forked_16 : decode b_g_forked 16 = .ok (.iload_n 2, 1) := by decide +kernel
theorem d_g_forked_17 : decode b_g_forked 17 = .ok (.invokestatic 81, 3) := by decide +kernel
theorem d_g_forked_20 : decode b_g_forked 20 = .ok (.ireturn, 1) := by decide +kernel
theorem d_g_sees_0 : decode b_g_sees 0 = .ok (.aload_n 0, 1) := by decide +kernel
theorem d_g_sees_1 : decode b_g_sees 1 = .ok (.iload_n 1, 1) := by decide +kernel
theorem d_g_sees_2 : decode b_g_sees 2 = .ok (.invokevirtual 75, 3) := by decide +kernel
theorem d_g_sees_5 : decode b_g_sees 5 = .ok (.aload_n 0, 1) := by decide +kernel
theorem d_g_sees_6 : decode b_g_sees 6 = .ok (.iload_n 2, 1) := by decide +kernel
theorem d_g_sees_7 : decode b_g_sees 7 = .ok (.invokevirtual 75, 3) := by decide +kernel
theorem d_g_sees_10 : decode b_g_sees 10 = .ok (.aload_n 0, 1) := by decide +kernel
theorem d_g_sees_11 : decode b_g_sees 11 = .ok (.iload_n 1, 1) := by decide +kernel
theorem d_g_sees_12 : decode b_g_sees 12 = .ok (.iload_n 2, 1) := by decide +kernel
theorem d_g_sees_13 : decode b_g_sees 13 = .ok (.invokevirtual 84, 3) := by decide +kernel
theorem d_g_sees_16 : decode b_g_sees 16 = .ok (.ireturn, 1) := by decide +kernel
theorem d_g_strength_0 : decode b_g_strength 0 = .ok (.aload_n 0, 1) := by decide +kernel
theorem d_g_strength_1 : decode b_g_strength 1 = .ok (.iload_n 1, 1) := by decide +kernel
theorem d_g_strength_2 : decode b_g_strength 2 = .ok (.invokevirtual 75, 3) := by decide +kernel
theorem d_g_strength_5 : decode b_g_strength 5 = .ok (.aload_n 0, 1) := by decide +kernel
theorem d_g_strength_6 : decode b_g_strength 6 = .ok (.iload_n 2, 1) := by decide +kernel
theorem d_g_strength_7 : decode b_g_strength 7 = .ok (.invokevirtual 75, 3) := by decide +kernel
theorem d_g_strength_10 : decode b_g_strength 10 = .ok (.aload_n 0, 1) := by decide +kernel
theorem d_g_strength_11 : decode b_g_strength 11 = .ok (.iload_n 1, 1) := by decide +kernel
theorem d_g_strength_12 : decode b_g_strength 12 = .ok (.iload_n 2, 1) := by decide +kernel
theorem d_g_strength_13 : decode b_g_strength 13 = .ok (.invokevirtual 87, 3) := by decide +kernel
theorem d_g_strength_16 : decode b_g_strength 16 = .ok (.ireturn, 1) := by decide +kernel
theorem d_g_strongly_0 : decode b_g_strongly 0 = .ok (.aload_n 0, 1) := by decide +kernel
theorem d_g_strongly_1 : decode b_g_strongly 1 = .ok (.iload_n 1, 1) := by decide +kernel
theorem d_g_strongly_2 : decode b_g_strongly 2 = .ok (.invokevirtual 75, 3) := by decide +kernel
theorem d_g_strongly_5 : decode b_g_strongly 5 = .ok (.aload_n 0, 1) := by decide +kernel
theorem d_g_strongly_6 : decode b_g_strongly 6 = .ok (.iload_n 2, 1) := by decide +kernel
theorem d_g_strongly_7 : decode b_g_strongly 7 = .ok (.invokevirtual 75, 3) := by decide +kernel
theorem d_g_strongly_10 : decode b_g_strongly 10 = .ok (.aload_n 0, 1) := by decide +kernel
theorem d_g_strongly_11 : decode b_g_strongly 11 = .ok (.aload_n 0, 1) := by decide +kernel
theorem d_g_strongly_12 : decode b_g_strongly 12 = .ok (.iload_n 1, 1) := by decide +kernel
theorem d_g_strongly_13 : decode b_g_strongly 13 = .ok (.iload_n 2, 1) := by decide +kernel
theorem d_g_strongly_14 : decode b_g_strongly 14 = .ok (.invokevirtual 87, 3) := by decide +kernel
theorem d_g_strongly_17 : decode b_g_strongly 17 = .ok (.invokevirtual 91, 3) := by decide +kernel
theorem d_g_strongly_20 : decode b_g_strongly 20 = .ok (.ireturn, 1) := by decide +kernel
theorem d_g_round_0 : decode b_g_round 0 = .ok (.aload_n 0, 1) := by decide +kernel
theorem d_g_round_1 : decode b_g_round 1 = .ok (.iload_n 1, 1) := by decide +kernel
theorem d_g_round_2 : decode b_g_round 2 = .ok (.invokevirtual 75, 3) := by decide +kernel
theorem d_g_round_5 : decode b_g_round 5 = .ok (.aload_n 0, 1) := by decide +kernel
theorem d_g_round_6 : decode b_g_round 6 = .ok (.getfield 23, 3) := by decide +kernel
theorem d_g_round_9 : decode b_g_round 9 = .ok (.iload_n 1, 1) := by decide +kernel
theorem d_g_round_10 : decode b_g_round 10 = .ok (.iaload, 1) := by decide +kernel
theorem d_g_round_11 : decode b_g_round 11 = .ok (.ireturn, 1) := by decide +kernel
theorem d_g_witness_0 : decode b_g_witness 0 = .ok (.aload_n 0, 1) := by decide +kernel
theorem d_g_witness_1 : decode b_g_witness 1 = .ok (.iload_n 1, 1) := by decide +kernel
theorem d_g_witness_2 : decode b_g_witness 2 = .ok (.invokevirtual 75, 3) := by decide +kernel
theorem d_g_witness_5 : decode b_g_witness 5 = .ok (.aload_n 0, 1) := by decide +kernel
theorem d_g_witness_6 : decode b_g_witness 6 = .ok (.iload_n 1, 1) := by decide +kernel
theorem d_g_witness_7 : decode b_g_witness 7 = .ok (.invokevirtual 95, 3) := by decide +kernel
theorem d_g_witness_10 : decode b_g_witness 10 = .ok (.ireturn, 1) := by decide +kernel
theorem d_g_count_0 : decode b_g_count 0 = .ok (.iload_n 1, 1) := by decide +kernel
theorem d_g_count_1 : decode b_g_count 1 = .ok (.tableswitch 54 0 3 #[31, 36, 41, 49], 31) := by decide +kernel
theorem d_g_count_32 : decode b_g_count 32 = .ok (.aload_n 0, 1) := by decide +kernel
theorem d_g_count_33 : decode b_g_count 33 = .ok (.getfield 13, 3) := by decide +kernel
theorem d_g_count_36 : decode b_g_count 36 = .ok (.ireturn, 1) := by decide +kernel
theorem d_g_count_37 : decode b_g_count 37 = .ok (.aload_n 0, 1) := by decide +kernel
theorem d_g_count_38 : decode b_g_count 38 = .ok (.getfield 9, 3) := by decide +kernel
theorem d_g_count_41 : decode b_g_count 41 = .ok (.ireturn, 1) := by decide +kernel
theorem d_g_count_42 : decode b_g_count 42 = .ok (.aload_n 0, 1) := by decide +kernel
theorem d_g_count_43 : decode b_g_count 43 = .ok (.invokevirtual 98, 3) := by decide +kernel
theorem d_g_count_46 : decode b_g_count 46 = .ok (.invokestatic 102, 3) := by decide +kernel
theorem d_g_count_49 : decode b_g_count 49 = .ok (.ireturn, 1) := by decide +kernel
theorem d_g_count_50 : decode b_g_count 50 = .ok (.aload_n 0, 1) := by decide +kernel
theorem d_g_count_51 : decode b_g_count 51 = .ok (.invokevirtual 108, 3) := by decide +kernel
theorem d_g_count_54 : decode b_g_count 54 = .ok (.ireturn, 1) := by decide +kernel
theorem d_g_count_55 : decode b_g_count 55 = .ok (.new 36, 3) := by decide +kernel
theorem d_g_count_58 : decode b_g_count 58 = .ok (.dup, 1) := by decide +kernel
theorem d_g_count_59 : decode b_g_count 59 = .ok (.ldc 111, 2) := by decide +kernel
theorem d_g_count_61 : decode b_g_count 61 = .ok (.invokespecial 40, 3) := by decide +kernel
theorem d_g_count_64 : decode b_g_count 64 = .ok (.athrow, 1) := by decide +kernel
theorem d_g_requireNode_0 : decode b_g_requireNode 0 = .ok (.iload_n 1, 1) := by decide +kernel
theorem d_g_requireNode_1 : decode b_g_requireNode 1 = .ok (.ifCond .lt 11, 3) := by decide +kernel
theorem d_g_requireNode_4 : decode b_g_requireNode 4 = .ok (.iload_n 1, 1) := by decide +kernel
theorem d_g_requireNode_5 : decode b_g_requireNode 5 = .ok (.aload_n 0, 1) := by decide +kernel
theorem d_g_requireNode_6 : decode b_g_requireNode 6 = .ok (.getfield 9, 3) := by decide +kernel
theorem d_g_requireNode_9 : decode b_g_requireNode 9 = .ok (.if_icmp .lt 13, 3) := by decide +kernel
theorem d_g_requireNode_12 : decode b_g_requireNode 12 = .ok (.new 36, 3) := by decide +kernel
theorem d_g_requireNode_15 : decode b_g_requireNode 15 = .ok (.dup, 1) := by decide +kernel
theorem d_g_requireNode_16 : decode b_g_requireNode 16 = .ok (.ldc 113, 2) := by decide +kernel
theorem d_g_requireNode_18 : decode b_g_requireNode 18 = .ok (.invokespecial 40, 3) := by decide +kernel
theorem d_g_requireNode_21 : decode b_g_requireNode 21 = .ok (.athrow, 1) := by decide +kernel
theorem d_g_requireNode_22 : decode b_g_requireNode 22 = .ok (.return_, 1) := by decide +kernel
theorem d_g_requireEvent_0 : decode b_g_requireEvent 0 = .ok (.aload_n 0, 1) := by decide +kernel
theorem d_g_requireEvent_1 : decode b_g_requireEvent 1 = .ok (.iload_n 1, 1) := by decide +kernel
theorem d_g_requireEvent_2 : decode b_g_requireEvent 2 = .ok (.invokevirtual 115, 3) := by decide +kernel
theorem d_g_requireEvent_5 : decode b_g_requireEvent 5 = .ok (.ifCond .ne 13, 3) := by decide +kernel
theorem d_g_requireEvent_8 : decode b_g_requireEvent 8 = .ok (.new 58, 3) := by decide +kernel
theorem d_g_requireEvent_11 : decode b_g_requireEvent 11 = .ok (.dup, 1) := by decide +kernel
theorem d_g_requireEvent_12 : decode b_g_requireEvent 12 = .ok (.ldc 118, 2) := by decide +kernel
theorem d_g_requireEvent_14 : decode b_g_requireEvent 14 = .ok (.invokespecial 62, 3) := by decide +kernel
theorem d_g_requireEvent_17 : decode b_g_requireEvent 17 = .ok (.athrow, 1) := by decide +kernel
theorem d_g_requireEvent_18 : decode b_g_requireEvent 18 = .ok (.return_, 1) := by decide +kernel
theorem d_g_isEvent_0 : decode b_g_isEvent 0 = .ok (.iload_n 1, 1) := by decide +kernel
theorem d_g_isEvent_1 : decode b_g_isEvent 1 = .ok (.ifCond .lt 15, 3) := by decide +kernel
theorem d_g_isEvent_4 : decode b_g_isEvent 4 = .ok (.iload_n 1, 1) := by decide +kernel
theorem d_g_isEvent_5 : decode b_g_isEvent 5 = .ok (.aload_n 0, 1) := by decide +kernel
theorem d_g_isEvent_6 : decode b_g_isEvent 6 = .ok (.getfield 13, 3) := by decide +kernel
theorem d_g_isEvent_9 : decode b_g_isEvent 9 = .ok (.if_icmp .ge 7, 3) := by decide +kernel
theorem d_g_isEvent_12 : decode b_g_isEvent 12 = .ok (.iconst 1, 1) := by decide +kernel
theorem d_g_isEvent_13 : decode b_g_isEvent 13 = .ok (.goto 4, 3) := by decide +kernel
theorem d_g_isEvent_16 : decode b_g_isEvent 16 = .ok (.iconst 0, 1) := by decide +kernel
theorem d_g_isEvent_17 : decode b_g_isEvent 17 = .ok (.ireturn, 1) := by decide +kernel
theorem d_g_mayBeSelfParent_0 : decode b_g_mayBeSelfParent 0 = .ok (.iload_n 2, 1) := by decide +kernel
theorem d_g_mayBeSelfParent_1 : decode b_g_mayBeSelfParent 1 = .ok (.iconst (-1), 1) := by decide +kernel
theorem d_g_mayBeSelfParent_2 : decode b_g_mayBeSelfParent 2 = .ok (.if_icmp .eq 21, 3) := by decide +kernel
theorem d_g_mayBeSelfParent_5 : decode b_g_mayBeSelfParent 5 = .ok (.aload_n 0, 1) := by decide +kernel
theorem d_g_mayBeSelfParent_6 : decode b_g_mayBeSelfParent 6 = .ok (.iload_n 2, 1) := by decide +kernel
theorem d_g_mayBeSelfParent_7 : decode b_g_mayBeSelfParent 7 = .ok (.invokevirtual 115, 3) := by decide +kernel
theorem d_g_mayBeSelfParent_10 : decode b_g_mayBeSelfParent 10 = .ok (.ifCond .eq 17, 3) := by decide +kernel
theorem d_g_mayBeSelfParent_13 : decode b_g_mayBeSelfParent 13 = .ok (.aload_n 0, 1) := by decide +kernel
theorem d_g_mayBeSelfParent_14 : decode b_g_mayBeSelfParent 14 = .ok (.getfield 16, 3) := by decide +kernel
theorem d_g_mayBeSelfParent_17 : decode b_g_mayBeSelfParent 17 = .ok (.iload_n 2, 1) := by decide +kernel
theorem d_g_mayBeSelfParent_18 : decode b_g_mayBeSelfParent 18 = .ok (.iaload, 1) := by decide +kernel
theorem d_g_mayBeSelfParent_19 : decode b_g_mayBeSelfParent 19 = .ok (.iload_n 1, 1) := by decide +kernel
theorem d_g_mayBeSelfParent_20 : decode b_g_mayBeSelfParent 20 = .ok (.if_icmp .ne 7, 3) := by decide +kernel
theorem d_g_mayBeSelfParent_23 : decode b_g_mayBeSelfParent 23 = .ok (.iconst 1, 1) := by decide +kernel
theorem d_g_mayBeSelfParent_24 : decode b_g_mayBeSelfParent 24 = .ok (.goto 4, 3) := by decide +kernel
theorem d_g_mayBeSelfParent_27 : decode b_g_mayBeSelfParent 27 = .ok (.iconst 0, 1) := by decide +kernel
theorem d_g_mayBeSelfParent_28 : decode b_g_mayBeSelfParent 28 = .ok (.ireturn, 1) := by decide +kernel
theorem d_g_mayBeOtherParent_0 : decode b_g_mayBeOtherParent 0 = .ok (.iload_n 2, 1) := by decide +kernel
theorem d_g_mayBeOtherParent_1 : decode b_g_mayBeOtherParent 1 = .ok (.iconst (-1), 1) := by decide +kernel
theorem d_g_mayBeOtherParent_2 : decode b_g_mayBeOtherParent 2 = .ok (.if_icmp .eq 21, 3) := by decide +kernel
theorem d_g_mayBeOtherParent_5 : decode b_g_mayBeOtherParent 5 = .ok (.aload_n 0, 1) := by decide +kernel
theorem d_g_mayBeOtherParent_6 : decode b_g_mayBeOtherParent 6 = .ok (.iload_n 2, 1) := by decide +kernel
theorem d_g_mayBeOtherParent_7 : decode b_g_mayBeOtherParent 7 = .ok (.invokevirtual 115, 3) := by decide +kernel
theorem d_g_mayBeOtherParent_10 : decode b_g_mayBeOtherParent 10 = .ok (.ifCond .eq 17, 3) := by decide +kernel
theorem d_g_mayBeOtherParent_13 : decode b_g_mayBeOtherParent 13 = .ok (.aload_n 0, 1) := by decide +kernel
theorem d_g_mayBeOtherParent_14 : decode b_g_mayBeOtherParent 14 = .ok (.getfield 16, 3) := by decide +kernel
theorem d_g_mayBeOtherParent_17 : decode b_g_mayBeOtherParent 17 = .ok (.iload_n 2, 1) := by decide +kernel
theorem d_g_mayBeOtherParent_18 : decode b_g_mayBeOtherParent 18 = .ok (.iaload, 1) := by decide +kernel
theorem d_g_mayBeOtherParent_19 : decode b_g_mayBeOtherParent 19 = .ok (.iload_n 1, 1) := by decide +kernel
theorem d_g_mayBeOtherParent_20 : decode b_g_mayBeOtherParent 20 = .ok (.if_icmp .eq 7, 3) := by decide +kernel
theorem d_g_mayBeOtherParent_23 : decode b_g_mayBeOtherParent 23 = .ok (.iconst 1, 1) := by decide +kernel
theorem d_g_mayBeOtherParent_24 : decode b_g_mayBeOtherParent 24 = .ok (.goto 4, 3) := by decide +kernel
theorem d_g_mayBeOtherParent_27 : decode b_g_mayBeOtherParent 27 = .ok (.iconst 0, 1) := by decide +kernel
theorem d_g_mayBeOtherParent_28 : decode b_g_mayBeOtherParent 28 = .ok (.ireturn, 1) := by decide +kernel
theorem d_g_gatherAncestors_0 : decode b_g_gatherAncestors 0 = .ok (.aload_n 0, 1) := by decide +kernel
theorem d_g_gatherAncestors_1 : decode b_g_gatherAncestors 1 = .ok (.getfield 29, 3) := by decide +kernel
theorem d_g_gatherAncestors_4 : decode b_g_gatherAncestors 4 = .ok (.iload_n 1, 1) := by decide +kernel
theorem d_g_gatherAncestors_5 : decode b_g_gatherAncestors 5 = .ok (.iload_n 1, 1) := by decide +kernel
theorem d_g_gatherAncestors_6 : decode b_g_gatherAncestors 6 = .ok (.bipush 64, 2) := by decide +kernel
theorem d_g_gatherAncestors_8 : decode b_g_gatherAncestors 8 = .ok (.if_icmp .ge 9, 3) := by decide +kernel
theorem d_g_gatherAncestors_11 : decode b_g_gatherAncestors 11 = .ok (.lconst 1, 1) := by decide +kernel
theorem d_g_gatherAncestors_12 : decode b_g_gatherAncestors 12 = .ok (.iload_n 1, 1) := by decide +kernel
theorem d_g_gatherAncestors_13 : decode b_g_gatherAncestors 13 = .ok (.lshl, 1) := by decide +kernel
theorem d_g_gatherAncestors_14 : decode b_g_gatherAncestors 14 = .ok (.goto 4, 3) := by decide +kernel
theorem d_g_gatherAncestors_17 : decode b_g_gatherAncestors 17 = .ok (.lconst 0, 1) := by decide +kernel
theorem d_g_gatherAncestors_18 : decode b_g_gatherAncestors 18 = .ok (.lastore, 1) := by decide +kernel
theorem d_g_gatherAncestors_19 : decode b_g_gatherAncestors 19 = .ok (.aload_n 0, 1) := by decide +kernel
theorem d_g_gatherAncestors_20 : decode b_g_gatherAncestors 20 = .ok (.getfield 33, 3) := by decide +kernel
theorem d_g_gatherAncestors_23 : decode b_g_gatherAncestors 23 = .ok (.iload_n 1, 1) := by decide +kernel
theorem d_g_gatherAncestors_24 : decode b_g_gatherAncestors 24 = .ok (.iload_n 1, 1) := by decide +kernel
theorem d_g_gatherAncestors_25 : decode b_g_gatherAncestors 25 = .ok (.bipush 64, 2) := by decide +kernel
theorem d_g_gatherAncestors_27 : decode b_g_gatherAncestors 27 = .ok (.if_icmp .ge 7, 3) := by decide +kernel
theorem d_g_gatherAncestors_30 : decode b_g_gatherAncestors 30 = .ok (.lconst 0, 1) := by decide +kernel
theorem d_g_gatherAncestors_31 : decode b_g_gatherAncestors 31 = .ok (.goto 9, 3) := by decide +kernel
theorem d_g_gatherAncestors_34 : decode b_g_gatherAncestors 34 = .ok (.lconst 1, 1) := by decide +kernel
theorem d_g_gatherAncestors_35 : decode b_g_gatherAncestors 35 = .ok (.iload_n 1, 1) := by decide +kernel
theorem d_g_gatherAncestors_36 : decode b_g_gatherAncestors 36 = .ok (.bipush 64, 2) := by decide +kernel
theorem d_g_gatherAncestors_38 : decode b_g_gatherAncestors 38 = .ok (.isub, 1) := by decide +kernel
theorem d_g_gatherAncestors_39 : decode b_g_gatherAncestors 39 = .ok (.lshl, 1) := by decide +kernel
theorem d_g_gatherAncestors_40 : decode b_g_gatherAncestors 40 = .ok (.lastore, 1) := by decide +kernel
theorem d_g_gatherAncestors_41 : decode b_g_gatherAncestors 41 = .ok (.aload_n 0, 1) := by decide +kernel
theorem d_g_gatherAncestors_42 : decode b_g_gatherAncestors 42 = .ok (.iload_n 1, 1) := by decide +kernel
theorem d_g_gatherAncestors_43 : decode b_g_gatherAncestors 43 = .ok (.iload_n 2, 1) := by decide +kernel
theorem d_g_gatherAncestors_44 : decode b_g_gatherAncestors 44 = .ok (.invokevirtual 120, 3) := by decide +kernel
theorem d_g_gatherAncestors_47 : decode b_g_gatherAncestors 47 = .ok (.aload_n 0, 1) := by decide +kernel
theorem d_g_gatherAncestors_48 : decode b_g_gatherAncestors 48 = .ok (.iload_n 1, 1) := by decide +kernel
theorem d_g_gatherAncestors_49 : decode b_g_gatherAncestors 49 = .ok (.iload_n 3, 1) := by decide +kernel
theorem d_g_gatherAncestors_50 : decode b_g_gatherAncestors 50 = .ok (.invokevirtual 120, 3) := by decide +kernel
theorem d_g_gatherAncestors_53 : decode b_g_gatherAncestors 53 = .ok (.return_, 1) := by decide +kernel
theorem d_g_addAncestorsOf_0 : decode b_g_addAncestorsOf 0 = .ok (.iload_n 2, 1) := by decide +kernel
theorem d_g_addAncestorsOf_1 : decode b_g_addAncestorsOf 1 = .ok (.iconst (-1), 1) := by decide +kernel
theorem d_g_addAncestorsOf_2 : decode b_g_addAncestorsOf 2 = .ok (.if_icmp .eq 33, 3) := by decide +kernel
theorem d_g_addAncestorsOf_5 : decode b_g_addAncestorsOf 5 = .ok (.aload_n 0, 1) := by decide +kernel
theorem d_g_addAncestorsOf_6 : decode b_g_addAncestorsOf 6 = .ok (.getfield 29, 3) := by decide +kernel
theorem d_g_addAncestorsOf_9 : decode b_g_addAncestorsOf 9 = .ok (.iload_n 1, 1) := by decide +kernel
theorem d_g_addAncestorsOf_10 : decode b_g_addAncestorsOf 10 = .ok (.dup2, 1) := by decide +kernel
theorem d_g_addAncestorsOf_11 : decode b_g_addAncestorsOf 11 = .ok (.laload, 1) := by decide +kernel
theorem d_g_addAncestorsOf_12 : decode b_g_addAncestorsOf 12 = .ok (.aload_n 0, 1) := by decide +kernel
theorem d_g_addAncestorsOf_13 : decode b_g_addAncestorsOf 13 = .ok (.getfield 29, 3) := by decide +kernel
theorem d_g_addAncestorsOf_16 : decode b_g_addAncestorsOf 16 = .ok (.iload_n 2, 1) := by decide +kernel
theorem d_g_addAncestorsOf_17 : decode b_g_addAncestorsOf 17 = .ok (.laload, 1) := by decide +kernel
theorem d_g_addAncestorsOf_18 : decode b_g_addAncestorsOf 18 = .ok (.lor, 1) := by decide +kernel
theorem d_g_addAncestorsOf_19 : decode b_g_addAncestorsOf 19 = .ok (.lastore, 1) := by decide +kernel
theorem d_g_addAncestorsOf_20 : decode b_g_addAncestorsOf 20 = .ok (.aload_n 0, 1) := by decide +kernel
theorem d_g_addAncestorsOf_21 : decode b_g_addAncestorsOf 21 = .ok (.getfield 33, 3) := by decide +kernel
theorem d_g_addAncestorsOf_24 : decode b_g_addAncestorsOf 24 = .ok (.iload_n 1, 1) := by decide +kernel
theorem d_g_addAncestorsOf_25 : decode b_g_addAncestorsOf 25 = .ok (.dup2, 1) := by decide +kernel
theorem d_g_addAncestorsOf_26 : decode b_g_addAncestorsOf 26 = .ok (.laload, 1) := by decide +kernel
theorem d_g_addAncestorsOf_27 : decode b_g_addAncestorsOf 27 = .ok (.aload_n 0, 1) := by decide +kernel
theorem d_g_addAncestorsOf_28 : decode b_g_addAncestorsOf 28 = .ok (.getfield 33, 3) := by decide +kernel
theorem d_g_addAncestorsOf_31 : decode b_g_addAncestorsOf 31 = .ok (.iload_n 2, 1) := by decide +kernel
theorem d_g_addAncestorsOf_32 : decode b_g_addAncestorsOf 32 = .ok (.laload, 1) := by decide +kernel
theorem d_g_addAncestorsOf_33 : decode b_g_addAncestorsOf 33 = .ok (.lor, 1) := by decide +kernel
theorem d_g_addAncestorsOf_34 : decode b_g_addAncestorsOf 34 = .ok (.lastore, 1) := by decide +kernel
theorem d_g_addAncestorsOf_35 : decode b_g_addAncestorsOf 35 = .ok (.return_, 1) := by decide +kernel
theorem d_g_hasAncestor_0 : decode b_g_hasAncestor 0 = .ok (.aload_n 0, 1) := by decide +kernel
theorem d_g_hasAncestor_1 : decode b_g_hasAncestor 1 = .ok (.getfield 29, 3) := by decide +kernel
theorem d_g_hasAncestor_4 : decode b_g_hasAncestor 4 = .ok (.iload_n 1, 1) := by decide +kernel
theorem d_g_hasAncestor_5 : decode b_g_hasAncestor 5 = .ok (.laload, 1) := by decide +kernel
theorem d_g_hasAncestor_6 : decode b_g_hasAncestor 6 = .ok (.aload_n 0, 1) := by decide +kernel
theorem d_g_hasAncestor_7 : decode b_g_hasAncestor 7 = .ok (.getfield 33, 3) := by decide +kernel
theorem d_g_hasAncestor_10 : decode b_g_hasAncestor 10 = .ok (.iload_n 1, 1) := by decide +kernel
theorem d_g_hasAncestor_11 : decode b_g_hasAncestor 11 = .ok (.laload, 1) := by decide +kernel
theorem d_g_hasAncestor_12 : decode b_g_hasAncestor 12 = .ok (.iload_n 2, 1) := by decide +kernel
theorem d_g_hasAncestor_13 : decode b_g_hasAncestor 13 = .ok (.invokestatic 124, 3) := by decide +kernel
theorem d_g_hasAncestor_16 : decode b_g_hasAncestor 16 = .ok (.ireturn, 1) := by decide +kernel
theorem d_g_isWithin_0 : decode b_g_isWithin 0 = .ok (.iload 4, 2) := by decide +kernel
theorem d_g_isWithin_2 : decode b_g_isWithin 2 = .ok (.bipush 64, 2) := by decide +kernel
theorem d_g_isWithin_4 : decode b_g_isWithin 4 = .ok (.if_icmp .ge 10, 3) := by decide +kernel
theorem d_g_isWithin_7 : decode b_g_isWithin 7 = .ok (.lload_n 0, 1) := by decide +kernel
theorem d_g_isWithin_8 : decode b_g_isWithin 8 = .ok (.iload 4, 2) := by decide +kernel
theorem d_g_isWithin_10 : decode b_g_isWithin 10 = .ok (.lushr, 1) := by decide +kernel
theorem d_g_isWithin_11 : decode b_g_isWithin 11 = .ok (.goto 10, 3) := by decide +kernel
theorem d_g_isWithin_14 : decode b_g_isWithin 14 = .ok (.lload_n 2, 1) := by decide +kernel
theorem d_g_isWithin_15 : decode b_g_isWithin 15 = .ok (.iload 4, 2) := by decide +kernel
theorem d_g_isWithin_17 : decode b_g_isWithin 17 = .ok (.bipush 64, 2) := by decide +kernel
theorem d_g_isWithin_19 : decode b_g_isWithin 19 = .ok (.isub, 1) := by decide +kernel
theorem d_g_isWithin_20 : decode b_g_isWithin 20 = .ok (.lushr, 1) := by decide +kernel
theorem d_g_isWithin_21 : decode b_g_isWithin 21 = .ok (.lstore 5, 2) := by decide +kernel
theorem d_g_isWithin_23 : decode b_g_isWithin 23 = .ok (.lload 5, 2) := by decide +kernel
theorem d_g_isWithin_25 : decode b_g_isWithin 25 = .ok (.lconst 1, 1) := by decide +kernel
theorem d_g_isWithin_26 : decode b_g_isWithin 26 = .ok (.land, 1) := by decide +kernel
theorem d_g_isWithin_27 : decode b_g_isWithin 27 = .ok (.lconst 0, 1) := by decide +kernel
theorem d_g_isWithin_28 : decode b_g_isWithin 28 = .ok (.lcmp, 1) := by decide +kernel
theorem d_g_isWithin_29 : decode b_g_isWithin 29 = .ok (.ifCond .eq 7, 3) := by decide +kernel
theorem d_g_isWithin_32 : decode b_g_isWithin 32 = .ok (.iconst 1, 1) := by decide +kernel
theorem d_g_isWithin_33 : decode b_g_isWithin 33 = .ok (.goto 4, 3) := by decide +kernel
theorem d_g_isWithin_36 : decode b_g_isWithin 36 = .ok (.iconst 0, 1) := by decide +kernel
theorem d_g_isWithin_37 : decode b_g_isWithin 37 = .ok (.ireturn, 1) := by decide +kernel
theorem d_g_hasBit_0 : decode b_g_hasBit 0 = .ok (.iload_n 0, 1) := by decide +kernel
theorem d_g_hasBit_1 : decode b_g_hasBit 1 = .ok (.iload_n 1, 1) := by decide +kernel
theorem d_g_hasBit_2 : decode b_g_hasBit 2 = .ok (.iushr, 1) := by decide +kernel
theorem d_g_hasBit_3 : decode b_g_hasBit 3 = .ok (.iconst 1, 1) := by decide +kernel
theorem d_g_hasBit_4 : decode b_g_hasBit 4 = .ok (.iand, 1) := by decide +kernel
theorem d_g_hasBit_5 : decode b_g_hasBit 5 = .ok (.ifCond .eq 7, 3) := by decide +kernel
theorem d_g_hasBit_8 : decode b_g_hasBit 8 = .ok (.iconst 1, 1) := by decide +kernel
theorem d_g_hasBit_9 : decode b_g_hasBit 9 = .ok (.goto 4, 3) := by decide +kernel
theorem d_g_hasBit_12 : decode b_g_hasBit 12 = .ok (.iconst 0, 1) := by decide +kernel
theorem d_g_hasBit_13 : decode b_g_hasBit 13 = .ok (.ireturn, 1) := by decide +kernel
theorem d_g_lowestBits_0 : decode b_g_lowestBits 0 = .ok (.iload_n 0, 1) := by decide +kernel
theorem d_g_lowestBits_1 : decode b_g_lowestBits 1 = .ok (.ifCond .gt 5, 3) := by decide +kernel
theorem d_g_lowestBits_4 : decode b_g_lowestBits 4 = .ok (.lconst 0, 1) := by decide +kernel
theorem d_g_lowestBits_5 : decode b_g_lowestBits 5 = .ok (.lreturn, 1) := by decide +kernel
theorem d_g_lowestBits_6 : decode b_g_lowestBits 6 = .ok (.iload_n 0, 1) := by decide +kernel
theorem d_g_lowestBits_7 : decode b_g_lowestBits 7 = .ok (.bipush 64, 2) := by decide +kernel
theorem d_g_lowestBits_9 : decode b_g_lowestBits 9 = .ok (.if_icmp .lt 9, 3) := by decide +kernel
theorem d_g_lowestBits_12 : decode b_g_lowestBits 12 = .ok (.ldc2_w 128, 3) := by decide +kernel
theorem d_g_lowestBits_15 : decode b_g_lowestBits 15 = .ok (.goto 8, 3) := by decide +kernel
theorem d_g_lowestBits_18 : decode b_g_lowestBits 18 = .ok (.lconst 1, 1) := by decide +kernel
theorem d_g_lowestBits_19 : decode b_g_lowestBits 19 = .ok (.iload_n 0, 1) := by decide +kernel
theorem d_g_lowestBits_20 : decode b_g_lowestBits 20 = .ok (.lshl, 1) := by decide +kernel
theorem d_g_lowestBits_21 : decode b_g_lowestBits 21 = .ok (.lconst 1, 1) := by decide +kernel
theorem d_g_lowestBits_22 : decode b_g_lowestBits 22 = .ok (.lsub, 1) := by decide +kernel
theorem d_g_lowestBits_23 : decode b_g_lowestBits 23 = .ok (.lreturn, 1) := by decide +kernel
theorem d_g_forkersOfAll_0 : decode b_g_forkersOfAll 0 = .ok (.aload_n 0, 1) := by decide +kernel
theorem d_g_forkersOfAll_1 : decode b_g_forkersOfAll 1 = .ok (.aload_n 0, 1) := by decide +kernel
theorem d_g_forkersOfAll_2 : decode b_g_forkersOfAll 2 = .ok (.getfield 13, 3) := by decide +kernel
theorem d_g_forkersOfAll_5 : decode b_g_forkersOfAll 5 = .ok (.invokestatic 130, 3) := by decide +kernel
theorem d_g_forkersOfAll_8 : decode b_g_forkersOfAll 8 = .ok (.aload_n 0, 1) := by decide +kernel
theorem d_g_forkersOfAll_9 : decode b_g_forkersOfAll 9 = .ok (.getfield 13, 3) := by decide +kernel
theorem d_g_forkersOfAll_12 : decode b_g_forkersOfAll 12 = .ok (.bipush 64, 2) := by decide +kernel
theorem d_g_forkersOfAll_14 : decode b_g_forkersOfAll 14 = .ok (.isub, 1) := by decide +kernel
theorem d_g_forkersOfAll_15 : decode b_g_forkersOfAll 15 = .ok (.invokestatic 130, 3) := by decide +kernel
theorem d_g_forkersOfAll_18 : decode b_g_forkersOfAll 18 = .ok (.invokevirtual 67, 3) := by decide +kernel
theorem d_g_forkersOfAll_21 : decode b_g_forkersOfAll 21 = .ok (.ireturn, 1) := by decide +kernel
theorem d_g_forkersWithin_0 : decode b_g_forkersWithin 0 = .ok (.iconst 0, 1) := by decide +kernel
theorem d_g_forkersWithin_1 : decode b_g_forkersWithin 1 = .ok (.istore 5, 2) := by decide +kernel
theorem d_g_forkersWithin_3 : decode b_g_forkersWithin 3 = .ok (.iconst 0, 1) := by decide +kernel
theorem d_g_forkersWithin_4 : decode b_g_forkersWithin 4 = .ok (.istore 6, 2) := by decide +kernel
theorem d_g_forkersWithin_6 : decode b_g_forkersWithin 6 = .ok (.iload 6, 2) := by decide +kernel
theorem d_g_forkersWithin_8 : decode b_g_forkersWithin 8 = .ok (.aload_n 0, 1) := by decide +kernel
theorem d_g_forkersWithin_9 : decode b_g_forkersWithin 9 = .ok (.getfield 9, 3) := by decide +kernel
theorem d_g_forkersWithin_12 : decode b_g_forkersWithin 12 = .ok (.if_icmp .ge 29, 3) := by decide +kernel
theorem d_g_forkersWithin_15 : decode b_g_forkersWithin 15 = .ok (.aload_n 0, 1) := by decide +kernel
theorem d_g_forkersWithin_16 : decode b_g_forkersWithin 16 = .ok (.lload_n 1, 1) := by decide +kernel
theorem d_g_forkersWithin_17 : decode b_g_forkersWithin 17 = .ok (.lload_n 3, 1) := by decide +kernel
theorem d_g_forkersWithin_18 : decode b_g_forkersWithin 18 = .ok (.iload 6, 2) := by decide +kernel
theorem d_g_forkersWithin_20 : decode b_g_forkersWithin 20 = .ok (.invokevirtual 134, 3) := by decide +kernel
theorem d_g_forkersWithin_23 : decode b_g_forkersWithin 23 = .ok (.ifCond .eq 12, 3) := by decide +kernel
theorem d_g_forkersWithin_26 : decode b_g_forkersWithin 26 = .ok (.iload 5, 2) := by decide +kernel
theorem d_g_forkersWithin_28 : decode b_g_forkersWithin 28 = .ok (.iconst 1, 1) := by decide +kernel
theorem d_g_forkersWithin_29 : decode b_g_forkersWithin 29 = .ok (.iload 6, 2) := by decide +kernel
theorem d_g_forkersWithin_31 : decode b_g_forkersWithin 31 = .ok (.ishl, 1) := by decide +kernel
theorem d_g_forkersWithin_32 : decode b_g_forkersWithin 32 = .ok (.ior, 1) := by decide +kernel
theorem d_g_forkersWithin_33 : decode b_g_forkersWithin 33 = .ok (.istore 5, 2) := by decide +kernel
theorem d_g_forkersWithin_35 : decode b_g_forkersWithin 35 = .ok (.iinc 6 1, 3) := by decide +kernel
theorem d_g_forkersWithin_38 : decode b_g_forkersWithin 38 = .ok (.goto (-32), 3) := by decide +kernel
theorem d_g_forkersWithin_41 : decode b_g_forkersWithin 41 = .ok (.iload 5, 2) := by decide +kernel
theorem d_g_forkersWithin_43 : decode b_g_forkersWithin 43 = .ok (.ireturn, 1) := by decide +kernel
theorem d_g_hasForkWithin_0 : decode b_g_hasForkWithin 0 = .ok (.iconst 0, 1) := by decide +kernel
theorem d_g_hasForkWithin_1 : decode b_g_hasForkWithin 1 = .ok (.istore 6, 2) := by decide +kernel
theorem d_g_hasForkWithin_3 : decode b_g_hasForkWithin 3 = .ok (.iconst (-1), 1) := by decide +kernel
theorem d_g_hasForkWithin_4 : decode b_g_hasForkWithin 4 = .ok (.istore 7, 2) := by decide +kernel
theorem d_g_hasForkWithin_6 : decode b_g_hasForkWithin 6 = .ok (.bipush 119, 2) := by decide +kernel
theorem d_g_hasForkWithin_8 : decode b_g_hasForkWithin 8 = .ok (.istore 8, 2) := by decide +kernel
theorem d_g_hasForkWithin_10 : decode b_g_hasForkWithin 10 = .ok (.iload 8, 2) := by decide +kernel
theorem d_g_hasForkWithin_12 : decode b_g_hasForkWithin 12 = .ok (.ifCond .lt 57, 3) := by decide +kernel
theorem d_g_hasForkWithin_15 : decode b_g_hasForkWithin 15 = .ok (.lload_n 1, 1) := by decide +kernel
theorem d_g_hasForkWithin_16 : decode b_g_hasForkWithin 16 = .ok (.lload_n 3, 1) := by decide +kernel
theorem d_g_hasForkWithin_17 : decode b_g_hasForkWithin 17 = .ok (.iload 8, 2) := by decide +kernel
theorem d_g_hasForkWithin_19 : decode b_g_hasForkWithin 19 = .ok (.invokestatic 124, 3) := by decide +kernel
theorem d_g_hasForkWithin_22 : decode b_g_hasForkWithin 22 = .ok (.ifCond .eq 41, 3) := by decide +kernel
theorem d_g_hasForkWithin_25 : decode b_g_hasForkWithin 25 = .ok (.aload_n 0, 1) := by decide +kernel
theorem d_g_hasForkWithin_26 : decode b_g_hasForkWithin 26 = .ok (.getfield 16, 3) := by decide +kernel
theorem d_g_hasForkWithin_29 : decode b_g_hasForkWithin 29 = .ok (.iload 8, 2) := by decide +kernel
theorem d_g_hasForkWithin_31 : decode b_g_hasForkWithin 31 = .ok (.iaload, 1) := by decide +kernel
theorem d_g_hasForkWithin_32 : decode b_g_hasForkWithin 32 = .ok (.iload 5, 2) := by decide +kernel
theorem d_g_hasForkWithin_34 : decode b_g_hasForkWithin 34 = .ok (.if_icmp .ne 29, 3) := by decide +kernel
theorem d_g_hasForkWithin_37 : decode b_g_hasForkWithin 37 = .ok (.iload 6, 2) := by decide +kernel
theorem d_g_hasForkWithin_39 : decode b_g_hasForkWithin 39 = .ok (.ifCond .eq 12, 3) := by decide +kernel
theorem d_g_hasForkWithin_42 : decode b_g_hasForkWithin 42 = .ok (.iload 8, 2) := by decide +kernel
theorem d_g_hasForkWithin_44 : decode b_g_hasForkWithin 44 = .ok (.iload 7, 2) := by decide +kernel
theorem d_g_hasForkWithin_46 : decode b_g_hasForkWithin 46 = .ok (.if_icmp .eq 5, 3) := by decide +kernel
theorem d_g_hasForkWithin_49 : decode b_g_hasForkWithin 49 = .ok (.iconst 1, 1) := by decide +kernel
theorem d_g_hasForkWithin_50 : decode b_g_hasForkWithin 50 = .ok (.ireturn, 1) := by decide +kernel
theorem d_g_hasForkWithin_51 : decode b_g_hasForkWithin 51 = .ok (.iconst 1, 1) := by decide +kernel
theorem d_g_hasForkWithin_52 : decode b_g_hasForkWithin 52 = .ok (.istore 6, 2) := by decide +kernel
theorem d_g_hasForkWithin_54 : decode b_g_hasForkWithin 54 = .ok (.aload_n 0, 1) := by decide +kernel
theorem d_g_hasForkWithin_55 : decode b_g_hasForkWithin 55 = .ok (.getfield 20, 3) := by decide +kernel
theorem d_g_hasForkWithin_58 : decode b_g_hasForkWithin 58 = .ok (.iload 8, 2) := by decide +kernel
theorem d_g_hasForkWithin_60 : decode b_g_hasForkWithin 60 = .ok (.iaload, 1) := by decide +kernel
theorem d_g_hasForkWithin_61 : decode b_g_hasForkWithin 61 = .ok (.istore 7, 2) := by decide +kernel
theorem d_g_hasForkWithin_63 : decode b_g_hasForkWithin 63 = .ok (.iinc 8 (-1), 3) := by decide +kernel
theorem d_g_hasForkWithin_66 : decode b_g_hasForkWithin 66 = .ok (.goto (-56), 3) := by decide +kernel
theorem d_g_hasForkWithin_69 : decode b_g_hasForkWithin 69 = .ok (.iconst 0, 1) := by decide +kernel
theorem d_g_hasForkWithin_70 : decode b_g_hasForkWithin 70 = .ok (.ireturn, 1) := by decide +kernel
theorem d_g_hasSight_0 : decode b_g_hasSight 0 = .ok (.aload_n 0, 1) := by decide +kernel
theorem d_g_hasSight_1 : decode b_g_hasSight 1 = .ok (.iload_n 1, 1) := by decide +kernel
theorem d_g_hasSight_2 : decode b_g_hasSight 2 = .ok (.iload_n 2, 1) := by decide +kernel
theorem d_g_hasSight_3 : decode b_g_hasSight 3 = .ok (.invokevirtual 78, 3) := by decide +kernel
theorem d_g_hasSight_6 : decode b_g_hasSight 6 = .ok (.ifCond .eq 25, 3) := by decide +kernel
theorem d_g_hasSight_9 : decode b_g_hasSight 9 = .ok (.aload_n 0, 1) := by decide +kernel
theorem d_g_hasSight_10 : decode b_g_hasSight 10 = .ok (.getfield 26, 3) := by decide +kernel
theorem d_g_hasSight_13 : decode b_g_hasSight 13 = .ok (.iload_n 1, 1) := by decide +kernel
theorem d_g_hasSight_14 : decode b_g_hasSight 14 = .ok (.iaload, 1) := by decide +kernel
theorem d_g_hasSight_15 : decode b_g_hasSight 15 = .ok (.aload_n 0, 1) := by decide +kernel
theorem d_g_hasSight_16 : decode b_g_hasSight 16 = .ok (.getfield 16, 3) := by decide +kernel
theorem d_g_hasSight_19 : decode b_g_hasSight 19 = .ok (.iload_n 2, 1) := by decide +kernel
theorem d_g_hasSight_20 : decode b_g_hasSight 20 = .ok (.iaload, 1) := by decide +kernel
theorem d_g_hasSight_21 : decode b_g_hasSight 21 = .ok (.invokestatic 81, 3) := by decide +kernel
theorem d_g_hasSight_24 : decode b_g_hasSight 24 = .ok (.ifCond .ne 7, 3) := by decide +kernel
theorem d_g_hasSight_27 : decode b_g_hasSight 27 = .ok (.iconst 1, 1) := by decide +kernel
theorem d_g_hasSight_28 : decode b_g_hasSight 28 = .ok (.goto 4, 3) := by decide +kernel
theorem d_g_hasSight_31 : decode b_g_hasSight 31 = .ok (.iconst 0, 1) := by decide +kernel
theorem d_g_hasSight_32 : decode b_g_hasSight 32 = .ok (.ireturn, 1) := by decide +kernel
theorem d_g_nodesBetween_0 : decode b_g_nodesBetween 0 = .ok (.iconst 0, 1) := by decide +kernel
theorem d_g_nodesBetween_1 : decode b_g_nodesBetween 1 = .ok (.istore_n 3, 1) := by decide +kernel
theorem d_g_nodesBetween_2 : decode b_g_nodesBetween 2 = .ok (.iload_n 2, 1) := by decide +kernel
theorem d_g_nodesBetween_3 : decode b_g_nodesBetween 3 = .ok (.istore 4, 2) := by decide +kernel
theorem d_g_nodesBetween_5 : decode b_g_nodesBetween 5 = .ok (.iload 4, 2) := by decide +kernel
theorem d_g_nodesBetween_7 : decode b_g_nodesBetween 7 = .ok (.iload_n 1, 1) := by decide +kernel
theorem d_g_nodesBetween_8 : decode b_g_nodesBetween 8 = .ok (.if_icmp .gt 41, 3) := by decide +kernel
theorem d_g_nodesBetween_11 : decode b_g_nodesBetween 11 = .ok (.aload_n 0, 1) := by decide +kernel
theorem d_g_nodesBetween_12 : decode b_g_nodesBetween 12 = .ok (.iload_n 1, 1) := by decide +kernel
theorem d_g_nodesBetween_13 : decode b_g_nodesBetween 13 = .ok (.iload 4, 2) := by decide +kernel
theorem d_g_nodesBetween_15 : decode b_g_nodesBetween 15 = .ok (.invokevirtual 84, 3) := by decide +kernel
theorem d_g_nodesBetween_18 : decode b_g_nodesBetween 18 = .ok (.ifCond .eq 25, 3) := by decide +kernel
theorem d_g_nodesBetween_21 : decode b_g_nodesBetween 21 = .ok (.aload_n 0, 1) := by decide +kernel
theorem d_g_nodesBetween_22 : decode b_g_nodesBetween 22 = .ok (.iload 4, 2) := by decide +kernel
theorem d_g_nodesBetween_24 : decode b_g_nodesBetween 24 = .ok (.iload_n 2, 1) := by decide +kernel
theorem d_g_nodesBetween_25 : decode b_g_nodesBetween 25 = .ok (.invokevirtual 84, 3) := by decide +kernel
theorem d_g_nodesBetween_28 : decode b_g_nodesBetween 28 = .ok (.ifCond .eq 15, 3) := by decide +kernel
theorem d_g_nodesBetween_31 : decode b_g_nodesBetween 31 = .ok (.iload_n 3, 1) := by decide +kernel
theorem d_g_nodesBetween_32 : decode b_g_nodesBetween 32 = .ok (.iconst 1, 1) := by decide +kernel
theorem d_g_nodesBetween_33 : decode b_g_nodesBetween 33 = .ok (.aload_n 0, 1) := by decide +kernel
theorem d_g_nodesBetween_34 : decode b_g_nodesBetween 34 = .ok (.getfield 16, 3) := by decide +kernel
theorem d_g_nodesBetween_37 : decode b_g_nodesBetween 37 = .ok (.iload 4, 2) := by decide +kernel
theorem d_g_nodesBetween_39 : decode b_g_nodesBetween 39 = .ok (.iaload, 1) := by decide +kernel
theorem d_g_nodesBetween_40 : decode b_g_nodesBetween 40 = .ok (.ishl, 1) := by decide +kernel
theorem d_g_nodesBetween_41 : decode b_g_nodesBetween 41 = .ok (.ior, 1) := by decide +kernel
theorem d_g_nodesBetween_42 : decode b_g_nodesBetween 42 = .ok (.istore_n 3, 1) := by decide +kernel
theorem d_g_nodesBetween_43 : decode b_g_nodesBetween 43 = .ok (.iinc 4 1, 3) := by decide +kernel
theorem d_g_nodesBetween_46 : decode b_g_nodesBetween 46 = .ok (.goto (-41), 3) := by decide +kernel
theorem d_g_nodesBetween_49 : decode b_g_nodesBetween 49 = .ok (.iload_n 3, 1) := by decide +kernel
theorem d_g_nodesBetween_50 : decode b_g_nodesBetween 50 = .ok (.invokestatic 102, 3) := by decide +kernel
theorem d_g_nodesBetween_53 : decode b_g_nodesBetween 53 = .ok (.ireturn, 1) := by decide +kernel
theorem d_g_isMany_0 : decode b_g_isMany 0 = .ok (.iconst 3, 1) := by decide +kernel
theorem d_g_isMany_1 : decode b_g_isMany 1 = .ok (.iload_n 1, 1) := by decide +kernel
theorem d_g_isMany_2 : decode b_g_isMany 2 = .ok (.imul, 1) := by decide +kernel
theorem d_g_isMany_3 : decode b_g_isMany 3 = .ok (.iconst 2, 1) := by decide +kernel
theorem d_g_isMany_4 : decode b_g_isMany 4 = .ok (.aload_n 0, 1) := by decide +kernel
theorem d_g_isMany_5 : decode b_g_isMany 5 = .ok (.getfield 9, 3) := by decide +kernel
theorem d_g_isMany_8 : decode b_g_isMany 8 = .ok (.imul, 1) := by decide +kernel
theorem d_g_isMany_9 : decode b_g_isMany 9 = .ok (.if_icmp .le 7, 3) := by decide +kernel
theorem d_g_isMany_12 : decode b_g_isMany 12 = .ok (.iconst 1, 1) := by decide +kernel
theorem d_g_isMany_13 : decode b_g_isMany 13 = .ok (.goto 4, 3) := by decide +kernel
theorem d_g_isMany_16 : decode b_g_isMany 16 = .ok (.iconst 0, 1) := by decide +kernel
theorem d_g_isMany_17 : decode b_g_isMany 17 = .ok (.ireturn, 1) := by decide +kernel
theorem d_g_roundFrom_0 : decode b_g_roundFrom 0 = .ok (.iload_n 2, 1) := by decide +kernel
theorem d_g_roundFrom_1 : decode b_g_roundFrom 1 = .ok (.iconst (-1), 1) := by decide +kernel
theorem d_g_roundFrom_2 : decode b_g_roundFrom 2 = .ok (.if_icmp .ne 10, 3) := by decide +kernel
theorem d_g_roundFrom_5 : decode b_g_roundFrom 5 = .ok (.iload_n 3, 1) := by decide +kernel
theorem d_g_roundFrom_6 : decode b_g_roundFrom 6 = .ok (.iconst (-1), 1) := by decide +kernel
theorem d_g_roundFrom_7 : decode b_g_roundFrom 7 = .ok (.if_icmp .ne 5, 3) := by decide +kernel
theorem d_g_roundFrom_10 : decode b_g_roundFrom 10 = .ok (.iconst 1, 1) := by decide +kernel
theorem d_g_roundFrom_11 : decode b_g_roundFrom 11 = .ok (.ireturn, 1) := by decide +kernel
theorem d_g_roundFrom_12 : decode b_g_roundFrom 12 = .ok (.aload_n 0, 1) := by decide +kernel
theorem d_g_roundFrom_13 : decode b_g_roundFrom 13 = .ok (.iload_n 2, 1) := by decide +kernel
theorem d_g_roundFrom_14 : decode b_g_roundFrom 14 = .ok (.invokevirtual 137, 3) := by decide +kernel
theorem d_g_roundFrom_17 : decode b_g_roundFrom 17 = .ok (.aload_n 0, 1) := by decide +kernel
theorem d_g_roundFrom_18 : decode b_g_roundFrom 18 = .ok (.iload_n 3, 1) := by decide +kernel
theorem d_g_roundFrom_19 : decode b_g_roundFrom 19 = .ok (.invokevirtual 137, 3) := by decide +kernel
theorem d_g_roundFrom_22 : decode b_g_roundFrom 22 = .ok (.invokestatic 140, 3) := by decide +kernel
theorem d_g_roundFrom_25 : decode b_g_roundFrom 25 = .ok (.istore 4, 2) := by decide +kernel
theorem d_g_roundFrom_27 : decode b_g_roundFrom 27 = .ok (.aload_n 0, 1) := by decide +kernel
theorem d_g_roundFrom_28 : decode b_g_roundFrom 28 = .ok (.aload_n 0, 1) := by decide +kernel
theorem d_g_roundFrom_29 : decode b_g_roundFrom 29 = .ok (.iload_n 1, 1) := by decide +kernel
theorem d_g_roundFrom_30 : decode b_g_roundFrom 30 = .ok (.iload 4, 2) := by decide +kernel
theorem d_g_roundFrom_32 : decode b_g_roundFrom 32 = .ok (.invokevirtual 145, 3) := by decide +kernel
theorem d_g_roundFrom_35 : decode b_g_roundFrom 35 = .ok (.invokevirtual 91, 3) := by decide +kernel
theorem d_g_roundFrom_38 : decode b_g_roundFrom 38 = .ok (.ifCond .eq 10, 3) := by decide +kernel
theorem d_g_roundFrom_41 : decode b_g_roundFrom 41 = .ok (.iload 4, 2) := by decide +kernel
theorem d_g_roundFrom_43 : decode b_g_roundFrom 43 = .ok (.iconst 1, 1) := by decide +kernel
theorem d_g_roundFrom_44 : decode b_g_roundFrom 44 = .ok (.iadd, 1) := by decide +kernel
theorem d_g_roundFrom_45 : decode b_g_roundFrom 45 = .ok (.goto 5, 3) := by decide +kernel
theorem d_g_roundFrom_48 : decode b_g_roundFrom 48 = .ok (.iload 4, 2) := by decide +kernel
theorem d_g_roundFrom_50 : decode b_g_roundFrom 50 = .ok (.ireturn, 1) := by decide +kernel
theorem d_g_roundOfParent_0 : decode b_g_roundOfParent 0 = .ok (.iload_n 1, 1) := by decide +kernel
theorem d_g_roundOfParent_1 : decode b_g_roundOfParent 1 = .ok (.iconst (-1), 1) := by decide +kernel
theorem d_g_roundOfParent_2 : decode b_g_roundOfParent 2 = .ok (.if_icmp .ne 7, 3) := by decide +kernel
theorem d_g_roundOfParent_5 : decode b_g_roundOfParent 5 = .ok (.iconst 0, 1) := by decide +kernel
theorem d_g_roundOfParent_6 : decode b_g_roundOfParent 6 = .ok (.goto 9, 3) := by decide +kernel
theorem d_g_roundOfParent_9 : decode b_g_roundOfParent 9 = .ok (.aload_n 0, 1) := by decide +kernel
theorem d_g_roundOfParent_10 : decode b_g_roundOfParent 10 = .ok (.getfield 23, 3) := by decide +kernel
theorem d_g_roundOfParent_13 : decode b_g_roundOfParent 13 = .ok (.iload_n 1, 1) := by decide +kernel
theorem d_g_roundOfParent_14 : decode b_g_roundOfParent 14 = .ok (.iaload, 1) := by decide +kernel
theorem d_g_roundOfParent_15 : decode b_g_roundOfParent 15 = .ok (.ireturn, 1) := by decide +kernel
theorem d_g_nodesWithWitnessFor_0 : decode b_g_nodesWithWitnessFor 0 = .ok (.iconst 0, 1) := by decide +kernel
theorem d_g_nodesWithWitnessFor_1 : decode b_g_nodesWithWitnessFor 1 = .ok (.istore_n 3, 1) := by decide +kernel
theorem d_g_nodesWithWitnessFor_2 : decode b_g_nodesWithWitnessFor 2 = .ok (.iconst 0, 1) := by decide +kernel
theorem d_g_nodesWithWitnessFor_3 : decode b_g_nodesWithWitnessFor 3 = .ok (.istore 4, 2) := by decide +kernel
theorem d_g_nodesWithWitnessFor_5 : decode b_g_nodesWithWitnessFor 5 = .ok (.iload 4, 2) := by decide +kernel
theorem d_g_nodesWithWitnessFor_7 : decode b_g_nodesWithWitnessFor 7 = .ok (.iload_n 1, 1) := by decide +kernel
theorem d_g_nodesWithWitnessFor_8 : decode b_g_nodesWithWitnessFor 8 = .ok (.if_icmp .ge 55, 3) := by decide +kernel
theorem d_g_nodesWithWitnessFor_11 : decode b_g_nodesWithWitnessFor 11 = .ok (.aload_n 0, 1) := by decide +kernel
theorem d_g_nodesWithWitnessFor_12 : decode b_g_nodesWithWitnessFor 12 = .ok (.getfield 23, 3) := by decide +kernel
theorem d_g_nodesWithWitnessFor_15 : decode b_g_nodesWithWitnessFor 15 = .ok (.iload 4, 2) := by decide +kernel
theorem d_g_nodesWithWitnessFor_17 : decode b_g_nodesWithWitnessFor 17 = .ok (.iaload, 1) := by decide +kernel
theorem d_g_nodesWithWitnessFor_18 : decode b_g_nodesWithWitnessFor 18 = .ok (.iload_n 2, 1) := by decide +kernel
theorem d_g_nodesWithWitnessFor_19 : decode b_g_nodesWithWitnessFor 19 = .ok (.if_icmp .ne 38, 3) := by decide +kernel
theorem d_g_nodesWithWitnessFor_22 : decode b_g_nodesWithWitnessFor 22 = .ok (.aload_n 0, 1) := by decide +kernel
theorem d_g_nodesWithWitnessFor_23 : decode b_g_nodesWithWitnessFor 23 = .ok (.iload 4, 2) := by decide +kernel
theorem d_g_nodesWithWitnessFor_25 : decode b_g_nodesWithWitnessFor 25 = .ok (.invokevirtual 95, 3) := by decide +kernel
theorem d_g_nodesWithWitnessFor_28 : decode b_g_nodesWithWitnessFor 28 = .ok (.ifCond .eq 29, 3) := by decide +kernel
theorem d_g_nodesWithWitnessFor_31 : decode b_g_nodesWithWitnessFor 31 = .ok (.aload_n 0, 1) := by decide +kernel
theorem d_g_nodesWithWitnessFor_32 : decode b_g_nodesWithWitnessFor 32 = .ok (.aload_n 0, 1) := by decide +kernel
theorem d_g_nodesWithWitnessFor_33 : decode b_g_nodesWithWitnessFor 33 = .ok (.iload_n 1, 1) := by decide +kernel
theorem d_g_nodesWithWitnessFor_34 : decode b_g_nodesWithWitnessFor 34 = .ok (.iload 4, 2) := by decide +kernel
theorem d_g_nodesWithWitnessFor_36 : decode b_g_nodesWithWitnessFor 36 = .ok (.invokevirtual 87, 3) := by decide +kernel
theorem d_g_nodesWithWitnessFor_39 : decode b_g_nodesWithWitnessFor 39 = .ok (.invokevirtual 91, 3) := by decide +kernel
theorem d_g_nodesWithWitnessFor_42 : decode b_g_nodesWithWitnessFor 42 = .ok (.ifCond .eq 15, 3) := by decide +kernel
theorem d_g_nodesWithWitnessFor_45 : decode b_g_nodesWithWitnessFor 45 = .ok (.iload_n 3, 1) := by decide +kernel
theorem d_g_nodesWithWitnessFor_46 : decode b_g_nodesWithWitnessFor 46 = .ok (.iconst 1, 1) := by decide +kernel
theorem d_g_nodesWithWitnessFor_47 : decode b_g_nodesWithWitnessFor 47 = .ok (.aload_n 0, 1) := by decide +kernel
theorem d_g_nodesWithWitnessFor_48 : decode b_g_nodesWithWitnessFor 48 = .ok (.getfield 16, 3) := by decide +kernel
theorem d_g_nodesWithWitnessFor_51 : decode b_g_nodesWithWitnessFor 51 = .ok (.iload 4, 2) := by decide +kernel
theorem d_g_nodesWithWitnessFor_53 : decode b_g_nodesWithWitnessFor 53 = .ok (.iaload, 1) := by decide +kernel
theorem d_g_nodesWithWitnessFor_54 : decode b_g_nodesWithWitnessFor 54 = .ok (.ishl, 1) := by decide +kernel
theorem d_g_nodesWithWitnessFor_55 : decode b_g_nodesWithWitnessFor 55 = .ok (.ior, 1) := by decide +kernel
theorem d_g_nodesWithWitnessFor_56 : decode b_g_nodesWithWitnessFor 56 = .ok (.istore_n 3, 1) := by decide +kernel
theorem d_g_nodesWithWitnessFor_57 : decode b_g_nodesWithWitnessFor 57 = .ok (.iinc 4 1, 3) := by decide +kernel
theorem d_g_nodesWithWitnessFor_60 : decode b_g_nodesWithWitnessFor 60 = .ok (.goto (-55), 3) := by decide +kernel
theorem d_g_nodesWithWitnessFor_63 : decode b_g_nodesWithWitnessFor 63 = .ok (.iload_n 3, 1) := by decide +kernel
theorem d_g_nodesWithWitnessFor_64 : decode b_g_nodesWithWitnessFor 64 = .ok (.invokestatic 102, 3) := by decide +kernel
theorem d_g_nodesWithWitnessFor_67 : decode b_g_nodesWithWitnessFor 67 = .ok (.ireturn, 1) := by decide +kernel
theorem d_g_opensRound_0 : decode b_g_opensRound 0 = .ok (.aload_n 0, 1) := by decide +kernel
theorem d_g_opensRound_1 : decode b_g_opensRound 1 = .ok (.getfield 20, 3) := by decide +kernel
theorem d_g_opensRound_4 : decode b_g_opensRound 4 = .ok (.iload_n 1, 1) := by decide +kernel
theorem d_g_opensRound_5 : decode b_g_opensRound 5 = .ok (.iaload, 1) := by decide +kernel
theorem d_g_opensRound_6 : decode b_g_opensRound 6 = .ok (.istore_n 2, 1) := by decide +kernel
theorem d_g_opensRound_7 : decode b_g_opensRound 7 = .ok (.iload_n 2, 1) := by decide +kernel
theorem d_g_opensRound_8 : decode b_g_opensRound 8 = .ok (.iconst (-1), 1) := by decide +kernel
theorem d_g_opensRound_9 : decode b_g_opensRound 9 = .ok (.if_icmp .eq 18, 3) := by decide +kernel
theorem d_g_opensRound_12 : decode b_g_opensRound 12 = .ok (.aload_n 0, 1) := by decide +kernel
theorem d_g_opensRound_13 : decode b_g_opensRound 13 = .ok (.getfield 23, 3) := by decide +kernel
theorem d_g_opensRound_16 : decode b_g_opensRound 16 = .ok (.iload_n 2, 1) := by decide +kernel
theorem d_g_opensRound_17 : decode b_g_opensRound 17 = .ok (.iaload, 1) := by decide +kernel
theorem d_g_opensRound_18 : decode b_g_opensRound 18 = .ok (.aload_n 0, 1) := by decide +kernel
theorem d_g_opensRound_19 : decode b_g_opensRound 19 = .ok (.getfield 23, 3) := by decide +kernel
theorem d_g_opensRound_22 : decode b_g_opensRound 22 = .ok (.iload_n 1, 1) := by decide +kernel
theorem d_g_opensRound_23 : decode b_g_opensRound 23 = .ok (.iaload, 1) := by decide +kernel
theorem d_g_opensRound_24 : decode b_g_opensRound 24 = .ok (.if_icmp .ge 7, 3) := by decide +kernel
theorem d_g_opensRound_27 : decode b_g_opensRound 27 = .ok (.iconst 1, 1) := by decide +kernel
theorem d_g_opensRound_28 : decode b_g_opensRound 28 = .ok (.goto 4, 3) := by decide +kernel
theorem d_g_opensRound_31 : decode b_g_opensRound 31 = .ok (.iconst 0, 1) := by decide +kernel
theorem d_g_opensRound_32 : decode b_g_opensRound 32 = .ok (.ireturn, 1) := by decide +kernel
theorem d_g_greatestRound_0 : decode b_g_greatestRound 0 = .ok (.iconst 0, 1) := by decide +kernel
theorem d_g_greatestRound_1 : decode b_g_greatestRound 1 = .ok (.istore_n 1, 1) := by decide +kernel
theorem d_g_greatestRound_2 : decode b_g_greatestRound 2 = .ok (.iconst 0, 1) := by decide +kernel
theorem d_g_greatestRound_3 : decode b_g_greatestRound 3 = .ok (.istore_n 2, 1) := by decide +kernel
theorem d_g_greatestRound_4 : decode b_g_greatestRound 4 = .ok (.iload_n 2, 1) := by decide +kernel
theorem d_g_greatestRound_5 : decode b_g_greatestRound 5 = .ok (.aload_n 0, 1) := by decide +kernel
theorem d_g_greatestRound_6 : decode b_g_greatestRound 6 = .ok (.getfield 13, 3) := by decide +kernel
theorem d_g_greatestRound_9 : decode b_g_greatestRound 9 = .ok (.if_icmp .ge 20, 3) := by decide +kernel
theorem d_g_greatestRound_12 : decode b_g_greatestRound 12 = .ok (.iload_n 1, 1) := by decide +kernel
theorem d_g_greatestRound_13 : decode b_g_greatestRound 13 = .ok (.aload_n 0, 1) := by decide +kernel
theorem d_g_greatestRound_14 : decode b_g_greatestRound 14 = .ok (.getfield 23, 3) := by decide +kernel
theorem d_g_greatestRound_17 : decode b_g_greatestRound 17 = .ok (.iload_n 2, 1) := by decide +kernel
theorem d_g_greatestRound_18 : decode b_g_greatestRound 18 = .ok (.iaload, 1) := by decide +kernel
theorem d_g_greatestRound_19 : decode b_g_greatestRound 19 = .ok (.invokestatic 140, 3) := by decide +kernel
theorem d_g_greatestRound_22 : decode b_g_greatestRound 22 = .ok (.istore_n 1, 1) := by decide +kernel
theorem d_g_greatestRound_23 : decode b_g_greatestRound 23 = .ok (.iinc 2 1, 3) := by decide +kernel
theorem d_g_greatestRound_26 : decode b_g_greatestRound 26 = .ok (.goto (-22), 3) := by decide +kernel
theorem d_g_greatestRound_29 : decode b_g_greatestRound 29 = .ok (.iload_n 1, 1) := by decide +kernel
theorem d_g_greatestRound_30 : decode b_g_greatestRound 30 = .ok (.ireturn, 1) := by decide +kernel
end
section
theorem d_r_init_0 : decode b_r_init 0 = .ok (.aload_n 0, 1) := by decide +kernel
theorem d_r_init_1 : decode b_r_init 1 = .ok (.invokespecial 1, 3) := by decide +kernel
theorem d_r_init_4 : decode b_r_init 4 = .ok (.aload_n 0, 1) := by decide +kernel
theorem d_r_init_5 : decode b_r_init 5 = .ok (.iconst 4, 1) := by decide +kernel
theorem d_r_init_6 : decode b_r_init 6 = .ok (.putfield 7, 3) := by decide +kernel
theorem d_r_init_9 : decode b_r_init 9 = .ok (.aload_n 0, 1) := by decide +kernel
theorem d_r_init_10 : decode b_r_init 10 = .ok (.bipush 120, 2) := by decide +kernel
theorem d_r_init_12 : decode b_r_init 12 = .ok (.newarray .int, 2) := by decide +kernel
theorem d_r_init_14 : decode b_r_init 14 = .ok (.putfield 13, 3) := by decide +kernel
theorem d_r_init_17 : decode b_r_init 17 = .ok (.aload_n 0, 1) := by decide +kernel
theorem d_r_init_18 : decode b_r_init 18 = .ok (.bipush 120, 2) := by decide +kernel
theorem d_r_init_20 : decode b_r_init 20 = .ok (.newarray .int, 2) := by decide +kernel
theorem d_r_init_22 : decode b_r_init 22 = .ok (.putfield 17, 3) := by decide +kernel
theorem d_r_init_25 : decode b_r_init 25 = .ok (.aload_n 0, 1) := by decide +kernel
theorem d_r_init_26 : decode b_r_init 26 = .ok (.bipush 120, 2) := by decide +kernel
theorem d_r_init_28 : decode b_r_init 28 = .ok (.newarray .int, 2) := by decide +kernel
theorem d_r_init_30 : decode b_r_init 30 = .ok (.putfield 20, 3) := by decide +kernel
theorem d_r_init_33 : decode b_r_init 33 = .ok (.aload_n 0, 1) := by decide +kernel
theorem d_r_init_34 : decode b_r_init 34 = .ok (.bipush 120, 2) := by decide +kernel
theorem d_r_init_36 : decode b_r_init 36 = .ok (.newarray .int, 2) := by decide +kernel
theorem d_r_init_38 : decode b_r_init 38 = .ok (.putfield 23, 3) := by decide +kernel
theorem d_r_init_41 : decode b_r_init 41 = .ok (.aload_n 0, 1) := by decide +kernel
theorem d_r_init_42 : decode b_r_init 42 = .ok (.sipush 242, 3) := by decide +kernel
theorem d_r_init_45 : decode b_r_init 45 = .ok (.newarray .int, 2) := by decide +kernel
theorem d_r_init_47 : decode b_r_init 47 = .ok (.putfield 26, 3) := by decide +kernel
theorem d_r_init_50 : decode b_r_init 50 = .ok (.aload_n 0, 1) := by decide +kernel
theorem d_r_init_51 : decode b_r_init 51 = .ok (.sipush 14400, 3) := by decide +kernel
theorem d_r_init_54 : decode b_r_init 54 = .ok (.newarray .boolean, 2) := by decide +kernel
theorem d_r_init_56 : decode b_r_init 56 = .ok (.putfield 29, 3) := by decide +kernel
theorem d_r_init_59 : decode b_r_init 59 = .ok (.aload_n 0, 1) := by decide +kernel
theorem d_r_init_60 : decode b_r_init 60 = .ok (.sipush 960, 3) := by decide +kernel
theorem d_r_init_63 : decode b_r_init 63 = .ok (.newarray .boolean, 2) := by decide +kernel
theorem d_r_init_65 : decode b_r_init 65 = .ok (.putfield 33, 3) := by decide +kernel
theorem d_r_init_68 : decode b_r_init 68 = .ok (.return_, 1) := by decide +kernel
theorem d_r_thrown_0 : decode b_r_thrown 0 = .ok (.aload_n 0, 1) := by decide +kernel
theorem d_r_thrown_1 : decode b_r_thrown 1 = .ok (.getfield 36, 3) := by decide +kernel
theorem d_r_thrown_4 : decode b_r_thrown 4 = .ok (.ireturn, 1) := by decide +kernel
theorem d_r_in_0 : decode b_r_in 0 = .ok (.lload_n 0, 1) := by decide +kernel
theorem d_r_in_1 : decode b_r_in 1 = .ok (.lload_n 2, 1) := by decide +kernel
theorem d_r_in_2 : decode b_r_in 2 = .ok (.lcmp, 1) := by decide +kernel
theorem d_r_in_3 : decode b_r_in 3 = .ok (.ifCond .lt 14, 3) := by decide +kernel
theorem d_r_in_6 : decode b_r_in 6 = .ok (.lload_n 0, 1) := by decide +kernel
theorem d_r_in_7 : decode b_r_in 7 = .ok (.lload 4, 2) := by decide +kernel
theorem d_r_in_9 : decode b_r_in 9 = .ok (.lcmp, 1) := by decide +kernel
theorem d_r_in_10 : decode b_r_in 10 = .ok (.ifCond .gt 7, 3) := by decide +kernel
theorem d_r_in_13 : decode b_r_in 13 = .ok (.iconst 1, 1) := by decide +kernel
theorem d_r_in_14 : decode b_r_in 14 = .ok (.goto 4, 3) := by decide +kernel
theorem d_r_in_17 : decode b_r_in 17 = .ok (.iconst 0, 1) := by decide +kernel
theorem d_r_in_18 : decode b_r_in 18 = .ok (.ireturn, 1) := by decide +kernel
theorem d_r_fails_0 : decode b_r_fails 0 = .ok (.iload_n 1, 1) := by decide +kernel
theorem d_r_fails_1 : decode b_r_fails 1 = .ok (.ifCond .eq 15, 3) := by decide +kernel
theorem d_r_fails_4 : decode b_r_fails 4 = .ok (.aload_n 0, 1) := by decide +kernel
theorem d_r_fails_5 : decode b_r_fails 5 = .ok (.getfield 36, 3) := by decide +kernel
theorem d_r_fails_8 : decode b_r_fails 8 = .ok (.ifCond .ne 8, 3) := by decide +kernel
theorem d_r_fails_11 : decode b_r_fails 11 = .ok (.aload_n 0, 1) := by decide +kernel
theorem d_r_fails_12 : decode b_r_fails 12 = .ok (.iload_n 2, 1) := by decide +kernel
theorem d_r_fails_13 : decode b_r_fails 13 = .ok (.putfield 36, 3) := by decide +kernel
theorem d_r_fails_16 : decode b_r_fails 16 = .ok (.aload_n 0, 1) := by decide +kernel
theorem d_r_fails_17 : decode b_r_fails 17 = .ok (.getfield 36, 3) := by decide +kernel
theorem d_r_fails_20 : decode b_r_fails 20 = .ok (.ifCond .eq 7, 3) := by decide +kernel
theorem d_r_fails_23 : decode b_r_fails 23 = .ok (.iconst 1, 1) := by decide +kernel
theorem d_r_fails_24 : decode b_r_fails 24 = .ok (.goto 4, 3) := by decide +kernel
theorem d_r_fails_27 : decode b_r_fails 27 = .ok (.iconst 0, 1) := by decide +kernel
theorem d_r_fails_28 : decode b_r_fails 28 = .ok (.ireturn, 1) := by decide +kernel
theorem d_r_isEvent_0 : decode b_r_isEvent 0 = .ok (.iload_n 1, 1) := by decide +kernel
theorem d_r_isEvent_1 : decode b_r_isEvent 1 = .ok (.i2l, 1) := by decide +kernel
theorem d_r_isEvent_2 : decode b_r_isEvent 2 = .ok (.lconst 0, 1) := by decide +kernel
theorem d_r_isEvent_3 : decode b_r_isEvent 3 = .ok (.aload_n 0, 1) := by decide +kernel
theorem d_r_isEvent_4 : decode b_r_isEvent 4 = .ok (.getfield 39, 3) := by decide +kernel
theorem d_r_isEvent_7 : decode b_r_isEvent 7 = .ok (.iconst 1, 1) := by decide +kernel
theorem d_r_isEvent_8 : decode b_r_isEvent 8 = .ok (.isub, 1) := by decide +kernel
theorem d_r_isEvent_9 : decode b_r_isEvent 9 = .ok (.i2l, 1) := by decide +kernel
theorem d_r_isEvent_10 : decode b_r_isEvent 10 = .ok (.invokestatic 42, 3) := by decide +kernel
theorem d_r_isEvent_13 : decode b_r_isEvent 13 = .ok (.ireturn, 1) := by decide +kernel
theorem d_r_isAbove_0 : decode b_r_isAbove 0 = .ok (.aload_n 0, 1) := by decide +kernel
theorem d_r_isAbove_1 : decode b_r_isAbove 1 = .ok (.getfield 29, 3) := by decide +kernel
theorem d_r_isAbove_4 : decode b_r_isAbove 4 = .ok (.bipush 120, 2) := by decide +kernel
theorem d_r_isAbove_6 : decode b_r_isAbove 6 = .ok (.iload_n 2, 1) := by decide +kernel
theorem d_r_isAbove_7 : decode b_r_isAbove 7 = .ok (.imul, 1) := by decide +kernel
theorem d_r_isAbove_8 : decode b_r_isAbove 8 = .ok (.iload_n 1, 1) := by decide +kernel
theorem d_r_isAbove_9 : decode b_r_isAbove 9 = .ok (.iadd, 1) := by decide +kernel
theorem d_r_isAbove_10 : decode b_r_isAbove 10 = .ok (.baload, 1) := by decide +kernel
theorem d_r_isAbove_11 : decode b_r_isAbove 11 = .ok (.ireturn, 1) := by decide +kernel
theorem d_r_isOwn_0 : decode b_r_isOwn 0 = .ok (.iload_n 1, 1) := by decide +kernel
theorem d_r_isOwn_1 : decode b_r_isOwn 1 = .ok (.istore_n 3, 1) := by decide +kernel
theorem d_r_isOwn_2 : decode b_r_isOwn 2 = .ok (.iload_n 3, 1) := by decide +kernel
theorem d_r_isOwn_3 : decode b_r_isOwn 3 = .ok (.ifCond .lt 20, 3) := by decide +kernel
theorem d_r_isOwn_6 : decode b_r_isOwn 6 = .ok (.iload_n 3, 1) := by decide +kernel
theorem d_r_isOwn_7 : decode b_r_isOwn 7 = .ok (.iload_n 2, 1) := by decide +kernel
theorem d_r_isOwn_8 : decode b_r_isOwn 8 = .ok (.if_icmp .ne 5, 3) := by decide +kernel
theorem d_r_isOwn_11 : decode b_r_isOwn 11 = .ok (.iconst 1, 1) := by decide +kernel
theorem d_r_isOwn_12 : decode b_r_isOwn 12 = .ok (.ireturn, 1) := by decide +kernel
theorem d_r_isOwn_13 : decode b_r_isOwn 13 = .ok (.aload_n 0, 1) := by decide +kernel
theorem d_r_isOwn_14 : decode b_r_isOwn 14 = .ok (.getfield 17, 3) := by decide +kernel
theorem d_r_isOwn_17 : decode b_r_isOwn 17 = .ok (.iload_n 3, 1) := by decide +kernel
theorem d_r_isOwn_18 : decode b_r_isOwn 18 = .ok (.iaload, 1) := by decide +kernel
theorem d_r_isOwn_19 : decode b_r_isOwn 19 = .ok (.istore_n 3, 1) := by decide +kernel
theorem d_r_isOwn_20 : decode b_r_isOwn 20 = .ok (.goto (-18), 3) := by decide +kernel
theorem d_r_isOwn_23 : decode b_r_isOwn 23 = .ok (.iconst 0, 1) := by decide +kernel
theorem d_r_isOwn_24 : decode b_r_isOwn 24 = .ok (.ireturn, 1) := by decide +kernel
theorem d_r_isFork_0 : decode b_r_isFork 0 = .ok (.aload_n 0, 1) := by decide +kernel
theorem d_r_isFork_1 : decode b_r_isFork 1 = .ok (.getfield 13, 3) := by decide +kernel
theorem d_r_isFork_4 : decode b_r_isFork 4 = .ok (.iload_n 1, 1) := by decide +kernel
theorem d_r_isFork_5 : decode b_r_isFork 5 = .ok (.iaload, 1) := by decide +kernel
theorem d_r_isFork_6 : decode b_r_isFork 6 = .ok (.aload_n 0, 1) := by decide +kernel
theorem d_r_isFork_7 : decode b_r_isFork 7 = .ok (.getfield 13, 3) := by decide +kernel
theorem d_r_isFork_10 : decode b_r_isFork 10 = .ok (.iload_n 2, 1) := by decide +kernel
theorem d_r_isFork_11 : decode b_r_isFork 11 = .ok (.iaload, 1) := by decide +kernel
theorem d_r_isFork_12 : decode b_r_isFork 12 = .ok (.if_icmp .ne 25, 3) := by decide +kernel
theorem d_r_isFork_15 : decode b_r_isFork 15 = .ok (.aload_n 0, 1) := by decide +kernel
theorem d_r_isFork_16 : decode b_r_isFork 16 = .ok (.iload_n 1, 1) := by decide +kernel
theorem d_r_isFork_17 : decode b_r_isFork 17 = .ok (.iload_n 2, 1) := by decide +kernel
theorem d_r_isFork_18 : decode b_r_isFork 18 = .ok (.invokevirtual 46, 3) := by decide +kernel
theorem d_r_isFork_21 : decode b_r_isFork 21 = .ok (.ifCond .ne 16, 3) := by decide +kernel
theorem d_r_isFork_24 : decode b_r_isFork 24 = .ok (.aload_n 0, 1) := by decide +kernel
theorem d_r_isFork_25 : decode b_r_isFork 25 = .ok (.iload_n 2, 1) := by decide +kernel
theorem d_r_isFork_26 : decode b_r_isFork 26 = .ok (.iload_n 1, 1) := by decide +kernel
theorem d_r_isFork_27 : decode b_r_isFork 27 = .ok (.invokevirtual 46, 3) := by decide +kernel
theorem d_r_isFork_30 : decode b_r_isFork 30 = .ok (.ifCond .ne 7, 3) := by decide +kernel
theorem d_r_isFork_33 : decode b_r_isFork 33 = .ok (.iconst 1, 1) := by decide +kernel
theorem d_r_isFork_34 : decode b_r_isFork 34 = .ok (.goto 4, 3) := by decide +kernel
theorem d_r_isFork_37 : decode b_r_isFork 37 = .ok (.iconst 0, 1) := by decide +kernel
theorem d_r_isFork_38 : decode b_r_isFork 38 = .ok (.ireturn, 1) := by decide +kernel
theorem d_r_begin_0 : decode b_r_begin 0 = .ok (.aload_n 0, 1) := by decide +kernel
theorem d_r_begin_1 : decode b_r_begin 1 = .ok (.iconst 0, 1) := by decide +kernel
theorem d_r_begin_2 : decode b_r_begin 2 = .ok (.putfield 36, 3) := by decide +kernel
theorem d_r_begin_5 : decode b_r_begin 5 = .ok (.aload_n 0, 1) := by decide +kernel
theorem d_r_begin_6 : decode b_r_begin 6 = .ok (.iload_n 1, 1) := by decide +kernel
theorem d_r_begin_7 : decode b_r_begin 7 = .ok (.i2l, 1) := by decide +kernel
theorem d_r_begin_8 : decode b_r_begin 8 = .ok (.ldc2_w 50, 3) := by decide +kernel
theorem d_r_begin_11 : decode b_r_begin 11 = .ok (.ldc2_w 52, 3) := by decide +kernel
theorem d_r_begin_14 : decode b_r_begin 14 = .ok (.invokestatic 42, 3) := by decide +kernel
theorem d_r_begin_17 : decode b_r_begin 17 = .ok (.ifCond .ne 7, 3) := by decide +kernel
theorem d_r_begin_20 : decode b_r_begin 20 = .ok (.iconst 1, 1) := by decide +kernel
theorem d_r_begin_21 : decode b_r_begin 21 = .ok (.goto 4, 3) := by decide +kernel
theorem d_r_begin_24 : decode b_r_begin 24 = .ok (.iconst 0, 1) := by decide +kernel
theorem d_r_begin_25 : decode b_r_begin 25 = .ok (.iconst 1, 1) := by decide +kernel
theorem d_r_begin_26 : decode b_r_begin 26 = .ok (.invokevirtual 54, 3) := by decide +kernel
theorem d_r_begin_29 : decode b_r_begin 29 = .ok (.ifCond .eq 4, 3) := by decide +kernel
theorem d_r_begin_32 : decode b_r_begin 32 = .ok (.return_, 1) := by decide +kernel
theorem d_r_begin_33 : decode b_r_begin 33 = .ok (.aload_n 0, 1) := by decide +kernel
theorem d_r_begin_34 : decode b_r_begin 34 = .ok (.iload_n 1, 1) := by decide +kernel
theorem d_r_begin_35 : decode b_r_begin 35 = .ok (.putfield 7, 3) := by decide +kernel
theorem d_r_begin_38 : decode b_r_begin 38 = .ok (.aload_n 0, 1) := by decide +kernel
theorem d_r_begin_39 : decode b_r_begin 39 = .ok (.iconst 0, 1) := by decide +kernel
theorem d_r_begin_40 : decode b_r_begin 40 = .ok (.putfield 39, 3) := by decide +kernel
theorem d_r_begin_43 : decode b_r_begin 43 = .ok (.return_, 1) := by decide +kernel
theorem d_r_ways_0 : decode b_r_ways 0 = .ok (.iconst 0, 1) := by decide +kernel
theorem d_r_ways_1 : decode b_r_ways 1 = .ok (.istore_n 2, 1) := by decide +kernel
theorem d_r_ways_2 : decode b_r_ways 2 = .ok (.iload_n 2, 1) := by decide +kernel
theorem d_r_ways_3 : decode b_r_ways 3 = .ok (.bipush 120, 2) := by decide +kernel
theorem d_r_ways_5 : decode b_r_ways 5 = .ok (.if_icmp .ge 21, 3) := by decide +kernel
theorem d_r_ways_8 : decode b_r_ways 8 = .ok (.aload_n 0, 1) := by decide +kernel
theorem d_r_ways_9 : decode b_r_ways 9 = .ok (.getfield 29, 3) := by decide +kernel
theorem d_r_ways_12 : decode b_r_ways 12 = .ok (.bipush 120, 2) := by decide +kernel
theorem d_r_ways_14 : decode b_r_ways 14 = .ok (.iload_n 1, 1) := by decide +kernel
theorem d_r_ways_15 : decode b_r_ways 15 = .ok (.imul, 1) := by decide +kernel
theorem d_r_ways_16 : decode b_r_ways 16 = .ok (.iload_n 2, 1) := by decide +kernel
theorem d_r_ways_17 : decode b_r_ways 17 = .ok (.iadd, 1) := by decide +kernel
theorem d_r_ways_18 : decode b_r_ways 18 = .ok (.iconst 0, 1) := by decide +kernel
theorem d_r_ways_19 : decode b_r_ways 19 = .ok (.bastore, 1) := by decide +kernel
theorem d_r_ways_20 : decode b_r_ways 20 = .ok (.iinc 2 1, 3) := by decide +kernel
theorem d_r_ways_23 : decode b_r_ways 23 = .ok (.goto (-21), 3) := by decide +kernel
theorem d_r_ways_26 : decode b_r_ways 26 = .ok (.iconst 0, 1) := by decide +kernel
theorem d_r_ways_27 : decode b_r_ways 27 = .ok (.istore_n 2, 1) := by decide +kernel
theorem d_r_ways_28 : decode b_r_ways 28 = .ok (.aload_n 0, 1) := by decide +kernel
theorem d_r_ways_29 : decode b_r_ways 29 = .ok (.getfield 26, 3) := by decide +kernel
theorem d_r_ways_32 : decode b_r_ways 32 = .ok (.iload_n 2, 1) := by decide +kernel
theorem d_r_ways_33 : decode b_r_ways 33 = .ok (.iinc 2 1, 3) := by decide +kernel
theorem d_r_ways_36 : decode b_r_ways 36 = .ok (.iload_n 1, 1) := by decide +kernel
theorem d_r_ways_37 : decode b_r_ways 37 = .ok (.iastore, 1) := by decide +kernel
theorem d_r_ways_38 : decode b_r_ways 38 = .ok (.iload_n 2, 1) := by decide +kernel
theorem d_r_ways_39 : decode b_r_ways 39 = .ok (.ifCond .le 74, 3) := by decide +kernel
theorem d_r_ways_42 : decode b_r_ways 42 = .ok (.aload_n 0, 1) := by decide +kernel
theorem d_r_ways_43 : decode b_r_ways 43 = .ok (.getfield 26, 3) := by decide +kernel
theorem d_r_ways_46 : decode b_r_ways 46 = .ok (.iinc 2 (-1), 3) := by decide +kernel
theorem d_r_ways_49 : decode b_r_ways 49 = .ok (.iload_n 2, 1) := by decide +kernel
theorem d_r_ways_50 : decode b_r_ways 50 = .ok (.iaload, 1) := by decide +kernel
theorem d_r_ways_51 : decode b_r_ways 51 = .ok (.istore_n 3, 1) := by decide +kernel
theorem d_r_ways_52 : decode b_r_ways 52 = .ok (.iload_n 3, 1) := by decide +kernel
theorem d_r_ways_53 : decode b_r_ways 53 = .ok (.ifCond .lt (-15), 3) := by decide +kernel
theorem d_r_ways_56 : decode b_r_ways 56 = .ok (.aload_n 0, 1) := by decide +kernel
theorem d_r_ways_57 : decode b_r_ways 57 = .ok (.iload_n 3, 1) := by decide +kernel
theorem d_r_ways_58 : decode b_r_ways 58 = .ok (.iload_n 1, 1) := by decide +kernel
theorem d_r_ways_59 : decode b_r_ways 59 = .ok (.invokevirtual 58, 3) := by decide +kernel
theorem d_r_ways_62 : decode b_r_ways 62 = .ok (.ifCond .eq 6, 3) := by decide +kernel
theorem d_r_ways_65 : decode b_r_ways 65 = .ok (.goto (-27), 3) := by decide +kernel
theorem d_r_ways_68 : decode b_r_ways 68 = .ok (.aload_n 0, 1) := by decide +kernel
theorem d_r_ways_69 : decode b_r_ways 69 = .ok (.getfield 29, 3) := by decide +kernel
theorem d_r_ways_72 : decode b_r_ways 72 = .ok (.bipush 120, 2) := by decide +kernel
theorem d_r_ways_74 : decode b_r_ways 74 = .ok (.iload_n 1, 1) := by decide +kernel
theorem d_r_ways_75 : decode b_r_ways 75 = .ok (.imul, 1) := by decide +kernel
theorem d_r_ways_76 : decode b_r_ways 76 = .ok (.iload_n 3, 1) := by decide +kernel
theorem d_r_ways_77 : decode b_r_ways 77 = .ok (.iadd, 1) := by decide +kernel
theorem d_r_ways_78 : decode b_r_ways 78 = .ok (.iconst 1, 1) := by decide +kernel
theorem d_r_ways_79 : decode b_r_ways 79 = .ok (.bastore, 1) := by decide +kernel
theorem d_r_ways_80 : decode b_r_ways 80 = .ok (.aload_n 0, 1) := by decide +kernel
theorem d_r_ways_81 : decode b_r_ways 81 = .ok (.getfield 26, 3) := by decide +kernel
theorem d_r_ways_84 : decode b_r_ways 84 = .ok (.iload_n 2, 1) := by decide +kernel
theorem d_r_ways_85 : decode b_r_ways 85 = .ok (.iinc 2 1, 3) := by decide +kernel
theorem d_r_ways_88 : decode b_r_ways 88 = .ok (.aload_n 0, 1) := by decide +kernel
theorem d_r_ways_89 : decode b_r_ways 89 = .ok (.getfield 17, 3) := by decide +kernel
theorem d_r_ways_92 : decode b_r_ways 92 = .ok (.iload_n 3, 1) := by decide +kernel
theorem d_r_ways_93 : decode b_r_ways 93 = .ok (.iaload, 1) := by decide +kernel
theorem d_r_ways_94 : decode b_r_ways 94 = .ok (.iastore, 1) := by decide +kernel
theorem d_r_ways_95 : decode b_r_ways 95 = .ok (.aload_n 0, 1) := by decide +kernel
theorem d_r_ways_96 : decode b_r_ways 96 = .ok (.getfield 26, 3) := by decide +kernel
theorem d_r_ways_99 : decode b_r_ways 99 = .ok (.iload_n 2, 1) := by decide +kernel
theorem d_r_ways_100 : decode b_r_ways 100 = .ok (.iinc 2 1, 3) := by decide +kernel
theorem d_r_ways_103 : decode b_r_ways 103 = .ok (.aload_n 0, 1) := by decide +kernel
theorem d_r_ways_104 : decode b_r_ways 104 = .ok (.getfield 20, 3) := by decide +kernel
theorem d_r_ways_107 : decode b_r_ways 107 = .ok (.iload_n 3, 1) := by decide +kernel
theorem d_r_ways_108 : decode b_r_ways 108 = .ok (.iaload, 1) := by decide +kernel
theorem d_r_ways_109 : decode b_r_ways 109 = .ok (.iastore, 1) := by decide +kernel
theorem d_r_ways_110 : decode b_r_ways 110 = .ok (.goto (-72), 3) := by decide +kernel
theorem d_r_ways_113 : decode b_r_ways 113 = .ok (.return_, 1) := by decide +kernel
theorem d_r_event_0 : decode b_r_event 0 = .ok (.aload_n 0, 1) := by decide +kernel
theorem d_r_event_1 : decode b_r_event 1 = .ok (.iconst 0, 1) := by decide +kernel
theorem d_r_event_2 : decode b_r_event 2 = .ok (.putfield 36, 3) := by decide +kernel
theorem d_r_event_5 : decode b_r_event 5 = .ok (.aload_n 0, 1) := by decide +kernel
theorem d_r_event_6 : decode b_r_event 6 = .ok (.iload_n 1, 1) := by decide +kernel
theorem d_r_event_7 : decode b_r_event 7 = .ok (.i2l, 1) := by decide +kernel
theorem d_r_event_8 : decode b_r_event 8 = .ok (.lconst 0, 1) := by decide +kernel
theorem d_r_event_9 : decode b_r_event 9 = .ok (.aload_n 0, 1) := by decide +kernel
theorem d_r_event_10 : decode b_r_event 10 = .ok (.getfield 7, 3) := by decide +kernel
theorem d_r_event_13 : decode b_r_event 13 = .ok (.iconst 1, 1) := by decide +kernel
theorem d_r_event_14 : decode b_r_event 14 = .ok (.isub, 1) := by decide +kernel
theorem d_r_event_15 : decode b_r_event 15 = .ok (.i2l, 1) := by decide +kernel
theorem d_r_event_16 : decode b_r_event 16 = .ok (.invokestatic 42, 3) := by decide +kernel
theorem d_r_event_19 : decode b_r_event 19 = .ok (.ifCond .eq 49, 3) := by decide +kernel
theorem d_r_event_22 : decode b_r_event 22 = .ok (.iload_n 2, 1) := by decide +kernel
theorem d_r_event_23 : decode b_r_event 23 = .ok (.iconst (-1), 1) := by decide +kernel
theorem d_r_event_24 : decode b_r_event 24 = .ok (.if_icmp .eq 21, 3) := by decide +kernel
theorem d_r_event_27 : decode b_r_event 27 = .ok (.aload_n 0, 1) := by decide +kernel
theorem d_r_event_28 : decode b_r_event 28 = .ok (.iload_n 2, 1) := by decide +kernel
theorem d_r_event_29 : decode b_r_event 29 = .ok (.invokevirtual 61, 3) := by decide +kernel
theorem d_r_event_32 : decode b_r_event 32 = .ok (.ifCond .eq 36, 3) := by decide +kernel
theorem d_r_event_35 : decode b_r_event 35 = .ok (.aload_n 0, 1) := by decide +kernel
theorem d_r_event_36 : decode b_r_event 36 = .ok (.getfield 13, 3) := by decide +kernel
theorem d_r_event_39 : decode b_r_event 39 = .ok (.iload_n 2, 1) := by decide +kernel
theorem d_r_event_40 : decode b_r_event 40 = .ok (.iaload, 1) := by decide +kernel
theorem d_r_event_41 : decode b_r_event 41 = .ok (.iload_n 1, 1) := by decide +kernel
theorem d_r_event_42 : decode b_r_event 42 = .ok (.if_icmp .ne 26, 3) := by decide +kernel
theorem d_r_event_45 : decode b_r_event 45 = .ok (.iload_n 3, 1) := by decide +kernel
theorem d_r_event_46 : decode b_r_event 46 = .ok (.iconst (-1), 1) := by decide +kernel
theorem d_r_event_47 : decode b_r_event 47 = .ok (.if_icmp .eq 25, 3) := by decide +kernel
theorem d_r_event_50 : decode b_r_event 50 = .ok (.aload_n 0, 1) := by decide +kernel
theorem d_r_event_51 : decode b_r_event 51 = .ok (.iload_n 3, 1) := by decide +kernel
theorem d_r_event_52 : decode b_r_event 52 = .ok (.invokevirtual 61, 3) := by decide +kernel
theorem d_r_event_55 : decode b_r_event 55 = .ok (.ifCond .eq 13, 3) := by decide +kernel
theorem d_r_event_58 : decode b_r_event 58 = .ok (.aload_n 0, 1) := by decide +kernel
theorem d_r_event_59 : decode b_r_event 59 = .ok (.getfield 13, 3) := by decide +kernel
theorem d_r_event_62 : decode b_r_event 62 = .ok (.iload_n 3, 1) := by decide +kernel
theorem d_r_event_63 : decode b_r_event 63 = .ok (.iaload, 1) := by decide +kernel
theorem d_r_event_64 : decode b_r_event 64 = .ok (.iload_n 1, 1) := by decide +kernel
theorem d_r_event_65 : decode b_r_event 65 = .ok (.if_icmp .ne 7, 3) := by decide +kernel
theorem d_r_event_68 : decode b_r_event 68 = .ok (.iconst 1, 1) := by decide +kernel
theorem d_r_event_69 : decode b_r_event 69 = .ok (.goto 4, 3) := by decide +kernel
theorem d_r_event_72 : decode b_r_event 72 = .ok (.iconst 0, 1) := by decide +kernel
theorem d_r_event_73 : decode b_r_event 73 = .ok (.iconst 1, 1) := by decide +kernel
theorem d_r_event_74 : decode b_r_event 74 = .ok (.invokevirtual 54, 3) := by decide +kernel
theorem d_r_event_77 : decode b_r_event 77 = .ok (.ifCond .ne 25, 3) := by decide +kernel
theorem d_r_event_80 : decode b_r_event 80 = .ok (.aload_n 0, 1) := by decide +kernel
theorem d_r_event_81 : decode b_r_event 81 = .ok (.aload_n 0, 1) := by decide +kernel
theorem d_r_event_82 : decode b_r_event 82 = .ok (.getfield 39, 3) := by decide +kernel
theorem d_r_event_85 : decode b_r_event 85 = .ok (.bipush 120, 2) := by decide +kernel
theorem d_r_event_87 : decode b_r_event 87 = .ok (.if_icmp .ne 7, 3) := by decide +kernel
theorem d_r_event_90 : decode b_r_event 90 = .ok (.iconst 1, 1) := by decide +kernel
theorem d_r_event_91 : decode b_r_event 91 = .ok (.goto 4, 3) := by decide +kernel
theorem d_r_event_94 : decode b_r_event 94 = .ok (.iconst 0, 1) := by decide +kernel
theorem d_r_event_95 : decode b_r_event 95 = .ok (.iconst 2, 1) := by decide +kernel
theorem d_r_event_96 : decode b_r_event 96 = .ok (.invokevirtual 54, 3) := by decide +kernel
theorem d_r_event_99 : decode b_r_event 99 = .ok (.ifCond .eq 5, 3) := by decide +kernel
theorem d_r_event_102 : decode b_r_event 102 = .ok (.iconst 0, 1) := by decide +kernel
theorem d_r_event_103 : decode b_r_event 103 = .ok (.ireturn, 1) := by decide +kernel
theorem d_r_event_104 : decode b_r_event 104 = .ok (.aload_n 0, 1) := by decide +kernel
theorem d_r_event_105 : decode b_r_event 105 = .ok (.dup, 1) := by decide +kernel
theorem d_r_event_106 : decode b_r_event 106 = .ok (.getfield 39, 3) := by decide +kernel
theorem d_r_event_109 : decode b_r_event 109 = .ok (.dup_x1, 1) := by decide +kernel
theorem d_r_event_110 : decode b_r_event 110 = .ok (.iconst 1, 1) := by decide +kernel
theorem d_r_event_111 : decode b_r_event 111 = .ok (.iadd, 1) := by decide +kernel
theorem d_r_event_112 : decode b_r_event 112 = .ok (.putfield 39, 3) := by decide +kernel
theorem d_r_event_115 : decode b_r_event 115 = .ok (.istore 4, 2) := by decide +kernel
theorem d_r_event_117 : decode b_r_event 117 = .ok (.aload_n 0, 1) := by decide +kernel
theorem d_r_event_118 : decode b_r_event 118 = .ok (.getfield 13, 3) := by decide +kernel
theorem d_r_event_121 : decode b_r_event 121 = .ok (.iload 4, 2) := by decide +kernel
theorem d_r_event_123 : decode b_r_event 123 = .ok (.iload_n 1, 1) := by decide +kernel
theorem d_r_event_124 : decode b_r_event 124 = .ok (.iastore, 1) := by decide +kernel
theorem d_r_event_125 : decode b_r_event 125 = .ok (.aload_n 0, 1) := by decide +kernel
theorem d_r_event_126 : decode b_r_event 126 = .ok (.getfield 17, 3) := by decide +kernel
theorem d_r_event_129 : decode b_r_event 129 = .ok (.iload 4, 2) := by decide +kernel
theorem d_r_event_131 : decode b_r_event 131 = .ok (.iload_n 2, 1) := by decide +kernel
theorem d_r_event_132 : decode b_r_event 132 = .ok (.iastore, 1) := by decide +kernel
theorem d_r_event_133 : decode b_r_event 133 = .ok (.aload_n 0, 1) := by decide +kernel
theorem d_r_event_134 : decode b_r_event 134 = .ok (.getfield 20, 3) := by decide +kernel
theorem d_r_event_137 : decode b_r_event 137 = .ok (.iload 4, 2) := by decide +kernel
theorem d_r_event_139 : decode b_r_event 139 = .ok (.iload_n 3, 1) := by decide +kernel
theorem d_r_event_140 : decode b_r_event 140 = .ok (.iastore, 1) := by decide +kernel
theorem d_r_event_141 : decode b_r_event 141 = .ok (.aload_n 0, 1) := by decide +kernel
theorem d_r_event_142 : decode b_r_event 142 = .ok (.iload 4, 2) := by decide +kernel
theorem d_r_event_144 : decode b_r_event 144 = .ok (.invokevirtual 65, 3) := by decide +kernel
theorem d_r_event_147 : decode b_r_event 147 = .ok (.iconst 0, 1) := by decide +kernel
theorem d_r_event_148 : decode b_r_event 148 = .ok (.istore 5, 2) := by decide +kernel
theorem d_r_event_150 : decode b_r_event 150 = .ok (.iload 5, 2) := by decide +kernel
theorem d_r_event_152 : decode b_r_event 152 = .ok (.bipush 8, 2) := by decide +kernel
theorem d_r_event_154 : decode b_r_event 154 = .ok (.if_icmp .ge 23, 3) := by decide +kernel
theorem d_r_event_157 : decode b_r_event 157 = .ok (.aload_n 0, 1) := by decide +kernel
theorem d_r_event_158 : decode b_r_event 158 = .ok (.getfield 33, 3) := by decide +kernel
theorem d_r_event_161 : decode b_r_event 161 = .ok (.bipush 8, 2) := by decide +kernel
theorem d_r_event_163 : decode b_r_event 163 = .ok (.iload 4, 2) := by decide +kernel
theorem d_r_event_165 : decode b_r_event 165 = .ok (.imul, 1) := by decide +kernel
theorem d_r_event_166 : decode b_r_event 166 = .ok (.iload 5, 2) := by decide +kernel
theorem d_r_event_168 : decode b_r_event 168 = .ok (.iadd, 1) := by decide +kernel
theorem d_r_event_169 : decode b_r_event 169 = .ok (.iconst 0, 1) := by decide +kernel
theorem d_r_event_170 : decode b_r_event 170 = .ok (.bastore, 1) := by decide +kernel
theorem d_r_event_171 : decode b_r_event 171 = .ok (.iinc 5 1, 3) := by decide +kernel
theorem d_r_event_174 : decode b_r_event 174 = .ok (.goto (-24), 3) := by decide +kernel
theorem d_r_event_177 : decode b_r_event 177 = .ok (.iconst 0, 1) := by decide +kernel
theorem d_r_event_178 : decode b_r_event 178 = .ok (.istore 5, 2) := by decide +kernel
theorem d_r_event_180 : decode b_r_event 180 = .ok (.iload 5, 2) := by decide +kernel
theorem d_r_event_182 : decode b_r_event 182 = .ok (.iload 4, 2) := by decide +kernel
theorem d_r_event_184 : decode b_r_event 184 = .ok (.if_icmp .gt 101, 3) := by decide +kernel
theorem d_r_event_187 : decode b_r_event 187 = .ok (.aload_n 0, 1) := by decide +kernel
theorem d_r_event_188 : decode b_r_event 188 = .ok (.iload 5, 2) := by decide +kernel
theorem d_r_event_190 : decode b_r_event 190 = .ok (.iload 4, 2) := by decide +kernel
theorem d_r_event_192 : decode b_r_event 192 = .ok (.invokevirtual 58, 3) := by decide +kernel
theorem d_r_event_195 : decode b_r_event 195 = .ok (.ifCond .ne 6, 3) := by decide +kernel
theorem d_r_event_198 : decode b_r_event 198 = .ok (.goto 81, 3) := by decide +kernel
theorem d_r_event_201 : decode b_r_event 201 = .ok (.iconst 0, 1) := by decide +kernel
theorem d_r_event_202 : decode b_r_event 202 = .ok (.istore 6, 2) := by decide +kernel
theorem d_r_event_204 : decode b_r_event 204 = .ok (.iload 6, 2) := by decide +kernel
theorem d_r_event_206 : decode b_r_event 206 = .ok (.iload 5, 2) := by decide +kernel
theorem d_r_event_208 : decode b_r_event 208 = .ok (.if_icmp .ge 71, 3) := by decide +kernel
theorem d_r_event_211 : decode b_r_event 211 = .ok (.aload_n 0, 1) := by decide +kernel
theorem d_r_event_212 : decode b_r_event 212 = .ok (.iload 6, 2) := by decide +kernel
theorem d_r_event_214 : decode b_r_event 214 = .ok (.iload 4, 2) := by decide +kernel
theorem d_r_event_216 : decode b_r_event 216 = .ok (.invokevirtual 58, 3) := by decide +kernel
theorem d_r_event_219 : decode b_r_event 219 = .ok (.ifCond .eq 54, 3) := by decide +kernel
theorem d_r_event_222 : decode b_r_event 222 = .ok (.aload_n 0, 1) := by decide +kernel
theorem d_r_event_223 : decode b_r_event 223 = .ok (.getfield 33, 3) := by decide +kernel
theorem d_r_event_226 : decode b_r_event 226 = .ok (.bipush 8, 2) := by decide +kernel
theorem d_r_event_228 : decode b_r_event 228 = .ok (.iload 4, 2) := by decide +kernel
theorem d_r_event_230 : decode b_r_event 230 = .ok (.imul, 1) := by decide +kernel
theorem d_r_event_231 : decode b_r_event 231 = .ok (.aload_n 0, 1) := by decide +kernel
theorem d_r_event_232 : decode b_r_event 232 = .ok (.getfield 13, 3) := by decide +kernel
theorem d_r_event_235 : decode b_r_event 235 = .ok (.iload 5, 2) := by decide +kernel
theorem d_r_event_237 : decode b_r_event 237 = .ok (.iaload, 1) := by decide +kernel
theorem d_r_event_238 : decode b_r_event 238 = .ok (.iadd, 1) := by decide +kernel
theorem d_r_event_239 : decode b_r_event 239 = .ok (.baload, 1) := by decide +kernel
theorem d_r_event_240 : decode b_r_event 240 = .ok (.ifCond .ne 33, 3) := by decide +kernel
theorem d_r_event_243 : decode b_r_event 243 = .ok (.aload_n 0, 1) := by decide +kernel
theorem d_r_event_244 : decode b_r_event 244 = .ok (.iload 5, 2) := by decide +kernel
theorem d_r_event_246 : decode b_r_event 246 = .ok (.iload 6, 2) := by decide +kernel
theorem d_r_event_248 : decode b_r_event 248 = .ok (.invokevirtual 69, 3) := by decide +kernel
theorem d_r_event_251 : decode b_r_event 251 = .ok (.ifCond .eq 22, 3) := by decide +kernel
theorem d_r_event_254 : decode b_r_event 254 = .ok (.aload_n 0, 1) := by decide +kernel
theorem d_r_event_255 : decode b_r_event 255 = .ok (.getfield 33, 3) := by decide +kernel
theorem d_r_event_258 : decode b_r_event 258 = .ok (.bipush 8, 2) := by decide +kernel
theorem d_r_event_260 : decode b_r_event 260 = .ok (.iload 4, 2) := by decide +kernel
theorem d_r_event_262 : decode b_r_event 262 = .ok (.imul, 1) := by decide +kernel
theorem d_r_event_263 : decode b_r_event 263 = .ok (.aload_n 0, 1) := by decide +kernel
theorem d_r_event_264 : decode b_r_event 264 = .ok (.getfield 13, 3) := by decide +kernel
theorem d_r_event_267 : decode b_r_event 267 = .ok (.iload 5, 2) := by decide +kernel
theorem d_r_event_269 : decode b_r_event 269 = .ok (.iaload, 1) := by decide +kernel
theorem d_r_event_270 : decode b_r_event 270 = .ok (.iadd, 1) := by decide +kernel
theorem d_r_event_271 : decode b_r_event 271 = .ok (.iconst 1, 1) := by decide +kernel
theorem d_r_event_272 : decode b_r_event 272 = .ok (.bastore, 1) := by decide +kernel
theorem d_r_event_273 : decode b_r_event 273 = .ok (.iinc 6 1, 3) := by decide +kernel
theorem d_r_event_276 : decode b_r_event 276 = .ok (.goto (-72), 3) := by decide +kernel
theorem d_r_event_279 : decode b_r_event 279 = .ok (.iinc 5 1, 3) := by decide +kernel
theorem d_r_event_282 : decode b_r_event 282 = .ok (.goto (-102), 3) := by decide +kernel
theorem d_r_event_285 : decode b_r_event 285 = .ok (.aload_n 0, 1) := by decide +kernel
theorem d_r_event_286 : decode b_r_event 286 = .ok (.getfield 23, 3) := by decide +kernel
theorem d_r_event_289 : decode b_r_event 289 = .ok (.iload 4, 2) := by decide +kernel
theorem d_r_event_291 : decode b_r_event 291 = .ok (.iconst 1, 1) := by decide +kernel
theorem d_r_event_292 : decode b_r_event 292 = .ok (.iastore, 1) := by decide +kernel
theorem d_r_event_293 : decode b_r_event 293 = .ok (.iload_n 2, 1) := by decide +kernel
theorem d_r_event_294 : decode b_r_event 294 = .ok (.ifCond .ge 10, 3) := by decide +kernel
theorem d_r_event_297 : decode b_r_event 297 = .ok (.iload_n 3, 1) := by decide +kernel
theorem d_r_event_298 : decode b_r_event 298 = .ok (.ifCond .ge 6, 3) := by decide +kernel
theorem d_r_event_301 : decode b_r_event 301 = .ok (.iload 4, 2) := by decide +kernel
theorem d_r_event_303 : decode b_r_event 303 = .ok (.ireturn, 1) := by decide +kernel
theorem d_r_event_304 : decode b_r_event 304 = .ok (.iload_n 2, 1) := by decide +kernel
theorem d_r_event_305 : decode b_r_event 305 = .ok (.ifCond .ge 7, 3) := by decide +kernel
theorem d_r_event_308 : decode b_r_event 308 = .ok (.iconst 0, 1) := by decide +kernel
theorem d_r_event_309 : decode b_r_event 309 = .ok (.goto 9, 3) := by decide +kernel
theorem d_r_event_312 : decode b_r_event 312 = .ok (.aload_n 0, 1) := by decide +kernel
theorem d_r_event_313 : decode b_r_event 313 = .ok (.getfield 23, 3) := by decide +kernel
theorem d_r_event_316 : decode b_r_event 316 = .ok (.iload_n 2, 1) := by decide +kernel
theorem d_r_event_317 : decode b_r_event 317 = .ok (.iaload, 1) := by decide +kernel
theorem d_r_event_318 : decode b_r_event 318 = .ok (.iload_n 3, 1) := by decide +kernel
theorem d_r_event_319 : decode b_r_event 319 = .ok (.ifCond .ge 7, 3) := by decide +kernel
theorem d_r_event_322 : decode b_r_event 322 = .ok (.iconst 0, 1) := by decide +kernel
theorem d_r_event_323 : decode b_r_event 323 = .ok (.goto 9, 3) := by decide +kernel
theorem d_r_event_326 : decode b_r_event 326 = .ok (.aload_n 0, 1) := by decide +kernel
theorem d_r_event_327 : decode b_r_event 327 = .ok (.getfield 23, 3) := by decide +kernel
theorem d_r_event_330 : decode b_r_event 330 = .ok (.iload_n 3, 1) := by decide +kernel
theorem d_r_event_331 : decode b_r_event 331 = .ok (.iaload, 1) := by decide +kernel
theorem d_r_event_332 : decode b_r_event 332 = .ok (.invokestatic 72, 3) := by decide +kernel
theorem d_r_event_335 : decode b_r_event 335 = .ok (.istore 5, 2) := by decide +kernel
theorem d_r_event_337 : decode b_r_event 337 = .ok (.iconst 0, 1) := by decide +kernel
theorem d_r_event_338 : decode b_r_event 338 = .ok (.istore 6, 2) := by decide +kernel
theorem d_r_event_340 : decode b_r_event 340 = .ok (.iconst 0, 1) := by decide +kernel
theorem d_r_event_341 : decode b_r_event 341 = .ok (.istore 7, 2) := by decide +kernel
theorem d_r_event_343 : decode b_r_event 343 = .ok (.iload 7, 2) := by decide +kernel
theorem d_r_event_345 : decode b_r_event 345 = .ok (.aload_n 0, 1) := by decide +kernel
theorem d_r_event_346 : decode b_r_event 346 = .ok (.getfield 7, 3) := by decide +kernel
theorem d_r_event_349 : decode b_r_event 349 = .ok (.if_icmp .ge 92, 3) := by decide +kernel
theorem d_r_event_352 : decode b_r_event 352 = .ok (.iconst 0, 1) := by decide +kernel
theorem d_r_event_353 : decode b_r_event 353 = .ok (.istore 8, 2) := by decide +kernel
theorem d_r_event_355 : decode b_r_event 355 = .ok (.iconst 0, 1) := by decide +kernel
theorem d_r_event_356 : decode b_r_event 356 = .ok (.istore 9, 2) := by decide +kernel
theorem d_r_event_358 : decode b_r_event 358 = .ok (.iload 9, 2) := by decide +kernel
theorem d_r_event_360 : decode b_r_event 360 = .ok (.iload 4, 2) := by decide +kernel
theorem d_r_event_362 : decode b_r_event 362 = .ok (.if_icmp .ge 65, 3) := by decide +kernel
theorem d_r_event_365 : decode b_r_event 365 = .ok (.iload 8, 2) := by decide +kernel
theorem d_r_event_367 : decode b_r_event 367 = .ok (.ifCond .ne 60, 3) := by decide +kernel
theorem d_r_event_370 : decode b_r_event 370 = .ok (.aload_n 0, 1) := by decide +kernel
theorem d_r_event_371 : decode b_r_event 371 = .ok (.getfield 13, 3) := by decide +kernel
theorem d_r_event_374 : decode b_r_event 374 = .ok (.iload 9, 2) := by decide +kernel
theorem d_r_event_376 : decode b_r_event 376 = .ok (.iaload, 1) := by decide +kernel
theorem d_r_event_377 : decode b_r_event 377 = .ok (.iload 7, 2) := by decide +kernel
theorem d_r_event_379 : decode b_r_event 379 = .ok (.if_icmp .ne 39, 3) := by decide +kernel
theorem d_r_event_382 : decode b_r_event 382 = .ok (.aload_n 0, 1) := by decide +kernel
theorem d_r_event_383 : decode b_r_event 383 = .ok (.getfield 23, 3) := by decide +kernel
theorem d_r_event_386 : decode b_r_event 386 = .ok (.iload 9, 2) := by decide +kernel
theorem d_r_event_388 : decode b_r_event 388 = .ok (.iaload, 1) := by decide +kernel
theorem d_r_event_389 : decode b_r_event 389 = .ok (.iload 5, 2) := by decide +kernel
theorem d_r_event_391 : decode b_r_event 391 = .ok (.if_icmp .ne 27, 3) := by decide +kernel
theorem d_r_event_394 : decode b_r_event 394 = .ok (.aload_n 0, 1) := by decide +kernel
theorem d_r_event_395 : decode b_r_event 395 = .ok (.iload 9, 2) := by decide +kernel
theorem d_r_event_397 : decode b_r_event 397 = .ok (.invokevirtual 78, 3) := by decide +kernel
theorem d_r_event_400 : decode b_r_event 400 = .ok (.ifCond .eq 18, 3) := by decide +kernel
theorem d_r_event_403 : decode b_r_event 403 = .ok (.aload_n 0, 1) := by decide +kernel
theorem d_r_event_404 : decode b_r_event 404 = .ok (.iload 4, 2) := by decide +kernel
theorem d_r_event_406 : decode b_r_event 406 = .ok (.iload 9, 2) := by decide +kernel
theorem d_r_event_408 : decode b_r_event 408 = .ok (.invokevirtual 81, 3) := by decide +kernel
theorem d_r_event_411 : decode b_r_event 411 = .ok (.ifCond .eq 7, 3) := by decide +kernel
theorem d_r_event_414 : decode b_r_event 414 = .ok (.iconst 1, 1) := by decide +kernel
theorem d_r_event_415 : decode b_r_event 415 = .ok (.goto 4, 3) := by decide +kernel
theorem d_r_event_418 : decode b_r_event 418 = .ok (.iconst 0, 1) := by decide +kernel
theorem d_r_event_419 : decode b_r_event 419 = .ok (.istore 8, 2) := by decide +kernel
theorem d_r_event_421 : decode b_r_event 421 = .ok (.iinc 9 1, 3) := by decide +kernel
theorem d_r_event_424 : decode b_r_event 424 = .ok (.goto (-66), 3) := by decide +kernel
theorem d_r_event_427 : decode b_r_event 427 = .ok (.iload 8, 2) := by decide +kernel
theorem d_r_event_429 : decode b_r_event 429 = .ok (.ifCond .eq 6, 3) := by decide +kernel
theorem d_r_event_432 : decode b_r_event 432 = .ok (.iinc 6 1, 3) := by decide +kernel
theorem d_r_event_435 : decode b_r_event 435 = .ok (.iinc 7 1, 3) := by decide +kernel
theorem d_r_event_438 : decode b_r_event 438 = .ok (.goto (-95), 3) := by decide +kernel
theorem d_r_event_441 : decode b_r_event 441 = .ok (.aload_n 0, 1) := by decide +kernel
theorem d_r_event_442 : decode b_r_event 442 = .ok (.getfield 23, 3) := by decide +kernel
theorem d_r_event_445 : decode b_r_event 445 = .ok (.iload 4, 2) := by decide +kernel
theorem d_r_event_447 : decode b_r_event 447 = .ok (.iconst 3, 1) := by decide +kernel
theorem d_r_event_448 : decode b_r_event 448 = .ok (.iload 6, 2) := by decide +kernel
theorem d_r_event_450 : decode b_r_event 450 = .ok (.imul, 1) := by decide +kernel
theorem d_r_event_451 : decode b_r_event 451 = .ok (.iconst 2, 1) := by decide +kernel
theorem d_r_event_452 : decode b_r_event 452 = .ok (.aload_n 0, 1) := by decide +kernel
theorem d_r_event_453 : decode b_r_event 453 = .ok (.getfield 7, 3) := by decide +kernel
theorem d_r_event_456 : decode b_r_event 456 = .ok (.imul, 1) := by decide +kernel
theorem d_r_event_457 : decode b_r_event 457 = .ok (.if_icmp .le 10, 3) := by decide +kernel
theorem d_r_event_460 : decode b_r_event 460 = .ok (.iload 5, 2) := by decide +kernel
theorem d_r_event_462 : decode b_r_event 462 = .ok (.iconst 1, 1) := by decide +kernel
theorem d_r_event_463 : decode b_r_event 463 = .ok (.iadd, 1) := by decide +kernel
theorem d_r_event_464 : decode b_r_event 464 = .ok (.goto 5, 3) := by decide +kernel
theorem d_r_event_467 : decode b_r_event 467 = .ok (.iload 5, 2) := by decide +kernel
theorem d_r_event_469 : decode b_r_event 469 = .ok (.iastore, 1) := by decide +kernel
theorem d_r_event_470 : decode b_r_event 470 = .ok (.iload 4, 2) := by decide +kernel
theorem d_r_event_472 : decode b_r_event 472 = .ok (.ireturn, 1) := by decide +kernel
theorem d_r_isSeen_0 : decode b_r_isSeen 0 = .ok (.aload_n 0, 1) := by decide +kernel
theorem d_r_isSeen_1 : decode b_r_isSeen 1 = .ok (.iload_n 2, 1) := by decide +kernel
theorem d_r_isSeen_2 : decode b_r_isSeen 2 = .ok (.iload_n 1, 1) := by decide +kernel
theorem d_r_isSeen_3 : decode b_r_isSeen 3 = .ok (.invokevirtual 58, 3) := by decide +kernel
theorem d_r_isSeen_6 : decode b_r_isSeen 6 = .ok (.ifCond .eq 26, 3) := by decide +kernel
theorem d_r_isSeen_9 : decode b_r_isSeen 9 = .ok (.aload_n 0, 1) := by decide +kernel
theorem d_r_isSeen_10 : decode b_r_isSeen 10 = .ok (.getfield 33, 3) := by decide +kernel
theorem d_r_isSeen_13 : decode b_r_isSeen 13 = .ok (.bipush 8, 2) := by decide +kernel
theorem d_r_isSeen_15 : decode b_r_isSeen 15 = .ok (.iload_n 1, 1) := by decide +kernel
theorem d_r_isSeen_16 : decode b_r_isSeen 16 = .ok (.imul, 1) := by decide +kernel
theorem d_r_isSeen_17 : decode b_r_isSeen 17 = .ok (.aload_n 0, 1) := by decide +kernel
theorem d_r_isSeen_18 : decode b_r_isSeen 18 = .ok (.getfield 13, 3) := by decide +kernel
theorem d_r_isSeen_21 : decode b_r_isSeen 21 = .ok (.iload_n 2, 1) := by decide +kernel
theorem d_r_isSeen_22 : decode b_r_isSeen 22 = .ok (.iaload, 1) := by decide +kernel
theorem d_r_isSeen_23 : decode b_r_isSeen 23 = .ok (.iadd, 1) := by decide +kernel
theorem d_r_isSeen_24 : decode b_r_isSeen 24 = .ok (.baload, 1) := by decide +kernel
theorem d_r_isSeen_25 : decode b_r_isSeen 25 = .ok (.ifCond .ne 7, 3) := by decide +kernel
theorem d_r_isSeen_28 : decode b_r_isSeen 28 = .ok (.iconst 1, 1) := by decide +kernel
theorem d_r_isSeen_29 : decode b_r_isSeen 29 = .ok (.goto 4, 3) := by decide +kernel
theorem d_r_isSeen_32 : decode b_r_isSeen 32 = .ok (.iconst 0, 1) := by decide +kernel
theorem d_r_isSeen_33 : decode b_r_isSeen 33 = .ok (.ireturn, 1) := by decide +kernel
theorem d_r_strengthOf_0 : decode b_r_strengthOf 0 = .ok (.iconst 0, 1) := by decide +kernel
theorem d_r_strengthOf_1 : decode b_r_strengthOf 1 = .ok (.istore_n 3, 1) := by decide +kernel
theorem d_r_strengthOf_2 : decode b_r_strengthOf 2 = .ok (.iconst 0, 1) := by decide +kernel
theorem d_r_strengthOf_3 : decode b_r_strengthOf 3 = .ok (.istore 4, 2) := by decide +kernel
theorem d_r_strengthOf_5 : decode b_r_strengthOf 5 = .ok (.iload 4, 2) := by decide +kernel
theorem d_r_strengthOf_7 : decode b_r_strengthOf 7 = .ok (.aload_n 0, 1) := by decide +kernel
theorem d_r_strengthOf_8 : decode b_r_strengthOf 8 = .ok (.getfield 7, 3) := by decide +kernel
theorem d_r_strengthOf_11 : decode b_r_strengthOf 11 = .ok (.if_icmp .ge 79, 3) := by decide +kernel
theorem d_r_strengthOf_14 : decode b_r_strengthOf 14 = .ok (.iconst 0, 1) := by decide +kernel
theorem d_r_strengthOf_15 : decode b_r_strengthOf 15 = .ok (.istore 5, 2) := by decide +kernel
theorem d_r_strengthOf_17 : decode b_r_strengthOf 17 = .ok (.iconst 0, 1) := by decide +kernel
theorem d_r_strengthOf_18 : decode b_r_strengthOf 18 = .ok (.istore 6, 2) := by decide +kernel
theorem d_r_strengthOf_20 : decode b_r_strengthOf 20 = .ok (.iload 6, 2) := by decide +kernel
theorem d_r_strengthOf_22 : decode b_r_strengthOf 22 = .ok (.iload_n 1, 1) := by decide +kernel
theorem d_r_strengthOf_23 : decode b_r_strengthOf 23 = .ok (.if_icmp .gt 53, 3) := by decide +kernel
theorem d_r_strengthOf_26 : decode b_r_strengthOf 26 = .ok (.iload 5, 2) := by decide +kernel
theorem d_r_strengthOf_28 : decode b_r_strengthOf 28 = .ok (.ifCond .ne 48, 3) := by decide +kernel
theorem d_r_strengthOf_31 : decode b_r_strengthOf 31 = .ok (.aload_n 0, 1) := by decide +kernel
theorem d_r_strengthOf_32 : decode b_r_strengthOf 32 = .ok (.getfield 13, 3) := by decide +kernel
theorem d_r_strengthOf_35 : decode b_r_strengthOf 35 = .ok (.iload 6, 2) := by decide +kernel
theorem d_r_strengthOf_37 : decode b_r_strengthOf 37 = .ok (.iaload, 1) := by decide +kernel
theorem d_r_strengthOf_38 : decode b_r_strengthOf 38 = .ok (.iload 4, 2) := by decide +kernel
theorem d_r_strengthOf_40 : decode b_r_strengthOf 40 = .ok (.if_icmp .ne 27, 3) := by decide +kernel
theorem d_r_strengthOf_43 : decode b_r_strengthOf 43 = .ok (.aload_n 0, 1) := by decide +kernel
theorem d_r_strengthOf_44 : decode b_r_strengthOf 44 = .ok (.iload_n 1, 1) := by decide +kernel
theorem d_r_strengthOf_45 : decode b_r_strengthOf 45 = .ok (.iload 6, 2) := by decide +kernel
theorem d_r_strengthOf_47 : decode b_r_strengthOf 47 = .ok (.invokevirtual 84, 3) := by decide +kernel
theorem d_r_strengthOf_50 : decode b_r_strengthOf 50 = .ok (.ifCond .eq 17, 3) := by decide +kernel
theorem d_r_strengthOf_53 : decode b_r_strengthOf 53 = .ok (.aload_n 0, 1) := by decide +kernel
theorem d_r_strengthOf_54 : decode b_r_strengthOf 54 = .ok (.iload 6, 2) := by decide +kernel
theorem d_r_strengthOf_56 : decode b_r_strengthOf 56 = .ok (.iload_n 2, 1) := by decide +kernel
theorem d_r_strengthOf_57 : decode b_r_strengthOf 57 = .ok (.invokevirtual 84, 3) := by decide +kernel
theorem d_r_strengthOf_60 : decode b_r_strengthOf 60 = .ok (.ifCond .eq 7, 3) := by decide +kernel
theorem d_r_strengthOf_63 : decode b_r_strengthOf 63 = .ok (.iconst 1, 1) := by decide +kernel
theorem d_r_strengthOf_64 : decode b_r_strengthOf 64 = .ok (.goto 4, 3) := by decide +kernel
theorem d_r_strengthOf_67 : decode b_r_strengthOf 67 = .ok (.iconst 0, 1) := by decide +kernel
theorem d_r_strengthOf_68 : decode b_r_strengthOf 68 = .ok (.istore 5, 2) := by decide +kernel
theorem d_r_strengthOf_70 : decode b_r_strengthOf 70 = .ok (.iinc 6 1, 3) := by decide +kernel
theorem d_r_strengthOf_73 : decode b_r_strengthOf 73 = .ok (.goto (-53), 3) := by decide +kernel
theorem d_r_strengthOf_76 : decode b_r_strengthOf 76 = .ok (.iload 5, 2) := by decide +kernel
theorem d_r_strengthOf_78 : decode b_r_strengthOf 78 = .ok (.ifCond .eq 6, 3) := by decide +kernel
theorem d_r_strengthOf_81 : decode b_r_strengthOf 81 = .ok (.iinc 3 1, 3) := by decide +kernel
theorem d_r_strengthOf_84 : decode b_r_strengthOf 84 = .ok (.iinc 4 1, 3) := by decide +kernel
theorem d_r_strengthOf_87 : decode b_r_strengthOf 87 = .ok (.goto (-82), 3) := by decide +kernel
theorem d_r_strengthOf_90 : decode b_r_strengthOf 90 = .ok (.iload_n 3, 1) := by decide +kernel
theorem d_r_strengthOf_91 : decode b_r_strengthOf 91 = .ok (.ireturn, 1) := by decide +kernel
theorem d_r_isStrong_0 : decode b_r_isStrong 0 = .ok (.iconst 3, 1) := by decide +kernel
theorem d_r_isStrong_1 : decode b_r_isStrong 1 = .ok (.aload_n 0, 1) := by decide +kernel
theorem d_r_isStrong_2 : decode b_r_isStrong 2 = .ok (.iload_n 1, 1) := by decide +kernel
theorem d_r_isStrong_3 : decode b_r_isStrong 3 = .ok (.iload_n 2, 1) := by decide +kernel
theorem d_r_isStrong_4 : decode b_r_isStrong 4 = .ok (.invokevirtual 87, 3) := by decide +kernel
theorem d_r_isStrong_7 : decode b_r_isStrong 7 = .ok (.imul, 1) := by decide +kernel
theorem d_r_isStrong_8 : decode b_r_isStrong 8 = .ok (.iconst 2, 1) := by decide +kernel
theorem d_r_isStrong_9 : decode b_r_isStrong 9 = .ok (.aload_n 0, 1) := by decide +kernel
theorem d_r_isStrong_10 : decode b_r_isStrong 10 = .ok (.getfield 7, 3) := by decide +kernel
theorem d_r_isStrong_13 : decode b_r_isStrong 13 = .ok (.imul, 1) := by decide +kernel
theorem d_r_isStrong_14 : decode b_r_isStrong 14 = .ok (.if_icmp .le 7, 3) := by decide +kernel
theorem d_r_isStrong_17 : decode b_r_isStrong 17 = .ok (.iconst 1, 1) := by decide +kernel
theorem d_r_isStrong_18 : decode b_r_isStrong 18 = .ok (.goto 4, 3) := by decide +kernel
theorem d_r_isStrong_21 : decode b_r_isStrong 21 = .ok (.iconst 0, 1) := by decide +kernel
theorem d_r_isStrong_22 : decode b_r_isStrong 22 = .ok (.ireturn, 1) := by decide +kernel
theorem d_r_isWitness_0 : decode b_r_isWitness 0 = .ok (.aload_n 0, 1) := by decide +kernel
theorem d_r_isWitness_1 : decode b_r_isWitness 1 = .ok (.getfield 17, 3) := by decide +kernel
theorem d_r_isWitness_4 : decode b_r_isWitness 4 = .ok (.iload_n 1, 1) := by decide +kernel
theorem d_r_isWitness_5 : decode b_r_isWitness 5 = .ok (.iaload, 1) := by decide +kernel
theorem d_r_isWitness_6 : decode b_r_isWitness 6 = .ok (.ifCond .lt 23, 3) := by decide +kernel
theorem d_r_isWitness_9 : decode b_r_isWitness 9 = .ok (.aload_n 0, 1) := by decide +kernel
theorem d_r_isWitness_10 : decode b_r_isWitness 10 = .ok (.getfield 23, 3) := by decide +kernel
theorem d_r_isWitness_13 : decode b_r_isWitness 13 = .ok (.aload_n 0, 1) := by decide +kernel
theorem d_r_isWitness_14 : decode b_r_isWitness 14 = .ok (.getfield 17, 3) := by decide +kernel
theorem d_r_isWitness_17 : decode b_r_isWitness 17 = .ok (.iload_n 1, 1) := by decide +kernel
theorem d_r_isWitness_18 : decode b_r_isWitness 18 = .ok (.iaload, 1) := by decide +kernel
theorem d_r_isWitness_19 : decode b_r_isWitness 19 = .ok (.iaload, 1) := by decide +kernel
theorem d_r_isWitness_20 : decode b_r_isWitness 20 = .ok (.aload_n 0, 1) := by decide +kernel
theorem d_r_isWitness_21 : decode b_r_isWitness 21 = .ok (.getfield 23, 3) := by decide +kernel
theorem d_r_isWitness_24 : decode b_r_isWitness 24 = .ok (.iload_n 1, 1) := by decide +kernel
theorem d_r_isWitness_25 : decode b_r_isWitness 25 = .ok (.iaload, 1) := by decide +kernel
theorem d_r_isWitness_26 : decode b_r_isWitness 26 = .ok (.if_icmp .ge 7, 3) := by decide +kernel
theorem d_r_isWitness_29 : decode b_r_isWitness 29 = .ok (.iconst 1, 1) := by decide +kernel
theorem d_r_isWitness_30 : decode b_r_isWitness 30 = .ok (.goto 4, 3) := by decide +kernel
theorem d_r_isWitness_33 : decode b_r_isWitness 33 = .ok (.iconst 0, 1) := by decide +kernel
theorem d_r_isWitness_34 : decode b_r_isWitness 34 = .ok (.ireturn, 1) := by decide +kernel
theorem d_r_ancestor_0 : decode b_r_ancestor 0 = .ok (.aload_n 0, 1) := by decide +kernel
theorem d_r_ancestor_1 : decode b_r_ancestor 1 = .ok (.iconst 0, 1) := by decide +kernel
theorem d_r_ancestor_2 : decode b_r_ancestor 2 = .ok (.putfield 36, 3) := by decide +kernel
theorem d_r_ancestor_5 : decode b_r_ancestor 5 = .ok (.aload_n 0, 1) := by decide +kernel
theorem d_r_ancestor_6 : decode b_r_ancestor 6 = .ok (.aload_n 0, 1) := by decide +kernel
theorem d_r_ancestor_7 : decode b_r_ancestor 7 = .ok (.iload_n 1, 1) := by decide +kernel
theorem d_r_ancestor_8 : decode b_r_ancestor 8 = .ok (.invokevirtual 61, 3) := by decide +kernel
theorem d_r_ancestor_11 : decode b_r_ancestor 11 = .ok (.ifCond .eq 11, 3) := by decide +kernel
theorem d_r_ancestor_14 : decode b_r_ancestor 14 = .ok (.aload_n 0, 1) := by decide +kernel
theorem d_r_ancestor_15 : decode b_r_ancestor 15 = .ok (.iload_n 2, 1) := by decide +kernel
theorem d_r_ancestor_16 : decode b_r_ancestor 16 = .ok (.invokevirtual 61, 3) := by decide +kernel
theorem d_r_ancestor_19 : decode b_r_ancestor 19 = .ok (.ifCond .ne 7, 3) := by decide +kernel
theorem d_r_ancestor_22 : decode b_r_ancestor 22 = .ok (.iconst 1, 1) := by decide +kernel
theorem d_r_ancestor_23 : decode b_r_ancestor 23 = .ok (.goto 4, 3) := by decide +kernel
theorem d_r_ancestor_26 : decode b_r_ancestor 26 = .ok (.iconst 0, 1) := by decide +kernel
theorem d_r_ancestor_27 : decode b_r_ancestor 27 = .ok (.iconst 1, 1) := by decide +kernel
theorem d_r_ancestor_28 : decode b_r_ancestor 28 = .ok (.invokevirtual 54, 3) := by decide +kernel
theorem d_r_ancestor_31 : decode b_r_ancestor 31 = .ok (.ifCond .ne 16, 3) := by decide +kernel
theorem d_r_ancestor_34 : decode b_r_ancestor 34 = .ok (.aload_n 0, 1) := by decide +kernel
theorem d_r_ancestor_35 : decode b_r_ancestor 35 = .ok (.iload_n 2, 1) := by decide +kernel
theorem d_r_ancestor_36 : decode b_r_ancestor 36 = .ok (.iload_n 1, 1) := by decide +kernel
theorem d_r_ancestor_37 : decode b_r_ancestor 37 = .ok (.invokevirtual 58, 3) := by decide +kernel
theorem d_r_ancestor_40 : decode b_r_ancestor 40 = .ok (.ifCond .eq 7, 3) := by decide +kernel
theorem d_r_ancestor_43 : decode b_r_ancestor 43 = .ok (.iconst 1, 1) := by decide +kernel
theorem d_r_ancestor_44 : decode b_r_ancestor 44 = .ok (.goto 4, 3) := by decide +kernel
theorem d_r_ancestor_47 : decode b_r_ancestor 47 = .ok (.iconst 0, 1) := by decide +kernel
theorem d_r_ancestor_48 : decode b_r_ancestor 48 = .ok (.ireturn, 1) := by decide +kernel
theorem d_r_own_0 : decode b_r_own 0 = .ok (.aload_n 0, 1) := by decide +kernel
theorem d_r_own_1 : decode b_r_own 1 = .ok (.iconst 0, 1) := by decide +kernel
theorem d_r_own_2 : decode b_r_own 2 = .ok (.putfield 36, 3) := by decide +kernel
theorem d_r_own_5 : decode b_r_own 5 = .ok (.aload_n 0, 1) := by decide +kernel
theorem d_r_own_6 : decode b_r_own 6 = .ok (.aload_n 0, 1) := by decide +kernel
theorem d_r_own_7 : decode b_r_own 7 = .ok (.iload_n 1, 1) := by decide +kernel
theorem d_r_own_8 : decode b_r_own 8 = .ok (.invokevirtual 61, 3) := by decide +kernel
theorem d_r_own_11 : decode b_r_own 11 = .ok (.ifCond .eq 11, 3) := by decide +kernel
theorem d_r_own_14 : decode b_r_own 14 = .ok (.aload_n 0, 1) := by decide +kernel
theorem d_r_own_15 : decode b_r_own 15 = .ok (.iload_n 2, 1) := by decide +kernel
theorem d_r_own_16 : decode b_r_own 16 = .ok (.invokevirtual 61, 3) := by decide +kernel
theorem d_r_own_19 : decode b_r_own 19 = .ok (.ifCond .ne 7, 3) := by decide +kernel
theorem d_r_own_22 : decode b_r_own 22 = .ok (.iconst 1, 1) := by decide +kernel
theorem d_r_own_23 : decode b_r_own 23 = .ok (.goto 4, 3) := by decide +kernel
theorem d_r_own_26 : decode b_r_own 26 = .ok (.iconst 0, 1) := by decide +kernel
theorem d_r_own_27 : decode b_r_own 27 = .ok (.iconst 1, 1) := by decide +kernel
theorem d_r_own_28 : decode b_r_own 28 = .ok (.invokevirtual 54, 3) := by decide +kernel
theorem d_r_own_31 : decode b_r_own 31 = .ok (.ifCond .ne 16, 3) := by decide +kernel
theorem d_r_own_34 : decode b_r_own 34 = .ok (.aload_n 0, 1) := by decide +kernel
theorem d_r_own_35 : decode b_r_own 35 = .ok (.iload_n 1, 1) := by decide +kernel
theorem d_r_own_36 : decode b_r_own 36 = .ok (.iload_n 2, 1) := by decide +kernel
theorem d_r_own_37 : decode b_r_own 37 = .ok (.invokevirtual 46, 3) := by decide +kernel
theorem d_r_own_40 : decode b_r_own 40 = .ok (.ifCond .eq 7, 3) := by decide +kernel
theorem d_r_own_43 : decode b_r_own 43 = .ok (.iconst 1, 1) := by decide +kernel
theorem d_r_own_44 : decode b_r_own 44 = .ok (.goto 4, 3) := by decide +kernel
theorem d_r_own_47 : decode b_r_own 47 = .ok (.iconst 0, 1) := by decide +kernel
theorem d_r_own_48 : decode b_r_own 48 = .ok (.ireturn, 1) := by decide +kernel
theorem d_r_forked_0 : decode b_r_forked 0 = .ok (.aload_n 0, 1) := by decide +kernel
theorem d_r_forked_1 : decode b_r_forked 1 = .ok (.iconst 0, 1) := by decide +kernel
theorem d_r_forked_2 : decode b_r_forked 2 = .ok (.putfield 36, 3) := by decide +kernel
theorem d_r_forked_5 : decode b_r_forked 5 = .ok (.aload_n 0, 1) := by decide +kernel
theorem d_r_forked_6 : decode b_r_forked 6 = .ok (.iload_n 2, 1) := by decide +kernel
theorem d_r_forked_7 : decode b_r_forked 7 = .ok (.i2l, 1) := by decide +kernel
theorem d_r_forked_8 : decode b_r_forked 8 = .ok (.lconst 0, 1) := by decide +kernel
theorem d_r_forked_9 : decode b_r_forked 9 = .ok (.aload_n 0, 1) := by decide +kernel
theorem d_r_forked_10 : decode b_r_forked 10 = .ok (.getfield 7, 3) := by decide +kernel
theorem d_r_forked_13 : decode b_r_forked 13 = .ok (.iconst 1, 1) := by decide +kernel
theorem d_r_forked_14 : decode b_r_forked 14 = .ok (.isub, 1) := by decide +kernel
theorem d_r_forked_15 : decode b_r_forked 15 = .ok (.i2l, 1) := by decide +kernel
theorem d_r_forked_16 : decode b_r_forked 16 = .ok (.invokestatic 42, 3) := by decide +kernel
theorem d_r_forked_19 : decode b_r_forked 19 = .ok (.ifCond .ne 7, 3) := by decide +kernel
theorem d_r_forked_22 : decode b_r_forked 22 = .ok (.iconst 1, 1) := by decide +kernel
theorem d_r_forked_23 : decode b_r_forked 23 = .ok (.goto 4, 3) := by decide +kernel
theorem d_r_forked_26 : decode b_r_forked 26 = .ok (.iconst 0, 1) := by decide +kernel
theorem d_r_forked_27 : decode b_r_forked 27 = .ok (.iconst 1, 1) := by decide +kernel
theorem d_r_forked_28 : decode b_r_forked 28 = .ok (.invokevirtual 54, 3) := by decide +kernel
theorem d_r_forked_31 : decode b_r_forked 31 = .ok (.ifCond .ne 42, 3) := by decide +kernel
theorem d_r_forked_34 : decode b_r_forked 34 = .ok (.aload_n 0, 1) := by decide +kernel
theorem d_r_forked_35 : decode b_r_forked 35 = .ok (.aload_n 0, 1) := by decide +kernel
theorem d_r_forked_36 : decode b_r_forked 36 = .ok (.iload_n 1, 1) := by decide +kernel
theorem d_r_forked_37 : decode b_r_forked 37 = .ok (.invokevirtual 61, 3) := by decide +kernel
theorem d_r_forked_40 : decode b_r_forked 40 = .ok (.ifCond .ne 7, 3) := by decide +kernel
theorem d_r_forked_43 : decode b_r_forked 43 = .ok (.iconst 1, 1) := by decide +kernel
theorem d_r_forked_44 : decode b_r_forked 44 = .ok (.goto 4, 3) := by decide +kernel
theorem d_r_forked_47 : decode b_r_forked 47 = .ok (.iconst 0, 1) := by decide +kernel
theorem d_r_forked_48 : decode b_r_forked 48 = .ok (.iconst 2, 1) := by decide +kernel
theorem d_r_forked_49 : decode b_r_forked 49 = .ok (.invokevirtual 54, 3) := by decide +kernel
theorem d_r_forked_52 : decode b_r_forked 52 = .ok (.ifCond .ne 21, 3) := by decide +kernel
theorem d_r_forked_55 : decode b_r_forked 55 = .ok (.aload_n 0, 1) := by decide +kernel
theorem d_r_forked_56 : decode b_r_forked 56 = .ok (.getfield 33, 3) := by decide +kernel
theorem d_r_forked_59 : decode b_r_forked 59 = .ok (.bipush 8, 2) := by decide +kernel
theorem d_r_forked_61 : decode b_r_forked 61 = .ok (.iload_n 1, 1) := by decide +kernel
theorem d_r_forked_62 : decode b_r_forked 62 = .ok (.imul, 1) := by decide +kernel
theorem d_r_forked_63 : decode b_r_forked 63 = .ok (.iload_n 2, 1) := by decide +kernel
theorem d_r_forked_64 : decode b_r_forked 64 = .ok (.iadd, 1) := by decide +kernel
theorem d_r_forked_65 : decode b_r_forked 65 = .ok (.baload, 1) := by decide +kernel
theorem d_r_forked_66 : decode b_r_forked 66 = .ok (.ifCond .eq 7, 3) := by decide +kernel
theorem d_r_forked_69 : decode b_r_forked 69 = .ok (.iconst 1, 1) := by decide +kernel
theorem d_r_forked_70 : decode b_r_forked 70 = .ok (.goto 4, 3) := by decide +kernel
theorem d_r_forked_73 : decode b_r_forked 73 = .ok (.iconst 0, 1) := by decide +kernel
theorem d_r_forked_74 : decode b_r_forked 74 = .ok (.ireturn, 1) := by decide +kernel
theorem d_r_sees_0 : decode b_r_sees 0 = .ok (.aload_n 0, 1) := by decide +kernel
theorem d_r_sees_1 : decode b_r_sees 1 = .ok (.iconst 0, 1) := by decide +kernel
theorem d_r_sees_2 : decode b_r_sees 2 = .ok (.putfield 36, 3) := by decide +kernel
theorem d_r_sees_5 : decode b_r_sees 5 = .ok (.aload_n 0, 1) := by decide +kernel
theorem d_r_sees_6 : decode b_r_sees 6 = .ok (.aload_n 0, 1) := by decide +kernel
theorem d_r_sees_7 : decode b_r_sees 7 = .ok (.iload_n 1, 1) := by decide +kernel
theorem d_r_sees_8 : decode b_r_sees 8 = .ok (.invokevirtual 61, 3) := by decide +kernel
theorem d_r_sees_11 : decode b_r_sees 11 = .ok (.ifCond .eq 11, 3) := by decide +kernel
theorem d_r_sees_14 : decode b_r_sees 14 = .ok (.aload_n 0, 1) := by decide +kernel
theorem d_r_sees_15 : decode b_r_sees 15 = .ok (.iload_n 2, 1) := by decide +kernel
theorem d_r_sees_16 : decode b_r_sees 16 = .ok (.invokevirtual 61, 3) := by decide +kernel
theorem d_r_sees_19 : decode b_r_sees 19 = .ok (.ifCond .ne 7, 3) := by decide +kernel
theorem d_r_sees_22 : decode b_r_sees 22 = .ok (.iconst 1, 1) := by decide +kernel
theorem d_r_sees_23 : decode b_r_sees 23 = .ok (.goto 4, 3) := by decide +kernel
theorem d_r_sees_26 : decode b_r_sees 26 = .ok (.iconst 0, 1) := by decide +kernel
theorem d_r_sees_27 : decode b_r_sees 27 = .ok (.iconst 1, 1) := by decide +kernel
theorem d_r_sees_28 : decode b_r_sees 28 = .ok (.invokevirtual 54, 3) := by decide +kernel
theorem d_r_sees_31 : decode b_r_sees 31 = .ok (.ifCond .ne 16, 3) := by decide +kernel
theorem d_r_sees_34 : decode b_r_sees 34 = .ok (.aload_n 0, 1) := by decide +kernel
theorem d_r_sees_35 : decode b_r_sees 35 = .ok (.iload_n 1, 1) := by decide +kernel
theorem d_r_sees_36 : decode b_r_sees 36 = .ok (.iload_n 2, 1) := by decide +kernel
theorem d_r_sees_37 : decode b_r_sees 37 = .ok (.invokevirtual 84, 3) := by decide +kernel
theorem d_r_sees_40 : decode b_r_sees 40 = .ok (.ifCond .eq 7, 3) := by decide +kernel
theorem d_r_sees_43 : decode b_r_sees 43 = .ok (.iconst 1, 1) := by decide +kernel
theorem d_r_sees_44 : decode b_r_sees 44 = .ok (.goto 4, 3) := by decide +kernel
theorem d_r_sees_47 : decode b_r_sees 47 = .ok (.iconst 0, 1) := by decide +kernel
theorem d_r_sees_48 : decode b_r_sees 48 = .ok (.ireturn, 1) := by decide +kernel
theorem d_r_strength_0 : decode b_r_strength 0 = .ok (.aload_n 0, 1) := by decide +kernel
theorem d_r_strength_1 : decode b_r_strength 1 = .ok (.iconst 0, 1) := by decide +kernel
theorem d_r_strength_2 : decode b_r_strength 2 = .ok (.putfield 36, 3) := by decide +kernel
theorem d_r_strength_5 : decode b_r_strength 5 = .ok (.aload_n 0, 1) := by decide +kernel
theorem d_r_strength_6 : decode b_r_strength 6 = .ok (.aload_n 0, 1) := by decide +kernel
theorem d_r_strength_7 : decode b_r_strength 7 = .ok (.iload_n 1, 1) := by decide +kernel
theorem d_r_strength_8 : decode b_r_strength 8 = .ok (.invokevirtual 61, 3) := by decide +kernel
theorem d_r_strength_11 : decode b_r_strength 11 = .ok (.ifCond .eq 11, 3) := by decide +kernel
theorem d_r_strength_14 : decode b_r_strength 14 = .ok (.aload_n 0, 1) := by decide +kernel
theorem d_r_strength_15 : decode b_r_strength 15 = .ok (.iload_n 2, 1) := by decide +kernel
theorem d_r_strength_16 : decode b_r_strength 16 = .ok (.invokevirtual 61, 3) := by decide +kernel
theorem d_r_strength_19 : decode b_r_strength 19 = .ok (.ifCond .ne 7, 3) := by decide +kernel
theorem d_r_strength_22 : decode b_r_strength 22 = .ok (.iconst 1, 1) := by decide +kernel
theorem d_r_strength_23 : decode b_r_strength 23 = .ok (.goto 4, 3) := by decide +kernel
theorem d_r_strength_26 : decode b_r_strength 26 = .ok (.iconst 0, 1) := by decide +kernel
theorem d_r_strength_27 : decode b_r_strength 27 = .ok (.iconst 1, 1) := by decide +kernel
theorem d_r_strength_28 : decode b_r_strength 28 = .ok (.invokevirtual 54, 3) := by decide +kernel
theorem d_r_strength_31 : decode b_r_strength 31 = .ok (.ifCond .eq 7, 3) := by decide +kernel
theorem d_r_strength_34 : decode b_r_strength 34 = .ok (.iconst 0, 1) := by decide +kernel
theorem d_r_strength_35 : decode b_r_strength 35 = .ok (.goto 9, 3) := by decide +kernel
theorem d_r_strength_38 : decode b_r_strength 38 = .ok (.aload_n 0, 1) := by decide +kernel
theorem d_r_strength_39 : decode b_r_strength 39 = .ok (.iload_n 1, 1) := by decide +kernel
theorem d_r_strength_40 : decode b_r_strength 40 = .ok (.iload_n 2, 1) := by decide +kernel
theorem d_r_strength_41 : decode b_r_strength 41 = .ok (.invokevirtual 87, 3) := by decide +kernel
theorem d_r_strength_44 : decode b_r_strength 44 = .ok (.ireturn, 1) := by decide +kernel
theorem d_r_strongly_0 : decode b_r_strongly 0 = .ok (.aload_n 0, 1) := by decide +kernel
theorem d_r_strongly_1 : decode b_r_strongly 1 = .ok (.iconst 0, 1) := by decide +kernel
theorem d_r_strongly_2 : decode b_r_strongly 2 = .ok (.putfield 36, 3) := by decide +kernel
theorem d_r_strongly_5 : decode b_r_strongly 5 = .ok (.aload_n 0, 1) := by decide +kernel
theorem d_r_strongly_6 : decode b_r_strongly 6 = .ok (.aload_n 0, 1) := by decide +kernel
theorem d_r_strongly_7 : decode b_r_strongly 7 = .ok (.iload_n 1, 1) := by decide +kernel
theorem d_r_strongly_8 : decode b_r_strongly 8 = .ok (.invokevirtual 61, 3) := by decide +kernel
theorem d_r_strongly_11 : decode b_r_strongly 11 = .ok (.ifCond .eq 11, 3) := by decide +kernel
theorem d_r_strongly_14 : decode b_r_strongly 14 = .ok (.aload_n 0, 1) := by decide +kernel
theorem d_r_strongly_15 : decode b_r_strongly 15 = .ok (.iload_n 2, 1) := by decide +kernel
theorem d_r_strongly_16 : decode b_r_strongly 16 = .ok (.invokevirtual 61, 3) := by decide +kernel
theorem d_r_strongly_19 : decode b_r_strongly 19 = .ok (.ifCond .ne 7, 3) := by decide +kernel
theorem d_r_strongly_22 : decode b_r_strongly 22 = .ok (.iconst 1, 1) := by decide +kernel
theorem d_r_strongly_23 : decode b_r_strongly 23 = .ok (.goto 4, 3) := by decide +kernel
theorem d_r_strongly_26 : decode b_r_strongly 26 = .ok (.iconst 0, 1) := by decide +kernel
theorem d_r_strongly_27 : decode b_r_strongly 27 = .ok (.iconst 1, 1) := by decide +kernel
theorem d_r_strongly_28 : decode b_r_strongly 28 = .ok (.invokevirtual 54, 3) := by decide +kernel
theorem d_r_strongly_31 : decode b_r_strongly 31 = .ok (.ifCond .ne 16, 3) := by decide +kernel
theorem d_r_strongly_34 : decode b_r_strongly 34 = .ok (.aload_n 0, 1) := by decide +kernel
theorem d_r_strongly_35 : decode b_r_strongly 35 = .ok (.iload_n 1, 1) := by decide +kernel
theorem d_r_strongly_36 : decode b_r_strongly 36 = .ok (.iload_n 2, 1) := by decide +kernel
theorem d_r_strongly_37 : decode b_r_strongly 37 = .ok (.invokevirtual 81, 3) := by decide +kernel
theorem d_r_strongly_40 : decode b_r_strongly 40 = .ok (.ifCond .eq 7, 3) := by decide +kernel
theorem d_r_strongly_43 : decode b_r_strongly 43 = .ok (.iconst 1, 1) := by decide +kernel
theorem d_r_strongly_44 : decode b_r_strongly 44 = .ok (.goto 4, 3) := by decide +kernel
theorem d_r_strongly_47 : decode b_r_strongly 47 = .ok (.iconst 0, 1) := by decide +kernel
theorem d_r_strongly_48 : decode b_r_strongly 48 = .ok (.ireturn, 1) := by decide +kernel
theorem d_r_round_0 : decode b_r_round 0 = .ok (.aload_n 0, 1) := by decide +kernel
theorem d_r_round_1 : decode b_r_round 1 = .ok (.iconst 0, 1) := by decide +kernel
theorem d_r_round_2 : decode b_r_round 2 = .ok (.putfield 36, 3) := by decide +kernel
theorem d_r_round_5 : decode b_r_round 5 = .ok (.aload_n 0, 1) := by decide +kernel
theorem d_r_round_6 : decode b_r_round 6 = .ok (.aload_n 0, 1) := by decide +kernel
theorem d_r_round_7 : decode b_r_round 7 = .ok (.iload_n 1, 1) := by decide +kernel
theorem d_r_round_8 : decode b_r_round 8 = .ok (.invokevirtual 61, 3) := by decide +kernel
theorem d_r_round_11 : decode b_r_round 11 = .ok (.ifCond .ne 7, 3) := by decide +kernel
theorem d_r_round_14 : decode b_r_round 14 = .ok (.iconst 1, 1) := by decide +kernel
theorem d_r_round_15 : decode b_r_round 15 = .ok (.goto 4, 3) := by decide +kernel
theorem d_r_round_18 : decode b_r_round 18 = .ok (.iconst 0, 1) := by decide +kernel
theorem d_r_round_19 : decode b_r_round 19 = .ok (.iconst 1, 1) := by decide +kernel
theorem d_r_round_20 : decode b_r_round 20 = .ok (.invokevirtual 54, 3) := by decide +kernel
theorem d_r_round_23 : decode b_r_round 23 = .ok (.ifCond .eq 7, 3) := by decide +kernel
theorem d_r_round_26 : decode b_r_round 26 = .ok (.iconst 0, 1) := by decide +kernel
theorem d_r_round_27 : decode b_r_round 27 = .ok (.goto 9, 3) := by decide +kernel
theorem d_r_round_30 : decode b_r_round 30 = .ok (.aload_n 0, 1) := by decide +kernel
theorem d_r_round_31 : decode b_r_round 31 = .ok (.getfield 23, 3) := by decide +kernel
theorem d_r_round_34 : decode b_r_round 34 = .ok (.iload_n 1, 1) := by decide +kernel
theorem d_r_round_35 : decode b_r_round 35 = .ok (.iaload, 1) := by decide +kernel
theorem d_r_round_36 : decode b_r_round 36 = .ok (.ireturn, 1) := by decide +kernel
theorem d_r_witness_0 : decode b_r_witness 0 = .ok (.aload_n 0, 1) := by decide +kernel
theorem d_r_witness_1 : decode b_r_witness 1 = .ok (.iconst 0, 1) := by decide +kernel
theorem d_r_witness_2 : decode b_r_witness 2 = .ok (.putfield 36, 3) := by decide +kernel
theorem d_r_witness_5 : decode b_r_witness 5 = .ok (.aload_n 0, 1) := by decide +kernel
theorem d_r_witness_6 : decode b_r_witness 6 = .ok (.aload_n 0, 1) := by decide +kernel
theorem d_r_witness_7 : decode b_r_witness 7 = .ok (.iload_n 1, 1) := by decide +kernel
theorem d_r_witness_8 : decode b_r_witness 8 = .ok (.invokevirtual 61, 3) := by decide +kernel
theorem d_r_witness_11 : decode b_r_witness 11 = .ok (.ifCond .ne 7, 3) := by decide +kernel
theorem d_r_witness_14 : decode b_r_witness 14 = .ok (.iconst 1, 1) := by decide +kernel
theorem d_r_witness_15 : decode b_r_witness 15 = .ok (.goto 4, 3) := by decide +kernel
theorem d_r_witness_18 : decode b_r_witness 18 = .ok (.iconst 0, 1) := by decide +kernel
theorem d_r_witness_19 : decode b_r_witness 19 = .ok (.iconst 1, 1) := by decide +kernel
theorem d_r_witness_20 : decode b_r_witness 20 = .ok (.invokevirtual 54, 3) := by decide +kernel
theorem d_r_witness_23 : decode b_r_witness 23 = .ok (.ifCond .ne 15, 3) := by decide +kernel
theorem d_r_witness_26 : decode b_r_witness 26 = .ok (.aload_n 0, 1) := by decide +kernel
theorem d_r_witness_27 : decode b_r_witness 27 = .ok (.iload_n 1, 1) := by decide +kernel
theorem d_r_witness_28 : decode b_r_witness 28 = .ok (.invokevirtual 78, 3) := by decide +kernel
theorem d_r_witness_31 : decode b_r_witness 31 = .ok (.ifCond .eq 7, 3) := by decide +kernel
theorem d_r_witness_34 : decode b_r_witness 34 = .ok (.iconst 1, 1) := by decide +kernel
theorem d_r_witness_35 : decode b_r_witness 35 = .ok (.goto 4, 3) := by decide +kernel
theorem d_r_witness_38 : decode b_r_witness 38 = .ok (.iconst 0, 1) := by decide +kernel
theorem d_r_witness_39 : decode b_r_witness 39 = .ok (.ireturn, 1) := by decide +kernel
theorem d_r_count_0 : decode b_r_count 0 = .ok (.aload_n 0, 1) := by decide +kernel
theorem d_r_count_1 : decode b_r_count 1 = .ok (.iconst 0, 1) := by decide +kernel
theorem d_r_count_2 : decode b_r_count 2 = .ok (.putfield 36, 3) := by decide +kernel
theorem d_r_count_5 : decode b_r_count 5 = .ok (.aload_n 0, 1) := by decide +kernel
theorem d_r_count_6 : decode b_r_count 6 = .ok (.iload_n 1, 1) := by decide +kernel
theorem d_r_count_7 : decode b_r_count 7 = .ok (.i2l, 1) := by decide +kernel
theorem d_r_count_8 : decode b_r_count 8 = .ok (.lconst 0, 1) := by decide +kernel
theorem d_r_count_9 : decode b_r_count 9 = .ok (.ldc2_w 90, 3) := by decide +kernel
theorem d_r_count_12 : decode b_r_count 12 = .ok (.invokestatic 42, 3) := by decide +kernel
theorem d_r_count_15 : decode b_r_count 15 = .ok (.ifCond .ne 7, 3) := by decide +kernel
theorem d_r_count_18 : decode b_r_count 18 = .ok (.iconst 1, 1) := by decide +kernel
theorem d_r_count_19 : decode b_r_count 19 = .ok (.goto 4, 3) := by decide +kernel
theorem d_r_count_22 : decode b_r_count 22 = .ok (.iconst 0, 1) := by decide +kernel
theorem d_r_count_23 : decode b_r_count 23 = .ok (.iconst 1, 1) := by decide +kernel
theorem d_r_count_24 : decode b_r_count 24 = .ok (.invokevirtual 54, 3) := by decide +kernel
theorem d_r_count_27 : decode b_r_count 27 = .ok (.ifCond .eq 5, 3) := by decide +kernel
theorem d_r_count_30 : decode b_r_count 30 = .ok (.iconst 0, 1) := by decide +kernel
theorem d_r_count_31 : decode b_r_count 31 = .ok (.ireturn, 1) := by decide +kernel
theorem d_r_count_32 : decode b_r_count 32 = .ok (.iload_n 1, 1) := by decide +kernel
theorem d_r_count_33 : decode b_r_count 33 = .ok (.iconst 2, 1) := by decide +kernel
theorem d_r_count_34 : decode b_r_count 34 = .ok (.if_icmp .ge 19, 3) := by decide +kernel
theorem d_r_count_37 : decode b_r_count 37 = .ok (.iload_n 1, 1) := by decide +kernel
theorem d_r_count_38 : decode b_r_count 38 = .ok (.ifCond .ne 10, 3) := by decide +kernel
theorem d_r_count_41 : decode b_r_count 41 = .ok (.aload_n 0, 1) := by decide +kernel
theorem d_r_count_42 : decode b_r_count 42 = .ok (.getfield 39, 3) := by decide +kernel
theorem d_r_count_45 : decode b_r_count 45 = .ok (.goto 7, 3) := by decide +kernel
theorem d_r_count_48 : decode b_r_count 48 = .ok (.aload_n 0, 1) := by decide +kernel
theorem d_r_count_49 : decode b_r_count 49 = .ok (.getfield 7, 3) := by decide +kernel
theorem d_r_count_52 : decode b_r_count 52 = .ok (.ireturn, 1) := by decide +kernel
theorem d_r_count_53 : decode b_r_count 53 = .ok (.iconst 0, 1) := by decide +kernel
theorem d_r_count_54 : decode b_r_count 54 = .ok (.istore_n 2, 1) := by decide +kernel
theorem d_r_count_55 : decode b_r_count 55 = .ok (.iload_n 1, 1) := by decide +kernel
theorem d_r_count_56 : decode b_r_count 56 = .ok (.iconst 3, 1) := by decide +kernel
theorem d_r_count_57 : decode b_r_count 57 = .ok (.if_icmp .ne 32, 3) := by decide +kernel
theorem d_r_count_60 : decode b_r_count 60 = .ok (.iconst 0, 1) := by decide +kernel
theorem d_r_count_61 : decode b_r_count 61 = .ok (.istore_n 3, 1) := by decide +kernel
theorem d_r_count_62 : decode b_r_count 62 = .ok (.iload_n 3, 1) := by decide +kernel
theorem d_r_count_63 : decode b_r_count 63 = .ok (.aload_n 0, 1) := by decide +kernel
theorem d_r_count_64 : decode b_r_count 64 = .ok (.getfield 39, 3) := by decide +kernel
theorem d_r_count_67 : decode b_r_count 67 = .ok (.if_icmp .ge 20, 3) := by decide +kernel
theorem d_r_count_70 : decode b_r_count 70 = .ok (.iload_n 2, 1) := by decide +kernel
theorem d_r_count_71 : decode b_r_count 71 = .ok (.aload_n 0, 1) := by decide +kernel
theorem d_r_count_72 : decode b_r_count 72 = .ok (.getfield 23, 3) := by decide +kernel
theorem d_r_count_75 : decode b_r_count 75 = .ok (.iload_n 3, 1) := by decide +kernel
theorem d_r_count_76 : decode b_r_count 76 = .ok (.iaload, 1) := by decide +kernel
theorem d_r_count_77 : decode b_r_count 77 = .ok (.invokestatic 72, 3) := by decide +kernel
theorem d_r_count_80 : decode b_r_count 80 = .ok (.istore_n 2, 1) := by decide +kernel
theorem d_r_count_81 : decode b_r_count 81 = .ok (.iinc 3 1, 3) := by decide +kernel
theorem d_r_count_84 : decode b_r_count 84 = .ok (.goto (-22), 3) := by decide +kernel
theorem d_r_count_87 : decode b_r_count 87 = .ok (.iload_n 2, 1) := by decide +kernel
theorem d_r_count_88 : decode b_r_count 88 = .ok (.ireturn, 1) := by decide +kernel
theorem d_r_count_89 : decode b_r_count 89 = .ok (.iconst 0, 1) := by decide +kernel
theorem d_r_count_90 : decode b_r_count 90 = .ok (.istore_n 3, 1) := by decide +kernel
theorem d_r_count_91 : decode b_r_count 91 = .ok (.iload_n 3, 1) := by decide +kernel
theorem d_r_count_92 : decode b_r_count 92 = .ok (.aload_n 0, 1) := by decide +kernel
theorem d_r_count_93 : decode b_r_count 93 = .ok (.getfield 7, 3) := by decide +kernel
theorem d_r_count_96 : decode b_r_count 96 = .ok (.if_icmp .ge 93, 3) := by decide +kernel
theorem d_r_count_99 : decode b_r_count 99 = .ok (.iconst 0, 1) := by decide +kernel
theorem d_r_count_100 : decode b_r_count 100 = .ok (.istore 4, 2) := by decide +kernel
theorem d_r_count_102 : decode b_r_count 102 = .ok (.iconst 0, 1) := by decide +kernel
theorem d_r_count_103 : decode b_r_count 103 = .ok (.istore 5, 2) := by decide +kernel
theorem d_r_count_105 : decode b_r_count 105 = .ok (.iload 5, 2) := by decide +kernel
theorem d_r_count_107 : decode b_r_count 107 = .ok (.aload_n 0, 1) := by decide +kernel
theorem d_r_count_108 : decode b_r_count 108 = .ok (.getfield 39, 3) := by decide +kernel
theorem d_r_count_111 : decode b_r_count 111 = .ok (.if_icmp .ge 64, 3) := by decide +kernel
theorem d_r_count_114 : decode b_r_count 114 = .ok (.iload 4, 2) := by decide +kernel
theorem d_r_count_116 : decode b_r_count 116 = .ok (.ifCond .ne 59, 3) := by decide +kernel
theorem d_r_count_119 : decode b_r_count 119 = .ok (.iconst 0, 1) := by decide +kernel
theorem d_r_count_120 : decode b_r_count 120 = .ok (.istore 6, 2) := by decide +kernel
theorem d_r_count_122 : decode b_r_count 122 = .ok (.iload 6, 2) := by decide +kernel
theorem d_r_count_124 : decode b_r_count 124 = .ok (.iload 5, 2) := by decide +kernel
theorem d_r_count_126 : decode b_r_count 126 = .ok (.if_icmp .ge 43, 3) := by decide +kernel
theorem d_r_count_129 : decode b_r_count 129 = .ok (.iload 4, 2) := by decide +kernel
theorem d_r_count_131 : decode b_r_count 131 = .ok (.ifCond .ne 38, 3) := by decide +kernel
theorem d_r_count_134 : decode b_r_count 134 = .ok (.aload_n 0, 1) := by decide +kernel
theorem d_r_count_135 : decode b_r_count 135 = .ok (.getfield 13, 3) := by decide +kernel
theorem d_r_count_138 : decode b_r_count 138 = .ok (.iload 5, 2) := by decide +kernel
theorem d_r_count_140 : decode b_r_count 140 = .ok (.iaload, 1) := by decide +kernel
theorem d_r_count_141 : decode b_r_count 141 = .ok (.iload_n 3, 1) := by decide +kernel
theorem d_r_count_142 : decode b_r_count 142 = .ok (.if_icmp .ne 18, 3) := by decide +kernel
theorem d_r_count_145 : decode b_r_count 145 = .ok (.aload_n 0, 1) := by decide +kernel
theorem d_r_count_146 : decode b_r_count 146 = .ok (.iload 5, 2) := by decide +kernel
theorem d_r_count_148 : decode b_r_count 148 = .ok (.iload 6, 2) := by decide +kernel
theorem d_r_count_150 : decode b_r_count 150 = .ok (.invokevirtual 69, 3) := by decide +kernel
theorem d_r_count_153 : decode b_r_count 153 = .ok (.ifCond .eq 7, 3) := by decide +kernel
theorem d_r_count_156 : decode b_r_count 156 = .ok (.iconst 1, 1) := by decide +kernel
theorem d_r_count_157 : decode b_r_count 157 = .ok (.goto 4, 3) := by decide +kernel
theorem d_r_count_160 : decode b_r_count 160 = .ok (.iconst 0, 1) := by decide +kernel
theorem d_r_count_161 : decode b_r_count 161 = .ok (.istore 4, 2) := by decide +kernel
theorem d_r_count_163 : decode b_r_count 163 = .ok (.iinc 6 1, 3) := by decide +kernel
theorem d_r_count_166 : decode b_r_count 166 = .ok (.goto (-44), 3) := by decide +kernel
theorem d_r_count_169 : decode b_r_count 169 = .ok (.iinc 5 1, 3) := by decide +kernel
theorem d_r_count_172 : decode b_r_count 172 = .ok (.goto (-67), 3) := by decide +kernel
theorem d_r_count_175 : decode b_r_count 175 = .ok (.iload 4, 2) := by decide +kernel
theorem d_r_count_177 : decode b_r_count 177 = .ok (.ifCond .eq 6, 3) := by decide +kernel
theorem d_r_count_180 : decode b_r_count 180 = .ok (.iinc 2 1, 3) := by decide +kernel
theorem d_r_count_183 : decode b_r_count 183 = .ok (.iinc 3 1, 3) := by decide +kernel
theorem d_r_count_186 : decode b_r_count 186 = .ok (.goto (-95), 3) := by decide +kernel
theorem d_r_count_189 : decode b_r_count 189 = .ok (.iload_n 2, 1) := by decide +kernel
theorem d_r_count_190 : decode b_r_count 190 = .ok (.ireturn, 1) := by decide +kernel
theorem d_j_bitCount_0 : decode b_j_bitCount 0 = .ok (.iload_n 0, 1) := by decide +kernel
theorem d_j_bitCount_1 : decode b_j_bitCount 1 = .ok (.iload_n 0, 1) := by decide +kernel
theorem d_j_bitCount_2 : decode b_j_bitCount 2 = .ok (.iconst 1, 1) := by decide +kernel
theorem d_j_bitCount_3 : decode b_j_bitCount 3 = .ok (.iushr, 1) := by decide +kernel
theorem d_j_bitCount_4 : decode b_j_bitCount 4 = .ok (.ldc_w 265, 3) := by decide +kernel
theorem d_j_bitCount_7 : decode b_j_bitCount 7 = .ok (.iand, 1) := by decide +kernel
theorem d_j_bitCount_8 : decode b_j_bitCount 8 = .ok (.isub, 1) := by decide +kernel
theorem d_j_bitCount_9 : decode b_j_bitCount 9 = .ok (.istore_n 0, 1) := by decide +kernel
theorem d_j_bitCount_10 : decode b_j_bitCount 10 = .ok (.iload_n 0, 1) := by decide +kernel
theorem d_j_bitCount_11 : decode b_j_bitCount 11 = .ok (.ldc_w 266, 3) := by decide +kernel
theorem d_j_bitCount_14 : decode b_j_bitCount 14 = .ok (.iand, 1) := by decide +kernel
theorem d_j_bitCount_15 : decode b_j_bitCount 15 = .ok (.iload_n 0, 1) := by decide +kernel
theorem d_j_bitCount_16 : decode b_j_bitCount 16 = .ok (.iconst 2, 1) := by decide +kernel
theorem d_j_bitCount_17 : decode b_j_bitCount 17 = .ok (.iushr, 1) := by decide +kernel
theorem d_j_bitCount_18 : decode b_j_bitCount 18 = .ok (.ldc_w 266, 3) := by decide +kernel
theorem d_j_bitCount_21 : decode b_j_bitCount 21 = .ok (.iand, 1) := by decide +kernel
theorem d_j_bitCount_22 : decode b_j_bitCount 22 = .ok (.iadd, 1) := by decide +kernel
theorem d_j_bitCount_23 : decode b_j_bitCount 23 = .ok (.istore_n 0, 1) := by decide +kernel
theorem d_j_bitCount_24 : decode b_j_bitCount 24 = .ok (.iload_n 0, 1) := by decide +kernel
theorem d_j_bitCount_25 : decode b_j_bitCount 25 = .ok (.iload_n 0, 1) := by decide +kernel
theorem d_j_bitCount_26 : decode b_j_bitCount 26 = .ok (.iconst 4, 1) := by decide +kernel
theorem d_j_bitCount_27 : decode b_j_bitCount 27 = .ok (.iushr, 1) := by decide +kernel
theorem d_j_bitCount_28 : decode b_j_bitCount 28 = .ok (.iadd, 1) := by decide +kernel
theorem d_j_bitCount_29 : decode b_j_bitCount 29 = .ok (.ldc_w 267, 3) := by decide +kernel
theorem d_j_bitCount_32 : decode b_j_bitCount 32 = .ok (.iand, 1) := by decide +kernel
theorem d_j_bitCount_33 : decode b_j_bitCount 33 = .ok (.istore_n 0, 1) := by decide +kernel
theorem d_j_bitCount_34 : decode b_j_bitCount 34 = .ok (.iload_n 0, 1) := by decide +kernel
theorem d_j_bitCount_35 : decode b_j_bitCount 35 = .ok (.iload_n 0, 1) := by decide +kernel
theorem d_j_bitCount_36 : decode b_j_bitCount 36 = .ok (.bipush 8, 2) := by decide +kernel
theorem d_j_bitCount_38 : decode b_j_bitCount 38 = .ok (.iushr, 1) := by decide +kernel
theorem d_j_bitCount_39 : decode b_j_bitCount 39 = .ok (.iadd, 1) := by decide +kernel
theorem d_j_bitCount_40 : decode b_j_bitCount 40 = .ok (.istore_n 0, 1) := by decide +kernel
theorem d_j_bitCount_41 : decode b_j_bitCount 41 = .ok (.iload_n 0, 1) := by decide +kernel
theorem d_j_bitCount_42 : decode b_j_bitCount 42 = .ok (.iload_n 0, 1) := by decide +kernel
theorem d_j_bitCount_43 : decode b_j_bitCount 43 = .ok (.bipush 16, 2) := by decide +kernel
theorem d_j_bitCount_45 : decode b_j_bitCount 45 = .ok (.iushr, 1) := by decide +kernel
theorem d_j_bitCount_46 : decode b_j_bitCount 46 = .ok (.iadd, 1) := by decide +kernel
theorem d_j_bitCount_47 : decode b_j_bitCount 47 = .ok (.istore_n 0, 1) := by decide +kernel
theorem d_j_bitCount_48 : decode b_j_bitCount 48 = .ok (.iload_n 0, 1) := by decide +kernel
theorem d_j_bitCount_49 : decode b_j_bitCount 49 = .ok (.bipush 63, 2) := by decide +kernel
theorem d_j_bitCount_51 : decode b_j_bitCount 51 = .ok (.iand, 1) := by decide +kernel
theorem d_j_bitCount_52 : decode b_j_bitCount 52 = .ok (.ireturn, 1) := by decide +kernel
end
section
theorem d_l_begin_0 : decode b_l_begin 0 = .ok (.aload_n 0, 1) := by decide +kernel
theorem d_l_begin_1 : decode b_l_begin 1 = .ok (.iload_n 1, 1) := by decide +kernel
theorem d_l_begin_2 : decode b_l_begin 2 = .ok (.invokevirtual 7, 3) := by decide +kernel
theorem d_l_begin_5 : decode b_l_begin 5 = .ok (.goto 6, 3) := by decide +kernel
theorem d_l_begin_8 : decode b_l_begin 8 = .ok (.astore_n 2, 1) := by decide +kernel
theorem d_l_begin_9 : decode b_l_begin 9 = .ok (.iconst 1, 1) := by decide +kernel
theorem d_l_begin_10 : decode b_l_begin 10 = .ok (.ireturn, 1) := by decide +kernel
theorem d_l_begin_11 : decode b_l_begin 11 = .ok (.iconst 0, 1) := by decide +kernel
theorem d_l_begin_12 : decode b_l_begin 12 = .ok (.ireturn, 1) := by decide +kernel
theorem d_l_event_0 : decode b_l_event 0 = .ok (.aload 4, 2) := by decide +kernel
theorem d_l_event_2 : decode b_l_event 2 = .ok (.iconst 0, 1) := by decide +kernel
theorem d_l_event_3 : decode b_l_event 3 = .ok (.aload_n 0, 1) := by decide +kernel
theorem d_l_event_4 : decode b_l_event 4 = .ok (.iload_n 1, 1) := by decide +kernel
theorem d_l_event_5 : decode b_l_event 5 = .ok (.iload_n 2, 1) := by decide +kernel
theorem d_l_event_6 : decode b_l_event 6 = .ok (.iload_n 3, 1) := by decide +kernel
theorem d_l_event_7 : decode b_l_event 7 = .ok (.invokevirtual 15, 3) := by decide +kernel
theorem d_l_event_10 : decode b_l_event 10 = .ok (.i2l, 1) := by decide +kernel
theorem d_l_event_11 : decode b_l_event 11 = .ok (.lastore, 1) := by decide +kernel
theorem d_l_event_12 : decode b_l_event 12 = .ok (.goto 11, 3) := by decide +kernel
theorem d_l_event_15 : decode b_l_event 15 = .ok (.astore 5, 2) := by decide +kernel
theorem d_l_event_17 : decode b_l_event 17 = .ok (.iconst 1, 1) := by decide +kernel
theorem d_l_event_18 : decode b_l_event 18 = .ok (.ireturn, 1) := by decide +kernel
theorem d_l_event_19 : decode b_l_event 19 = .ok (.astore 5, 2) := by decide +kernel
theorem d_l_event_21 : decode b_l_event 21 = .ok (.iconst 2, 1) := by decide +kernel
theorem d_l_event_22 : decode b_l_event 22 = .ok (.ireturn, 1) := by decide +kernel
theorem d_l_event_23 : decode b_l_event 23 = .ok (.iconst 0, 1) := by decide +kernel
theorem d_l_event_24 : decode b_l_event 24 = .ok (.ireturn, 1) := by decide +kernel
theorem d_l_ancestor_0 : decode b_l_ancestor 0 = .ok (.aload_n 3, 1) := by decide +kernel
theorem d_l_ancestor_1 : decode b_l_ancestor 1 = .ok (.iconst 0, 1) := by decide +kernel
theorem d_l_ancestor_2 : decode b_l_ancestor 2 = .ok (.aload_n 0, 1) := by decide +kernel
theorem d_l_ancestor_3 : decode b_l_ancestor 3 = .ok (.iload_n 1, 1) := by decide +kernel
theorem d_l_ancestor_4 : decode b_l_ancestor 4 = .ok (.iload_n 2, 1) := by decide +kernel
theorem d_l_ancestor_5 : decode b_l_ancestor 5 = .ok (.invokevirtual 21, 3) := by decide +kernel
theorem d_l_ancestor_8 : decode b_l_ancestor 8 = .ok (.ifCond .eq 7, 3) := by decide +kernel
theorem d_l_ancestor_11 : decode b_l_ancestor 11 = .ok (.lconst 1, 1) := by decide +kernel
theorem d_l_ancestor_12 : decode b_l_ancestor 12 = .ok (.goto 4, 3) := by decide +kernel
theorem d_l_ancestor_15 : decode b_l_ancestor 15 = .ok (.lconst 0, 1) := by decide +kernel
theorem d_l_ancestor_16 : decode b_l_ancestor 16 = .ok (.lastore, 1) := by decide +kernel
theorem d_l_ancestor_17 : decode b_l_ancestor 17 = .ok (.goto 7, 3) := by decide +kernel
theorem d_l_ancestor_20 : decode b_l_ancestor 20 = .ok (.astore 4, 2) := by decide +kernel
theorem d_l_ancestor_22 : decode b_l_ancestor 22 = .ok (.iconst 1, 1) := by decide +kernel
theorem d_l_ancestor_23 : decode b_l_ancestor 23 = .ok (.ireturn, 1) := by decide +kernel
theorem d_l_ancestor_24 : decode b_l_ancestor 24 = .ok (.iconst 0, 1) := by decide +kernel
theorem d_l_ancestor_25 : decode b_l_ancestor 25 = .ok (.ireturn, 1) := by decide +kernel
theorem d_l_own_0 : decode b_l_own 0 = .ok (.aload_n 3, 1) := by decide +kernel
theorem d_l_own_1 : decode b_l_own 1 = .ok (.iconst 0, 1) := by decide +kernel
theorem d_l_own_2 : decode b_l_own 2 = .ok (.aload_n 0, 1) := by decide +kernel
theorem d_l_own_3 : decode b_l_own 3 = .ok (.iload_n 1, 1) := by decide +kernel
theorem d_l_own_4 : decode b_l_own 4 = .ok (.iload_n 2, 1) := by decide +kernel
theorem d_l_own_5 : decode b_l_own 5 = .ok (.invokevirtual 25, 3) := by decide +kernel
theorem d_l_own_8 : decode b_l_own 8 = .ok (.ifCond .eq 7, 3) := by decide +kernel
theorem d_l_own_11 : decode b_l_own 11 = .ok (.lconst 1, 1) := by decide +kernel
theorem d_l_own_12 : decode b_l_own 12 = .ok (.goto 4, 3) := by decide +kernel
theorem d_l_own_15 : decode b_l_own 15 = .ok (.lconst 0, 1) := by decide +kernel
theorem d_l_own_16 : decode b_l_own 16 = .ok (.lastore, 1) := by decide +kernel
theorem d_l_own_17 : decode b_l_own 17 = .ok (.goto 7, 3) := by decide +kernel
theorem d_l_own_20 : decode b_l_own 20 = .ok (.astore 4, 2) := by decide +kernel
theorem d_l_own_22 : decode b_l_own 22 = .ok (.iconst 1, 1) := by decide +kernel
theorem d_l_own_23 : decode b_l_own 23 = .ok (.ireturn, 1) := by decide +kernel
theorem d_l_own_24 : decode b_l_own 24 = .ok (.iconst 0, 1) := by decide +kernel
theorem d_l_own_25 : decode b_l_own 25 = .ok (.ireturn, 1) := by decide +kernel
theorem d_l_forked_0 : decode b_l_forked 0 = .ok (.aload_n 3, 1) := by decide +kernel
theorem d_l_forked_1 : decode b_l_forked 1 = .ok (.iconst 0, 1) := by decide +kernel
theorem d_l_forked_2 : decode b_l_forked 2 = .ok (.aload_n 0, 1) := by decide +kernel
theorem d_l_forked_3 : decode b_l_forked 3 = .ok (.iload_n 1, 1) := by decide +kernel
theorem d_l_forked_4 : decode b_l_forked 4 = .ok (.iload_n 2, 1) := by decide +kernel
theorem d_l_forked_5 : decode b_l_forked 5 = .ok (.invokevirtual 28, 3) := by decide +kernel
theorem d_l_forked_8 : decode b_l_forked 8 = .ok (.ifCond .eq 7, 3) := by decide +kernel
theorem d_l_forked_11 : decode b_l_forked 11 = .ok (.lconst 1, 1) := by decide +kernel
theorem d_l_forked_12 : decode b_l_forked 12 = .ok (.goto 4, 3) := by decide +kernel
theorem d_l_forked_15 : decode b_l_forked 15 = .ok (.lconst 0, 1) := by decide +kernel
theorem d_l_forked_16 : decode b_l_forked 16 = .ok (.lastore, 1) := by decide +kernel
theorem d_l_forked_17 : decode b_l_forked 17 = .ok (.goto 11, 3) := by decide +kernel
theorem d_l_forked_20 : decode b_l_forked 20 = .ok (.astore 4, 2) := by decide +kernel
theorem d_l_forked_22 : decode b_l_forked 22 = .ok (.iconst 1, 1) := by decide +kernel
theorem d_l_forked_23 : decode b_l_forked 23 = .ok (.ireturn, 1) := by decide +kernel
theorem d_l_forked_24 : decode b_l_forked 24 = .ok (.astore 4, 2) := by decide +kernel
theorem d_l_forked_26 : decode b_l_forked 26 = .ok (.iconst 2, 1) := by decide +kernel
theorem d_l_forked_27 : decode b_l_forked 27 = .ok (.ireturn, 1) := by decide +kernel
theorem d_l_forked_28 : decode b_l_forked 28 = .ok (.iconst 0, 1) := by decide +kernel
theorem d_l_forked_29 : decode b_l_forked 29 = .ok (.ireturn, 1) := by decide +kernel
theorem d_l_sees_0 : decode b_l_sees 0 = .ok (.aload_n 3, 1) := by decide +kernel
theorem d_l_sees_1 : decode b_l_sees 1 = .ok (.iconst 0, 1) := by decide +kernel
theorem d_l_sees_2 : decode b_l_sees 2 = .ok (.aload_n 0, 1) := by decide +kernel
theorem d_l_sees_3 : decode b_l_sees 3 = .ok (.iload_n 1, 1) := by decide +kernel
theorem d_l_sees_4 : decode b_l_sees 4 = .ok (.iload_n 2, 1) := by decide +kernel
theorem d_l_sees_5 : decode b_l_sees 5 = .ok (.invokevirtual 31, 3) := by decide +kernel
theorem d_l_sees_8 : decode b_l_sees 8 = .ok (.ifCond .eq 7, 3) := by decide +kernel
theorem d_l_sees_11 : decode b_l_sees 11 = .ok (.lconst 1, 1) := by decide +kernel
theorem d_l_sees_12 : decode b_l_sees 12 = .ok (.goto 4, 3) := by decide +kernel
theorem d_l_sees_15 : decode b_l_sees 15 = .ok (.lconst 0, 1) := by decide +kernel
theorem d_l_sees_16 : decode b_l_sees 16 = .ok (.lastore, 1) := by decide +kernel
theorem d_l_sees_17 : decode b_l_sees 17 = .ok (.goto 7, 3) := by decide +kernel
theorem d_l_sees_20 : decode b_l_sees 20 = .ok (.astore 4, 2) := by decide +kernel
theorem d_l_sees_22 : decode b_l_sees 22 = .ok (.iconst 1, 1) := by decide +kernel
theorem d_l_sees_23 : decode b_l_sees 23 = .ok (.ireturn, 1) := by decide +kernel
theorem d_l_sees_24 : decode b_l_sees 24 = .ok (.iconst 0, 1) := by decide +kernel
theorem d_l_sees_25 : decode b_l_sees 25 = .ok (.ireturn, 1) := by decide +kernel
theorem d_l_strength_0 : decode b_l_strength 0 = .ok (.aload_n 3, 1) := by decide +kernel
theorem d_l_strength_1 : decode b_l_strength 1 = .ok (.iconst 0, 1) := by decide +kernel
theorem d_l_strength_2 : decode b_l_strength 2 = .ok (.aload_n 0, 1) := by decide +kernel
theorem d_l_strength_3 : decode b_l_strength 3 = .ok (.iload_n 1, 1) := by decide +kernel
theorem d_l_strength_4 : decode b_l_strength 4 = .ok (.iload_n 2, 1) := by decide +kernel
theorem d_l_strength_5 : decode b_l_strength 5 = .ok (.invokevirtual 34, 3) := by decide +kernel
theorem d_l_strength_8 : decode b_l_strength 8 = .ok (.i2l, 1) := by decide +kernel
theorem d_l_strength_9 : decode b_l_strength 9 = .ok (.lastore, 1) := by decide +kernel
theorem d_l_strength_10 : decode b_l_strength 10 = .ok (.goto 7, 3) := by decide +kernel
theorem d_l_strength_13 : decode b_l_strength 13 = .ok (.astore 4, 2) := by decide +kernel
theorem d_l_strength_15 : decode b_l_strength 15 = .ok (.iconst 1, 1) := by decide +kernel
theorem d_l_strength_16 : decode b_l_strength 16 = .ok (.ireturn, 1) := by decide +kernel
theorem d_l_strength_17 : decode b_l_strength 17 = .ok (.iconst 0, 1) := by decide +kernel
theorem d_l_strength_18 : decode b_l_strength 18 = .ok (.ireturn, 1) := by decide +kernel
theorem d_l_strongly_0 : decode b_l_strongly 0 = .ok (.aload_n 3, 1) := by decide +kernel
theorem d_l_strongly_1 : decode b_l_strongly 1 = .ok (.iconst 0, 1) := by decide +kernel
theorem d_l_strongly_2 : decode b_l_strongly 2 = .ok (.aload_n 0, 1) := by decide +kernel
theorem d_l_strongly_3 : decode b_l_strongly 3 = .ok (.iload_n 1, 1) := by decide +kernel
theorem d_l_strongly_4 : decode b_l_strongly 4 = .ok (.iload_n 2, 1) := by decide +kernel
theorem d_l_strongly_5 : decode b_l_strongly 5 = .ok (.invokevirtual 38, 3) := by decide +kernel
theorem d_l_strongly_8 : decode b_l_strongly 8 = .ok (.ifCond .eq 7, 3) := by decide +kernel
theorem d_l_strongly_11 : decode b_l_strongly 11 = .ok (.lconst 1, 1) := by decide +kernel
theorem d_l_strongly_12 : decode b_l_strongly 12 = .ok (.goto 4, 3) := by decide +kernel
theorem d_l_strongly_15 : decode b_l_strongly 15 = .ok (.lconst 0, 1) := by decide +kernel
theorem d_l_strongly_16 : decode b_l_strongly 16 = .ok (.lastore, 1) := by decide +kernel
theorem d_l_strongly_17 : decode b_l_strongly 17 = .ok (.goto 7, 3) := by decide +kernel
theorem d_l_strongly_20 : decode b_l_strongly 20 = .ok (.astore 4, 2) := by decide +kernel
theorem d_l_strongly_22 : decode b_l_strongly 22 = .ok (.iconst 1, 1) := by decide +kernel
theorem d_l_strongly_23 : decode b_l_strongly 23 = .ok (.ireturn, 1) := by decide +kernel
theorem d_l_strongly_24 : decode b_l_strongly 24 = .ok (.iconst 0, 1) := by decide +kernel
theorem d_l_strongly_25 : decode b_l_strongly 25 = .ok (.ireturn, 1) := by decide +kernel
theorem d_l_round_0 : decode b_l_round 0 = .ok (.aload_n 2, 1) := by decide +kernel
theorem d_l_round_1 : decode b_l_round 1 = .ok (.iconst 0, 1) := by decide +kernel
theorem d_l_round_2 : decode b_l_round 2 = .ok (.aload_n 0, 1) := by decide +kernel
theorem d_l_round_3 : decode b_l_round 3 = .ok (.iload_n 1, 1) := by decide +kernel
theorem d_l_round_4 : decode b_l_round 4 = .ok (.invokevirtual 41, 3) := by decide +kernel
theorem d_l_round_7 : decode b_l_round 7 = .ok (.i2l, 1) := by decide +kernel
theorem d_l_round_8 : decode b_l_round 8 = .ok (.lastore, 1) := by decide +kernel
theorem d_l_round_9 : decode b_l_round 9 = .ok (.goto 6, 3) := by decide +kernel
theorem d_l_round_12 : decode b_l_round 12 = .ok (.astore_n 3, 1) := by decide +kernel
theorem d_l_round_13 : decode b_l_round 13 = .ok (.iconst 1, 1) := by decide +kernel
theorem d_l_round_14 : decode b_l_round 14 = .ok (.ireturn, 1) := by decide +kernel
theorem d_l_round_15 : decode b_l_round 15 = .ok (.iconst 0, 1) := by decide +kernel
theorem d_l_round_16 : decode b_l_round 16 = .ok (.ireturn, 1) := by decide +kernel
theorem d_l_witness_0 : decode b_l_witness 0 = .ok (.aload_n 2, 1) := by decide +kernel
theorem d_l_witness_1 : decode b_l_witness 1 = .ok (.iconst 0, 1) := by decide +kernel
theorem d_l_witness_2 : decode b_l_witness 2 = .ok (.aload_n 0, 1) := by decide +kernel
theorem d_l_witness_3 : decode b_l_witness 3 = .ok (.iload_n 1, 1) := by decide +kernel
theorem d_l_witness_4 : decode b_l_witness 4 = .ok (.invokevirtual 45, 3) := by decide +kernel
theorem d_l_witness_7 : decode b_l_witness 7 = .ok (.ifCond .eq 7, 3) := by decide +kernel
theorem d_l_witness_10 : decode b_l_witness 10 = .ok (.lconst 1, 1) := by decide +kernel
theorem d_l_witness_11 : decode b_l_witness 11 = .ok (.goto 4, 3) := by decide +kernel
theorem d_l_witness_14 : decode b_l_witness 14 = .ok (.lconst 0, 1) := by decide +kernel
theorem d_l_witness_15 : decode b_l_witness 15 = .ok (.lastore, 1) := by decide +kernel
theorem d_l_witness_16 : decode b_l_witness 16 = .ok (.goto 6, 3) := by decide +kernel
theorem d_l_witness_19 : decode b_l_witness 19 = .ok (.astore_n 3, 1) := by decide +kernel
theorem d_l_witness_20 : decode b_l_witness 20 = .ok (.iconst 1, 1) := by decide +kernel
theorem d_l_witness_21 : decode b_l_witness 21 = .ok (.ireturn, 1) := by decide +kernel
theorem d_l_witness_22 : decode b_l_witness 22 = .ok (.iconst 0, 1) := by decide +kernel
theorem d_l_witness_23 : decode b_l_witness 23 = .ok (.ireturn, 1) := by decide +kernel
theorem d_l_count_0 : decode b_l_count 0 = .ok (.aload_n 2, 1) := by decide +kernel
theorem d_l_count_1 : decode b_l_count 1 = .ok (.iconst 0, 1) := by decide +kernel
theorem d_l_count_2 : decode b_l_count 2 = .ok (.aload_n 0, 1) := by decide +kernel
theorem d_l_count_3 : decode b_l_count 3 = .ok (.iload_n 1, 1) := by decide +kernel
theorem d_l_count_4 : decode b_l_count 4 = .ok (.invokevirtual 49, 3) := by decide +kernel
theorem d_l_count_7 : decode b_l_count 7 = .ok (.i2l, 1) := by decide +kernel
theorem d_l_count_8 : decode b_l_count 8 = .ok (.lastore, 1) := by decide +kernel
theorem d_l_count_9 : decode b_l_count 9 = .ok (.goto 6, 3) := by decide +kernel
theorem d_l_count_12 : decode b_l_count 12 = .ok (.astore_n 3, 1) := by decide +kernel
theorem d_l_count_13 : decode b_l_count 13 = .ok (.iconst 1, 1) := by decide +kernel
theorem d_l_count_14 : decode b_l_count 14 = .ok (.ireturn, 1) := by decide +kernel
theorem d_l_count_15 : decode b_l_count 15 = .ok (.iconst 0, 1) := by decide +kernel
theorem d_l_count_16 : decode b_l_count 16 = .ok (.ireturn, 1) := by decide +kernel
theorem d_l_law_0 : decode code 0 = .ok (.new 8, 3) := by decide +kernel
theorem d_l_law_3 : decode code 3 = .ok (.dup, 1) := by decide +kernel
theorem d_l_law_4 : decode code 4 = .ok (.invokespecial 52, 3) := by decide +kernel
theorem d_l_law_7 : decode code 7 = .ok (.astore_n 1, 1) := by decide +kernel
theorem d_l_law_8 : decode code 8 = .ok (.new 53, 3) := by decide +kernel
theorem d_l_law_11 : decode code 11 = .ok (.dup, 1) := by decide +kernel
theorem d_l_law_12 : decode code 12 = .ok (.invokespecial 55, 3) := by decide +kernel
theorem d_l_law_15 : decode code 15 = .ok (.astore_n 2, 1) := by decide +kernel
theorem d_l_law_16 : decode code 16 = .ok (.iconst 1, 1) := by decide +kernel
theorem d_l_law_17 : decode code 17 = .ok (.newarray .long, 2) := by decide +kernel
theorem d_l_law_19 : decode code 19 = .ok (.astore_n 3, 1) := by decide +kernel
theorem d_l_law_20 : decode code 20 = .ok (.iconst 0, 1) := by decide +kernel
theorem d_l_law_21 : decode code 21 = .ok (.istore 4, 2) := by decide +kernel
theorem d_l_law_23 : decode code 23 = .ok (.iload 4, 2) := by decide +kernel
theorem d_l_law_25 : decode code 25 = .ok (.aload_n 0, 1) := by decide +kernel
theorem d_l_law_26 : decode code 26 = .ok (.arraylength, 1) := by decide +kernel
theorem d_l_law_27 : decode code 27 = .ok (.iconst 4, 1) := by decide +kernel
theorem d_l_law_28 : decode code 28 = .ok (.isub, 1) := by decide +kernel
theorem d_l_law_29 : decode code 29 = .ok (.if_icmp .gt 807, 3) := by decide +kernel
theorem d_l_law_32 : decode code 32 = .ok (.aload_n 0, 1) := by decide +kernel
theorem d_l_law_33 : decode code 33 = .ok (.iload 4, 2) := by decide +kernel
theorem d_l_law_35 : decode code 35 = .ok (.iaload, 1) := by decide +kernel
theorem d_l_law_36 : decode code 36 = .ok (.bipush 15, 2) := by decide +kernel
theorem d_l_law_38 : decode code 38 = .ok (.iand, 1) := by decide +kernel
theorem d_l_law_39 : decode code 39 = .ok (.tableswitch 791 0 10 #[57, 93, 173, 248, 323, 398, 473, 541, 616, 672, 735], 57) := by decide +kernel
theorem d_l_law_96 : decode code 96 = .ok (.aload_n 1, 1) := by decide +kernel
theorem d_l_law_97 : decode code 97 = .ok (.aload_n 0, 1) := by decide +kernel
theorem d_l_law_98 : decode code 98 = .ok (.iload 4, 2) := by decide +kernel
theorem d_l_law_100 : decode code 100 = .ok (.iconst 1, 1) := by decide +kernel
theorem d_l_law_101 : decode code 101 = .ok (.iadd, 1) := by decide +kernel
theorem d_l_law_102 : decode code 102 = .ok (.iaload, 1) := by decide +kernel
theorem d_l_law_103 : decode code 103 = .ok (.invokestatic 56, 3) := by decide +kernel
theorem d_l_law_106 : decode code 106 = .ok (.istore 5, 2) := by decide +kernel
theorem d_l_law_108 : decode code 108 = .ok (.aload_n 2, 1) := by decide +kernel
theorem d_l_law_109 : decode code 109 = .ok (.aload_n 0, 1) := by decide +kernel
theorem d_l_law_110 : decode code 110 = .ok (.iload 4, 2) := by decide +kernel
theorem d_l_law_112 : decode code 112 = .ok (.iconst 1, 1) := by decide +kernel
theorem d_l_law_113 : decode code 113 = .ok (.iadd, 1) := by decide +kernel
theorem d_l_law_114 : decode code 114 = .ok (.iaload, 1) := by decide +kernel
theorem d_l_law_115 : decode code 115 = .ok (.invokevirtual 61, 3) := by decide +kernel
theorem d_l_law_118 : decode code 118 = .ok (.aload_n 2, 1) := by decide +kernel
theorem d_l_law_119 : decode code 119 = .ok (.invokevirtual 62, 3) := by decide +kernel
theorem d_l_law_122 : decode code 122 = .ok (.iload 5, 2) := by decide +kernel
theorem d_l_law_124 : decode code 124 = .ok (.if_icmp .eq 5, 3) := by decide +kernel
theorem d_l_law_127 : decode code 127 = .ok (.iconst 0, 1) := by decide +kernel
theorem d_l_law_128 : decode code 128 = .ok (.ireturn, 1) := by decide +kernel
theorem d_l_law_129 : decode code 129 = .ok (.goto 701, 3) := by decide +kernel
theorem d_l_law_132 : decode code 132 = .ok (.aload_n 1, 1) := by decide +kernel
theorem d_l_law_133 : decode code 133 = .ok (.aload_n 0, 1) := by decide +kernel
theorem d_l_law_134 : decode code 134 = .ok (.iload 4, 2) := by decide +kernel
theorem d_l_law_136 : decode code 136 = .ok (.iconst 1, 1) := by decide +kernel
theorem d_l_law_137 : decode code 137 = .ok (.iadd, 1) := by decide +kernel
theorem d_l_law_138 : decode code 138 = .ok (.iaload, 1) := by decide +kernel
theorem d_l_law_139 : decode code 139 = .ok (.aload_n 0, 1) := by decide +kernel
theorem d_l_law_140 : decode code 140 = .ok (.iload 4, 2) := by decide +kernel
theorem d_l_law_142 : decode code 142 = .ok (.iconst 2, 1) := by decide +kernel
theorem d_l_law_143 : decode code 143 = .ok (.iadd, 1) := by decide +kernel
theorem d_l_law_144 : decode code 144 = .ok (.iaload, 1) := by decide +kernel
theorem d_l_law_145 : decode code 145 = .ok (.aload_n 0, 1) := by decide +kernel
theorem d_l_law_146 : decode code 146 = .ok (.iload 4, 2) := by decide +kernel
theorem d_l_law_148 : decode code 148 = .ok (.iconst 3, 1) := by decide +kernel
theorem d_l_law_149 : decode code 149 = .ok (.iadd, 1) := by decide +kernel
theorem d_l_law_150 : decode code 150 = .ok (.iaload, 1) := by decide +kernel
theorem d_l_law_151 : decode code 151 = .ok (.aload_n 3, 1) := by decide +kernel
theorem d_l_law_152 : decode code 152 = .ok (.invokestatic 66, 3) := by decide +kernel
theorem d_l_law_155 : decode code 155 = .ok (.istore 5, 2) := by decide +kernel
theorem d_l_law_157 : decode code 157 = .ok (.aload_n 2, 1) := by decide +kernel
theorem d_l_law_158 : decode code 158 = .ok (.aload_n 0, 1) := by decide +kernel
theorem d_l_law_159 : decode code 159 = .ok (.iload 4, 2) := by decide +kernel
theorem d_l_law_161 : decode code 161 = .ok (.iconst 1, 1) := by decide +kernel
theorem d_l_law_162 : decode code 162 = .ok (.iadd, 1) := by decide +kernel
theorem d_l_law_163 : decode code 163 = .ok (.iaload, 1) := by decide +kernel
theorem d_l_law_164 : decode code 164 = .ok (.aload_n 0, 1) := by decide +kernel
theorem d_l_law_165 : decode code 165 = .ok (.iload 4, 2) := by decide +kernel
theorem d_l_law_167 : decode code 167 = .ok (.iconst 2, 1) := by decide +kernel
theorem d_l_law_168 : decode code 168 = .ok (.iadd, 1) := by decide +kernel
theorem d_l_law_169 : decode code 169 = .ok (.iaload, 1) := by decide +kernel
theorem d_l_law_170 : decode code 170 = .ok (.aload_n 0, 1) := by decide +kernel
theorem d_l_law_171 : decode code 171 = .ok (.iload 4, 2) := by decide +kernel
theorem d_l_law_173 : decode code 173 = .ok (.iconst 3, 1) := by decide +kernel
theorem d_l_law_174 : decode code 174 = .ok (.iadd, 1) := by decide +kernel
theorem d_l_law_175 : decode code 175 = .ok (.iaload, 1) := by decide +kernel
theorem d_l_law_176 : decode code 176 = .ok (.invokevirtual 69, 3) := by decide +kernel
theorem d_l_law_179 : decode code 179 = .ok (.istore 6, 2) := by decide +kernel
theorem d_l_law_181 : decode code 181 = .ok (.aload_n 2, 1) := by decide +kernel
theorem d_l_law_182 : decode code 182 = .ok (.invokevirtual 62, 3) := by decide +kernel
theorem d_l_law_185 : decode code 185 = .ok (.iload 5, 2) := by decide +kernel
theorem d_l_law_187 : decode code 187 = .ok (.if_icmp .eq 5, 3) := by decide +kernel
theorem d_l_law_190 : decode code 190 = .ok (.iconst 0, 1) := by decide +kernel
theorem d_l_law_191 : decode code 191 = .ok (.ireturn, 1) := by decide +kernel
theorem d_l_law_192 : decode code 192 = .ok (.iload 5, 2) := by decide +kernel
theorem d_l_law_194 : decode code 194 = .ok (.ifCond .ne 15, 3) := by decide +kernel
theorem d_l_law_197 : decode code 197 = .ok (.aload_n 3, 1) := by decide +kernel
theorem d_l_law_198 : decode code 198 = .ok (.iconst 0, 1) := by decide +kernel
theorem d_l_law_199 : decode code 199 = .ok (.laload, 1) := by decide +kernel
theorem d_l_law_200 : decode code 200 = .ok (.iload 6, 2) := by decide +kernel
theorem d_l_law_202 : decode code 202 = .ok (.i2l, 1) := by decide +kernel
theorem d_l_law_203 : decode code 203 = .ok (.lcmp, 1) := by decide +kernel
theorem d_l_law_204 : decode code 204 = .ok (.ifCond .eq 5, 3) := by decide +kernel
theorem d_l_law_207 : decode code 207 = .ok (.iconst 0, 1) := by decide +kernel
theorem d_l_law_208 : decode code 208 = .ok (.ireturn, 1) := by decide +kernel
theorem d_l_law_209 : decode code 209 = .ok (.goto 621, 3) := by decide +kernel
theorem d_l_law_212 : decode code 212 = .ok (.aload_n 1, 1) := by decide +kernel
theorem d_l_law_213 : decode code 213 = .ok (.aload_n 0, 1) := by decide +kernel
theorem d_l_law_214 : decode code 214 = .ok (.iload 4, 2) := by decide +kernel
theorem d_l_law_216 : decode code 216 = .ok (.iconst 1, 1) := by decide +kernel
theorem d_l_law_217 : decode code 217 = .ok (.iadd, 1) := by decide +kernel
theorem d_l_law_218 : decode code 218 = .ok (.iaload, 1) := by decide +kernel
theorem d_l_law_219 : decode code 219 = .ok (.aload_n 0, 1) := by decide +kernel
theorem d_l_law_220 : decode code 220 = .ok (.iload 4, 2) := by decide +kernel
theorem d_l_law_222 : decode code 222 = .ok (.iconst 2, 1) := by decide +kernel
theorem d_l_law_223 : decode code 223 = .ok (.iadd, 1) := by decide +kernel
theorem d_l_law_224 : decode code 224 = .ok (.iaload, 1) := by decide +kernel
theorem d_l_law_225 : decode code 225 = .ok (.aload_n 3, 1) := by decide +kernel
theorem d_l_law_226 : decode code 226 = .ok (.invokestatic 70, 3) := by decide +kernel
theorem d_l_law_229 : decode code 229 = .ok (.istore 5, 2) := by decide +kernel
theorem d_l_law_231 : decode code 231 = .ok (.aload_n 2, 1) := by decide +kernel
theorem d_l_law_232 : decode code 232 = .ok (.aload_n 0, 1) := by decide +kernel
theorem d_l_law_233 : decode code 233 = .ok (.iload 4, 2) := by decide +kernel
theorem d_l_law_235 : decode code 235 = .ok (.iconst 1, 1) := by decide +kernel
theorem d_l_law_236 : decode code 236 = .ok (.iadd, 1) := by decide +kernel
theorem d_l_law_237 : decode code 237 = .ok (.iaload, 1) := by decide +kernel
theorem d_l_law_238 : decode code 238 = .ok (.aload_n 0, 1) := by decide +kernel
theorem d_l_law_239 : decode code 239 = .ok (.iload 4, 2) := by decide +kernel
theorem d_l_law_241 : decode code 241 = .ok (.iconst 2, 1) := by decide +kernel
theorem d_l_law_242 : decode code 242 = .ok (.iadd, 1) := by decide +kernel
theorem d_l_law_243 : decode code 243 = .ok (.iaload, 1) := by decide +kernel
theorem d_l_law_244 : decode code 244 = .ok (.invokevirtual 73, 3) := by decide +kernel
theorem d_l_law_247 : decode code 247 = .ok (.istore 6, 2) := by decide +kernel
theorem d_l_law_249 : decode code 249 = .ok (.aload_n 2, 1) := by decide +kernel
theorem d_l_law_250 : decode code 250 = .ok (.invokevirtual 62, 3) := by decide +kernel
theorem d_l_law_253 : decode code 253 = .ok (.iload 5, 2) := by decide +kernel
theorem d_l_law_255 : decode code 255 = .ok (.if_icmp .eq 5, 3) := by decide +kernel
theorem d_l_law_258 : decode code 258 = .ok (.iconst 0, 1) := by decide +kernel
theorem d_l_law_259 : decode code 259 = .ok (.ireturn, 1) := by decide +kernel
theorem d_l_law_260 : decode code 260 = .ok (.iload 5, 2) := by decide +kernel
theorem d_l_law_262 : decode code 262 = .ok (.ifCond .ne 22, 3) := by decide +kernel
theorem d_l_law_265 : decode code 265 = .ok (.aload_n 3, 1) := by decide +kernel
theorem d_l_law_266 : decode code 266 = .ok (.iconst 0, 1) := by decide +kernel
theorem d_l_law_267 : decode code 267 = .ok (.laload, 1) := by decide +kernel
theorem d_l_law_268 : decode code 268 = .ok (.iload 6, 2) := by decide +kernel
theorem d_l_law_270 : decode code 270 = .ok (.ifCond .eq 7, 3) := by decide +kernel
theorem d_l_law_273 : decode code 273 = .ok (.lconst 1, 1) := by decide +kernel
theorem d_l_law_274 : decode code 274 = .ok (.goto 4, 3) := by decide +kernel
theorem d_l_law_277 : decode code 277 = .ok (.lconst 0, 1) := by decide +kernel
theorem d_l_law_278 : decode code 278 = .ok (.lcmp, 1) := by decide +kernel
theorem d_l_law_279 : decode code 279 = .ok (.ifCond .eq 5, 3) := by decide +kernel
theorem d_l_law_282 : decode code 282 = .ok (.iconst 0, 1) := by decide +kernel
theorem d_l_law_283 : decode code 283 = .ok (.ireturn, 1) := by decide +kernel
theorem d_l_law_284 : decode code 284 = .ok (.goto 546, 3) := by decide +kernel
theorem d_l_law_287 : decode code 287 = .ok (.aload_n 1, 1) := by decide +kernel
theorem d_l_law_288 : decode code 288 = .ok (.aload_n 0, 1) := by decide +kernel
theorem d_l_law_289 : decode code 289 = .ok (.iload 4, 2) := by decide +kernel
theorem d_l_law_291 : decode code 291 = .ok (.iconst 1, 1) := by decide +kernel
theorem d_l_law_292 : decode code 292 = .ok (.iadd, 1) := by decide +kernel
theorem d_l_law_293 : decode code 293 = .ok (.iaload, 1) := by decide +kernel
theorem d_l_law_294 : decode code 294 = .ok (.aload_n 0, 1) := by decide +kernel
theorem d_l_law_295 : decode code 295 = .ok (.iload 4, 2) := by decide +kernel
theorem d_l_law_297 : decode code 297 = .ok (.iconst 2, 1) := by decide +kernel
theorem d_l_law_298 : decode code 298 = .ok (.iadd, 1) := by decide +kernel
theorem d_l_law_299 : decode code 299 = .ok (.iaload, 1) := by decide +kernel
theorem d_l_law_300 : decode code 300 = .ok (.aload_n 3, 1) := by decide +kernel
theorem d_l_law_301 : decode code 301 = .ok (.invokestatic 74, 3) := by decide +kernel
theorem d_l_law_304 : decode code 304 = .ok (.istore 5, 2) := by decide +kernel
theorem d_l_law_306 : decode code 306 = .ok (.aload_n 2, 1) := by decide +kernel
theorem d_l_law_307 : decode code 307 = .ok (.aload_n 0, 1) := by decide +kernel
theorem d_l_law_308 : decode code 308 = .ok (.iload 4, 2) := by decide +kernel
theorem d_l_law_310 : decode code 310 = .ok (.iconst 1, 1) := by decide +kernel
theorem d_l_law_311 : decode code 311 = .ok (.iadd, 1) := by decide +kernel
theorem d_l_law_312 : decode code 312 = .ok (.iaload, 1) := by decide +kernel
theorem d_l_law_313 : decode code 313 = .ok (.aload_n 0, 1) := by decide +kernel
theorem d_l_law_314 : decode code 314 = .ok (.iload 4, 2) := by decide +kernel
theorem d_l_law_316 : decode code 316 = .ok (.iconst 2, 1) := by decide +kernel
theorem d_l_law_317 : decode code 317 = .ok (.iadd, 1) := by decide +kernel
theorem d_l_law_318 : decode code 318 = .ok (.iaload, 1) := by decide +kernel
theorem d_l_law_319 : decode code 319 = .ok (.invokevirtual 76, 3) := by decide +kernel
theorem d_l_law_322 : decode code 322 = .ok (.istore 6, 2) := by decide +kernel
theorem d_l_law_324 : decode code 324 = .ok (.aload_n 2, 1) := by decide +kernel
theorem d_l_law_325 : decode code 325 = .ok (.invokevirtual 62, 3) := by decide +kernel
theorem d_l_law_328 : decode code 328 = .ok (.iload 5, 2) := by decide +kernel
theorem d_l_law_330 : decode code 330 = .ok (.if_icmp .eq 5, 3) := by decide +kernel
theorem d_l_law_333 : decode code 333 = .ok (.iconst 0, 1) := by decide +kernel
theorem d_l_law_334 : decode code 334 = .ok (.ireturn, 1) := by decide +kernel
theorem d_l_law_335 : decode code 335 = .ok (.iload 5, 2) := by decide +kernel
theorem d_l_law_337 : decode code 337 = .ok (.ifCond .ne 22, 3) := by decide +kernel
theorem d_l_law_340 : decode code 340 = .ok (.aload_n 3, 1) := by decide +kernel
theorem d_l_law_341 : decode code 341 = .ok (.iconst 0, 1) := by decide +kernel
theorem d_l_law_342 : decode code 342 = .ok (.laload, 1) := by decide +kernel
theorem d_l_law_343 : decode code 343 = .ok (.iload 6, 2) := by decide +kernel
theorem d_l_law_345 : decode code 345 = .ok (.ifCond .eq 7, 3) := by decide +kernel
theorem d_l_law_348 : decode code 348 = .ok (.lconst 1, 1) := by decide +kernel
theorem d_l_law_349 : decode code 349 = .ok (.goto 4, 3) := by decide +kernel
theorem d_l_law_352 : decode code 352 = .ok (.lconst 0, 1) := by decide +kernel
theorem d_l_law_353 : decode code 353 = .ok (.lcmp, 1) := by decide +kernel
theorem d_l_law_354 : decode code 354 = .ok (.ifCond .eq 5, 3) := by decide +kernel
theorem d_l_law_357 : decode code 357 = .ok (.iconst 0, 1) := by decide +kernel
theorem d_l_law_358 : decode code 358 = .ok (.ireturn, 1) := by decide +kernel
theorem d_l_law_359 : decode code 359 = .ok (.goto 471, 3) := by decide +kernel
theorem d_l_law_362 : decode code 362 = .ok (.aload_n 1, 1) := by decide +kernel
theorem d_l_law_363 : decode code 363 = .ok (.aload_n 0, 1) := by decide +kernel
theorem d_l_law_364 : decode code 364 = .ok (.iload 4, 2) := by decide +kernel
theorem d_l_law_366 : decode code 366 = .ok (.iconst 1, 1) := by decide +kernel
theorem d_l_law_367 : decode code 367 = .ok (.iadd, 1) := by decide +kernel
theorem d_l_law_368 : decode code 368 = .ok (.iaload, 1) := by decide +kernel
theorem d_l_law_369 : decode code 369 = .ok (.aload_n 0, 1) := by decide +kernel
theorem d_l_law_370 : decode code 370 = .ok (.iload 4, 2) := by decide +kernel
theorem d_l_law_372 : decode code 372 = .ok (.iconst 2, 1) := by decide +kernel
theorem d_l_law_373 : decode code 373 = .ok (.iadd, 1) := by decide +kernel
theorem d_l_law_374 : decode code 374 = .ok (.iaload, 1) := by decide +kernel
theorem d_l_law_375 : decode code 375 = .ok (.aload_n 3, 1) := by decide +kernel
theorem d_l_law_376 : decode code 376 = .ok (.invokestatic 77, 3) := by decide +kernel
theorem d_l_law_379 : decode code 379 = .ok (.istore 5, 2) := by decide +kernel
theorem d_l_law_381 : decode code 381 = .ok (.aload_n 2, 1) := by decide +kernel
theorem d_l_law_382 : decode code 382 = .ok (.aload_n 0, 1) := by decide +kernel
theorem d_l_law_383 : decode code 383 = .ok (.iload 4, 2) := by decide +kernel
theorem d_l_law_385 : decode code 385 = .ok (.iconst 1, 1) := by decide +kernel
theorem d_l_law_386 : decode code 386 = .ok (.iadd, 1) := by decide +kernel
theorem d_l_law_387 : decode code 387 = .ok (.iaload, 1) := by decide +kernel
theorem d_l_law_388 : decode code 388 = .ok (.aload_n 0, 1) := by decide +kernel
theorem d_l_law_389 : decode code 389 = .ok (.iload 4, 2) := by decide +kernel
theorem d_l_law_391 : decode code 391 = .ok (.iconst 2, 1) := by decide +kernel
theorem d_l_law_392 : decode code 392 = .ok (.iadd, 1) := by decide +kernel
theorem d_l_law_393 : decode code 393 = .ok (.iaload, 1) := by decide +kernel
theorem d_l_law_394 : decode code 394 = .ok (.invokevirtual 79, 3) := by decide +kernel
theorem d_l_law_397 : decode code 397 = .ok (.istore 6, 2) := by decide +kernel
theorem d_l_law_399 : decode code 399 = .ok (.aload_n 2, 1) := by decide +kernel
theorem d_l_law_400 : decode code 400 = .ok (.invokevirtual 62, 3) := by decide +kernel
theorem d_l_law_403 : decode code 403 = .ok (.iload 5, 2) := by decide +kernel
theorem d_l_law_405 : decode code 405 = .ok (.if_icmp .eq 5, 3) := by decide +kernel
theorem d_l_law_408 : decode code 408 = .ok (.iconst 0, 1) := by decide +kernel
theorem d_l_law_409 : decode code 409 = .ok (.ireturn, 1) := by decide +kernel
theorem d_l_law_410 : decode code 410 = .ok (.iload 5, 2) := by decide +kernel
theorem d_l_law_412 : decode code 412 = .ok (.ifCond .ne 22, 3) := by decide +kernel
theorem d_l_law_415 : decode code 415 = .ok (.aload_n 3, 1) := by decide +kernel
theorem d_l_law_416 : decode code 416 = .ok (.iconst 0, 1) := by decide +kernel
theorem d_l_law_417 : decode code 417 = .ok (.laload, 1) := by decide +kernel
theorem d_l_law_418 : decode code 418 = .ok (.iload 6, 2) := by decide +kernel
theorem d_l_law_420 : decode code 420 = .ok (.ifCond .eq 7, 3) := by decide +kernel
theorem d_l_law_423 : decode code 423 = .ok (.lconst 1, 1) := by decide +kernel
theorem d_l_law_424 : decode code 424 = .ok (.goto 4, 3) := by decide +kernel
theorem d_l_law_427 : decode code 427 = .ok (.lconst 0, 1) := by decide +kernel
theorem d_l_law_428 : decode code 428 = .ok (.lcmp, 1) := by decide +kernel
theorem d_l_law_429 : decode code 429 = .ok (.ifCond .eq 5, 3) := by decide +kernel
theorem d_l_law_432 : decode code 432 = .ok (.iconst 0, 1) := by decide +kernel
theorem d_l_law_433 : decode code 433 = .ok (.ireturn, 1) := by decide +kernel
theorem d_l_law_434 : decode code 434 = .ok (.goto 396, 3) := by decide +kernel
theorem d_l_law_437 : decode code 437 = .ok (.aload_n 1, 1) := by decide +kernel
theorem d_l_law_438 : decode code 438 = .ok (.aload_n 0, 1) := by decide +kernel
theorem d_l_law_439 : decode code 439 = .ok (.iload 4, 2) := by decide +kernel
theorem d_l_law_441 : decode code 441 = .ok (.iconst 1, 1) := by decide +kernel
theorem d_l_law_442 : decode code 442 = .ok (.iadd, 1) := by decide +kernel
theorem d_l_law_443 : decode code 443 = .ok (.iaload, 1) := by decide +kernel
theorem d_l_law_444 : decode code 444 = .ok (.aload_n 0, 1) := by decide +kernel
theorem d_l_law_445 : decode code 445 = .ok (.iload 4, 2) := by decide +kernel
theorem d_l_law_447 : decode code 447 = .ok (.iconst 2, 1) := by decide +kernel
theorem d_l_law_448 : decode code 448 = .ok (.iadd, 1) := by decide +kernel
theorem d_l_law_449 : decode code 449 = .ok (.iaload, 1) := by decide +kernel
theorem d_l_law_450 : decode code 450 = .ok (.aload_n 3, 1) := by decide +kernel
theorem d_l_law_451 : decode code 451 = .ok (.invokestatic 80, 3) := by decide +kernel
theorem d_l_law_454 : decode code 454 = .ok (.istore 5, 2) := by decide +kernel
theorem d_l_law_456 : decode code 456 = .ok (.aload_n 2, 1) := by decide +kernel
theorem d_l_law_457 : decode code 457 = .ok (.aload_n 0, 1) := by decide +kernel
theorem d_l_law_458 : decode code 458 = .ok (.iload 4, 2) := by decide +kernel
theorem d_l_law_460 : decode code 460 = .ok (.iconst 1, 1) := by decide +kernel
theorem d_l_law_461 : decode code 461 = .ok (.iadd, 1) := by decide +kernel
theorem d_l_law_462 : decode code 462 = .ok (.iaload, 1) := by decide +kernel
theorem d_l_law_463 : decode code 463 = .ok (.aload_n 0, 1) := by decide +kernel
theorem d_l_law_464 : decode code 464 = .ok (.iload 4, 2) := by decide +kernel
theorem d_l_law_466 : decode code 466 = .ok (.iconst 2, 1) := by decide +kernel
theorem d_l_law_467 : decode code 467 = .ok (.iadd, 1) := by decide +kernel
theorem d_l_law_468 : decode code 468 = .ok (.iaload, 1) := by decide +kernel
theorem d_l_law_469 : decode code 469 = .ok (.invokevirtual 82, 3) := by decide +kernel
theorem d_l_law_472 : decode code 472 = .ok (.istore 6, 2) := by decide +kernel
theorem d_l_law_474 : decode code 474 = .ok (.aload_n 2, 1) := by decide +kernel
theorem d_l_law_475 : decode code 475 = .ok (.invokevirtual 62, 3) := by decide +kernel
theorem d_l_law_478 : decode code 478 = .ok (.iload 5, 2) := by decide +kernel
theorem d_l_law_480 : decode code 480 = .ok (.if_icmp .eq 5, 3) := by decide +kernel
theorem d_l_law_483 : decode code 483 = .ok (.iconst 0, 1) := by decide +kernel
theorem d_l_law_484 : decode code 484 = .ok (.ireturn, 1) := by decide +kernel
theorem d_l_law_485 : decode code 485 = .ok (.iload 5, 2) := by decide +kernel
theorem d_l_law_487 : decode code 487 = .ok (.ifCond .ne 22, 3) := by decide +kernel
theorem d_l_law_490 : decode code 490 = .ok (.aload_n 3, 1) := by decide +kernel
theorem d_l_law_491 : decode code 491 = .ok (.iconst 0, 1) := by decide +kernel
theorem d_l_law_492 : decode code 492 = .ok (.laload, 1) := by decide +kernel
theorem d_l_law_493 : decode code 493 = .ok (.iload 6, 2) := by decide +kernel
theorem d_l_law_495 : decode code 495 = .ok (.ifCond .eq 7, 3) := by decide +kernel
theorem d_l_law_498 : decode code 498 = .ok (.lconst 1, 1) := by decide +kernel
theorem d_l_law_499 : decode code 499 = .ok (.goto 4, 3) := by decide +kernel
theorem d_l_law_502 : decode code 502 = .ok (.lconst 0, 1) := by decide +kernel
theorem d_l_law_503 : decode code 503 = .ok (.lcmp, 1) := by decide +kernel
theorem d_l_law_504 : decode code 504 = .ok (.ifCond .eq 5, 3) := by decide +kernel
theorem d_l_law_507 : decode code 507 = .ok (.iconst 0, 1) := by decide +kernel
theorem d_l_law_508 : decode code 508 = .ok (.ireturn, 1) := by decide +kernel
theorem d_l_law_509 : decode code 509 = .ok (.goto 321, 3) := by decide +kernel
theorem d_l_law_512 : decode code 512 = .ok (.aload_n 1, 1) := by decide +kernel
theorem d_l_law_513 : decode code 513 = .ok (.aload_n 0, 1) := by decide +kernel
theorem d_l_law_514 : decode code 514 = .ok (.iload 4, 2) := by decide +kernel
theorem d_l_law_516 : decode code 516 = .ok (.iconst 1, 1) := by decide +kernel
theorem d_l_law_517 : decode code 517 = .ok (.iadd, 1) := by decide +kernel
theorem d_l_law_518 : decode code 518 = .ok (.iaload, 1) := by decide +kernel
theorem d_l_law_519 : decode code 519 = .ok (.aload_n 0, 1) := by decide +kernel
theorem d_l_law_520 : decode code 520 = .ok (.iload 4, 2) := by decide +kernel
theorem d_l_law_522 : decode code 522 = .ok (.iconst 2, 1) := by decide +kernel
theorem d_l_law_523 : decode code 523 = .ok (.iadd, 1) := by decide +kernel
theorem d_l_law_524 : decode code 524 = .ok (.iaload, 1) := by decide +kernel
theorem d_l_law_525 : decode code 525 = .ok (.aload_n 3, 1) := by decide +kernel
theorem d_l_law_526 : decode code 526 = .ok (.invokestatic 83, 3) := by decide +kernel
theorem d_l_law_529 : decode code 529 = .ok (.istore 5, 2) := by decide +kernel
theorem d_l_law_531 : decode code 531 = .ok (.aload_n 2, 1) := by decide +kernel
theorem d_l_law_532 : decode code 532 = .ok (.aload_n 0, 1) := by decide +kernel
theorem d_l_law_533 : decode code 533 = .ok (.iload 4, 2) := by decide +kernel
theorem d_l_law_535 : decode code 535 = .ok (.iconst 1, 1) := by decide +kernel
theorem d_l_law_536 : decode code 536 = .ok (.iadd, 1) := by decide +kernel
theorem d_l_law_537 : decode code 537 = .ok (.iaload, 1) := by decide +kernel
theorem d_l_law_538 : decode code 538 = .ok (.aload_n 0, 1) := by decide +kernel
theorem d_l_law_539 : decode code 539 = .ok (.iload 4, 2) := by decide +kernel
theorem d_l_law_541 : decode code 541 = .ok (.iconst 2, 1) := by decide +kernel
theorem d_l_law_542 : decode code 542 = .ok (.iadd, 1) := by decide +kernel
theorem d_l_law_543 : decode code 543 = .ok (.iaload, 1) := by decide +kernel
theorem d_l_law_544 : decode code 544 = .ok (.invokevirtual 85, 3) := by decide +kernel
theorem d_l_law_547 : decode code 547 = .ok (.istore 6, 2) := by decide +kernel
theorem d_l_law_549 : decode code 549 = .ok (.aload_n 2, 1) := by decide +kernel
theorem d_l_law_550 : decode code 550 = .ok (.invokevirtual 62, 3) := by decide +kernel
theorem d_l_law_553 : decode code 553 = .ok (.iload 5, 2) := by decide +kernel
theorem d_l_law_555 : decode code 555 = .ok (.if_icmp .eq 5, 3) := by decide +kernel
theorem d_l_law_558 : decode code 558 = .ok (.iconst 0, 1) := by decide +kernel
theorem d_l_law_559 : decode code 559 = .ok (.ireturn, 1) := by decide +kernel
theorem d_l_law_560 : decode code 560 = .ok (.iload 5, 2) := by decide +kernel
theorem d_l_law_562 : decode code 562 = .ok (.ifCond .ne 15, 3) := by decide +kernel
theorem d_l_law_565 : decode code 565 = .ok (.aload_n 3, 1) := by decide +kernel
theorem d_l_law_566 : decode code 566 = .ok (.iconst 0, 1) := by decide +kernel
theorem d_l_law_567 : decode code 567 = .ok (.laload, 1) := by decide +kernel
theorem d_l_law_568 : decode code 568 = .ok (.iload 6, 2) := by decide +kernel
theorem d_l_law_570 : decode code 570 = .ok (.i2l, 1) := by decide +kernel
theorem d_l_law_571 : decode code 571 = .ok (.lcmp, 1) := by decide +kernel
theorem d_l_law_572 : decode code 572 = .ok (.ifCond .eq 5, 3) := by decide +kernel
theorem d_l_law_575 : decode code 575 = .ok (.iconst 0, 1) := by decide +kernel
theorem d_l_law_576 : decode code 576 = .ok (.ireturn, 1) := by decide +kernel
theorem d_l_law_577 : decode code 577 = .ok (.goto 253, 3) := by decide +kernel
theorem d_l_law_580 : decode code 580 = .ok (.aload_n 1, 1) := by decide +kernel
theorem d_l_law_581 : decode code 581 = .ok (.aload_n 0, 1) := by decide +kernel
theorem d_l_law_582 : decode code 582 = .ok (.iload 4, 2) := by decide +kernel
theorem d_l_law_584 : decode code 584 = .ok (.iconst 1, 1) := by decide +kernel
theorem d_l_law_585 : decode code 585 = .ok (.iadd, 1) := by decide +kernel
theorem d_l_law_586 : decode code 586 = .ok (.iaload, 1) := by decide +kernel
theorem d_l_law_587 : decode code 587 = .ok (.aload_n 0, 1) := by decide +kernel
theorem d_l_law_588 : decode code 588 = .ok (.iload 4, 2) := by decide +kernel
theorem d_l_law_590 : decode code 590 = .ok (.iconst 2, 1) := by decide +kernel
theorem d_l_law_591 : decode code 591 = .ok (.iadd, 1) := by decide +kernel
theorem d_l_law_592 : decode code 592 = .ok (.iaload, 1) := by decide +kernel
theorem d_l_law_593 : decode code 593 = .ok (.aload_n 3, 1) := by decide +kernel
theorem d_l_law_594 : decode code 594 = .ok (.invokestatic 86, 3) := by decide +kernel
theorem d_l_law_597 : decode code 597 = .ok (.istore 5, 2) := by decide +kernel
theorem d_l_law_599 : decode code 599 = .ok (.aload_n 2, 1) := by decide +kernel
theorem d_l_law_600 : decode code 600 = .ok (.aload_n 0, 1) := by decide +kernel
theorem d_l_law_601 : decode code 601 = .ok (.iload 4, 2) := by decide +kernel
theorem d_l_law_603 : decode code 603 = .ok (.iconst 1, 1) := by decide +kernel
theorem d_l_law_604 : decode code 604 = .ok (.iadd, 1) := by decide +kernel
theorem d_l_law_605 : decode code 605 = .ok (.iaload, 1) := by decide +kernel
theorem d_l_law_606 : decode code 606 = .ok (.aload_n 0, 1) := by decide +kernel
theorem d_l_law_607 : decode code 607 = .ok (.iload 4, 2) := by decide +kernel
theorem d_l_law_609 : decode code 609 = .ok (.iconst 2, 1) := by decide +kernel
theorem d_l_law_610 : decode code 610 = .ok (.iadd, 1) := by decide +kernel
theorem d_l_law_611 : decode code 611 = .ok (.iaload, 1) := by decide +kernel
theorem d_l_law_612 : decode code 612 = .ok (.invokevirtual 88, 3) := by decide +kernel
theorem d_l_law_615 : decode code 615 = .ok (.istore 6, 2) := by decide +kernel
theorem d_l_law_617 : decode code 617 = .ok (.aload_n 2, 1) := by decide +kernel
theorem d_l_law_618 : decode code 618 = .ok (.invokevirtual 62, 3) := by decide +kernel
theorem d_l_law_621 : decode code 621 = .ok (.iload 5, 2) := by decide +kernel
theorem d_l_law_623 : decode code 623 = .ok (.if_icmp .eq 5, 3) := by decide +kernel
theorem d_l_law_626 : decode code 626 = .ok (.iconst 0, 1) := by decide +kernel
theorem d_l_law_627 : decode code 627 = .ok (.ireturn, 1) := by decide +kernel
theorem d_l_law_628 : decode code 628 = .ok (.iload 5, 2) := by decide +kernel
theorem d_l_law_630 : decode code 630 = .ok (.ifCond .ne 22, 3) := by decide +kernel
theorem d_l_law_633 : decode code 633 = .ok (.aload_n 3, 1) := by decide +kernel
theorem d_l_law_634 : decode code 634 = .ok (.iconst 0, 1) := by decide +kernel
theorem d_l_law_635 : decode code 635 = .ok (.laload, 1) := by decide +kernel
theorem d_l_law_636 : decode code 636 = .ok (.iload 6, 2) := by decide +kernel
theorem d_l_law_638 : decode code 638 = .ok (.ifCond .eq 7, 3) := by decide +kernel
theorem d_l_law_641 : decode code 641 = .ok (.lconst 1, 1) := by decide +kernel
theorem d_l_law_642 : decode code 642 = .ok (.goto 4, 3) := by decide +kernel
theorem d_l_law_645 : decode code 645 = .ok (.lconst 0, 1) := by decide +kernel
theorem d_l_law_646 : decode code 646 = .ok (.lcmp, 1) := by decide +kernel
theorem d_l_law_647 : decode code 647 = .ok (.ifCond .eq 5, 3) := by decide +kernel
theorem d_l_law_650 : decode code 650 = .ok (.iconst 0, 1) := by decide +kernel
theorem d_l_law_651 : decode code 651 = .ok (.ireturn, 1) := by decide +kernel
theorem d_l_law_652 : decode code 652 = .ok (.goto 178, 3) := by decide +kernel
theorem d_l_law_655 : decode code 655 = .ok (.aload_n 1, 1) := by decide +kernel
theorem d_l_law_656 : decode code 656 = .ok (.aload_n 0, 1) := by decide +kernel
theorem d_l_law_657 : decode code 657 = .ok (.iload 4, 2) := by decide +kernel
theorem d_l_law_659 : decode code 659 = .ok (.iconst 1, 1) := by decide +kernel
theorem d_l_law_660 : decode code 660 = .ok (.iadd, 1) := by decide +kernel
theorem d_l_law_661 : decode code 661 = .ok (.iaload, 1) := by decide +kernel
theorem d_l_law_662 : decode code 662 = .ok (.aload_n 3, 1) := by decide +kernel
theorem d_l_law_663 : decode code 663 = .ok (.invokestatic 89, 3) := by decide +kernel
theorem d_l_law_666 : decode code 666 = .ok (.istore 5, 2) := by decide +kernel
theorem d_l_law_668 : decode code 668 = .ok (.aload_n 2, 1) := by decide +kernel
theorem d_l_law_669 : decode code 669 = .ok (.aload_n 0, 1) := by decide +kernel
theorem d_l_law_670 : decode code 670 = .ok (.iload 4, 2) := by decide +kernel
theorem d_l_law_672 : decode code 672 = .ok (.iconst 1, 1) := by decide +kernel
theorem d_l_law_673 : decode code 673 = .ok (.iadd, 1) := by decide +kernel
theorem d_l_law_674 : decode code 674 = .ok (.iaload, 1) := by decide +kernel
theorem d_l_law_675 : decode code 675 = .ok (.invokevirtual 92, 3) := by decide +kernel
theorem d_l_law_678 : decode code 678 = .ok (.istore 6, 2) := by decide +kernel
theorem d_l_law_680 : decode code 680 = .ok (.aload_n 2, 1) := by decide +kernel
theorem d_l_law_681 : decode code 681 = .ok (.invokevirtual 62, 3) := by decide +kernel
theorem d_l_law_684 : decode code 684 = .ok (.iload 5, 2) := by decide +kernel
theorem d_l_law_686 : decode code 686 = .ok (.if_icmp .eq 5, 3) := by decide +kernel
theorem d_l_law_689 : decode code 689 = .ok (.iconst 0, 1) := by decide +kernel
theorem d_l_law_690 : decode code 690 = .ok (.ireturn, 1) := by decide +kernel
theorem d_l_law_691 : decode code 691 = .ok (.iload 5, 2) := by decide +kernel
theorem d_l_law_693 : decode code 693 = .ok (.ifCond .ne 15, 3) := by decide +kernel
theorem d_l_law_696 : decode code 696 = .ok (.aload_n 3, 1) := by decide +kernel
theorem d_l_law_697 : decode code 697 = .ok (.iconst 0, 1) := by decide +kernel
theorem d_l_law_698 : decode code 698 = .ok (.laload, 1) := by decide +kernel
theorem d_l_law_699 : decode code 699 = .ok (.iload 6, 2) := by decide +kernel
theorem d_l_law_701 : decode code 701 = .ok (.i2l, 1) := by decide +kernel
theorem d_l_law_702 : decode code 702 = .ok (.lcmp, 1) := by decide +kernel
theorem d_l_law_703 : decode code 703 = .ok (.ifCond .eq 5, 3) := by decide +kernel
theorem d_l_law_706 : decode code 706 = .ok (.iconst 0, 1) := by decide +kernel
theorem d_l_law_707 : decode code 707 = .ok (.ireturn, 1) := by decide +kernel
theorem d_l_law_708 : decode code 708 = .ok (.goto 122, 3) := by decide +kernel
theorem d_l_law_711 : decode code 711 = .ok (.aload_n 1, 1) := by decide +kernel
theorem d_l_law_712 : decode code 712 = .ok (.aload_n 0, 1) := by decide +kernel
theorem d_l_law_713 : decode code 713 = .ok (.iload 4, 2) := by decide +kernel
theorem d_l_law_715 : decode code 715 = .ok (.iconst 1, 1) := by decide +kernel
theorem d_l_law_716 : decode code 716 = .ok (.iadd, 1) := by decide +kernel
theorem d_l_law_717 : decode code 717 = .ok (.iaload, 1) := by decide +kernel
theorem d_l_law_718 : decode code 718 = .ok (.aload_n 3, 1) := by decide +kernel
theorem d_l_law_719 : decode code 719 = .ok (.invokestatic 93, 3) := by decide +kernel
theorem d_l_law_722 : decode code 722 = .ok (.istore 5, 2) := by decide +kernel
theorem d_l_law_724 : decode code 724 = .ok (.aload_n 2, 1) := by decide +kernel
theorem d_l_law_725 : decode code 725 = .ok (.aload_n 0, 1) := by decide +kernel
theorem d_l_law_726 : decode code 726 = .ok (.iload 4, 2) := by decide +kernel
theorem d_l_law_728 : decode code 728 = .ok (.iconst 1, 1) := by decide +kernel
theorem d_l_law_729 : decode code 729 = .ok (.iadd, 1) := by decide +kernel
theorem d_l_law_730 : decode code 730 = .ok (.iaload, 1) := by decide +kernel
theorem d_l_law_731 : decode code 731 = .ok (.invokevirtual 95, 3) := by decide +kernel
theorem d_l_law_734 : decode code 734 = .ok (.istore 6, 2) := by decide +kernel
theorem d_l_law_736 : decode code 736 = .ok (.aload_n 2, 1) := by decide +kernel
theorem d_l_law_737 : decode code 737 = .ok (.invokevirtual 62, 3) := by decide +kernel
theorem d_l_law_740 : decode code 740 = .ok (.iload 5, 2) := by decide +kernel
theorem d_l_law_742 : decode code 742 = .ok (.if_icmp .eq 5, 3) := by decide +kernel
theorem d_l_law_745 : decode code 745 = .ok (.iconst 0, 1) := by decide +kernel
theorem d_l_law_746 : decode code 746 = .ok (.ireturn, 1) := by decide +kernel
theorem d_l_law_747 : decode code 747 = .ok (.iload 5, 2) := by decide +kernel
theorem d_l_law_749 : decode code 749 = .ok (.ifCond .ne 22, 3) := by decide +kernel
theorem d_l_law_752 : decode code 752 = .ok (.aload_n 3, 1) := by decide +kernel
theorem d_l_law_753 : decode code 753 = .ok (.iconst 0, 1) := by decide +kernel
theorem d_l_law_754 : decode code 754 = .ok (.laload, 1) := by decide +kernel
theorem d_l_law_755 : decode code 755 = .ok (.iload 6, 2) := by decide +kernel
theorem d_l_law_757 : decode code 757 = .ok (.ifCond .eq 7, 3) := by decide +kernel
theorem d_l_law_760 : decode code 760 = .ok (.lconst 1, 1) := by decide +kernel
theorem d_l_law_761 : decode code 761 = .ok (.goto 4, 3) := by decide +kernel
theorem d_l_law_764 : decode code 764 = .ok (.lconst 0, 1) := by decide +kernel
theorem d_l_law_765 : decode code 765 = .ok (.lcmp, 1) := by decide +kernel
theorem d_l_law_766 : decode code 766 = .ok (.ifCond .eq 5, 3) := by decide +kernel
theorem d_l_law_769 : decode code 769 = .ok (.iconst 0, 1) := by decide +kernel
theorem d_l_law_770 : decode code 770 = .ok (.ireturn, 1) := by decide +kernel
theorem d_l_law_771 : decode code 771 = .ok (.goto 59, 3) := by decide +kernel
theorem d_l_law_774 : decode code 774 = .ok (.aload_n 1, 1) := by decide +kernel
theorem d_l_law_775 : decode code 775 = .ok (.aload_n 0, 1) := by decide +kernel
theorem d_l_law_776 : decode code 776 = .ok (.iload 4, 2) := by decide +kernel
theorem d_l_law_778 : decode code 778 = .ok (.iconst 1, 1) := by decide +kernel
theorem d_l_law_779 : decode code 779 = .ok (.iadd, 1) := by decide +kernel
theorem d_l_law_780 : decode code 780 = .ok (.iaload, 1) := by decide +kernel
theorem d_l_law_781 : decode code 781 = .ok (.aload_n 3, 1) := by decide +kernel
theorem d_l_law_782 : decode code 782 = .ok (.invokestatic 96, 3) := by decide +kernel
theorem d_l_law_785 : decode code 785 = .ok (.istore 5, 2) := by decide +kernel
theorem d_l_law_787 : decode code 787 = .ok (.aload_n 2, 1) := by decide +kernel
theorem d_l_law_788 : decode code 788 = .ok (.aload_n 0, 1) := by decide +kernel
theorem d_l_law_789 : decode code 789 = .ok (.iload 4, 2) := by decide +kernel
theorem d_l_law_791 : decode code 791 = .ok (.iconst 1, 1) := by decide +kernel
theorem d_l_law_792 : decode code 792 = .ok (.iadd, 1) := by decide +kernel
theorem d_l_law_793 : decode code 793 = .ok (.iaload, 1) := by decide +kernel
theorem d_l_law_794 : decode code 794 = .ok (.invokevirtual 98, 3) := by decide +kernel
theorem d_l_law_797 : decode code 797 = .ok (.istore 6, 2) := by decide +kernel
theorem d_l_law_799 : decode code 799 = .ok (.aload_n 2, 1) := by decide +kernel
theorem d_l_law_800 : decode code 800 = .ok (.invokevirtual 62, 3) := by decide +kernel
theorem d_l_law_803 : decode code 803 = .ok (.iload 5, 2) := by decide +kernel
theorem d_l_law_805 : decode code 805 = .ok (.if_icmp .eq 5, 3) := by decide +kernel
theorem d_l_law_808 : decode code 808 = .ok (.iconst 0, 1) := by decide +kernel
theorem d_l_law_809 : decode code 809 = .ok (.ireturn, 1) := by decide +kernel
theorem d_l_law_810 : decode code 810 = .ok (.iload 5, 2) := by decide +kernel
theorem d_l_law_812 : decode code 812 = .ok (.ifCond .ne 15, 3) := by decide +kernel
theorem d_l_law_815 : decode code 815 = .ok (.aload_n 3, 1) := by decide +kernel
theorem d_l_law_816 : decode code 816 = .ok (.iconst 0, 1) := by decide +kernel
theorem d_l_law_817 : decode code 817 = .ok (.laload, 1) := by decide +kernel
theorem d_l_law_818 : decode code 818 = .ok (.iload 6, 2) := by decide +kernel
theorem d_l_law_820 : decode code 820 = .ok (.i2l, 1) := by decide +kernel
theorem d_l_law_821 : decode code 821 = .ok (.lcmp, 1) := by decide +kernel
theorem d_l_law_822 : decode code 822 = .ok (.ifCond .eq 5, 3) := by decide +kernel
theorem d_l_law_825 : decode code 825 = .ok (.iconst 0, 1) := by decide +kernel
theorem d_l_law_826 : decode code 826 = .ok (.ireturn, 1) := by decide +kernel
theorem d_l_law_827 : decode code 827 = .ok (.goto 3, 3) := by decide +kernel
theorem d_l_law_830 : decode code 830 = .ok (.iinc 4 4, 3) := by decide +kernel
theorem d_l_law_833 : decode code 833 = .ok (.goto (-810), 3) := by decide +kernel
theorem d_l_law_836 : decode code 836 = .ok (.iconst 1, 1) := by decide +kernel
theorem d_l_law_837 : decode code 837 = .ok (.ireturn, 1) := by decide +kernel
end
section
def bI (b : Bool) : Int32 := if b then 1 else 0
theorem bI_0 {b : Bool} : bI b = 0 ↔ b = false := by cases b <;> decide
theorem bI_1 {b : Bool} : bI b = 1 ↔ b = true := by cases b <;> decide
theorem bI_n (b : Bool) : narrow .boolean (.int (bI b)) = .int (bI b) := by cases b <;> rfl
theorem bI_v (b : Bool) : vp_nar .boolean (bI b) = bI b := by cases b <;> rfl
/-- a place that may be none: 0 none, i + 1 the place i -/
def mI : Nat → Int32
  | 0 => -1
  | i + 1 => nI i
theorem mI_0 : mI 0 = -1 := rfl
theorem mI_s (i : Nat) : mI (i + 1) = nI i := rfl
theorem mI_d (i : Nat) : nI i + Int32.ofInt (-1) = mI i := by
  cases i with
  | zero => decide
  | succ i => rw [mI_s]; exact pk_m1 i
theorem mI_lt {t : Nat} (h : t < 2 ^ 31) : mI t < 0 ↔ t = 0 := by
  cases t with
  | zero => exact ⟨fun _ => rfl, fun _ => by decide⟩
  | succ i => rw [mI_s]; exact ⟨fun q => absurd q (nI_pos (by omega)), fun q => by omega⟩
theorem mI_nI {t j : Nat} (ht : t < 2 ^ 31) (hj : j < 2 ^ 31) : mI t = nI j ↔ t = j + 1 := by
  cases t with
  | zero => exact ⟨fun q => absurd (by rw [← q]; decide) (nI_pos hj), fun q => by omega⟩
  | succ i => rw [mI_s, nI_eq (by omega) hj]; omega
theorem mI_m1 {t : Nat} (ht : t < 2 ^ 31) : mI t = -1 ↔ t = 0 := by
  cases t with
  | zero => exact ⟨fun _ => rfl, fun _ => rfl⟩
  | succ i => rw [mI_s]; exact ⟨fun q => absurd (by rw [q]; decide) (nI_pos (n := i) (by omega)), fun q => by omega⟩
section NR
variable {p : Program} {l : Launch} {e : Env} {R : Room} {s : State} {m : MethodId} {args : Array Value} {below : List Frame} {meth : Method} {c : Code} {H : Heap} {locs : List Loc} {cells slots : Nat} {Q : State → Prop}
variable {cc : ByteArray} {pc : Nat} {ls : Array Slot} {rest : List Value}
theorem nr_top {v w : Value} (h : v = w) (k : W p l e R s m args below meth c H locs cells slots Q (F0 m pc ls (w :: rest))) : W p l e R s m args below meth c H locs cells slots Q (F0 m pc ls (v :: rest)) := h ▸ k
theorem nr_iadd (hx : p.tables.exec = Jvm.exec) (hb : c.code = cc) {x y : Nat} (d : decode cc pc = .ok (.iadd, 1))  (k : W p l e R s m args below meth c H locs cells slots Q (F0 m (pc + 1) ls (.int (nI (x + y)) :: rest))) : W p l e R s m args below meth c H locs cells slots Q (F0 m pc ls (.int (nI y) :: .int (nI x) :: rest)) := lv_iadd hx hb d (nr_top (congrArg Value.int (nI_add x y)) k)
theorem nr_isub (hx : p.tables.exec = Jvm.exec) (hb : c.code = cc) {x y : Nat} (d : decode cc pc = .ok (.isub, 1)) (h : y ≤ x) (k : W p l e R s m args below meth c H locs cells slots Q (F0 m (pc + 1) ls (.int (nI (x - y)) :: rest))) : W p l e R s m args below meth c H locs cells slots Q (F0 m pc ls (.int (nI y) :: .int (nI x) :: rest)) := lv_isub hx hb d (nr_top (congrArg Value.int (pk_sub h)) k)
theorem nr_imul (hx : p.tables.exec = Jvm.exec) (hb : c.code = cc) {x y : Nat} (d : decode cc pc = .ok (.imul, 1))  (k : W p l e R s m args below meth c H locs cells slots Q (F0 m (pc + 1) ls (.int (nI (x * y)) :: rest))) : W p l e R s m args below meth c H locs cells slots Q (F0 m pc ls (.int (nI y) :: .int (nI x) :: rest)) := lv_imul hx hb d (nr_top (congrArg Value.int (pk_mul x y)) k)
theorem nr_i_ne {x y : Nat} (h1 : x < 2 ^ 31) (h2 : y < 2 ^ 31) : nI x ≠ nI y ↔ x ≠ y := not_congr (nI_eq h1 h2)
theorem nr_i_ge {x y : Nat} (h1 : x < 2 ^ 31) (h2 : y < 2 ^ 31) : nI x ≥ nI y ↔ y ≤ x := nI_leI h2 h1
theorem nr_i_gt {x y : Nat} (h1 : x < 2 ^ 31) (h2 : y < 2 ^ 31) : nI x > nI y ↔ y < x := nI_ltI h2 h1
theorem nr_icmp_eq (hx : p.tables.exec = Jvm.exec) (hb : c.code = cc) {x y : Nat} {off : Int} {tgt : Nat} (h1 : x < 2 ^ 31) (h2 : y < 2 ^ 31) (d : decode cc pc = .ok (.if_icmp .eq off, 3)) (ht : (pc : Int) + off = (tgt : Int)) (kt : x = y → W p l e R s m args below meth c H locs cells slots Q (F0 m tgt ls rest)) (kf : ¬ x = y → W p l e R s m args below meth c H locs cells slots Q (F0 m (pc + 3) ls rest)) : W p l e R s m args below meth c H locs cells slots Q (F0 m pc ls (.int (nI y) :: .int (nI x) :: rest)) := lv_icmp_eq hx hb d ht (fun q => kt ((nI_eq h1 h2).mp q)) (fun q => kf (fun z => q ((nI_eq h1 h2).mpr z)))
theorem nr_icmp_ne (hx : p.tables.exec = Jvm.exec) (hb : c.code = cc) {x y : Nat} {off : Int} {tgt : Nat} (h1 : x < 2 ^ 31) (h2 : y < 2 ^ 31) (d : decode cc pc = .ok (.if_icmp .ne off, 3)) (ht : (pc : Int) + off = (tgt : Int)) (kt : ¬ x = y → W p l e R s m args below meth c H locs cells slots Q (F0 m tgt ls rest)) (kf : x = y → W p l e R s m args below meth c H locs cells slots Q (F0 m (pc + 3) ls rest)) : W p l e R s m args below meth c H locs cells slots Q (F0 m pc ls (.int (nI y) :: .int (nI x) :: rest)) := lv_icmp_ne hx hb d ht (fun q => kt (fun z => q ((nI_eq h1 h2).mpr z))) (fun q => kf ((nI_eq h1 h2).mp (by first | exact q | exact Classical.not_not.mp q)))
theorem nr_icmp_lt (hx : p.tables.exec = Jvm.exec) (hb : c.code = cc) {x y : Nat} {off : Int} {tgt : Nat} (h1 : x < 2 ^ 31) (h2 : y < 2 ^ 31) (d : decode cc pc = .ok (.if_icmp .lt off, 3)) (ht : (pc : Int) + off = (tgt : Int)) (kt : x < y → W p l e R s m args below meth c H locs cells slots Q (F0 m tgt ls rest)) (kf : y ≤ x → W p l e R s m args below meth c H locs cells slots Q (F0 m (pc + 3) ls rest)) : W p l e R s m args below meth c H locs cells slots Q (F0 m pc ls (.int (nI y) :: .int (nI x) :: rest)) := lv_icmp_lt hx hb d ht (fun q => kt ((nI_ltI h1 h2).mp q)) (fun q => kf (by have z := mt (nI_ltI h1 h2).mpr q; omega))
theorem nr_icmp_ge (hx : p.tables.exec = Jvm.exec) (hb : c.code = cc) {x y : Nat} {off : Int} {tgt : Nat} (h1 : x < 2 ^ 31) (h2 : y < 2 ^ 31) (d : decode cc pc = .ok (.if_icmp .ge off, 3)) (ht : (pc : Int) + off = (tgt : Int)) (kt : y ≤ x → W p l e R s m args below meth c H locs cells slots Q (F0 m tgt ls rest)) (kf : x < y → W p l e R s m args below meth c H locs cells slots Q (F0 m (pc + 3) ls rest)) : W p l e R s m args below meth c H locs cells slots Q (F0 m pc ls (.int (nI y) :: .int (nI x) :: rest)) := lv_icmp_ge hx hb d ht (fun q => kt ((nI_leI h2 h1).mp q)) (fun q => kf (by have z := mt (nI_leI h2 h1).mpr q; omega))
theorem nr_icmp_gt (hx : p.tables.exec = Jvm.exec) (hb : c.code = cc) {x y : Nat} {off : Int} {tgt : Nat} (h1 : x < 2 ^ 31) (h2 : y < 2 ^ 31) (d : decode cc pc = .ok (.if_icmp .gt off, 3)) (ht : (pc : Int) + off = (tgt : Int)) (kt : y < x → W p l e R s m args below meth c H locs cells slots Q (F0 m tgt ls rest)) (kf : x ≤ y → W p l e R s m args below meth c H locs cells slots Q (F0 m (pc + 3) ls rest)) : W p l e R s m args below meth c H locs cells slots Q (F0 m pc ls (.int (nI y) :: .int (nI x) :: rest)) := lv_icmp_gt hx hb d ht (fun q => kt ((nI_ltI h2 h1).mp q)) (fun q => kf (by have z := mt (nI_ltI h2 h1).mpr q; omega))
theorem nr_icmp_le (hx : p.tables.exec = Jvm.exec) (hb : c.code = cc) {x y : Nat} {off : Int} {tgt : Nat} (h1 : x < 2 ^ 31) (h2 : y < 2 ^ 31) (d : decode cc pc = .ok (.if_icmp .le off, 3)) (ht : (pc : Int) + off = (tgt : Int)) (kt : x ≤ y → W p l e R s m args below meth c H locs cells slots Q (F0 m tgt ls rest)) (kf : y < x → W p l e R s m args below meth c H locs cells slots Q (F0 m (pc + 3) ls rest)) : W p l e R s m args below meth c H locs cells slots Q (F0 m pc ls (.int (nI y) :: .int (nI x) :: rest)) := lv_icmp_le hx hb d ht (fun q => kt ((nI_leI h1 h2).mp q)) (fun q => kf (by have z := mt (nI_leI h1 h2).mpr q; omega))
theorem nr_ifeq_b (hx : p.tables.exec = Jvm.exec) (hb : c.code = cc) {b : Bool} {off : Int} {tgt : Nat} (d : decode cc pc = .ok (.ifCond .eq off, 3)) (ht : (pc : Int) + off = (tgt : Int)) (kt : b = false → W p l e R s m args below meth c H locs cells slots Q (F0 m tgt ls rest)) (kf : b = true → W p l e R s m args below meth c H locs cells slots Q (F0 m (pc + 3) ls rest)) : W p l e R s m args below meth c H locs cells slots Q (F0 m pc ls (.int (bI b) :: rest)) := lv_if_eq hx hb d ht (fun q => kt (bI_0.mp q)) (fun q => kf (by cases b with | true => rfl | false => exact absurd rfl q))
theorem nr_ifne_b (hx : p.tables.exec = Jvm.exec) (hb : c.code = cc) {b : Bool} {off : Int} {tgt : Nat} (d : decode cc pc = .ok (.ifCond .ne off, 3)) (ht : (pc : Int) + off = (tgt : Int)) (kt : b = true → W p l e R s m args below meth c H locs cells slots Q (F0 m tgt ls rest)) (kf : b = false → W p l e R s m args below meth c H locs cells slots Q (F0 m (pc + 3) ls rest)) : W p l e R s m args below meth c H locs cells slots Q (F0 m pc ls (.int (bI b) :: rest)) := lv_if_ne hx hb d ht (fun q => kt (by cases b with | true => rfl | false => exact absurd rfl q)) (fun q => kf (bI_0.mp (by first | exact q | exact Classical.not_not.mp q)))
theorem nr_iflt_m (hx : p.tables.exec = Jvm.exec) (hb : c.code = cc) {t : Nat} {off : Int} {tgt : Nat} (h1 : t < 2 ^ 31) (d : decode cc pc = .ok (.ifCond .lt off, 3)) (ht : (pc : Int) + off = (tgt : Int)) (kt : t = 0 → W p l e R s m args below meth c H locs cells slots Q (F0 m tgt ls rest)) (kf : t ≠ 0 → W p l e R s m args below meth c H locs cells slots Q (F0 m (pc + 3) ls rest)) : W p l e R s m args below meth c H locs cells slots Q (F0 m pc ls (.int (mI t) :: rest)) := lv_if_lt hx hb d ht (fun q => kt ((mI_lt h1).mp q)) (fun q => kf (fun z => q ((mI_lt h1).mpr z)))
theorem nr_ifge_m (hx : p.tables.exec = Jvm.exec) (hb : c.code = cc) {t : Nat} {off : Int} {tgt : Nat} (h1 : t < 2 ^ 31) (d : decode cc pc = .ok (.ifCond .ge off, 3)) (ht : (pc : Int) + off = (tgt : Int)) (kt : t ≠ 0 → W p l e R s m args below meth c H locs cells slots Q (F0 m tgt ls rest)) (kf : t = 0 → W p l e R s m args below meth c H locs cells slots Q (F0 m (pc + 3) ls rest)) : W p l e R s m args below meth c H locs cells slots Q (F0 m pc ls (.int (mI t) :: rest)) := lv_if_ge hx hb d ht (fun q => kt (fun z => by rw [z] at q; exact absurd q (by decide))) (fun q => kf (by cases t with | zero => rfl | succ i => exact absurd (nI_pos' (n := i) (by omega)) q))
theorem nr_iflt_n (hx : p.tables.exec = Jvm.exec) (hb : c.code = cc) {x : Nat} {off : Int} {tgt : Nat} (h1 : x < 2 ^ 31) (d : decode cc pc = .ok (.ifCond .lt off, 3)) (ht : (pc : Int) + off = (tgt : Int)) (kf : W p l e R s m args below meth c H locs cells slots Q (F0 m (pc + 3) ls rest)) : W p l e R s m args below meth c H locs cells slots Q (F0 m pc ls (.int (nI x) :: rest)) := lv_if_lt hx hb d ht (fun q => absurd q (nI_pos h1)) (fun _ => kf)
theorem nr_ifge_n (hx : p.tables.exec = Jvm.exec) (hb : c.code = cc) {x : Nat} {off : Int} {tgt : Nat} (h1 : x < 2 ^ 31) (d : decode cc pc = .ok (.ifCond .ge off, 3)) (ht : (pc : Int) + off = (tgt : Int)) (kt : W p l e R s m args below meth c H locs cells slots Q (F0 m tgt ls rest)) : W p l e R s m args below meth c H locs cells slots Q (F0 m pc ls (.int (nI x) :: rest)) := lv_if_ge hx hb d ht (fun _ => kt) (fun q => absurd (nI_pos' h1) q)
theorem mx_I {x y : Nat} (h1 : x < 2 ^ 31) (h2 : y < 2 ^ 31) : (if nI x < nI y then nI y else nI x) = nI (max x y) := by
  by_cases h : x < y
  · rw [if_pos ((nI_ltI h1 h2).mpr h), Nat.max_eq_right (by omega)]
  · rw [if_neg (fun q => h ((nI_ltI h1 h2).mp q)), Nat.max_eq_left (by omega)]
section AR
variable {D : va_G} {cl : List vw_C} {ws : va_W} {tys : List (ClassId × FieldType)} {q : Nat} {A : Nat → Prop} {H0 : Heap}
theorem nr_iald (hx : p.tables.exec = Jvm.exec) (hb : c.code = cc) (hK : va_K D cl tys s) (hP : va_P D cl ws H) (q0 t0 : Nat) {cA : ClassId} {n : Nat} {f : Nat → Int32} (ha : ws[q0]? = some (q, .inl (cA, n, .inl f))) (ht : tys[t0]? = some (cA, .int)) {j : Nat} (hj : j < n) (hn : n < 2 ^ 31) {v : Int32} (hv : f j = v) (d : decode cc pc = .ok (.iaload, 1)) (k : W p l e R s m args below meth c H locs cells slots Q (F0 m (pc + 1) ls (.int v :: rest))) : W p l e R s m args below meth c H locs cells slots Q (F0 m pc ls (.int (nI j) :: .ref q :: rest)) := va_iald hx hb hK hP q0 t0 ha ht (vp_in_nI hj hn) d (nr_top (congrArg Value.int (by rw [nI_clamp (by omega)]; exact hv)) k)
theorem nr_lald (hx : p.tables.exec = Jvm.exec) (hb : c.code = cc) (hK : va_K D cl tys s) (hP : va_P D cl ws H) (q0 t0 : Nat) {cA : ClassId} {n : Nat} {f : Nat → Int64} (ha : ws[q0]? = some (q, .inl (cA, n, .inr (.inl f)))) (ht : tys[t0]? = some (cA, .long)) {j : Nat} (hj : j < n) (hn : n < 2 ^ 31) {v : Int64} (hv : f j = v) (d : decode cc pc = .ok (.laload, 1)) (k : W p l e R s m args below meth c H locs cells slots Q (F0 m (pc + 1) ls (.long v :: rest))) : W p l e R s m args below meth c H locs cells slots Q (F0 m pc ls (.int (nI j) :: .ref q :: rest)) := va_lald hx hb hK hP q0 t0 ha ht (vp_in_nI hj hn) d (nr_top (congrArg Value.long (by rw [nI_clamp (by omega)]; exact hv)) k)
theorem nr_zald (hx : p.tables.exec = Jvm.exec) (hb : c.code = cc) (hK : va_K D cl tys s) (hP : va_P D cl ws H) (q0 t0 : Nat) {cA : ClassId} {n : Nat} {f : Nat → Int32} (ha : ws[q0]? = some (q, .inl (cA, n, .inl f))) (ht : tys[t0]? = some (cA, .boolean)) {j : Nat} (hj : j < n) (hn : n < 2 ^ 31) {v : Int32} (hv : f j = v) (d : decode cc pc = .ok (.baload, 1)) (k : W p l e R s m args below meth c H locs cells slots Q (F0 m (pc + 1) ls (.int v :: rest))) : W p l e R s m args below meth c H locs cells slots Q (F0 m pc ls (.int (nI j) :: .ref q :: rest)) := va_zald hx hb hK hP q0 t0 ha ht (vp_in_nI hj hn) d (nr_top (congrArg Value.int (by rw [nI_clamp (by omega)]; exact hv)) k)
theorem nr_iast (hx : p.tables.exec = Jvm.exec) (hb : c.code = cc) (hK : va_K D cl tys s) (hP : va_P D cl ws H) (hD : va_D A ws) (hS : va_S A H0 H locs) (q0 t0 : Nat) {cA : ClassId} {n : Nat} {f : Nat → Int32} (ha : ws[q0]? = some (q, .inl (cA, n, .inl f))) (ht : tys[t0]? = some (cA, .int)) {j : Nat} {x : Int32} (hj : j < n) (hn : n < 2 ^ 31) (d : decode cc pc = .ok (.iastore, 1)) (k : ∀ (H1 : Heap) (locs1 : List Loc), va_P D cl (ws.set q0 (q, .inl (cA, n, .inl (upd f j x)))) H1 → va_D A (ws.set q0 (q, .inl (cA, n, .inl (upd f j x)))) → va_S A H0 H1 locs1 → W p l e R s m args below meth c H1 locs1 cells slots Q (F0 m (pc + 1) ls rest)) : W p l e R s m args below meth c H locs cells slots Q (F0 m pc ls (.int x :: .int (nI j) :: .ref q :: rest)) := va_iast hx hb hK hP hD hS q0 t0 ha ht (vp_in_nI hj hn) d (fun H1 locs1 h1 h2 h3 => k H1 locs1 (by rw [nI_clamp (by omega)] at h1; exact h1) (by rw [nI_clamp (by omega)] at h2; exact h2) h3)
theorem nr_last (hx : p.tables.exec = Jvm.exec) (hb : c.code = cc) (hK : va_K D cl tys s) (hP : va_P D cl ws H) (hD : va_D A ws) (hS : va_S A H0 H locs) (q0 t0 : Nat) {cA : ClassId} {n : Nat} {f : Nat → Int64} (ha : ws[q0]? = some (q, .inl (cA, n, .inr (.inl (f))))) (ht : tys[t0]? = some (cA, .long)) {j : Nat} {x : Int64} (hj : j < n) (hn : n < 2 ^ 31) (d : decode cc pc = .ok (.lastore, 1)) (k : ∀ (H1 : Heap) (locs1 : List Loc), va_P D cl (ws.set q0 (q, .inl (cA, n, .inr (.inl ((vp_updL f j x)))))) H1 → va_D A (ws.set q0 (q, .inl (cA, n, .inr (.inl ((vp_updL f j x)))))) → va_S A H0 H1 locs1 → W p l e R s m args below meth c H1 locs1 cells slots Q (F0 m (pc + 1) ls rest)) : W p l e R s m args below meth c H locs cells slots Q (F0 m pc ls (.long x :: .int (nI j) :: .ref q :: rest)) := va_last hx hb hK hP hD hS q0 t0 ha ht (vp_in_nI hj hn) d (fun H1 locs1 h1 h2 h3 => k H1 locs1 (by rw [nI_clamp (by omega)] at h1; exact h1) (by rw [nI_clamp (by omega)] at h2; exact h2) h3)
theorem nr_zast (hx : p.tables.exec = Jvm.exec) (hb : c.code = cc) (hK : va_K D cl tys s) (hP : va_P D cl ws H) (hD : va_D A ws) (hS : va_S A H0 H locs) (q0 t0 : Nat) {cA : ClassId} {n : Nat} {f : Nat → Int32} (ha : ws[q0]? = some (q, .inl (cA, n, .inl f))) (ht : tys[t0]? = some (cA, .boolean)) {j : Nat} {x : Bool} (hj : j < n) (hn : n < 2 ^ 31) (d : decode cc pc = .ok (.bastore, 1)) (k : ∀ (H1 : Heap) (locs1 : List Loc), va_P D cl (ws.set q0 (q, .inl (cA, n, .inl (upd f j (bI x))))) H1 → va_D A (ws.set q0 (q, .inl (cA, n, .inl (upd f j (bI x))))) → va_S A H0 H1 locs1 → W p l e R s m args below meth c H1 locs1 cells slots Q (F0 m (pc + 1) ls rest)) : W p l e R s m args below meth c H locs cells slots Q (F0 m pc ls (.int (bI x) :: .int (nI j) :: .ref q :: rest)) := va_zast hx hb hK hP hD hS q0 t0 ha ht (vp_in_nI hj hn) d (fun H1 locs1 h1 h2 h3 => k H1 locs1 (by rw [nI_clamp (by omega), bI_v] at h1; exact h1) (by rw [nI_clamp (by omega), bI_v] at h2; exact h2) h3)
end AR
end NR
def T_g : u_T := fun k => match k with
  | 0 => ("SightGraph", "nodes", "I", false)
  | 1 => ("SightGraph", "events", "I", false)
  | 2 => ("SightGraph", "creators", "[I", true)
  | 3 => ("SightGraph", "selfParents", "[I", true)
  | 4 => ("SightGraph", "rounds", "[I", true)
  | 5 => ("SightGraph", "forkers", "[I", true)
  | 6 => ("SightGraph", "lowAncestors", "[J", true)
  | _ => ("SightGraph", "highAncestors", "[J", true)
def t_g : Nat → FieldType := fun k => match k with
  | 0 => .int
  | 1 => .int
  | 2 => .array .int
  | 3 => .array .int
  | 4 => .array .int
  | 5 => .array .int
  | 6 => .array .long
  | _ => .array .long
def T_r : u_T := fun k => match k with
  | 0 => ("SightGraphModel", "err", "I", false)
  | 1 => ("SightGraphModel", "nodes", "I", false)
  | 2 => ("SightGraphModel", "events", "I", false)
  | 3 => ("SightGraphModel", "creator", "[I", true)
  | 4 => ("SightGraphModel", "self", "[I", true)
  | 5 => ("SightGraphModel", "other", "[I", true)
  | 6 => ("SightGraphModel", "rounds", "[I", true)
  | 7 => ("SightGraphModel", "todo", "[I", true)
  | 8 => ("SightGraphModel", "above", "[Z", true)
  | _ => ("SightGraphModel", "forks", "[Z", true)
def t_r : Nat → FieldType := fun k => match k with
  | 0 => .int
  | 1 => .int
  | 2 => .int
  | 3 => .array .int
  | 4 => .array .int
  | 5 => .array .int
  | 6 => .array .int
  | 7 => .array .int
  | 8 => .array .boolean
  | _ => .array .boolean
theorem fn_g : ∀ a, a < 8 → ∀ b, b < 8 → a ≠ b → (T_g a).2.1 ≠ (T_g b).2.1 := by decide +kernel
theorem ft_g : ∀ k, k < 8 → parseFieldDescriptor (T_g k).2.2.1 = some (t_g k) := by decide +kernel
theorem fn_r : ∀ a, a < 10 → ∀ b, b < 10 → a ≠ b → (T_r a).2.1 ≠ (T_r b).2.1 := by decide +kernel
theorem ft_r : ∀ k, k < 10 → parseFieldDescriptor (T_r k).2.2.1 = some (t_r k) := by decide +kernel
theorem in_g : ∀ w ∈ u_ws "SightGraph" T_g 8, w ∈ Cw := by
  have h : ∀ w ∈ [(Cond.lays "SightGraph" "SightGraph" "nodes" "I"), (Cond.lays "SightGraph" "SightGraph" "events" "I"), (Cond.laysFinal "SightGraph" "SightGraph" "creators" "[I"), (Cond.laysFinal "SightGraph" "SightGraph" "selfParents" "[I"), (Cond.laysFinal "SightGraph" "SightGraph" "rounds" "[I"), (Cond.laysFinal "SightGraph" "SightGraph" "forkers" "[I"), (Cond.laysFinal "SightGraph" "SightGraph" "lowAncestors" "[J"), (Cond.laysFinal "SightGraph" "SightGraph" "highAncestors" "[J")], w ∈ Cw := List.forall_mem_cons.mpr ⟨k_1_26, List.forall_mem_cons.mpr ⟨k_1_28, List.forall_mem_cons.mpr ⟨k_1_30, List.forall_mem_cons.mpr ⟨k_1_32, List.forall_mem_cons.mpr ⟨k_1_34, List.forall_mem_cons.mpr ⟨k_1_36, List.forall_mem_cons.mpr ⟨k_1_38, List.forall_mem_cons.mpr ⟨k_1_40, fun _ h => absurd h List.not_mem_nil⟩⟩⟩⟩⟩⟩⟩⟩
  exact h
theorem in_r : ∀ w ∈ u_ws "SightGraphModel" T_r 10, w ∈ Cw := by
  have h : ∀ w ∈ [(Cond.lays "SightGraphModel" "SightGraphModel" "err" "I"), (Cond.lays "SightGraphModel" "SightGraphModel" "nodes" "I"), (Cond.lays "SightGraphModel" "SightGraphModel" "events" "I"), (Cond.laysFinal "SightGraphModel" "SightGraphModel" "creator" "[I"), (Cond.laysFinal "SightGraphModel" "SightGraphModel" "self" "[I"), (Cond.laysFinal "SightGraphModel" "SightGraphModel" "other" "[I"), (Cond.laysFinal "SightGraphModel" "SightGraphModel" "rounds" "[I"), (Cond.laysFinal "SightGraphModel" "SightGraphModel" "todo" "[I"), (Cond.laysFinal "SightGraphModel" "SightGraphModel" "above" "[Z"), (Cond.laysFinal "SightGraphModel" "SightGraphModel" "forks" "[Z")], w ∈ Cw := List.forall_mem_cons.mpr ⟨k_2_83, List.forall_mem_cons.mpr ⟨k_2_85, List.forall_mem_cons.mpr ⟨k_2_87, List.forall_mem_cons.mpr ⟨k_2_89, List.forall_mem_cons.mpr ⟨k_2_91, List.forall_mem_cons.mpr ⟨k_2_93, List.forall_mem_cons.mpr ⟨k_2_95, List.forall_mem_cons.mpr ⟨k_2_97, List.forall_mem_cons.mpr ⟨k_2_99, List.forall_mem_cons.mpr ⟨k_2_101, fun _ h => absurd h List.not_mem_nil⟩⟩⟩⟩⟩⟩⟩⟩⟩⟩
  exact h
abbrev cls : List vw_C := [("SightGraph", T_g, 8), ("SightGraphModel", T_r, 10)]
def wd (D : va_G) (tys : List (ClassId × FieldType)) (ws : va_W) (U : State) : Prop := va_P D cls ws U.heap ∧ va_K D cls tys U
theorem wd_blind {D : va_G} {tys : List (ClassId × FieldType)} {ws : va_W} {av : List Value} : FrameBlind (va_Pc av (wd D tys ws)) := fun a U g mk q => ⟨q.1, q.2.1, va_K.moved (u := U) (U := U.calling g mk a) (Vm.Alike.refl U.vm) q.2.2⟩
theorem cw_V {own : String} {idx : Nat} {y : MethodName} {bs : ByteArray} {mL : Nat} {ret : Option FieldType} (k1 : Cond.methodLink own idx y ∈ Cw) (k2 : Cond.instanceMethod y ∈ Cw) (k3 : Cond.selects y.cls y y ∈ Cw) (k4 : Cond.initialized y.cls ∈ Cw) (k5 : Cond.code y bs mL ret ∈ Cw) : GoodIn Cw (wsV own idx y.cls y (Cond.code y bs mL ret :: Cw)) := by
  have g : ∀ w ∈ Cw, w ∈ Cw ∧ ((w.onTables && w.keeps) = true ∨ ∃ ty, w = .arrayClass ty) := fun w h => ⟨h, good_of_word (List.mem_filter.mp h).2⟩
  intro w hw
  simp only [wsV, List.cons_append, List.nil_append, List.mem_cons] at hw
  rcases hw with rfl | rfl | rfl | rfl | rfl | hw
  · exact g _ k1
  · exact g _ k2
  · exact g _ k3
  · exact g _ k4
  · exact g _ k5
  · exact g _ hw
theorem cw_S {own : String} {idx : Nat} {y : MethodName} {bs : ByteArray} {mL : Nat} {ret : Option FieldType} (k1 : Cond.methodLink own idx y ∈ Cw) (k2 : Cond.static y ∈ Cw) (k4 : Cond.initialized y.cls ∈ Cw) (k5 : Cond.code y bs mL ret ∈ Cw) : GoodIn Cw (va_wsS own idx y (Cond.code y bs mL ret :: Cw)) := by
  have g : ∀ w ∈ Cw, w ∈ Cw ∧ ((w.onTables && w.keeps) = true ∨ ∃ ty, w = .arrayClass ty) := fun w h => ⟨h, good_of_word (List.mem_filter.mp h).2⟩
  intro w hw
  simp only [va_wsS, List.cons_append, List.nil_append, List.mem_cons] at hw
  rcases hw with rfl | rfl | rfl | rfl | hw
  · exact g _ k1
  · exact g _ k2
  · exact g _ k4
  · exact g _ k5
  · exact g _ hw
def nofree : Addr → Prop := fun _ => False
/-- a method that reads: the answer is v, the heap is as it was -/
def PM (l : Launch) (D : va_G) (tys : List (ClassId × FieldType)) (ws : va_W) (y : MethodName) (bs : ByteArray) (mL : Nat) (ret : Option FieldType) (f lo : Nat) (av : List Value) (v : Int32) : Prop :=
  Met l y (Cond.code y bs mL ret :: Cw) ({ frames := f, cells := 0, slots := 0, locals := lo }) (va_Pc av (wd D tys ws)) (vp_Si (fun r => r = v)) 0 0 (fun _ => False)
theorem PM.of {l : Launch} {D : va_G} {tys : List (ClassId × FieldType)} {ws : va_W} {y : MethodName} {bs : ByteArray} {mL : Nat} {ret : Option FieldType} {f lo : Nat} {av : List Value} {v : Int32} (hy : plainName y.cls = true) (hn : (lg_sl av).length ≤ mL)
    (body : ∀ (p : Program) (e : Env) (s : State) (m : MethodId) (args : Array Value) (below : List Frame) (meth : Method) (c : Code) (ls : Array Slot), CallFix p m c bs mL s args Cw y.cls → meth.sig.returnType = ret → meth.locks = false → va_P D cls ws s.heap → va_K D cls tys s → lv_has ls mL (lv_args 0 av) →
      W p l e ({ frames := f, cells := 0, slots := 0, locals := lo }) s m args below meth c s.heap [] 0 0 (MQ below (vp_Si (fun r => r = v)) args s 0 0 (fun _ => False)) (F0 m 0 ls [])) : PM l D tys ws y bs mL ret f lo av v := by
  refine Met.ofW (cc := bs) (maxL := mL) (ret := ret) hy rfl ?_
  intro p e s m args below meth c s₁ B hml hv
  obtain ⟨rfl, hP, hK⟩ := hv
  have hts := atoms_spec (ws := Cond.code y bs mL ret :: Cw) B.pre
  have hl := lv_entry av (n := mL) hn
  rw [lg_entry_eq]
  exact body p e s m _ below meth c _ ⟨B.exec, B.bytes, hml, findClass_of_methodNamed B.named, fun w hw => hts w (List.mem_cons_of_mem _ hw)⟩ B.returns B.notSynchronized hP hK hl
section PMR
variable {p : Program} {l : Launch} {e : Env} {R : Room} {s : State} {m : MethodId} {args : Array Value} {below : List Frame} {meth : Method} {c : Code} {H : Heap} {locs : List Loc} {cells slots : Nat} {Q : State → Prop}
variable {cc : ByteArray} {pc : Nat} {ls : Array Slot} {rest st : List Value}
theorem PM.iret {v v' : Int32} (hx : p.tables.exec = Jvm.exec) (hb : c.code = cc) (hr : meth.sig.returnType = some .int) (hlocks : meth.locks = false) (d : decode cc pc = .ok (.ireturn, 1)) (hv : v' = v) : W p l e R s m args below meth c s.heap [] 0 0 (MQ below (vp_Si (fun r => r = v)) args s 0 0 (fun _ => False)) (F0 m pc ls [.int v']) :=
  W.iret (v := v') hx hb hr (fun t ht _ => ⟨v', rfl, hv, ht⟩) (fun _ h => nomatch h) d hlocks
theorem PM.zret {b : Bool} {v : Int32} (hx : p.tables.exec = Jvm.exec) (hb : c.code = cc) (hr : meth.sig.returnType = some .boolean) (hlocks : meth.locks = false) (d : decode cc pc = .ok (.ireturn, 1)) (hv : bI b = v) : W p l e R s m args below meth c s.heap [] 0 0 (MQ below (vp_Si (fun r => r = v)) args s 0 0 (fun _ => False)) (F0 m pc ls [.int (bI b)]) :=
  W.zret (v := bI b) hx hb hr (bI_n b) (fun t ht _ => ⟨bI b, rfl, hv, ht⟩) (fun _ h => nomatch h) d hlocks
theorem PM.callV {D : va_G} {tys : List (ClassId × FieldType)} {ws : va_W} {nL : Nat} {own : String} {y : MethodName} {bs : ByteArray} {mL : Nat} {ret : Option FieldType} {f lo b idx : Nat} {As : List Value} {v : Int32} (S : CallFix p m c cc nL s args Cw own) (hM : PM l D tys ws y bs mL ret f lo (.ref b :: As) v)
    (k1 : Cond.methodLink own idx y ∈ Cw) (k2 : Cond.instanceMethod y ∈ Cw) (k3 : Cond.selects y.cls y y ∈ Cw) (k4 : Cond.initialized y.cls ∈ Cw) (k5 : Cond.code y bs mL ret ∈ Cw) (hd : y.cls ≠ "java/lang/invoke/MethodHandle" ∧ y.cls ≠ "java/lang/invoke/VarHandle" ∧ (parseMethodDescriptor y.desc).map (fun d => d.parameters.length) = some As.length)
    (hR : f + 1 ≤ R.frames ∧ 8 + (mL + 11) + lo ≤ R.locals) (hf : cells ≤ R.cells ∧ slots ≤ R.slots) (hP : va_P D cls ws H) (hK : va_K D cls tys s) (q0 ci : Nat) {q : vw_C} {fs : List Value} (hc : cls[ci]? = some q) (hq : q.1 = y.cls) (he : ws[q0]? = some (b, .inr (ci, fs)))
    (hl : ls.size = nL) (hrest : (rest.map fun v => v.category).sum ≤ 8) (hst : st = As.reverse ++ .ref b :: rest) (d : decode cc pc = .ok (.invokevirtual idx, 3))
    (k : W p l e R s m args below meth c H locs cells slots Q (F0 m (pc + 3) ls (.int v :: rest))) : W p l e R s m args below meth c H locs cells slots Q (F0 m pc ls st) := by
  refine vp_callSi (post := fun r => r = v) (W.runV (g := F0 m pc ls st) (As := As) (rest := rest) (b := b) S hM (cwV As.length S.2.2.2.2 (cw_V k1 k2 k3 k4 k5) rfl rfl rfl ⟨rfl, hd⟩ hR) ⟨wd_blind, by rw [← hq]; exact va_recv hK hP hc he, fun U hU hW => ⟨rfl, by rw [hU]; exact hP, va_K.moved hW.alike hK⟩⟩ rfl rfl hl hst (lv_room hrest) d hf) ?_
  intro r hr
  rw [hr]
  exact k
theorem PM.callS {D : va_G} {tys : List (ClassId × FieldType)} {ws : va_W} {nL : Nat} {own : String} {y : MethodName} {bs : ByteArray} {mL : Nat} {ret : Option FieldType} {f lo idx : Nat} {As : List Value} {v : Int32} (S : CallFix p m c cc nL s args Cw own) (hM : PM l D tys ws y bs mL ret f lo As v)
    (k1 : Cond.methodLink own idx y ∈ Cw) (k2 : Cond.static y ∈ Cw) (k4 : Cond.initialized y.cls ∈ Cw) (k5 : Cond.code y bs mL ret ∈ Cw) (hd : y.cls ≠ "java/lang/invoke/MethodHandle" ∧ y.cls ≠ "java/lang/invoke/VarHandle" ∧ (parseMethodDescriptor y.desc).map (fun d => d.parameters.length) = some As.length)
    (hR : f + 1 ≤ R.frames ∧ 8 + (mL + 11) + lo ≤ R.locals) (hf : cells ≤ R.cells ∧ slots ≤ R.slots) (hP : va_P D cls ws H) (hK : va_K D cls tys s)
    (hl : ls.size = nL) (hrest : (rest.map fun v => v.category).sum ≤ 8) (hst : st = As.reverse ++ rest) (d : decode cc pc = .ok (.invokestatic idx, 3))
    (k : W p l e R s m args below meth c H locs cells slots Q (F0 m (pc + 3) ls (.int v :: rest))) : W p l e R s m args below meth c H locs cells slots Q (F0 m pc ls st) := by
  refine vp_callSi (post := fun r => r = v) (W.runS (g := F0 m pc ls st) (As := As) (rest := rest) S hM (va_cwS As.length S.2.2.2.2 (cw_S k1 k2 k4 k5) rfl rfl rfl hd hR) ⟨wd_blind, fun U hU hW => ⟨rfl, by rw [hU]; exact hP, va_K.moved hW.alike hK⟩⟩ rfl rfl hl hst (lv_room hrest) d hf) ?_
  intro r hr
  rw [hr]
  exact k
end PMR
end
section
/-! ===== lN n to 2^64: shifts, and, or, masks, one bit ===== -/
theorem wb_tb (n : Nat) : (lN n).toBitVec = BitVec.ofNat 64 n := rfl
theorem wb_inj {a b : Int64} (h : a.toBitVec = b.toBitVec) : a = b := Int64.toBitVec_inj.mp h
theorem wb_tn {n : Nat} (h : n < 2 ^ 64) : (lN n).toBitVec.toNat = n := by rw [wb_tb, BitVec.toNat_ofNat, Nat.mod_eq_of_lt h]
theorem wb_of (x : Int64) : ∃ n, n < 2 ^ 64 ∧ x = lN n := ⟨x.toBitVec.toNat, x.toBitVec.isLt, wb_inj (by rw [wb_tb]; simp)⟩
theorem wb_of32 (x : Int32) : ∃ n, n < 2 ^ 32 ∧ x = nI n := ⟨x.toBitVec.toNat, x.toBitVec.isLt, Int32.toBitVec_inj.mp (by show _ = BitVec.ofNat 32 _; simp)⟩
theorem wb_c : ∀ k, k < 64 → ((nI k).toInt64 &&& 63) = lN k := by decide +kernel
theorem wb_cu : ∀ k, k < 64 → ((nI k).toInt64.toUInt64 &&& Int64.toUInt64 63) = UInt64.ofNat k := by decide +kernel
theorem wb_sm : ∀ k, k < 64 → (BitVec.ofNat 64 k).smod 64 = BitVec.ofNat 64 k := by decide +kernel
theorem wb_pw {a b : Nat} (h : a ≤ b) : 2 ^ b = 2 ^ a * 2 ^ (b - a) := by rw [← Nat.pow_add]; congr 1; omega
theorem wb_lt2 {a b : Nat} (h : a < b) : 2 ^ a < 2 ^ b := Nat.pow_lt_pow_right (by decide) h
theorem wb_mod (n : Nat) : lN n = lN (n % 2 ^ 64) := wb_inj (by rw [wb_tb, wb_tb]; apply BitVec.eq_of_toNat_eq; rw [BitVec.toNat_ofNat, BitVec.toNat_ofNat, Nat.mod_mod])
theorem wb_shr {n k : Nat} (hn : n < 2 ^ 64) (hk : k < 64) : ((lN n).toUInt64 >>> ((nI k).toInt64.toUInt64 &&& Int64.toUInt64 63)).toInt64 = lN (n / 2 ^ k) := by
  rw [wb_cu k hk]
  apply wb_inj
  apply BitVec.eq_of_toNat_eq
  show ((lN n).toUInt64 >>> UInt64.ofNat k).toNat = (BitVec.ofNat 64 _).toNat
  have h1 : (UInt64.ofNat k).toNat = k := by
    show (BitVec.ofNat 64 k).toNat = k
    rw [BitVec.toNat_ofNat, Nat.mod_eq_of_lt (by omega)]
  have h2 : (lN n).toUInt64.toNat = n := wb_tn hn
  rw [UInt64.toNat_shiftRight, h1, h2, Nat.mod_eq_of_lt hk, Nat.shiftRight_eq_div_pow, BitVec.toNat_ofNat, Nat.mod_eq_of_lt (Nat.lt_of_le_of_lt (Nat.div_le_self _ _) hn)]
theorem wb_shl (n : Nat) {k : Nat} (hk : k < 64) : lN n <<< ((nI k).toInt64 &&& 63) = lN (n * 2 ^ k) := by
  rw [wb_c k hk]
  apply wb_inj
  rw [Int64.toBitVec_shiftLeft, wb_tb, wb_tb, wb_tb, wb_sm k hk]
  apply BitVec.eq_of_toNat_eq
  rw [BitVec.shiftLeft_eq', BitVec.toNat_shiftLeft, BitVec.toNat_ofNat, BitVec.toNat_ofNat, BitVec.toNat_ofNat, Nat.mod_eq_of_lt (show k < 2 ^ 64 by omega), Nat.shiftLeft_eq, Nat.mul_mod, Nat.mod_mod, ← Nat.mul_mod]
theorem wb_and {a b : Nat} (ha : a < 2 ^ 64) (hb : b < 2 ^ 64) : lN a &&& lN b = lN (a &&& b) := by
  apply wb_inj
  rw [Int64.toBitVec_and, wb_tb, wb_tb, wb_tb]
  apply BitVec.eq_of_toNat_eq
  rw [BitVec.toNat_and, BitVec.toNat_ofNat, BitVec.toNat_ofNat, BitVec.toNat_ofNat, Nat.mod_eq_of_lt ha, Nat.mod_eq_of_lt hb, Nat.mod_eq_of_lt (Nat.and_lt_two_pow _ hb)]
theorem wb_or {a b : Nat} (ha : a < 2 ^ 64) (hb : b < 2 ^ 64) : lN a ||| lN b = lN (a ||| b) := by
  apply wb_inj
  rw [Int64.toBitVec_or, wb_tb, wb_tb, wb_tb]
  apply BitVec.eq_of_toNat_eq
  rw [BitVec.toNat_or, BitVec.toNat_ofNat, BitVec.toNat_ofNat, BitVec.toNat_ofNat, Nat.mod_eq_of_lt ha, Nat.mod_eq_of_lt hb, Nat.mod_eq_of_lt (Nat.or_lt_two_pow ha hb)]
theorem wb_mask {n k : Nat} (hn : n < 2 ^ 64) (hk : k < 64) : lN n &&& lN (2 ^ k - 1) = lN (n % 2 ^ k) := by
  rw [wb_and hn (by have := wb_lt2 hk; omega), Nat.and_two_pow_sub_one_eq_mod]
theorem wb_a1 {n : Nat} (hn : n < 2 ^ 64) : lN n &&& 1 = lN (n % 2) := wb_mask (k := 1) hn (by decide)
theorem wb_bit {n k : Nat} (hn : n < 2 ^ 64) (hk : k < 64) : ((lN n).toUInt64 >>> ((nI k).toInt64.toUInt64 &&& Int64.toUInt64 63)).toInt64 &&& 1 = lN (n / 2 ^ k % 2) := by
  rw [wb_shr hn hk, wb_a1 (Nat.lt_of_le_of_lt (Nat.div_le_self _ _) hn)]
/-! sets of bits, counts, and the words of the document as numbers -/
def bs (p : Nat → Bool) : Nat → Nat
  | 0 => 0
  | N + 1 => bs p N ||| (if p N = true then 2 ^ N else 0)
theorem bs_lt (p : Nat → Bool) (N : Nat) : bs p N < 2 ^ N := by
  induction N with
  | zero => exact Nat.one_pos
  | succ N ih =>
    have h1 : 2 ^ N < 2 ^ (N + 1) := Nat.pow_lt_pow_right (by decide) (Nat.lt_succ_self N)
    refine Nat.or_lt_two_pow (Nat.lt_trans ih h1) ?_
    by_cases h : p N = true
    · rw [if_pos h]; exact h1
    · rw [if_neg h]; exact Nat.two_pow_pos _
theorem bs_tb (p : Nat → Bool) (N i : Nat) : (bs p N).testBit i = (decide (i < N) && p i) := by
  induction N with
  | zero => simp [bs]
  | succ N ih =>
    show (bs p N ||| (if p N = true then 2 ^ N else 0)).testBit i = _
    rw [Nat.testBit_or, ih]
    by_cases hi : i = N
    · subst hi
      by_cases h : p i = true
      · simp [h]
      · simp [h]
    · have h2 : (if p N = true then 2 ^ N else 0).testBit i = false := by
        by_cases h : p N = true
        · rw [if_pos h, Nat.testBit_two_pow]; simp; omega
        · rw [if_neg h]; simp
      rw [h2]
      have : decide (i < N) = decide (i < N + 1) := by
        by_cases h : i < N
        · simp [h, show i < N + 1 by omega]
        · simp [h, show ¬ i < N + 1 by omega]
      rw [this]; simp
theorem bs_congr {p q : Nat → Bool} {N : Nat} (h : ∀ i, i < N → p i = q i) : bs p N = bs q N := by
  apply Nat.eq_of_testBit_eq
  intro i
  rw [bs_tb, bs_tb]
  by_cases hi : i < N
  · rw [h i hi]
  · simp [hi]
theorem bs_or (p q : Nat → Bool) (N : Nat) : bs p N ||| bs q N = bs (fun i => p i || q i) N := by
  apply Nat.eq_of_testBit_eq
  intro i
  rw [Nat.testBit_or, bs_tb, bs_tb, bs_tb]
  cases decide (i < N) <;> simp
theorem bs_one (N j : Nat) (h : j < N) : bs (fun i => j == i) N = 2 ^ j := by
  apply Nat.eq_of_testBit_eq
  intro i
  rw [bs_tb, Nat.testBit_two_pow]
  by_cases hi : j = i
  · subst hi; simp [h]
  · simp [hi]
theorem bs_none (N : Nat) : bs (fun _ => false) N = 0 := by
  apply Nat.eq_of_testBit_eq
  intro i
  rw [bs_tb]; simp
def ex (N : Nat) (p : Nat → Bool) : Bool := match N with
  | 0 => false
  | N + 1 => ex N p || p N
theorem ex_t {N : Nat} {p : Nat → Bool} : ex N p = true ↔ ∃ i, i < N ∧ p i = true := by
  induction N with
  | zero => simp [ex]
  | succ N ih =>
    show (ex N p || p N) = true ↔ _
    rw [Bool.or_eq_true, ih]
    constructor
    · rintro (⟨i, h1, h2⟩ | h)
      · exact ⟨i, by omega, h2⟩
      · exact ⟨N, by omega, h⟩
    · rintro ⟨i, h1, h2⟩
      by_cases hi : i = N
      · exact Or.inr (hi ▸ h2)
      · exact Or.inl ⟨i, by omega, h2⟩
theorem ex_f {N : Nat} {p : Nat → Bool} : ex N p = false ↔ ∀ i, i < N → p i = false := by
  constructor
  · intro h i hi
    cases hp : p i with
    | false => rfl
    | true => rw [ex_t.mpr ⟨i, hi, hp⟩] at h; cases h
  · intro h
    cases he : ex N p with
    | false => rfl
    | true => obtain ⟨i, h1, h2⟩ := ex_t.mp he; rw [h i h1] at h2; cases h2
theorem ex_congr {N : Nat} {p q : Nat → Bool} (h : ∀ i, i < N → p i = q i) : ex N p = ex N q := by
  induction N with
  | zero => rfl
  | succ N ih =>
    show (ex N p || p N) = (ex N q || q N)
    rw [ih (fun i hi => h i (by omega)), h N (by omega)]
def cn (N : Nat) (p : Nat → Bool) : Nat := match N with
  | 0 => 0
  | N + 1 => cn N p + (if p N = true then 1 else 0)
theorem cn_congr {N : Nat} {p q : Nat → Bool} (h : ∀ i, i < N → p i = q i) : cn N p = cn N q := by
  induction N with
  | zero => rfl
  | succ N ih =>
    show cn N p + _ = cn N q + _
    rw [ih (fun i hi => h i (by omega)), h N (by omega)]
theorem cn_le (N : Nat) (p : Nat → Bool) : cn N p ≤ N := by
  induction N with
  | zero => exact Nat.le_refl _
  | succ N ih =>
    show cn N p + (if p N = true then 1 else 0) ≤ N + 1
    split <;> omega
theorem cn_more {N M : Nat} {p : Nat → Bool} (h : N ≤ M) (hp : ∀ i, N ≤ i → i < M → p i = false) : cn M p = cn N p := by
  induction M with
  | zero => have : N = 0 := by omega
            subst this; rfl
  | succ M ih =>
    by_cases hN : N = M + 1
    · subst hN; rfl
    · show cn M p + (if p M = true then 1 else 0) = _
      rw [ih (by omega) (fun i h1 h2 => hp i h1 (by omega)), hp M (by omega) (by omega)]
      simp
/-- x sees y -/
def se (an fk : Nat → Nat → Bool) (c : Nat → Nat) (x y : Nat) : Bool := an x y && !fk x (c y)
/-- how many nodes have an event between -/
def sn (n : Nat) (an fk : Nat → Nat → Bool) (c : Nat → Nat) (x y : Nat) : Nat := cn n (fun m => ex (x + 1) (fun z => c z == m && (se an fk c x z && se an fk c z y)))
/-- more than two thirds -/
def mn (n k : Nat) : Bool := decide (2 * n < 3 * k)
def wi (s rd : Nat → Nat) (x : Nat) : Bool := s x == 0 || decide (rd (s x - 1) < rd x)
def pr (rd : Nat → Nat) (t : Nat) : Nat := if t = 0 then 0 else rd (t - 1)
def pa (f : Nat → Nat → Bool) (t y : Nat) : Bool := !(t == 0) && f (t - 1) y
def wn (n : Nat) (an fk : Nat → Nat → Bool) (c s rd : Nat → Nat) (x r : Nat) : Nat := cn n (fun m => ex x (fun w => c w == m && (rd w == r && (wi s rd w && mn n (sn n an fk c x w)))))
def ro (n : Nat) (an fk : Nat → Nat → Bool) (c s o rd : Nat → Nat) (x : Nat) : Nat :=
  if s x = 0 ∧ o x = 0 then 1 else if mn n (wn n an fk c s rd x (max (pr rd (s x)) (pr rd (o x)))) = true then max (pr rd (s x)) (pr rd (o x)) + 1 else max (pr rd (s x)) (pr rd (o x))
/-- a fork of m in the set a -/
def fo (a : Nat → Bool) (ow : Nat → Nat → Bool) (c : Nat → Nat) (N m : Nat) : Bool := ex N (fun y => ex y (fun z => (a y && c y == m) && ((a z && c z == m) && !ow y z)))
/-- the events' own laws, below K -/
def Lw (K n : Nat) (c s o : Nat → Nat) (an ow : Nat → Nat → Bool) : Prop := ∀ x, x < K → c x < n ∧ s x ≤ x ∧ o x ≤ x ∧ (s x ≠ 0 → c (s x - 1) = c x) ∧ (o x ≠ 0 → c (o x - 1) ≠ c x) ∧ (∀ y, an x y = (x == y || (pa an (s x) y || pa an (o x) y))) ∧ (∀ y, ow x y = (x == y || pa ow (s x) y))
theorem Lw.mono {K K' n : Nat} {c s o : Nat → Nat} {an ow : Nat → Nat → Bool} (h : Lw K n c s o an ow) (hK : K' ≤ K) : Lw K' n c s o an ow := fun x hx => h x (by omega)
theorem Lw.ow_le {K n : Nat} {c s o : Nat → Nat} {an ow : Nat → Nat → Bool} (h : Lw K n c s o an ow) : ∀ x, x < K → ∀ y, ow x y = true → y ≤ x := by
  intro x
  induction x using Nat.strongRecOn with
  | _ x ih =>
    intro hx y hy
    obtain ⟨-, h2, -, -, -, -, h7⟩ := h x hx
    rw [h7 y, Bool.or_eq_true] at hy
    rcases hy with hy | hy
    · have := of_decide_eq_true (show decide (x = y) = true from hy); omega
    · simp only [pa, Bool.and_eq_true, Bool.not_eq_true', beq_eq_false_iff_ne, ne_eq] at hy
      have := ih (s x - 1) (by omega) (by omega) y hy.2
      omega
theorem Lw.an_le {K n : Nat} {c s o : Nat → Nat} {an ow : Nat → Nat → Bool} (h : Lw K n c s o an ow) : ∀ x, x < K → ∀ y, an x y = true → y ≤ x := by
  intro x
  induction x using Nat.strongRecOn with
  | _ x ih =>
    intro hx y hy
    obtain ⟨-, h2, h3, -, -, h6, -⟩ := h x hx
    rw [h6 y, Bool.or_eq_true, Bool.or_eq_true] at hy
    rcases hy with hy | hy | hy
    · have := of_decide_eq_true (show decide (x = y) = true from hy); omega
    · simp only [pa, Bool.and_eq_true, Bool.not_eq_true', beq_eq_false_iff_ne, ne_eq] at hy
      have := ih (s x - 1) (by omega) (by omega) y hy.2
      omega
    · simp only [pa, Bool.and_eq_true, Bool.not_eq_true', beq_eq_false_iff_ne, ne_eq] at hy
      have := ih (o x - 1) (by omega) (by omega) y hy.2
      omega
/-- what x reaches, its parents reach too -/
theorem Lw.an_self {K n : Nat} {c s o : Nat → Nat} {an ow : Nat → Nat → Bool} (h : Lw K n c s o an ow) : ∀ x, x < K → ∀ y, an x y = true → (s y ≠ 0 → an x (s y - 1) = true) ∧ (o y ≠ 0 → an x (o y - 1) = true) := by
  intro x
  induction x using Nat.strongRecOn with
  | _ x ih =>
    intro hx y hy
    have hyx := h.an_le x hx y hy
    obtain ⟨-, h2, h3, -, -, h6, -⟩ := h x hx
    rw [h6 y, Bool.or_eq_true, Bool.or_eq_true] at hy
    rcases hy with hy | hy | hy
    · have e := of_decide_eq_true (show decide (x = y) = true from hy)
      subst e
      constructor
      · intro q
        obtain ⟨-, -, -, -, -, h6', -⟩ := h (s x - 1) (by omega)
        rw [h6]
        simp [pa, q, h6' (s x - 1)]
      · intro q
        obtain ⟨-, -, -, -, -, h6', -⟩ := h (o x - 1) (by omega)
        rw [h6]
        simp [pa, q, h6' (o x - 1)]
    · simp only [pa, Bool.and_eq_true, Bool.not_eq_true', beq_eq_false_iff_ne, ne_eq] at hy
      have r := ih (s x - 1) (by omega) (by omega) y hy.2
      constructor
      · intro q; rw [h6]; simp [pa, hy.1, r.1 q]
      · intro q; rw [h6]; simp [pa, hy.1, r.2 q]
    · simp only [pa, Bool.and_eq_true, Bool.not_eq_true', beq_eq_false_iff_ne, ne_eq] at hy
      have r := ih (o x - 1) (by omega) (by omega) y hy.2
      constructor
      · intro q; rw [h6]; simp [pa, hy.1, r.1 q]
      · intro q; rw [h6]; simp [pa, hy.1, r.2 q]
end
section
/-! the class's cells, and how they hold the events -/
abbrev GA : Type := (Nat → Int32) × (Nat → Int32) × (Nat → Int32) × (Nat → Int32) × (Nat → Int64) × (Nat → Int64)
def gL (cI cJ : ClassId) (ad : Nat → Nat) (n ev : Nat) (g : GA) : va_W := [(ad 0, .inr (0, [.int (nI n), .int (nI ev), .ref (ad 1), .ref (ad 2), .ref (ad 3), .ref (ad 4), .ref (ad 5), .ref (ad 6)])), (ad 1, .inl (cI, 120, .inl g.1)), (ad 2, .inl (cI, 120, .inl g.2.1)), (ad 3, .inl (cI, 120, .inl g.2.2.1)), (ad 4, .inl (cI, 120, .inl g.2.2.2.1)), (ad 5, .inl (cJ, 120, .inr (.inl g.2.2.2.2.1))), (ad 6, .inl (cJ, 120, .inr (.inl g.2.2.2.2.2)))]
def tys (cI cJ cZ : ClassId) : List (ClassId × FieldType) := [(cI, .int), (cJ, .long), (cZ, .boolean)]
def gC (K : Nat) (g : GA) (c s : Nat → Nat) (an fk : Nat → Nat → Bool) : Prop := ∀ j, j < K → g.1 j = nI (c j) ∧ g.2.1 j = mI (s j) ∧ g.2.2.2.1 j = nI (bs (fk j) 8) ∧ g.2.2.2.2.1 j = lN (bs (an j) 64) ∧ g.2.2.2.2.2 j = lN (bs (fun i => an j (64 + i)) 64)
def gR (K : Nat) (g : GA) (rd : Nat → Nat) : Prop := ∀ j, j < K → g.2.2.1 j = nI (rd j) ∧ rd j ≤ j + 1
/-- an argument that is an event's number -/
def iv (ev : Nat) (x : Int32) : Bool := decide (0 ≤ x ∧ x < nI ev)
/-- the bit e of two words -/
def wt (A B e : Nat) : Bool := if e < 64 then A.testBit e else B.testBit (e - 64)
theorem wt_an {a : Nat → Bool} {e : Nat} (h : e < 128) : wt (bs a 64) (bs (fun i => a (64 + i)) 64) e = a e := by
  unfold wt
  by_cases he : e < 64
  · rw [if_pos he, bs_tb]; simp [he]
  · rw [if_neg he, bs_tb]; simp [show e - 64 < 64 by omega, show 64 + (e - 64) = e by omega]
theorem lg_bit (A e : Nat) : lg_cmp (lN (A / 2 ^ e % 2)) 0 = bI (A.testBit e) := by
  rw [Nat.testBit_eq_decide_div_mod_eq]
  rcases Nat.mod_two_eq_zero_or_one (A / 2 ^ e) with h | h
  · rw [h]; decide
  · rw [h]; decide
theorem hb_I : ∀ F, F < 256 → ∀ e, e < 8 → ((nI F).toUInt32 >>> ((nI e).toUInt32 &&& Int32.toUInt32 31)).toInt32 &&& nI 1 = bI (F.testBit e) := by decide +kernel
theorem or_I : ∀ F, F < 256 → ∀ e, e < 8 → nI F ||| (nI 1 <<< (nI e &&& 31)) = nI (F ||| 2 ^ e) := by decide +kernel
theorem bs_add {P : Nat → Bool} {j : Nat} (hj : j < 8) : nI (bs P 8) ||| (nI 1 <<< (nI j &&& 31)) = nI (bs (fun m => P m || j == m) 8) := by
  rw [or_I _ (bs_lt P 8) j hj, ← bs_one 8 j hj, bs_or]
theorem cn_bs {P : Nat → Bool} {n : Nat} (hn : n ≤ 8) (h : ∀ m, n ≤ m → m < 8 → P m = false) : cn 8 (bs P 8).testBit = cn n P := by
  rw [cn_congr (q := P) (fun i hi => by rw [bs_tb]; simp [hi]), cn_more hn h]
def gCs (K : Nat) (g : GA) (c s : Nat → Nat) : Prop := ∀ j, j < K → g.1 j = nI (c j) ∧ g.2.1 j = mI (s j) ∧ True
theorem gC.s {K : Nat} {g : GA} {c s : Nat → Nat} {an fk : Nat → Nat → Bool} (h : gC K g c s an fk) : gCs K g c s := fun j hj => ⟨(h j hj).1, (h j hj).2.1, trivial⟩
/-- the rows of ancestors at k hold P1, P2; all else is as in g -/
def gA (k : Nat) (g u : GA) (P1 P2 : Nat → Bool) : Prop := u.1 = g.1 ∧ u.2.1 = g.2.1 ∧ u.2.2.1 = g.2.2.1 ∧ u.2.2.2.1 = g.2.2.2.1 ∧ (∀ j, j ≠ k → u.2.2.2.2.1 j = g.2.2.2.2.1 j ∧ u.2.2.2.2.2 j = g.2.2.2.2.2 j) ∧ u.2.2.2.2.1 k = lN (bs P1 64) ∧ u.2.2.2.2.2 k = lN (bs P2 64)
end
section
set_option maxHeartbeats 4000000 in
set_option maxRecDepth 100000 in
theorem c_g_isEvent (l : Launch) (D : va_G) (cI cJ cZ : ClassId) (ad : Nat → Nat) (n ev : Nat) (g : GA) (x : Int32) : PM l D (tys cI cJ cZ) (gL cI cJ ad n ev g) y_g_isEvent b_g_isEvent 2 (some .boolean) 0 0 [.ref (ad 0), .int x] (bI (iv ev x)) := by
  refine PM.of (by decide) (Nat.le_of_ble_eq_true rfl) ?_
  intro p9 e9 s9 m args below meth c9 ls S hr hlocks hP hK hl
  obtain ⟨hx, hb, hml, hown, htc⟩ := id S
  have hl : lv_has ls 2 [(0, .ref (ad 0)), (1, .int x)] := hl
  refine lv_iload_n hx hb d_g_isEvent_0 rfl (lv_at hl 1 rfl) ?_
  refine lv_if_lt (tgt := 16) hx hb d_g_isEvent_1 (by decide) (fun c_1 => ?_) (fun c_1 => ?_)
  · refine lv_iconst (v := (nI 0)) hx hb d_g_isEvent_16 (by decide) ?_
    refine nr_top (w := .int (bI false)) rfl ?_
    exact PM.zret hx hb hr hlocks d_g_isEvent_17 (by rw [show iv ev x = false from decide_eq_false (fun q => absurd q.1 (by have z := Int32.not_le.mpr c_1; exact z))])
  · refine lv_iload_n hx hb d_g_isEvent_4 rfl (lv_at hl 1 rfl) ?_
    refine lv_aload_n hx hb d_g_isEvent_5 rfl (lv_at hl 0 rfl) ?_
    refine va_get (D := D) (ci := 0) (v := .int (nI ev)) (C := "SightGraph") (T := T_g) (N := 8) hx hb htc in_g hown hK hP 0 rfl rfl 1 (by decide) (htc _ k_1_19) (fun _ h9 => h9) rfl d_g_isEvent_6 ?_
    refine lv_icmp_ge (tgt := 16) hx hb d_g_isEvent_9 (by decide) (fun c_9 => ?_) (fun c_9 => ?_)
    · refine lv_iconst (v := (nI 0)) hx hb d_g_isEvent_16 (by decide) ?_
      refine nr_top (w := .int (bI false)) rfl ?_
      exact PM.zret hx hb hr hlocks d_g_isEvent_17 (by rw [show iv ev x = false from decide_eq_false (fun q => absurd q.2 (Int32.not_lt.mpr c_9))])
    · refine lv_iconst (v := (nI 1)) hx hb d_g_isEvent_12 (by decide) ?_
      refine lv_goto (tgt := 17) hx hb d_g_isEvent_13 (by decide) ?_
      refine nr_top (w := .int (bI true)) rfl ?_
      exact PM.zret hx hb hr hlocks d_g_isEvent_17 (by rw [show iv ev x = true from decide_eq_true ⟨Int32.not_lt.mp c_1, Int32.not_le.mp c_9⟩])
set_option maxHeartbeats 4000000 in
set_option maxRecDepth 100000 in
theorem c_g_isWithin (l : Launch) (D : va_G) (cI cJ cZ : ClassId) (ad : Nat → Nat) (n ev : Nat) (g : GA) (A B e : Nat) (hA : A < 2 ^ 64) (hB : B < 2 ^ 64) (he : e < 128) : PM l D (tys cI cJ cZ) (gL cI cJ ad n ev g) y_g_isWithin b_g_isWithin 7 (some .boolean) 0 0 [.long (lN A), .long (lN B), .int (nI e)] (bI (wt A B e)) := by
  refine PM.of (by decide) (Nat.le_of_ble_eq_true rfl) ?_
  intro p9 e9 s9 m args below meth c9 ls S hr hlocks hP hK hl
  obtain ⟨hx, hb, hml, hown, htc⟩ := id S
  have hl : lv_has ls 7 [(0, .long (lN A)), (2, .long (lN B)), (4, .int (nI e))] := hl
  refine lv_iload hx hb d_g_isWithin_0 (lv_at hl 2 rfl) ?_
  refine lv_bipush (v := (nI 64)) hx hb d_g_isWithin_2 (by decide) ?_
  refine nr_icmp_ge (tgt := 14) hx hb (by omega) (by omega) d_g_isWithin_4 (by decide) (fun c_4 => ?_) (fun c_4 => ?_)
  · refine lv_lload_n hx hb d_g_isWithin_14 rfl (lv_at hl 1 rfl) ?_
    refine lv_iload hx hb d_g_isWithin_15 (lv_at hl 2 rfl) ?_
    refine lv_bipush (v := (nI 64)) hx hb d_g_isWithin_17 (by decide) ?_
    refine nr_isub hx hb d_g_isWithin_19 (by omega) ?_
    refine lv_lushr hx hb d_g_isWithin_20 rfl ?_
    refine nr_top (w := .long (lN (B / 2 ^ (e - 64)))) (congrArg Value.long (wb_shr hB (by omega))) ?_
    refine lv_lstore (lv' := [(5, .long (lN (B / 2 ^ (e - 64)))), (0, .long (lN A)), (2, .long (lN B)), (4, .int (nI e))]) hx hb d_g_isWithin_21 hl (by decide) rfl (fun ls hl => ?_)
    refine lv_lload hx hb d_g_isWithin_23 (lv_at hl 0 rfl) ?_
    refine lv_lconst (v := 1) hx hb d_g_isWithin_25 (by decide) ?_
    refine lv_land hx hb d_g_isWithin_26 ?_
    refine nr_top (w := .long (lN (B / 2 ^ (e - 64) % 2))) (congrArg Value.long (wb_a1 (Nat.lt_of_le_of_lt (Nat.div_le_self _ _) hB))) ?_
    refine lv_lconst (v := 0) hx hb d_g_isWithin_27 (by decide) ?_
    refine W.lcmp hx hb d_g_isWithin_28 ?_
    refine nr_top (w := .int (bI (B.testBit (e - 64)))) (congrArg Value.int (lg_bit _ _)) ?_
    refine nr_ifeq_b (tgt := 36) hx hb d_g_isWithin_29 (by decide) (fun c_29 => ?_) (fun c_29 => ?_)
    · refine lv_iconst (v := (nI 0)) hx hb d_g_isWithin_36 (by decide) ?_
      refine nr_top (w := .int (bI false)) rfl ?_
      exact PM.zret hx hb hr hlocks d_g_isWithin_37 (by rw [show wt A B e = false from by unfold wt; rw [if_neg (by omega)]; exact c_29])
    · refine lv_iconst (v := (nI 1)) hx hb d_g_isWithin_32 (by decide) ?_
      refine lv_goto (tgt := 37) hx hb d_g_isWithin_33 (by decide) ?_
      refine nr_top (w := .int (bI true)) rfl ?_
      exact PM.zret hx hb hr hlocks d_g_isWithin_37 (by rw [show wt A B e = true from by unfold wt; rw [if_neg (by omega)]; exact c_29])
  · refine lv_lload_n hx hb d_g_isWithin_7 rfl (lv_at hl 0 rfl) ?_
    refine lv_iload hx hb d_g_isWithin_8 (lv_at hl 2 rfl) ?_
    refine lv_lushr hx hb d_g_isWithin_10 rfl ?_
    refine lv_goto (tgt := 21) hx hb d_g_isWithin_11 (by decide) ?_
    refine nr_top (w := .long (lN (A / 2 ^ e))) (congrArg Value.long (wb_shr hA (by omega))) ?_
    refine lv_lstore (lv' := [(5, .long (lN (A / 2 ^ e))), (0, .long (lN A)), (2, .long (lN B)), (4, .int (nI e))]) hx hb d_g_isWithin_21 hl (by decide) rfl (fun ls hl => ?_)
    refine lv_lload hx hb d_g_isWithin_23 (lv_at hl 0 rfl) ?_
    refine lv_lconst (v := 1) hx hb d_g_isWithin_25 (by decide) ?_
    refine lv_land hx hb d_g_isWithin_26 ?_
    refine nr_top (w := .long (lN (A / 2 ^ e % 2))) (congrArg Value.long (wb_a1 (Nat.lt_of_le_of_lt (Nat.div_le_self _ _) hA))) ?_
    refine lv_lconst (v := 0) hx hb d_g_isWithin_27 (by decide) ?_
    refine W.lcmp hx hb d_g_isWithin_28 ?_
    refine nr_top (w := .int (bI (A.testBit e))) (congrArg Value.int (lg_bit _ _)) ?_
    refine nr_ifeq_b (tgt := 36) hx hb d_g_isWithin_29 (by decide) (fun c_29 => ?_) (fun c_29 => ?_)
    · refine lv_iconst (v := (nI 0)) hx hb d_g_isWithin_36 (by decide) ?_
      refine nr_top (w := .int (bI false)) rfl ?_
      exact PM.zret hx hb hr hlocks d_g_isWithin_37 (by rw [show wt A B e = false from by unfold wt; rw [if_pos c_4]; exact c_29])
    · refine lv_iconst (v := (nI 1)) hx hb d_g_isWithin_32 (by decide) ?_
      refine lv_goto (tgt := 37) hx hb d_g_isWithin_33 (by decide) ?_
      refine nr_top (w := .int (bI true)) rfl ?_
      exact PM.zret hx hb hr hlocks d_g_isWithin_37 (by rw [show wt A B e = true from by unfold wt; rw [if_pos c_4]; exact c_29])
set_option maxHeartbeats 4000000 in
set_option maxRecDepth 100000 in
theorem c_g_hasBit (l : Launch) (D : va_G) (cI cJ cZ : ClassId) (ad : Nat → Nat) (n ev : Nat) (g : GA) (F e : Nat) (hF : F < 256) (he : e < 8) : PM l D (tys cI cJ cZ) (gL cI cJ ad n ev g) y_g_hasBit b_g_hasBit 2 (some .boolean) 0 0 [.int (nI F), .int (nI e)] (bI (F.testBit e)) := by
  refine PM.of (by decide) (Nat.le_of_ble_eq_true rfl) ?_
  intro p9 e9 s9 m args below meth c9 ls S hr hlocks hP hK hl
  obtain ⟨hx, hb, hml, hown, htc⟩ := id S
  have hl : lv_has ls 2 [(0, .int (nI F)), (1, .int (nI e))] := hl
  refine lv_iload_n hx hb d_g_hasBit_0 rfl (lv_at hl 0 rfl) ?_
  refine lv_iload_n hx hb d_g_hasBit_1 rfl (lv_at hl 1 rfl) ?_
  refine lv_iushr hx hb d_g_hasBit_2 rfl ?_
  refine lv_iconst (v := (nI 1)) hx hb d_g_hasBit_3 (by decide) ?_
  refine lv_iand hx hb d_g_hasBit_4 ?_
  refine nr_top (w := .int (bI (F.testBit e))) (congrArg Value.int (hb_I F hF e he)) ?_
  refine nr_ifeq_b (tgt := 12) hx hb d_g_hasBit_5 (by decide) (fun c_5 => ?_) (fun c_5 => ?_)
  · refine lv_iconst (v := (nI 0)) hx hb d_g_hasBit_12 (by decide) ?_
    refine nr_top (w := .int (bI false)) rfl ?_
    exact PM.zret hx hb hr hlocks d_g_hasBit_13 (by rw [c_5])
  · refine lv_iconst (v := (nI 1)) hx hb d_g_hasBit_8 (by decide) ?_
    refine lv_goto (tgt := 13) hx hb d_g_hasBit_9 (by decide) ?_
    refine nr_top (w := .int (bI true)) rfl ?_
    exact PM.zret hx hb hr hlocks d_g_hasBit_13 (by rw [c_5])
set_option maxHeartbeats 4000000 in
set_option maxRecDepth 100000 in
theorem c_g_hasAncestor (l : Launch) (D : va_G) (cI cJ cZ : ClassId) (ad : Nat → Nat) (n ev : Nat) (g : GA) (c s : Nat → Nat) (an fk : Nat → Nat → Bool) (K : Nat) (hKb : K ≤ 120) (hC : gC K g c s an fk) (x y : Nat) (hx0 : x < K) (hy0 : y < K) : PM l D (tys cI cJ cZ) (gL cI cJ ad n ev g) y_g_hasAncestor b_g_hasAncestor 3 (some .boolean) 1 26 [.ref (ad 0), .int (nI x), .int (nI y)] (bI (an x y)) := by
  refine PM.of (by decide) (Nat.le_of_ble_eq_true rfl) ?_
  intro p9 e9 s9 m args below meth c9 ls S hr hlocks hP hK hl
  obtain ⟨hx, hb, hml, hown, htc⟩ := id S
  have hl : lv_has ls 3 [(0, .ref (ad 0)), (1, .int (nI x)), (2, .int (nI y))] := hl
  refine lv_aload_n hx hb d_g_hasAncestor_0 rfl (lv_at hl 0 rfl) ?_
  refine va_get (D := D) (ci := 0) (v := .ref (ad 5)) (C := "SightGraph") (T := T_g) (N := 8) hx hb htc in_g hown hK hP 0 rfl rfl 6 (by decide) (htc _ k_1_24) (fun _ h9 => h9) rfl d_g_hasAncestor_1 ?_
  refine lv_iload_n hx hb d_g_hasAncestor_4 rfl (lv_at hl 1 rfl) ?_
  refine nr_lald hx hb hK hP 5 1 rfl rfl (by omega) (by decide) (v := (lN (bs (an x) 64))) (hC x (by omega)).2.2.2.1 d_g_hasAncestor_5 ?_
  refine lv_aload_n hx hb d_g_hasAncestor_6 rfl (lv_at hl 0 rfl) ?_
  refine va_get (D := D) (ci := 0) (v := .ref (ad 6)) (C := "SightGraph") (T := T_g) (N := 8) hx hb htc in_g hown hK hP 0 rfl rfl 7 (by decide) (htc _ k_1_25) (fun _ h9 => h9) rfl d_g_hasAncestor_7 ?_
  refine lv_iload_n hx hb d_g_hasAncestor_10 rfl (lv_at hl 1 rfl) ?_
  refine nr_lald hx hb hK hP 6 1 rfl rfl (by omega) (by decide) (v := (lN (bs (fun i => an x (64 + i)) 64))) (hC x (by omega)).2.2.2.2 d_g_hasAncestor_11 ?_
  refine lv_iload_n hx hb d_g_hasAncestor_12 rfl (lv_at hl 2 rfl) ?_
  refine PM.callS (rest := []) S (c_g_isWithin l D cI cJ cZ ad n ev g _ _ y (bs_lt _ 64) (bs_lt _ 64) (by omega)) k_1_179 k_1_180 k_1_1 k_1_181 h_g_isWithin ⟨Nat.le_of_ble_eq_true rfl, Nat.le_of_ble_eq_true rfl⟩ ⟨Nat.le_of_ble_eq_true rfl, Nat.le_of_ble_eq_true rfl⟩ hP hK hl.1 (Nat.le_of_ble_eq_true rfl) rfl d_g_hasAncestor_13 ?_
  exact PM.zret hx hb hr hlocks d_g_hasAncestor_16 (by rw [wt_an (by omega)])
set_option maxHeartbeats 4000000 in
set_option maxRecDepth 100000 in
theorem c_g_hasSight (l : Launch) (D : va_G) (cI cJ cZ : ClassId) (ad : Nat → Nat) (n ev : Nat) (g : GA) (c s : Nat → Nat) (an fk : Nat → Nat → Bool) (K : Nat) (hKb : K ≤ 120) (hC : gC K g c s an fk) (x y : Nat) (hx0 : x < K) (hy0 : y < K) (hcy : c y < 8) : PM l D (tys cI cJ cZ) (gL cI cJ ad n ev g) y_g_hasSight b_g_hasSight 3 (some .boolean) 2 48 [.ref (ad 0), .int (nI x), .int (nI y)] (bI (se an fk c x y)) := by
  refine PM.of (by decide) (Nat.le_of_ble_eq_true rfl) ?_
  intro p9 e9 s9 m args below meth c9 ls S hr hlocks hP hK hl
  obtain ⟨hx, hb, hml, hown, htc⟩ := id S
  have hl : lv_has ls 3 [(0, .ref (ad 0)), (1, .int (nI x)), (2, .int (nI y))] := hl
  refine lv_aload_n hx hb d_g_hasSight_0 rfl (lv_at hl 0 rfl) ?_
  refine lv_iload_n hx hb d_g_hasSight_1 rfl (lv_at hl 1 rfl) ?_
  refine lv_iload_n hx hb d_g_hasSight_2 rfl (lv_at hl 2 rfl) ?_
  refine PM.callV (rest := []) S (c_g_hasAncestor l D cI cJ cZ ad n ev g c s an fk K hKb hC x y hx0 hy0) k_1_209 k_1_211 k_s_15 k_1_1 k_1_212 h_g_hasAncestor ⟨Nat.le_of_ble_eq_true rfl, Nat.le_of_ble_eq_true rfl⟩ ⟨Nat.le_of_ble_eq_true rfl, Nat.le_of_ble_eq_true rfl⟩ hP hK 0 0 rfl rfl rfl hl.1 (Nat.le_of_ble_eq_true rfl) rfl d_g_hasSight_3 ?_
  refine nr_ifeq_b (tgt := 31) hx hb d_g_hasSight_6 (by decide) (fun c_6 => ?_) (fun c_6 => ?_)
  · refine lv_iconst (v := (nI 0)) hx hb d_g_hasSight_31 (by decide) ?_
    refine nr_top (w := .int (bI false)) rfl ?_
    exact PM.zret hx hb hr hlocks d_g_hasSight_32 (by unfold se; rw [c_6]; rfl)
  · refine lv_aload_n hx hb d_g_hasSight_9 rfl (lv_at hl 0 rfl) ?_
    refine va_get (D := D) (ci := 0) (v := .ref (ad 4)) (C := "SightGraph") (T := T_g) (N := 8) hx hb htc in_g hown hK hP 0 rfl rfl 5 (by decide) (htc _ k_1_23) (fun _ h9 => h9) rfl d_g_hasSight_10 ?_
    refine lv_iload_n hx hb d_g_hasSight_13 rfl (lv_at hl 1 rfl) ?_
    refine nr_iald hx hb hK hP 4 0 rfl rfl (by omega) (by decide) (v := (nI (bs (fk x) 8))) (hC x (by omega)).2.2.1 d_g_hasSight_14 ?_
    refine lv_aload_n hx hb d_g_hasSight_15 rfl (lv_at hl 0 rfl) ?_
    refine va_get (D := D) (ci := 0) (v := .ref (ad 1)) (C := "SightGraph") (T := T_g) (N := 8) hx hb htc in_g hown hK hP 0 rfl rfl 2 (by decide) (htc _ k_1_20) (fun _ h9 => h9) rfl d_g_hasSight_16 ?_
    refine lv_iload_n hx hb d_g_hasSight_19 rfl (lv_at hl 2 rfl) ?_
    refine nr_iald hx hb hK hP 1 0 rfl rfl (by omega) (by decide) (v := (nI (c y))) (hC y (by omega)).1 d_g_hasSight_20 ?_
    refine PM.callS (rest := []) S (c_g_hasBit l D cI cJ cZ ad n ev g _ _ (bs_lt _ 8) hcy) k_1_213 k_1_214 k_1_1 k_1_215 h_g_hasBit ⟨Nat.le_of_ble_eq_true rfl, Nat.le_of_ble_eq_true rfl⟩ ⟨Nat.le_of_ble_eq_true rfl, Nat.le_of_ble_eq_true rfl⟩ hP hK hl.1 (Nat.le_of_ble_eq_true rfl) rfl d_g_hasSight_21 ?_
    refine nr_ifne_b (tgt := 31) hx hb d_g_hasSight_24 (by decide) (fun c_24 => ?_) (fun c_24 => ?_)
    · refine lv_iconst (v := (nI 0)) hx hb d_g_hasSight_31 (by decide) ?_
      refine nr_top (w := .int (bI false)) rfl ?_
      exact PM.zret hx hb hr hlocks d_g_hasSight_32 (by have q := c_24; rw [bs_tb] at q; simp [hcy] at q; unfold se; rw [c_6, q]; rfl)
    · refine lv_iconst (v := (nI 1)) hx hb d_g_hasSight_27 (by decide) ?_
      refine lv_goto (tgt := 32) hx hb d_g_hasSight_28 (by decide) ?_
      refine nr_top (w := .int (bI true)) rfl ?_
      exact PM.zret hx hb hr hlocks d_g_hasSight_32 (by have q := c_24; rw [bs_tb] at q; simp [hcy] at q; unfold se; rw [c_6, q]; rfl)
set_option maxHeartbeats 4000000 in
set_option maxRecDepth 100000 in
theorem c_g_isMany (l : Launch) (D : va_G) (cI cJ cZ : ClassId) (ad : Nat → Nat) (n ev : Nat) (g : GA) (k : Nat) (hk : k ≤ 200) (hn : n ≤ 8) : PM l D (tys cI cJ cZ) (gL cI cJ ad n ev g) y_g_isMany b_g_isMany 2 (some .boolean) 0 0 [.ref (ad 0), .int (nI k)] (bI (mn n k)) := by
  refine PM.of (by decide) (Nat.le_of_ble_eq_true rfl) ?_
  intro p9 e9 s9 m args below meth c9 ls S hr hlocks hP hK hl
  obtain ⟨hx, hb, hml, hown, htc⟩ := id S
  have hl : lv_has ls 2 [(0, .ref (ad 0)), (1, .int (nI k))] := hl
  refine lv_iconst (v := (nI 3)) hx hb d_g_isMany_0 (by decide) ?_
  refine lv_iload_n hx hb d_g_isMany_1 rfl (lv_at hl 1 rfl) ?_
  refine nr_imul hx hb d_g_isMany_2 ?_
  refine lv_iconst (v := (nI 2)) hx hb d_g_isMany_3 (by decide) ?_
  refine lv_aload_n hx hb d_g_isMany_4 rfl (lv_at hl 0 rfl) ?_
  refine va_get (D := D) (ci := 0) (v := .int (nI n)) (C := "SightGraph") (T := T_g) (N := 8) hx hb htc in_g hown hK hP 0 rfl rfl 0 (by decide) (htc _ k_1_18) (fun _ h9 => h9) rfl d_g_isMany_5 ?_
  refine nr_imul hx hb d_g_isMany_8 ?_
  refine nr_icmp_le (tgt := 16) hx hb (by omega) (by omega) d_g_isMany_9 (by decide) (fun c_9 => ?_) (fun c_9 => ?_)
  · refine lv_iconst (v := (nI 0)) hx hb d_g_isMany_16 (by decide) ?_
    refine nr_top (w := .int (bI false)) rfl ?_
    exact PM.zret hx hb hr hlocks d_g_isMany_17 (by rw [show mn n k = false from decide_eq_false (by omega)])
  · refine lv_iconst (v := (nI 1)) hx hb d_g_isMany_12 (by decide) ?_
    refine lv_goto (tgt := 17) hx hb d_g_isMany_13 (by decide) ?_
    refine nr_top (w := .int (bI true)) rfl ?_
    exact PM.zret hx hb hr hlocks d_g_isMany_17 (by rw [show mn n k = true from decide_eq_true (by omega)])
set_option maxHeartbeats 4000000 in
set_option maxRecDepth 100000 in
theorem c_g_opensRound (l : Launch) (D : va_G) (cI cJ cZ : ClassId) (ad : Nat → Nat) (n ev : Nat) (g : GA) (c s : Nat → Nat) (an fk : Nat → Nat → Bool) (K : Nat) (hKb : K ≤ 120) (hC : gC K g c s an fk) (rd : Nat → Nat) (KR : Nat) (hKR : KR ≤ 120) (hR : gR KR g rd) (x : Nat) (hx0 : x < K) (hxR : x < KR) (hsx : s x ≤ x) : PM l D (tys cI cJ cZ) (gL cI cJ ad n ev g) y_g_opensRound b_g_opensRound 3 (some .boolean) 0 0 [.ref (ad 0), .int (nI x)] (bI (wi s rd x)) := by
  refine PM.of (by decide) (Nat.le_of_ble_eq_true rfl) ?_
  intro p9 e9 s9 m args below meth c9 ls S hr hlocks hP hK hl
  obtain ⟨hx, hb, hml, hown, htc⟩ := id S
  have hl : lv_has ls 3 [(0, .ref (ad 0)), (1, .int (nI x))] := hl
  refine lv_aload_n hx hb d_g_opensRound_0 rfl (lv_at hl 0 rfl) ?_
  refine va_get (D := D) (ci := 0) (v := .ref (ad 2)) (C := "SightGraph") (T := T_g) (N := 8) hx hb htc in_g hown hK hP 0 rfl rfl 3 (by decide) (htc _ k_1_21) (fun _ h9 => h9) rfl d_g_opensRound_1 ?_
  refine lv_iload_n hx hb d_g_opensRound_4 rfl (lv_at hl 1 rfl) ?_
  refine nr_iald hx hb hK hP 2 0 rfl rfl (by omega) (by decide) (v := (mI (s x))) (hC x (by omega)).2.1 d_g_opensRound_5 ?_
  refine lv_istore_n (lv' := [(2, .int (mI (s x))), (0, .ref (ad 0)), (1, .int (nI x))]) hx hb d_g_opensRound_6 rfl hl (by decide) rfl (fun ls hl => ?_)
  refine lv_iload_n hx hb d_g_opensRound_7 rfl (lv_at hl 0 rfl) ?_
  refine lv_iconst (v := (-1)) hx hb d_g_opensRound_8 (by decide) ?_
  refine lv_icmp_eq (tgt := 27) hx hb d_g_opensRound_9 (by decide) (fun c_9 => ?_) (fun c_9 => ?_)
  · refine lv_iconst (v := (nI 1)) hx hb d_g_opensRound_27 (by decide) ?_
    refine lv_goto (tgt := 32) hx hb d_g_opensRound_28 (by decide) ?_
    refine nr_top (w := .int (bI true)) rfl ?_
    exact PM.zret hx hb hr hlocks d_g_opensRound_32 (by unfold wi; rw [show s x = 0 from (mI_m1 (by omega)).mp c_9]; rfl)
  · have hs1 : s x = (s x - 1) + 1 := by have q : s x ≠ 0 := fun z => c_9 (by rw [z]; rfl); omega
    have hl : lv_has ls 3 [(2, .int (nI (s x - 1))), (0, .ref (ad 0)), (1, .int (nI x))] := by rw [hs1] at hl; exact hl
    have hb9 := (hR (s x - 1) (by omega)).2
    have hb8 := (hR x (by omega)).2
    refine lv_aload_n hx hb d_g_opensRound_12 rfl (lv_at hl 1 rfl) ?_
    refine va_get (D := D) (ci := 0) (v := .ref (ad 3)) (C := "SightGraph") (T := T_g) (N := 8) hx hb htc in_g hown hK hP 0 rfl rfl 4 (by decide) (htc _ k_1_22) (fun _ h9 => h9) rfl d_g_opensRound_13 ?_
    refine lv_iload_n hx hb d_g_opensRound_16 rfl (lv_at hl 0 rfl) ?_
    refine nr_iald hx hb hK hP 3 0 rfl rfl (by omega) (by decide) (v := (nI (rd (s x - 1)))) (hR (s x - 1) (by omega)).1 d_g_opensRound_17 ?_
    refine lv_aload_n hx hb d_g_opensRound_18 rfl (lv_at hl 1 rfl) ?_
    refine va_get (D := D) (ci := 0) (v := .ref (ad 3)) (C := "SightGraph") (T := T_g) (N := 8) hx hb htc in_g hown hK hP 0 rfl rfl 4 (by decide) (htc _ k_1_22) (fun _ h9 => h9) rfl d_g_opensRound_19 ?_
    refine lv_iload_n hx hb d_g_opensRound_22 rfl (lv_at hl 2 rfl) ?_
    refine nr_iald hx hb hK hP 3 0 rfl rfl (by omega) (by decide) (v := (nI (rd x))) (hR x (by omega)).1 d_g_opensRound_23 ?_
    refine nr_icmp_ge (tgt := 31) hx hb (by omega) (by omega) d_g_opensRound_24 (by decide) (fun c_24 => ?_) (fun c_24 => ?_)
    · refine lv_iconst (v := (nI 0)) hx hb d_g_opensRound_31 (by decide) ?_
      refine nr_top (w := .int (bI false)) rfl ?_
      exact PM.zret hx hb hr hlocks d_g_opensRound_32 (by unfold wi; rw [show (s x == 0) = false from by simp; omega, show decide (rd (s x - 1) < rd x) = false from decide_eq_false (by omega)]; rfl)
    · refine lv_iconst (v := (nI 1)) hx hb d_g_opensRound_27 (by decide) ?_
      refine lv_goto (tgt := 32) hx hb d_g_opensRound_28 (by decide) ?_
      refine nr_top (w := .int (bI true)) rfl ?_
      exact PM.zret hx hb hr hlocks d_g_opensRound_32 (by unfold wi; rw [show (s x == 0) = false from by simp; omega, show decide (rd (s x - 1) < rd x) = true from decide_eq_true (by omega)]; rfl)
set_option maxHeartbeats 4000000 in
set_option maxRecDepth 100000 in
theorem c_g_roundOfParent (l : Launch) (D : va_G) (cI cJ cZ : ClassId) (ad : Nat → Nat) (n ev : Nat) (g : GA) (rd : Nat → Nat) (KR : Nat) (hKR : KR ≤ 120) (hR : gR KR g rd) (t : Nat) (htR : t ≤ KR) : PM l D (tys cI cJ cZ) (gL cI cJ ad n ev g) y_g_roundOfParent b_g_roundOfParent 2 (some .int) 0 0 [.ref (ad 0), .int (mI t)] (nI (pr rd t)) := by
  refine PM.of (by decide) (Nat.le_of_ble_eq_true rfl) ?_
  intro p9 e9 s9 m args below meth c9 ls S hr hlocks hP hK hl
  obtain ⟨hx, hb, hml, hown, htc⟩ := id S
  have hl : lv_has ls 2 [(0, .ref (ad 0)), (1, .int (mI t))] := hl
  refine lv_iload_n hx hb d_g_roundOfParent_0 rfl (lv_at hl 1 rfl) ?_
  refine lv_iconst (v := (-1)) hx hb d_g_roundOfParent_1 (by decide) ?_
  refine lv_icmp_ne (tgt := 9) hx hb d_g_roundOfParent_2 (by decide) (fun c_2 => ?_) (fun c_2 => ?_)
  · have ht1 : t = (t - 1) + 1 := by have q : t ≠ 0 := fun z => c_2 (by rw [z]; rfl); omega
    have hl : lv_has ls 2 [(0, .ref (ad 0)), (1, .int (nI (t - 1)))] := by rw [ht1] at hl; exact hl
    refine lv_aload_n hx hb d_g_roundOfParent_9 rfl (lv_at hl 0 rfl) ?_
    refine va_get (D := D) (ci := 0) (v := .ref (ad 3)) (C := "SightGraph") (T := T_g) (N := 8) hx hb htc in_g hown hK hP 0 rfl rfl 4 (by decide) (htc _ k_1_22) (fun _ h9 => h9) rfl d_g_roundOfParent_10 ?_
    refine lv_iload_n hx hb d_g_roundOfParent_13 rfl (lv_at hl 1 rfl) ?_
    refine nr_iald hx hb hK hP 3 0 rfl rfl (by omega) (by decide) (v := (nI (rd (t - 1)))) (hR (t - 1) (by omega)).1 d_g_roundOfParent_14 ?_
    exact PM.iret hx hb hr hlocks d_g_roundOfParent_15 (by unfold pr; rw [if_neg (show ¬ t = 0 by omega)])
  · refine lv_iconst (v := (nI 0)) hx hb d_g_roundOfParent_5 (by decide) ?_
    refine lv_goto (tgt := 15) hx hb d_g_roundOfParent_6 (by decide) ?_
    exact PM.iret hx hb hr hlocks d_g_roundOfParent_15 (by unfold pr; rw [if_pos ((mI_m1 (by omega)).mp (by first | exact c_2 | exact Classical.not_not.mp c_2))])
end
section
def nb (an fk : Nat → Nat → Bool) (c : Nat → Nat) (x y z : Nat) : Nat → Bool := fun m => ex z (fun w => c w == m && (se an fk c x w && se an fk c w y))
theorem nb_s (an fk : Nat → Nat → Bool) (c : Nat → Nat) (x y z m : Nat) : nb an fk c x y (z + 1) m = (nb an fk c x y z m || (c z == m && (se an fk c x z && se an fk c z y))) := rfl
theorem nb_y {an fk : Nat → Nat → Bool} {c : Nat → Nat} {x y z : Nat} (h : ∀ w, w < z → an w y = true → y ≤ w) (hz : z ≤ y) : bs (nb an fk c x y z) 8 = 0 := by
  rw [← bs_none 8]
  refine bs_congr (fun m _ => ?_)
  refine ex_f.mpr (fun w hw => ?_)
  cases ha : an w y with
  | false => simp [se, ha]
  | true => have := h w hw ha; omega
theorem nb_x {an fk : Nat → Nat → Bool} {c : Nat → Nat} {x y z m : Nat} (h : ∀ w, an x w = true → w ≤ x) (hz : x + 1 ≤ z) : nb an fk c x y z m = nb an fk c x y (x + 1) m := by
  unfold nb
  rw [Bool.eq_iff_iff, ex_t, ex_t]
  constructor
  · rintro ⟨w, h1, h2⟩
    simp only [Bool.and_eq_true, se] at h2
    exact ⟨w, by have := h w h2.2.1.1; omega, by simp only [Bool.and_eq_true, se]; exact h2⟩
  · rintro ⟨w, h1, h2⟩
    exact ⟨w, by omega, h2⟩
theorem nb_n {an fk : Nat → Nat → Bool} {c : Nat → Nat} {x y z n m : Nat} (h : ∀ w, w < z → c w < n) (hm : n ≤ m) : nb an fk c x y z m = false := by
  refine ex_f.mpr (fun w hw => ?_)
  have := h w hw
  simp [show ¬ c w = m by omega]
theorem nb_end {an fk : Nat → Nat → Bool} {c : Nat → Nat} {x y z n : Nat} (hn : n ≤ 8) (h : ∀ w, an x w = true → w ≤ x) (hz : x + 1 ≤ z) (hc : ∀ w, w < x + 1 → c w < n) : cn 8 (bs (nb an fk c x y z) 8).testBit = sn n an fk c x y := by
  rw [show bs (nb an fk c x y z) 8 = bs (nb an fk c x y (x + 1)) 8 from bs_congr (fun m _ => nb_x h hz)]
  exact cn_bs hn (fun m h1 _ => nb_n hc h1)
def wb9 (n : Nat) (an fk : Nat → Nat → Bool) (c s rd : Nat → Nat) (x r w : Nat) : Nat → Bool := fun m => ex w (fun v => c v == m && (rd v == r && (wi s rd v && mn n (sn n an fk c x v))))
theorem wb9_s (n : Nat) (an fk : Nat → Nat → Bool) (c s rd : Nat → Nat) (x r w m : Nat) : wb9 n an fk c s rd x r (w + 1) m = (wb9 n an fk c s rd x r w m || (c w == m && (rd w == r && (wi s rd w && mn n (sn n an fk c x w))))) := rfl
theorem wb9_0 (n : Nat) (an fk : Nat → Nat → Bool) (c s rd : Nat → Nat) (x r : Nat) : bs (wb9 n an fk c s rd x r 0) 8 = 0 := bs_none 8
theorem wb9_end {n : Nat} {an fk : Nat → Nat → Bool} {c s rd : Nat → Nat} {x r : Nat} (hn : n ≤ 8) (hc : ∀ w, w < x → c w < n) : cn 8 (bs (wb9 n an fk c s rd x r x) 8).testBit = wn n an fk c s rd x r := by
  refine cn_bs hn (fun m h1 _ => ex_f.mpr (fun w hw => ?_))
  have := hc w hw
  simp [show ¬ c w = m by omega]
/-- the search for a fork, as the class does it: from above, j places left, met: one was met, t: what must come next -/
def fw (p : Nat → Bool) (s : Nat → Nat) : Nat → Bool → Nat → Bool
  | 0, _, _ => false
  | j + 1, met, t => if p j = true then (if met = true ∧ t ≠ j + 1 then true else fw p s j true (s j)) else fw p s j met t
def fa (A B : Nat) (c s : Nat → Nat) (m : Nat) : Bool := fw (fun i => wt A B i && c i == m) s 120 false 0
def bc1 (x : Int32) : Int32 := x - ((x.toUInt32 >>> ((1 : Int32).toUInt32 &&& Int32.toUInt32 31)).toInt32 &&& 1431655765)
def bc2 (x : Int32) : Int32 := (x &&& 858993459) + ((x.toUInt32 >>> ((2 : Int32).toUInt32 &&& Int32.toUInt32 31)).toInt32 &&& 858993459)
def bc3 (x : Int32) : Int32 := (x + (x.toUInt32 >>> ((4 : Int32).toUInt32 &&& Int32.toUInt32 31)).toInt32) &&& 252645135
def bc4 (x : Int32) : Int32 := x + (x.toUInt32 >>> ((8 : Int32).toUInt32 &&& Int32.toUInt32 31)).toInt32
def bc5 (x : Int32) : Int32 := x + (x.toUInt32 >>> ((16 : Int32).toUInt32 &&& Int32.toUInt32 31)).toInt32
theorem bc_ok : ∀ F, F < 256 → bc5 (bc4 (bc3 (bc2 (bc1 (nI F))))) &&& 63 = nI (cn 8 F.testBit) := by decide +kernel
def gr (rd : Nat → Nat) : Nat → Nat
  | 0 => 0
  | k + 1 => max (gr rd k) (rd k)
theorem gr_le {rd : Nat → Nat} {k B : Nat} (h : ∀ j, j < k → rd j ≤ B) : gr rd k ≤ B := by
  induction k with
  | zero => exact Nat.zero_le _
  | succ k ih =>
    show max (gr rd k) (rd k) ≤ B
    exact Nat.max_le.mpr ⟨ih (fun j hj => h j (by omega)), h k (by omega)⟩
theorem sn_le (n : Nat) (an fk : Nat → Nat → Bool) (c : Nat → Nat) (x y : Nat) : sn n an fk c x y ≤ n := cn_le _ _
theorem wn_le (n : Nat) (an fk : Nat → Nat → Bool) (c s rd : Nat → Nat) (x r : Nat) : wn n an fk c s rd x r ≤ n := cn_le _ _
theorem pr_le {rd : Nat → Nat} {t B : Nat} (h : t ≠ 0 → rd (t - 1) ≤ B) : pr rd t ≤ B := by
  unfold pr
  by_cases q : t = 0
  · rw [if_pos q]; omega
  · rw [if_neg q]; exact h q
set_option maxHeartbeats 4000000 in
set_option maxRecDepth 100000 in
theorem c_j_bitCount (l : Launch) (D : va_G) (cI cJ cZ : ClassId) (ad : Nat → Nat) (n ev : Nat) (g : GA) (F : Nat) (hF : F < 256) : PM l D (tys cI cJ cZ) (gL cI cJ ad n ev g) y_j_bitCount b_j_bitCount 1 (some .int) 0 0 [.int (nI F)] (nI (cn 8 F.testBit)) := by
  refine PM.of (by decide) (Nat.le_of_ble_eq_true rfl) ?_
  intro p9 e9 s9 m args below meth c9 ls S hr hlocks hP hK hl
  obtain ⟨hx, hb, hml, hown, htc⟩ := id S
  have hl : lv_has ls 1 [(0, .int (nI F))] := hl
  refine lv_iload_n hx hb d_j_bitCount_0 rfl (lv_at hl 0 rfl) ?_
  refine lv_iload_n hx hb d_j_bitCount_1 rfl (lv_at hl 0 rfl) ?_
  refine lv_iconst (v := 1) hx hb d_j_bitCount_2 (by decide) ?_
  refine lv_iushr hx hb d_j_bitCount_3 rfl ?_
  refine lv_ldcw hx hb hown (htc _ k_1_219) d_j_bitCount_4 ?_
  refine lv_iand hx hb d_j_bitCount_7 ?_
  refine lv_isub hx hb d_j_bitCount_8 ?_
  refine lv_topi (fun x1 e1 => ?_)
  refine lv_istore_n (lv' := [(0, .int x1)]) hx hb d_j_bitCount_9 rfl hl (by decide) rfl (fun ls hl => ?_)
  refine lv_iload_n hx hb d_j_bitCount_10 rfl (lv_at hl 0 rfl) ?_
  refine lv_ldcw hx hb hown (htc _ k_1_220) d_j_bitCount_11 ?_
  refine lv_iand hx hb d_j_bitCount_14 ?_
  refine lv_iload_n hx hb d_j_bitCount_15 rfl (lv_at hl 0 rfl) ?_
  refine lv_iconst (v := 2) hx hb d_j_bitCount_16 (by decide) ?_
  refine lv_iushr hx hb d_j_bitCount_17 rfl ?_
  refine lv_ldcw hx hb hown (htc _ k_1_220) d_j_bitCount_18 ?_
  refine lv_iand hx hb d_j_bitCount_21 ?_
  refine lv_iadd hx hb d_j_bitCount_22 ?_
  refine lv_topi (fun x2 e2 => ?_)
  refine lv_istore_n (lv' := [(0, .int x2)]) hx hb d_j_bitCount_23 rfl hl (by decide) rfl (fun ls hl => ?_)
  refine lv_iload_n hx hb d_j_bitCount_24 rfl (lv_at hl 0 rfl) ?_
  refine lv_iload_n hx hb d_j_bitCount_25 rfl (lv_at hl 0 rfl) ?_
  refine lv_iconst (v := 4) hx hb d_j_bitCount_26 (by decide) ?_
  refine lv_iushr hx hb d_j_bitCount_27 rfl ?_
  refine lv_iadd hx hb d_j_bitCount_28 ?_
  refine lv_ldcw hx hb hown (htc _ k_1_221) d_j_bitCount_29 ?_
  refine lv_iand hx hb d_j_bitCount_32 ?_
  refine lv_topi (fun x3 e3 => ?_)
  refine lv_istore_n (lv' := [(0, .int x3)]) hx hb d_j_bitCount_33 rfl hl (by decide) rfl (fun ls hl => ?_)
  refine lv_iload_n hx hb d_j_bitCount_34 rfl (lv_at hl 0 rfl) ?_
  refine lv_iload_n hx hb d_j_bitCount_35 rfl (lv_at hl 0 rfl) ?_
  refine lv_bipush (v := 8) hx hb d_j_bitCount_36 (by decide) ?_
  refine lv_iushr hx hb d_j_bitCount_38 rfl ?_
  refine lv_iadd hx hb d_j_bitCount_39 ?_
  refine lv_topi (fun x4 e4 => ?_)
  refine lv_istore_n (lv' := [(0, .int x4)]) hx hb d_j_bitCount_40 rfl hl (by decide) rfl (fun ls hl => ?_)
  refine lv_iload_n hx hb d_j_bitCount_41 rfl (lv_at hl 0 rfl) ?_
  refine lv_iload_n hx hb d_j_bitCount_42 rfl (lv_at hl 0 rfl) ?_
  refine lv_bipush (v := 16) hx hb d_j_bitCount_43 (by decide) ?_
  refine lv_iushr hx hb d_j_bitCount_45 rfl ?_
  refine lv_iadd hx hb d_j_bitCount_46 ?_
  refine lv_topi (fun x5 e5 => ?_)
  refine lv_istore_n (lv' := [(0, .int x5)]) hx hb d_j_bitCount_47 rfl hl (by decide) rfl (fun ls hl => ?_)
  refine lv_iload_n hx hb d_j_bitCount_48 rfl (lv_at hl 0 rfl) ?_
  refine lv_bipush (v := 63) hx hb d_j_bitCount_49 (by decide) ?_
  refine lv_iand hx hb d_j_bitCount_51 ?_
  exact PM.iret hx hb hr hlocks d_j_bitCount_52 (by rw [e5, e4, e3, e2, e1]; exact bc_ok F hF)
set_option maxHeartbeats 4000000 in
set_option maxRecDepth 100000 in
theorem c_g_nodesBetween (l : Launch) (D : va_G) (cI cJ cZ : ClassId) (ad : Nat → Nat) (n ev : Nat) (g : GA) (c s : Nat → Nat) (an fk : Nat → Nat → Bool) (K : Nat) (hKb : K ≤ 120) (hC : gC K g c s an fk) (o : Nat → Nat) (ow : Nat → Nat → Bool) (hLw : Lw K n c s o an ow) (hn : n ≤ 8) (x y : Nat) (hx0 : x < K) (hy0 : y < K) : PM l D (tys cI cJ cZ) (gL cI cJ ad n ev g) y_g_nodesBetween b_g_nodesBetween 5 (some .int) 3 70 [.ref (ad 0), .int (nI x), .int (nI y)] (nI (sn n an fk c x y)) := by
  refine PM.of (by decide) (Nat.le_of_ble_eq_true rfl) ?_
  intro p9 e9 s9 m args below meth c9 ls S hr hlocks hP hK hl
  obtain ⟨hx, hb, hml, hown, htc⟩ := id S
  have hl : lv_has ls 5 [(0, .ref (ad 0)), (1, .int (nI x)), (2, .int (nI y))] := hl
  refine lv_iconst (v := (nI 0)) hx hb d_g_nodesBetween_0 (by decide) ?_
  refine lv_istore_n (lv' := [(3, .int (nI 0)), (0, .ref (ad 0)), (1, .int (nI x)), (2, .int (nI y))]) hx hb d_g_nodesBetween_1 rfl hl (by decide) rfl (fun ls hl => ?_)
  refine lv_iload_n hx hb d_g_nodesBetween_2 rfl (lv_at hl 3 rfl) ?_
  refine lv_istore (lv' := [(4, .int (nI y)), (3, .int (nI 0)), (0, .ref (ad 0)), (1, .int (nI x)), (2, .int (nI y))]) hx hb d_g_nodesBetween_3 hl (by decide) rfl (fun ls hl => ?_)
  have loop : ∀ (d : Nat) (z : Nat) (ls : Array Slot), x + 1 - z < d → y ≤ z → z ≤ K → lv_has ls 5 [(4, .int (nI z)), (3, .int (nI (bs (nb an fk c x y z) 8))), (2, .int (nI y)), (1, .int (nI x)), (0, .ref (ad 0))] → W p9 l e9 ({ frames := 3, cells := 0, slots := 0, locals := 70 }) s9 m args below meth c9 s9.heap [] 0 0 (MQ below (vp_Si (fun r9 => r9 = (nI (sn n an fk c x y)))) args s9 0 0 (fun _ => False)) (F0 m 5 ls []) := by
    intro d
    induction d with
    | zero =>
      intro z ls hd hz hzK hl
      exact absurd hd (by omega)
    | succ d ih =>
      intro z ls hd hz hzK hl
      refine lv_iload hx hb d_g_nodesBetween_5 (lv_at hl 0 rfl) ?_
      refine lv_iload_n hx hb d_g_nodesBetween_7 rfl (lv_at hl 3 rfl) ?_
      refine nr_icmp_gt (tgt := 49) hx hb (by omega) (by omega) d_g_nodesBetween_8 (by decide) (fun c_8 => ?_) (fun c_8 => ?_)
      · refine lv_iload_n hx hb d_g_nodesBetween_49 rfl (lv_at hl 1 rfl) ?_
        refine PM.callS (rest := []) S (c_j_bitCount l D cI cJ cZ ad n ev g _ (bs_lt _ 8)) k_1_216 k_1_217 k_1_9 k_1_218 h_j_bitCount ⟨Nat.le_of_ble_eq_true rfl, Nat.le_of_ble_eq_true rfl⟩ ⟨Nat.le_of_ble_eq_true rfl, Nat.le_of_ble_eq_true rfl⟩ hP hK hl.1 (Nat.le_of_ble_eq_true rfl) rfl d_g_nodesBetween_50 ?_
        exact PM.iret hx hb hr hlocks d_g_nodesBetween_53 (by rw [nb_end hn (hLw.an_le x hx0) (by omega) (fun w hw => (hLw w (by omega)).1)])
      · have hcz := (hLw z (by omega)).1
        have hcy := (hLw y hy0).1
        refine lv_aload_n hx hb d_g_nodesBetween_11 rfl (lv_at hl 4 rfl) ?_
        refine lv_iload_n hx hb d_g_nodesBetween_12 rfl (lv_at hl 3 rfl) ?_
        refine lv_iload hx hb d_g_nodesBetween_13 (lv_at hl 0 rfl) ?_
        refine PM.callV (rest := []) S (c_g_hasSight l D cI cJ cZ ad n ev g c s an fk K hKb hC x z hx0 (by omega) (by omega)) k_1_205 k_1_207 k_s_14 k_1_1 k_1_208 h_g_hasSight ⟨Nat.le_of_ble_eq_true rfl, Nat.le_of_ble_eq_true rfl⟩ ⟨Nat.le_of_ble_eq_true rfl, Nat.le_of_ble_eq_true rfl⟩ hP hK 0 0 rfl rfl rfl hl.1 (Nat.le_of_ble_eq_true rfl) rfl d_g_nodesBetween_15 ?_
        refine nr_ifeq_b (tgt := 43) hx hb d_g_nodesBetween_18 (by decide) (fun c_18 => ?_) (fun c_18 => ?_)
        · refine lv_iinc (v := (nI (z + 1))) (lv' := [(4, .int (nI (z + 1))), (3, .int (nI (bs (nb an fk c x y z) 8))), (2, .int (nI y)), (1, .int (nI x)), (0, .ref (ad 0))]) hx hb d_g_nodesBetween_43 hl (k := 0) rfl (nI_add z 1) (by decide) rfl (fun ls hl => ?_)
          refine lv_goto (tgt := 5) hx hb d_g_nodesBetween_46 (by decide) ?_
          exact ih (z + 1) ls (by omega) (by omega) (by omega) (by rw [show bs (nb an fk c x y (z + 1)) 8 = bs (nb an fk c x y z) 8 from bs_congr (fun m _ => by rw [nb_s, c_18]; simp)]; exact (lv_sub hl [0, 1, 2, 3, 4] rfl))
        · refine lv_aload_n hx hb d_g_nodesBetween_21 rfl (lv_at hl 4 rfl) ?_
          refine lv_iload hx hb d_g_nodesBetween_22 (lv_at hl 0 rfl) ?_
          refine lv_iload_n hx hb d_g_nodesBetween_24 rfl (lv_at hl 2 rfl) ?_
          refine PM.callV (rest := []) S (c_g_hasSight l D cI cJ cZ ad n ev g c s an fk K hKb hC z y (by omega) hy0 (by omega)) k_1_205 k_1_207 k_s_14 k_1_1 k_1_208 h_g_hasSight ⟨Nat.le_of_ble_eq_true rfl, Nat.le_of_ble_eq_true rfl⟩ ⟨Nat.le_of_ble_eq_true rfl, Nat.le_of_ble_eq_true rfl⟩ hP hK 0 0 rfl rfl rfl hl.1 (Nat.le_of_ble_eq_true rfl) rfl d_g_nodesBetween_25 ?_
          refine nr_ifeq_b (tgt := 43) hx hb d_g_nodesBetween_28 (by decide) (fun c_28 => ?_) (fun c_28 => ?_)
          · refine lv_iinc (v := (nI (z + 1))) (lv' := [(4, .int (nI (z + 1))), (3, .int (nI (bs (nb an fk c x y z) 8))), (2, .int (nI y)), (1, .int (nI x)), (0, .ref (ad 0))]) hx hb d_g_nodesBetween_43 hl (k := 0) rfl (nI_add z 1) (by decide) rfl (fun ls hl => ?_)
            refine lv_goto (tgt := 5) hx hb d_g_nodesBetween_46 (by decide) ?_
            exact ih (z + 1) ls (by omega) (by omega) (by omega) (by rw [show bs (nb an fk c x y (z + 1)) 8 = bs (nb an fk c x y z) 8 from bs_congr (fun m _ => by rw [nb_s, c_28]; simp)]; exact (lv_sub hl [0, 1, 2, 3, 4] rfl))
          · refine lv_iload_n hx hb d_g_nodesBetween_31 rfl (lv_at hl 1 rfl) ?_
            refine lv_iconst (v := (nI 1)) hx hb d_g_nodesBetween_32 (by decide) ?_
            refine lv_aload_n hx hb d_g_nodesBetween_33 rfl (lv_at hl 4 rfl) ?_
            refine va_get (D := D) (ci := 0) (v := .ref (ad 1)) (C := "SightGraph") (T := T_g) (N := 8) hx hb htc in_g hown hK hP 0 rfl rfl 2 (by decide) (htc _ k_1_20) (fun _ h9 => h9) rfl d_g_nodesBetween_34 ?_
            refine lv_iload hx hb d_g_nodesBetween_37 (lv_at hl 0 rfl) ?_
            refine nr_iald hx hb hK hP 1 0 rfl rfl (by omega) (by decide) (v := (nI (c z))) (hC z (by omega)).1 d_g_nodesBetween_39 ?_
            refine lv_ishl hx hb d_g_nodesBetween_40 ?_
            refine lv_ior hx hb d_g_nodesBetween_41 ?_
            refine nr_top (w := .int (nI (bs (fun m => nb an fk c x y z m || c z == m) 8))) (congrArg Value.int (bs_add (by omega))) ?_
            refine lv_istore_n (lv' := [(3, .int (nI (bs (fun m => nb an fk c x y z m || c z == m) 8))), (4, .int (nI z)), (2, .int (nI y)), (1, .int (nI x)), (0, .ref (ad 0))]) hx hb d_g_nodesBetween_42 rfl hl (by decide) rfl (fun ls hl => ?_)
            refine lv_iinc (v := (nI (z + 1))) (lv' := [(4, .int (nI (z + 1))), (3, .int (nI (bs (fun m => nb an fk c x y z m || c z == m) 8))), (2, .int (nI y)), (1, .int (nI x)), (0, .ref (ad 0))]) hx hb d_g_nodesBetween_43 hl (k := 1) rfl (nI_add z 1) (by decide) rfl (fun ls hl => ?_)
            refine lv_goto (tgt := 5) hx hb d_g_nodesBetween_46 (by decide) ?_
            exact ih (z + 1) ls (by omega) (by omega) (by omega) (by rw [show bs (nb an fk c x y (z + 1)) 8 = bs (fun m => nb an fk c x y z m || c z == m) 8 from bs_congr (fun m _ => by rw [nb_s, c_18, c_28]; simp)]; exact (lv_sub hl [0, 1, 2, 3, 4] rfl))
  exact loop (x + 2) y ls (by omega) (Nat.le_refl y) (by omega) (by rw [show bs (nb an fk c x y y) 8 = 0 from nb_y (fun w hw => hLw.an_le w (by omega) y) (Nat.le_refl y)]; exact (lv_sub hl [0, 1, 4, 3, 2] rfl))
set_option maxHeartbeats 4000000 in
set_option maxRecDepth 100000 in
theorem c_g_nodesWithWitnessFor (l : Launch) (D : va_G) (cI cJ cZ : ClassId) (ad : Nat → Nat) (n ev : Nat) (g : GA) (c s : Nat → Nat) (an fk : Nat → Nat → Bool) (K : Nat) (hKb : K ≤ 120) (hC : gC K g c s an fk) (o : Nat → Nat) (ow : Nat → Nat → Bool) (hLw : Lw K n c s o an ow) (hn : n ≤ 8) (rd : Nat → Nat) (KR : Nat) (hKR : KR ≤ 120) (hR : gR KR g rd) (x r : Nat) (hx0 : x < K) (hxR : x ≤ KR) (hr0 : r < 1000) : PM l D (tys cI cJ cZ) (gL cI cJ ad n ev g) y_g_nodesWithWitnessFor b_g_nodesWithWitnessFor 5 (some .int) 4 94 [.ref (ad 0), .int (nI x), .int (nI r)] (nI (wn n an fk c s rd x r)) := by
  refine PM.of (by decide) (Nat.le_of_ble_eq_true rfl) ?_
  intro p9 e9 s9 m args below meth c9 ls S hr hlocks hP hK hl
  obtain ⟨hx, hb, hml, hown, htc⟩ := id S
  have hl : lv_has ls 5 [(0, .ref (ad 0)), (1, .int (nI x)), (2, .int (nI r))] := hl
  refine lv_iconst (v := (nI 0)) hx hb d_g_nodesWithWitnessFor_0 (by decide) ?_
  refine lv_istore_n (lv' := [(3, .int (nI 0)), (0, .ref (ad 0)), (1, .int (nI x)), (2, .int (nI r))]) hx hb d_g_nodesWithWitnessFor_1 rfl hl (by decide) rfl (fun ls hl => ?_)
  refine lv_iconst (v := (nI 0)) hx hb d_g_nodesWithWitnessFor_2 (by decide) ?_
  refine lv_istore (lv' := [(4, .int (nI 0)), (3, .int (nI 0)), (0, .ref (ad 0)), (1, .int (nI x)), (2, .int (nI r))]) hx hb d_g_nodesWithWitnessFor_3 hl (by decide) rfl (fun ls hl => ?_)
  have loop : ∀ (d : Nat) (v : Nat) (ls : Array Slot), x - v < d → v ≤ x → lv_has ls 5 [(4, .int (nI v)), (3, .int (nI (bs (wb9 n an fk c s rd x r v) 8))), (2, .int (nI r)), (1, .int (nI x)), (0, .ref (ad 0))] → W p9 l e9 ({ frames := 4, cells := 0, slots := 0, locals := 94 }) s9 m args below meth c9 s9.heap [] 0 0 (MQ below (vp_Si (fun r9 => r9 = (nI (wn n an fk c s rd x r)))) args s9 0 0 (fun _ => False)) (F0 m 5 ls []) := by
    intro d
    induction d with
    | zero =>
      intro v ls hd hv hl
      exact absurd hd (by omega)
    | succ d ih =>
      intro v ls hd hv hl
      refine lv_iload hx hb d_g_nodesWithWitnessFor_5 (lv_at hl 0 rfl) ?_
      refine lv_iload_n hx hb d_g_nodesWithWitnessFor_7 rfl (lv_at hl 3 rfl) ?_
      refine nr_icmp_ge (tgt := 63) hx hb (by omega) (by omega) d_g_nodesWithWitnessFor_8 (by decide) (fun c_8 => ?_) (fun c_8 => ?_)
      · refine lv_iload_n hx hb d_g_nodesWithWitnessFor_63 rfl (lv_at hl 1 rfl) ?_
        refine PM.callS (rest := []) S (c_j_bitCount l D cI cJ cZ ad n ev g _ (bs_lt _ 8)) k_1_216 k_1_217 k_1_9 k_1_218 h_j_bitCount ⟨Nat.le_of_ble_eq_true rfl, Nat.le_of_ble_eq_true rfl⟩ ⟨Nat.le_of_ble_eq_true rfl, Nat.le_of_ble_eq_true rfl⟩ hP hK hl.1 (Nat.le_of_ble_eq_true rfl) rfl d_g_nodesWithWitnessFor_64 ?_
        exact PM.iret hx hb hr hlocks d_g_nodesWithWitnessFor_67 (by rw [show v = x by omega, wb9_end hn (fun w hw => (hLw w (by omega)).1)])
      · have hcz := (hLw v (by omega)).1
        have hb9 := (hR v (by omega)).2
        refine lv_aload_n hx hb d_g_nodesWithWitnessFor_11 rfl (lv_at hl 4 rfl) ?_
        refine va_get (D := D) (ci := 0) (v := .ref (ad 3)) (C := "SightGraph") (T := T_g) (N := 8) hx hb htc in_g hown hK hP 0 rfl rfl 4 (by decide) (htc _ k_1_22) (fun _ h9 => h9) rfl d_g_nodesWithWitnessFor_12 ?_
        refine lv_iload hx hb d_g_nodesWithWitnessFor_15 (lv_at hl 0 rfl) ?_
        refine nr_iald hx hb hK hP 3 0 rfl rfl (by omega) (by decide) (v := (nI (rd v))) (hR v (by omega)).1 d_g_nodesWithWitnessFor_17 ?_
        refine lv_iload_n hx hb d_g_nodesWithWitnessFor_18 rfl (lv_at hl 2 rfl) ?_
        refine nr_icmp_ne (tgt := 57) hx hb (by omega) (by omega) d_g_nodesWithWitnessFor_19 (by decide) (fun c_19 => ?_) (fun c_19 => ?_)
        · refine lv_iinc (v := (nI (v + 1))) (lv' := [(4, .int (nI (v + 1))), (3, .int (nI (bs (wb9 n an fk c s rd x r v) 8))), (2, .int (nI r)), (1, .int (nI x)), (0, .ref (ad 0))]) hx hb d_g_nodesWithWitnessFor_57 hl (k := 0) rfl (nI_add v 1) (by decide) rfl (fun ls hl => ?_)
          refine lv_goto (tgt := 5) hx hb d_g_nodesWithWitnessFor_60 (by decide) ?_
          exact ih (v + 1) ls (by omega) (by omega) (by rw [show bs (wb9 n an fk c s rd x r (v + 1)) 8 = bs (wb9 n an fk c s rd x r v) 8 from bs_congr (fun m _ => by rw [wb9_s, show (rd v == r) = false from by simpa using c_19]; simp)]; exact (lv_sub hl [0, 1, 2, 3, 4] rfl))
        · refine lv_aload_n hx hb d_g_nodesWithWitnessFor_22 rfl (lv_at hl 4 rfl) ?_
          refine lv_iload hx hb d_g_nodesWithWitnessFor_23 (lv_at hl 0 rfl) ?_
          refine PM.callV (rest := []) S (c_g_opensRound l D cI cJ cZ ad n ev g c s an fk K hKb hC rd KR hKR hR v (by omega) (by omega) (hLw v (by omega)).2.1) k_1_197 k_1_199 k_s_12 k_1_1 k_1_200 h_g_opensRound ⟨Nat.le_of_ble_eq_true rfl, Nat.le_of_ble_eq_true rfl⟩ ⟨Nat.le_of_ble_eq_true rfl, Nat.le_of_ble_eq_true rfl⟩ hP hK 0 0 rfl rfl rfl hl.1 (Nat.le_of_ble_eq_true rfl) rfl d_g_nodesWithWitnessFor_25 ?_
          refine nr_ifeq_b (tgt := 57) hx hb d_g_nodesWithWitnessFor_28 (by decide) (fun c_28 => ?_) (fun c_28 => ?_)
          · refine lv_iinc (v := (nI (v + 1))) (lv' := [(4, .int (nI (v + 1))), (3, .int (nI (bs (wb9 n an fk c s rd x r v) 8))), (2, .int (nI r)), (1, .int (nI x)), (0, .ref (ad 0))]) hx hb d_g_nodesWithWitnessFor_57 hl (k := 0) rfl (nI_add v 1) (by decide) rfl (fun ls hl => ?_)
            refine lv_goto (tgt := 5) hx hb d_g_nodesWithWitnessFor_60 (by decide) ?_
            exact ih (v + 1) ls (by omega) (by omega) (by rw [show bs (wb9 n an fk c s rd x r (v + 1)) 8 = bs (wb9 n an fk c s rd x r v) 8 from bs_congr (fun m _ => by rw [wb9_s, c_28]; simp)]; exact (lv_sub hl [0, 1, 2, 3, 4] rfl))
          · refine lv_aload_n hx hb d_g_nodesWithWitnessFor_31 rfl (lv_at hl 4 rfl) ?_
            refine lv_aload_n hx hb d_g_nodesWithWitnessFor_32 rfl (lv_at hl 4 rfl) ?_
            refine lv_iload_n hx hb d_g_nodesWithWitnessFor_33 rfl (lv_at hl 3 rfl) ?_
            refine lv_iload hx hb d_g_nodesWithWitnessFor_34 (lv_at hl 0 rfl) ?_
            refine PM.callV (rest := [.ref (ad 0)]) S (c_g_nodesBetween l D cI cJ cZ ad n ev g c s an fk K hKb hC o ow hLw hn x v hx0 (by omega)) k_1_201 k_1_203 k_s_13 k_1_1 k_1_204 h_g_nodesBetween ⟨Nat.le_of_ble_eq_true rfl, Nat.le_of_ble_eq_true rfl⟩ ⟨Nat.le_of_ble_eq_true rfl, Nat.le_of_ble_eq_true rfl⟩ hP hK 0 0 rfl rfl rfl hl.1 (Nat.le_of_ble_eq_true rfl) rfl d_g_nodesWithWitnessFor_36 ?_
            refine PM.callV (rest := []) S (c_g_isMany l D cI cJ cZ ad n ev g (sn n an fk c x v) (Nat.le_trans (sn_le n an fk c x v) (by omega)) hn) k_1_222 k_1_224 k_s_16 k_1_1 k_1_225 h_g_isMany ⟨Nat.le_of_ble_eq_true rfl, Nat.le_of_ble_eq_true rfl⟩ ⟨Nat.le_of_ble_eq_true rfl, Nat.le_of_ble_eq_true rfl⟩ hP hK 0 0 rfl rfl rfl hl.1 (Nat.le_of_ble_eq_true rfl) rfl d_g_nodesWithWitnessFor_39 ?_
            refine nr_ifeq_b (tgt := 57) hx hb d_g_nodesWithWitnessFor_42 (by decide) (fun c_42 => ?_) (fun c_42 => ?_)
            · refine lv_iinc (v := (nI (v + 1))) (lv' := [(4, .int (nI (v + 1))), (3, .int (nI (bs (wb9 n an fk c s rd x r v) 8))), (2, .int (nI r)), (1, .int (nI x)), (0, .ref (ad 0))]) hx hb d_g_nodesWithWitnessFor_57 hl (k := 0) rfl (nI_add v 1) (by decide) rfl (fun ls hl => ?_)
              refine lv_goto (tgt := 5) hx hb d_g_nodesWithWitnessFor_60 (by decide) ?_
              exact ih (v + 1) ls (by omega) (by omega) (by rw [show bs (wb9 n an fk c s rd x r (v + 1)) 8 = bs (wb9 n an fk c s rd x r v) 8 from bs_congr (fun m _ => by rw [wb9_s, c_42]; simp)]; exact (lv_sub hl [0, 1, 2, 3, 4] rfl))
            · refine lv_iload_n hx hb d_g_nodesWithWitnessFor_45 rfl (lv_at hl 1 rfl) ?_
              refine lv_iconst (v := (nI 1)) hx hb d_g_nodesWithWitnessFor_46 (by decide) ?_
              refine lv_aload_n hx hb d_g_nodesWithWitnessFor_47 rfl (lv_at hl 4 rfl) ?_
              refine va_get (D := D) (ci := 0) (v := .ref (ad 1)) (C := "SightGraph") (T := T_g) (N := 8) hx hb htc in_g hown hK hP 0 rfl rfl 2 (by decide) (htc _ k_1_20) (fun _ h9 => h9) rfl d_g_nodesWithWitnessFor_48 ?_
              refine lv_iload hx hb d_g_nodesWithWitnessFor_51 (lv_at hl 0 rfl) ?_
              refine nr_iald hx hb hK hP 1 0 rfl rfl (by omega) (by decide) (v := (nI (c v))) (hC v (by omega)).1 d_g_nodesWithWitnessFor_53 ?_
              refine lv_ishl hx hb d_g_nodesWithWitnessFor_54 ?_
              refine lv_ior hx hb d_g_nodesWithWitnessFor_55 ?_
              refine nr_top (w := .int (nI (bs (fun m => wb9 n an fk c s rd x r v m || c v == m) 8))) (congrArg Value.int (bs_add (by omega))) ?_
              refine lv_istore_n (lv' := [(3, .int (nI (bs (fun m => wb9 n an fk c s rd x r v m || c v == m) 8))), (4, .int (nI v)), (2, .int (nI r)), (1, .int (nI x)), (0, .ref (ad 0))]) hx hb d_g_nodesWithWitnessFor_56 rfl hl (by decide) rfl (fun ls hl => ?_)
              refine lv_iinc (v := (nI (v + 1))) (lv' := [(4, .int (nI (v + 1))), (3, .int (nI (bs (fun m => wb9 n an fk c s rd x r v m || c v == m) 8))), (2, .int (nI r)), (1, .int (nI x)), (0, .ref (ad 0))]) hx hb d_g_nodesWithWitnessFor_57 hl (k := 1) rfl (nI_add v 1) (by decide) rfl (fun ls hl => ?_)
              refine lv_goto (tgt := 5) hx hb d_g_nodesWithWitnessFor_60 (by decide) ?_
              exact ih (v + 1) ls (by omega) (by omega) (by rw [show bs (wb9 n an fk c s rd x r (v + 1)) 8 = bs (fun m => wb9 n an fk c s rd x r v m || c v == m) 8 from bs_congr (fun m _ => by rw [wb9_s, c_28, c_42]; simp [c_19])]; exact (lv_sub hl [0, 1, 2, 3, 4] rfl))
  exact loop (x + 1) 0 ls (by omega) (by omega) (by rw [wb9_0]; exact (lv_sub hl [0, 1, 4, 3, 2] rfl))
set_option maxHeartbeats 4000000 in
set_option maxRecDepth 100000 in
theorem c_g_roundFrom (l : Launch) (D : va_G) (cI cJ cZ : ClassId) (ad : Nat → Nat) (n ev : Nat) (g : GA) (c s : Nat → Nat) (an fk : Nat → Nat → Bool) (K : Nat) (hKb : K ≤ 120) (hC : gC K g c s an fk) (o : Nat → Nat) (ow : Nat → Nat → Bool) (hLw : Lw K n c s o an ow) (hn : n ≤ 8) (rd : Nat → Nat) (KR : Nat) (hKR : KR ≤ 120) (hR : gR KR g rd) (x : Nat) (hx0 : x < K) (hxR : x ≤ KR) : PM l D (tys cI cJ cZ) (gL cI cJ ad n ev g) y_g_roundFrom b_g_roundFrom 5 (some .int) 5 118 [.ref (ad 0), .int (nI x), .int (mI (s x)), .int (mI (o x))] (nI (ro n an fk c s o rd x)) := by
  refine PM.of (by decide) (Nat.le_of_ble_eq_true rfl) ?_
  intro p9 e9 s9 m args below meth c9 ls S hr hlocks hP hK hl
  obtain ⟨hx, hb, hml, hown, htc⟩ := id S
  have hl : lv_has ls 5 [(0, .ref (ad 0)), (1, .int (nI x)), (2, .int (mI (s x))), (3, .int (mI (o x)))] := hl
  have hsx := (hLw x hx0).2.1
  have hox := (hLw x hx0).2.2.1
  refine lv_iload_n hx hb d_g_roundFrom_0 rfl (lv_at hl 2 rfl) ?_
  refine lv_iconst (v := (-1)) hx hb d_g_roundFrom_1 (by decide) ?_
  refine lv_icmp_ne (tgt := 12) hx hb d_g_roundFrom_2 (by decide) (fun c_2 => ?_) (fun c_2 => ?_)
  · have hp1 : pr rd (s x) ≤ 121 := pr_le (fun q => by have := (hR (s x - 1) (by omega)).2; omega)
    have hp2 : pr rd (o x) ≤ 121 := pr_le (fun q => by have := (hR (o x - 1) (by omega)).2; omega)
    have hp3 : max (pr rd (s x)) (pr rd (o x)) ≤ 121 := Nat.max_le.mpr ⟨hp1, hp2⟩
    refine lv_aload_n hx hb d_g_roundFrom_12 rfl (lv_at hl 0 rfl) ?_
    refine lv_iload_n hx hb d_g_roundFrom_13 rfl (lv_at hl 2 rfl) ?_
    refine PM.callV (rest := []) S (c_g_roundOfParent l D cI cJ cZ ad n ev g rd KR hKR hR (s x) (by omega)) k_1_186 k_1_188 k_s_10 k_1_1 k_1_189 h_g_roundOfParent ⟨Nat.le_of_ble_eq_true rfl, Nat.le_of_ble_eq_true rfl⟩ ⟨Nat.le_of_ble_eq_true rfl, Nat.le_of_ble_eq_true rfl⟩ hP hK 0 0 rfl rfl rfl hl.1 (Nat.le_of_ble_eq_true rfl) rfl d_g_roundFrom_14 ?_
    refine lv_aload_n hx hb d_g_roundFrom_17 rfl (lv_at hl 0 rfl) ?_
    refine lv_iload_n hx hb d_g_roundFrom_18 rfl (lv_at hl 3 rfl) ?_
    refine PM.callV (rest := [.int (nI (pr rd (s x)))]) S (c_g_roundOfParent l D cI cJ cZ ad n ev g rd KR hKR hR (o x) (by omega)) k_1_186 k_1_188 k_s_10 k_1_1 k_1_189 h_g_roundOfParent ⟨Nat.le_of_ble_eq_true rfl, Nat.le_of_ble_eq_true rfl⟩ ⟨Nat.le_of_ble_eq_true rfl, Nat.le_of_ble_eq_true rfl⟩ hP hK 0 0 rfl rfl rfl hl.1 (Nat.le_of_ble_eq_true rfl) rfl d_g_roundFrom_19 ?_
    refine va_mmax hx hb (hml.trans hl.1.symm) hown (htc _ k_1_190) (htc _ k_1_191) (htc _ k_1_8) (htc _ k_1_192) (Nat.le_of_ble_eq_true rfl) (Nat.le_of_ble_eq_true rfl) (Nat.le_of_ble_eq_true rfl) (Nat.le_of_ble_eq_true rfl) d_g_roundFrom_22 ?_
    refine nr_top (w := .int (nI (max (pr rd (s x)) (pr rd (o x))))) (congrArg Value.int (mx_I (by omega) (by omega))) ?_
    refine lv_istore (lv' := [(4, .int (nI (max (pr rd (s x)) (pr rd (o x))))), (0, .ref (ad 0)), (1, .int (nI x)), (2, .int (mI (s x))), (3, .int (mI (o x)))]) hx hb d_g_roundFrom_25 hl (by decide) rfl (fun ls hl => ?_)
    refine lv_aload_n hx hb d_g_roundFrom_27 rfl (lv_at hl 1 rfl) ?_
    refine lv_aload_n hx hb d_g_roundFrom_28 rfl (lv_at hl 1 rfl) ?_
    refine lv_iload_n hx hb d_g_roundFrom_29 rfl (lv_at hl 2 rfl) ?_
    refine lv_iload hx hb d_g_roundFrom_30 (lv_at hl 0 rfl) ?_
    refine PM.callV (rest := [.ref (ad 0)]) S (c_g_nodesWithWitnessFor l D cI cJ cZ ad n ev g c s an fk K hKb hC o ow hLw hn rd KR hKR hR x (max (pr rd (s x)) (pr rd (o x))) hx0 hxR (by omega)) k_1_193 k_1_195 k_s_11 k_1_1 k_1_196 h_g_nodesWithWitnessFor ⟨Nat.le_of_ble_eq_true rfl, Nat.le_of_ble_eq_true rfl⟩ ⟨Nat.le_of_ble_eq_true rfl, Nat.le_of_ble_eq_true rfl⟩ hP hK 0 0 rfl rfl rfl hl.1 (Nat.le_of_ble_eq_true rfl) rfl d_g_roundFrom_32 ?_
    refine PM.callV (rest := []) S (c_g_isMany l D cI cJ cZ ad n ev g (wn n an fk c s rd x (max (pr rd (s x)) (pr rd (o x)))) (Nat.le_trans (wn_le n an fk c s rd x (max (pr rd (s x)) (pr rd (o x)))) (by omega)) hn) k_1_222 k_1_224 k_s_16 k_1_1 k_1_225 h_g_isMany ⟨Nat.le_of_ble_eq_true rfl, Nat.le_of_ble_eq_true rfl⟩ ⟨Nat.le_of_ble_eq_true rfl, Nat.le_of_ble_eq_true rfl⟩ hP hK 0 0 rfl rfl rfl hl.1 (Nat.le_of_ble_eq_true rfl) rfl d_g_roundFrom_35 ?_
    refine nr_ifeq_b (tgt := 48) hx hb d_g_roundFrom_38 (by decide) (fun c_38 => ?_) (fun c_38 => ?_)
    · refine lv_iload hx hb d_g_roundFrom_48 (lv_at hl 0 rfl) ?_
      exact PM.iret hx hb hr hlocks d_g_roundFrom_50 (by unfold ro; rw [if_neg (fun q => c_2 (by rw [q.1]; rfl)), if_neg (by rw [c_38]; decide)])
    · refine lv_iload hx hb d_g_roundFrom_41 (lv_at hl 0 rfl) ?_
      refine lv_iconst (v := (nI 1)) hx hb d_g_roundFrom_43 (by decide) ?_
      refine nr_iadd hx hb d_g_roundFrom_44 ?_
      refine lv_goto (tgt := 50) hx hb d_g_roundFrom_45 (by decide) ?_
      exact PM.iret hx hb hr hlocks d_g_roundFrom_50 (by unfold ro; rw [if_neg (fun q => c_2 (by rw [q.1]; rfl)), if_pos c_38])
  · refine lv_iload_n hx hb d_g_roundFrom_5 rfl (lv_at hl 3 rfl) ?_
    refine lv_iconst (v := (-1)) hx hb d_g_roundFrom_6 (by decide) ?_
    refine lv_icmp_ne (tgt := 12) hx hb d_g_roundFrom_7 (by decide) (fun c_7 => ?_) (fun c_7 => ?_)
    · have hp1 : pr rd (s x) ≤ 121 := pr_le (fun q => by have := (hR (s x - 1) (by omega)).2; omega)
      have hp2 : pr rd (o x) ≤ 121 := pr_le (fun q => by have := (hR (o x - 1) (by omega)).2; omega)
      have hp3 : max (pr rd (s x)) (pr rd (o x)) ≤ 121 := Nat.max_le.mpr ⟨hp1, hp2⟩
      refine lv_aload_n hx hb d_g_roundFrom_12 rfl (lv_at hl 0 rfl) ?_
      refine lv_iload_n hx hb d_g_roundFrom_13 rfl (lv_at hl 2 rfl) ?_
      refine PM.callV (rest := []) S (c_g_roundOfParent l D cI cJ cZ ad n ev g rd KR hKR hR (s x) (by omega)) k_1_186 k_1_188 k_s_10 k_1_1 k_1_189 h_g_roundOfParent ⟨Nat.le_of_ble_eq_true rfl, Nat.le_of_ble_eq_true rfl⟩ ⟨Nat.le_of_ble_eq_true rfl, Nat.le_of_ble_eq_true rfl⟩ hP hK 0 0 rfl rfl rfl hl.1 (Nat.le_of_ble_eq_true rfl) rfl d_g_roundFrom_14 ?_
      refine lv_aload_n hx hb d_g_roundFrom_17 rfl (lv_at hl 0 rfl) ?_
      refine lv_iload_n hx hb d_g_roundFrom_18 rfl (lv_at hl 3 rfl) ?_
      refine PM.callV (rest := [.int (nI (pr rd (s x)))]) S (c_g_roundOfParent l D cI cJ cZ ad n ev g rd KR hKR hR (o x) (by omega)) k_1_186 k_1_188 k_s_10 k_1_1 k_1_189 h_g_roundOfParent ⟨Nat.le_of_ble_eq_true rfl, Nat.le_of_ble_eq_true rfl⟩ ⟨Nat.le_of_ble_eq_true rfl, Nat.le_of_ble_eq_true rfl⟩ hP hK 0 0 rfl rfl rfl hl.1 (Nat.le_of_ble_eq_true rfl) rfl d_g_roundFrom_19 ?_
      refine va_mmax hx hb (hml.trans hl.1.symm) hown (htc _ k_1_190) (htc _ k_1_191) (htc _ k_1_8) (htc _ k_1_192) (Nat.le_of_ble_eq_true rfl) (Nat.le_of_ble_eq_true rfl) (Nat.le_of_ble_eq_true rfl) (Nat.le_of_ble_eq_true rfl) d_g_roundFrom_22 ?_
      refine nr_top (w := .int (nI (max (pr rd (s x)) (pr rd (o x))))) (congrArg Value.int (mx_I (by omega) (by omega))) ?_
      refine lv_istore (lv' := [(4, .int (nI (max (pr rd (s x)) (pr rd (o x))))), (0, .ref (ad 0)), (1, .int (nI x)), (2, .int (mI (s x))), (3, .int (mI (o x)))]) hx hb d_g_roundFrom_25 hl (by decide) rfl (fun ls hl => ?_)
      refine lv_aload_n hx hb d_g_roundFrom_27 rfl (lv_at hl 1 rfl) ?_
      refine lv_aload_n hx hb d_g_roundFrom_28 rfl (lv_at hl 1 rfl) ?_
      refine lv_iload_n hx hb d_g_roundFrom_29 rfl (lv_at hl 2 rfl) ?_
      refine lv_iload hx hb d_g_roundFrom_30 (lv_at hl 0 rfl) ?_
      refine PM.callV (rest := [.ref (ad 0)]) S (c_g_nodesWithWitnessFor l D cI cJ cZ ad n ev g c s an fk K hKb hC o ow hLw hn rd KR hKR hR x (max (pr rd (s x)) (pr rd (o x))) hx0 hxR (by omega)) k_1_193 k_1_195 k_s_11 k_1_1 k_1_196 h_g_nodesWithWitnessFor ⟨Nat.le_of_ble_eq_true rfl, Nat.le_of_ble_eq_true rfl⟩ ⟨Nat.le_of_ble_eq_true rfl, Nat.le_of_ble_eq_true rfl⟩ hP hK 0 0 rfl rfl rfl hl.1 (Nat.le_of_ble_eq_true rfl) rfl d_g_roundFrom_32 ?_
      refine PM.callV (rest := []) S (c_g_isMany l D cI cJ cZ ad n ev g (wn n an fk c s rd x (max (pr rd (s x)) (pr rd (o x)))) (Nat.le_trans (wn_le n an fk c s rd x (max (pr rd (s x)) (pr rd (o x)))) (by omega)) hn) k_1_222 k_1_224 k_s_16 k_1_1 k_1_225 h_g_isMany ⟨Nat.le_of_ble_eq_true rfl, Nat.le_of_ble_eq_true rfl⟩ ⟨Nat.le_of_ble_eq_true rfl, Nat.le_of_ble_eq_true rfl⟩ hP hK 0 0 rfl rfl rfl hl.1 (Nat.le_of_ble_eq_true rfl) rfl d_g_roundFrom_35 ?_
      refine nr_ifeq_b (tgt := 48) hx hb d_g_roundFrom_38 (by decide) (fun c_38 => ?_) (fun c_38 => ?_)
      · refine lv_iload hx hb d_g_roundFrom_48 (lv_at hl 0 rfl) ?_
        exact PM.iret hx hb hr hlocks d_g_roundFrom_50 (by unfold ro; rw [if_neg (fun q => c_7 (by rw [q.2]; rfl)), if_neg (by rw [c_38]; decide)])
      · refine lv_iload hx hb d_g_roundFrom_41 (lv_at hl 0 rfl) ?_
        refine lv_iconst (v := (nI 1)) hx hb d_g_roundFrom_43 (by decide) ?_
        refine nr_iadd hx hb d_g_roundFrom_44 ?_
        refine lv_goto (tgt := 50) hx hb d_g_roundFrom_45 (by decide) ?_
        exact PM.iret hx hb hr hlocks d_g_roundFrom_50 (by unfold ro; rw [if_neg (fun q => c_7 (by rw [q.2]; rfl)), if_pos c_38])
    · refine lv_iconst (v := (nI 1)) hx hb d_g_roundFrom_10 (by decide) ?_
      exact PM.iret hx hb hr hlocks d_g_roundFrom_11 (by unfold ro; rw [if_pos ⟨(mI_m1 (by omega)).mp (by first | exact c_2 | exact Classical.not_not.mp c_2), (mI_m1 (by omega)).mp (by first | exact c_7 | exact Classical.not_not.mp c_7)⟩])
end
section
/-- a method that reads: the answer is v, the heap is as it was -/
def PL (l : Launch) (D : va_G) (tys : List (ClassId × FieldType)) (ws : va_W) (y : MethodName) (bs : ByteArray) (mL : Nat) (ret : Option FieldType) (f lo : Nat) (av : List Value) (v : Int64) : Prop :=
  Met l y (Cond.code y bs mL ret :: Cw) ({ frames := f, cells := 0, slots := 0, locals := lo }) (va_Pc av (wd D tys ws)) (vp_Sl (fun r => r = v)) 0 0 (fun _ => False)
theorem PL.of {l : Launch} {D : va_G} {tys : List (ClassId × FieldType)} {ws : va_W} {y : MethodName} {bs : ByteArray} {mL : Nat} {ret : Option FieldType} {f lo : Nat} {av : List Value} {v : Int64} (hy : plainName y.cls = true) (hn : (lg_sl av).length ≤ mL)
    (body : ∀ (p : Program) (e : Env) (s : State) (m : MethodId) (args : Array Value) (below : List Frame) (meth : Method) (c : Code) (ls : Array Slot), CallFix p m c bs mL s args Cw y.cls → meth.sig.returnType = ret → meth.locks = false → va_P D cls ws s.heap → va_K D cls tys s → lv_has ls mL (lv_args 0 av) →
      W p l e ({ frames := f, cells := 0, slots := 0, locals := lo }) s m args below meth c s.heap [] 0 0 (MQ below (vp_Sl (fun r => r = v)) args s 0 0 (fun _ => False)) (F0 m 0 ls [])) : PL l D tys ws y bs mL ret f lo av v := by
  refine Met.ofW (cc := bs) (maxL := mL) (ret := ret) hy rfl ?_
  intro p e s m args below meth c s₁ B hml hv
  obtain ⟨rfl, hP, hK⟩ := hv
  have hts := atoms_spec (ws := Cond.code y bs mL ret :: Cw) B.pre
  have hl := lv_entry av (n := mL) hn
  rw [lg_entry_eq]
  exact body p e s m _ below meth c _ ⟨B.exec, B.bytes, hml, findClass_of_methodNamed B.named, fun w hw => hts w (List.mem_cons_of_mem _ hw)⟩ B.returns B.notSynchronized hP hK hl
section PLR
variable {p : Program} {l : Launch} {e : Env} {R : Room} {s : State} {m : MethodId} {args : Array Value} {below : List Frame} {meth : Method} {c : Code} {H : Heap} {locs : List Loc} {cells slots : Nat} {Q : State → Prop}
variable {cc : ByteArray} {pc : Nat} {ls : Array Slot} {rest st : List Value}
theorem PL.lret {v v' : Int64} (hx : p.tables.exec = Jvm.exec) (hb : c.code = cc) (hr : meth.sig.returnType = some .long) (hlocks : meth.locks = false) (d : decode cc pc = .ok (.lreturn, 1)) (hv : v' = v) : W p l e R s m args below meth c s.heap [] 0 0 (MQ below (vp_Sl (fun r => r = v)) args s 0 0 (fun _ => False)) (F0 m pc ls [.long v']) :=
  W.lret (v := v') hx hb hr (fun t ht _ => ⟨v', rfl, hv, ht⟩) (fun _ h => nomatch h) d hlocks
theorem PL.callS {D : va_G} {tys : List (ClassId × FieldType)} {ws : va_W} {nL : Nat} {own : String} {y : MethodName} {bs : ByteArray} {mL : Nat} {ret : Option FieldType} {f lo idx : Nat} {As : List Value} {v : Int64} (S : CallFix p m c cc nL s args Cw own) (hM : PL l D tys ws y bs mL ret f lo As v)
    (k1 : Cond.methodLink own idx y ∈ Cw) (k2 : Cond.static y ∈ Cw) (k4 : Cond.initialized y.cls ∈ Cw) (k5 : Cond.code y bs mL ret ∈ Cw) (hd : y.cls ≠ "java/lang/invoke/MethodHandle" ∧ y.cls ≠ "java/lang/invoke/VarHandle" ∧ (parseMethodDescriptor y.desc).map (fun d => d.parameters.length) = some As.length)
    (hR : f + 1 ≤ R.frames ∧ 8 + (mL + 11) + lo ≤ R.locals) (hf : cells ≤ R.cells ∧ slots ≤ R.slots) (hP : va_P D cls ws H) (hK : va_K D cls tys s)
    (hl : ls.size = nL) (hrest : (rest.map fun v => v.category).sum ≤ 8) (hst : st = As.reverse ++ rest) (d : decode cc pc = .ok (.invokestatic idx, 3))
    (k : W p l e R s m args below meth c H locs cells slots Q (F0 m (pc + 3) ls (.long v :: rest))) : W p l e R s m args below meth c H locs cells slots Q (F0 m pc ls st) := by
  refine vp_callSl (post := fun r => r = v) (W.runS (g := F0 m pc ls st) (As := As) (rest := rest) S hM (va_cwS As.length S.2.2.2.2 (cw_S k1 k2 k4 k5) rfl rfl rfl hd hR) ⟨wd_blind, fun U hU hW => ⟨rfl, by rw [hU]; exact hP, va_K.moved hW.alike hK⟩⟩ rfl rfl hl hst (lv_room hrest) d hf) ?_
  intro r hr
  rw [hr]
  exact k
end PLR
theorem fw_no {p : Nat → Bool} {s : Nat → Nat} {i t : Nat} {met : Bool} (h : p i = false) : fw p s (i + 1) met t = fw p s i met t := by
  show (if p i = true then _ else fw p s i met t) = _
  rw [if_neg (by rw [h]; decide)]
theorem fw_hit {p : Nat → Bool} {s : Nat → Nat} {i t : Nat} (h : p i = true) (ht : t ≠ i + 1) : fw p s (i + 1) true t = true := by
  show (if p i = true then (if (true = true ∧ t ≠ i + 1) then true else _) else _) = true
  rw [if_pos h, if_pos ⟨rfl, ht⟩]
theorem fw_on {p : Nat → Bool} {s : Nat → Nat} {i t : Nat} {met : Bool} (h : p i = true) (ht : met = false ∨ t = i + 1) : fw p s (i + 1) met t = fw p s i true (s i) := by
  show (if p i = true then (if (met = true ∧ t ≠ i + 1) then true else fw p s i true (s i)) else _) = _
  rw [if_pos h, if_neg (by rintro ⟨q1, q2⟩; rcases ht with z | z; · rw [z] at q1; cases q1
                           · exact q2 z)]
/-- the k lowest bits of a word -/
def lb (k : Nat) : Nat := bs (fun i => decide (i < k)) 64
theorem lb_eq (k : Nat) : lb k = 2 ^ (min k 64) - 1 := by
  apply Nat.eq_of_testBit_eq
  intro i
  unfold lb
  rw [bs_tb, Nat.testBit_two_pow_sub_one]
  by_cases h1 : i < 64 <;> by_cases h2 : i < k <;> simp [h1, h2] <;> omega
theorem lb_0 : (0 : Int64) = lN (lb 0) := by decide +kernel
theorem lb_hi {k : Nat} (h : 64 ≤ k) : (-1 : Int64) = lN (lb k) := by
  rw [lb_eq, Nat.min_eq_right h]; decide +kernel
theorem lb_lo {k : Nat} (h : k < 64) : ((1 : Int64) <<< ((nI k).toInt64 &&& 63)) - 1 = lN (lb k) := by
  rw [lb_eq, Nat.min_eq_left (by omega)]
  have h1 : (1 : Int64) <<< ((nI k).toInt64 &&& 63) = lN (1 * 2 ^ k) := wb_shl 1 h
  rw [h1, Nat.one_mul]
  exact lN_sub (b := 1) (Nat.one_le_two_pow)
def lbA (x : Int32) (k : Nat) : Prop := (x ≤ 0 ∧ k = 0) ∨ (x = nI k ∧ k ≤ 120)
theorem lbA_no {x : Int32} {k : Nat} (h : lbA x k) (c : ¬ 0 < x) : k = 0 := by
  rcases h with h | ⟨h1, h2⟩
  · exact h.2
  · by_cases hk : k = 0
    · exact hk
    · exact absurd (by rw [h1, ← nI_0]; exact nI_lt (by omega) (by omega)) c
theorem lbA_yes {x : Int32} {k : Nat} (h : lbA x k) (c : 0 < x) : x = nI k ∧ k ≤ 120 := by
  rcases h with h | h
  · exact absurd c (Int32.not_lt.mpr h.1)
  · exact h
theorem lbA_sub {ev : Nat} (h : ev ≤ 120) : lbA (nI ev - nI 64) (ev - 64) := by
  by_cases h1 : 64 ≤ ev
  · exact Or.inr ⟨pk_sub h1, by omega⟩
  · refine Or.inl ⟨?_, by omega⟩
    exact Int32.le_of_lt (pk_sneg (by decide) (by omega))
def fF (A B : Nat) (c s : Nat → Nat) (u : Nat) : Nat → Bool := fun m => decide (m < u) && fa A B c s m
theorem fF_0 (A B : Nat) (c s : Nat → Nat) : bs (fF A B c s 0) 8 = 0 := (bs_congr (fun i _ => by simp [fF])).trans (bs_none 8)
theorem fF_yes {A B : Nat} {c s : Nat → Nat} {u : Nat} (h : fa A B c s u = true) : bs (fF A B c s (u + 1)) 8 = bs (fun m => fF A B c s u m || u == m) 8 := by
  refine bs_congr (fun i _ => ?_)
  unfold fF
  by_cases e : u = i
  · subst e; simp [h]
  · by_cases q : i < u
    · simp [q, show i < u + 1 by omega, e]
    · simp [q, show ¬ i < u + 1 by omega, e]
theorem fF_no {A B : Nat} {c s : Nat → Nat} {u : Nat} (h : fa A B c s u = false) : bs (fF A B c s (u + 1)) 8 = bs (fF A B c s u) 8 := by
  refine bs_congr (fun i _ => ?_)
  unfold fF
  by_cases e : u = i
  · subst e; simp [h]
  · by_cases q : i < u
    · simp [q, show i < u + 1 by omega]
    · simp [q, show ¬ i < u + 1 by omega]
theorem wt_lb {ev i : Nat} (h : i < 128) : wt (lb ev) (lb (ev - 64)) i = decide (i < ev) := by
  unfold wt lb
  by_cases q : i < 64
  · rw [if_pos q, bs_tb]; simp [q]
  · rw [if_neg q, bs_tb]; simp [show i - 64 < 64 by omega]; omega
set_option maxHeartbeats 4000000 in
set_option maxRecDepth 100000 in
theorem c_g_hasForkWithin (l : Launch) (D : va_G) (cI cJ cZ : ClassId) (ad : Nat → Nat) (n ev : Nat) (g : GA) (c s : Nat → Nat) (K : Nat) (hKb : K ≤ 120) (hC : gCs K g c s) (hs0 : ∀ i, i < K → s i ≤ i) (hc0 : ∀ i, i < K → c i < 8) (A B mm : Nat) (hA : A < 2 ^ 64) (hB : B < 2 ^ 64) (hin : ∀ i, i < 120 → wt A B i = true → i < K) (hm : mm < 8) : PM l D (tys cI cJ cZ) (gL cI cJ ad n ev g) y_g_hasForkWithin b_g_hasForkWithin 9 (some .boolean) 1 26 [.ref (ad 0), .long (lN A), .long (lN B), .int (nI mm)] (bI (fa A B c s mm)) := by
  refine PM.of (by decide) (Nat.le_of_ble_eq_true rfl) ?_
  intro p9 e9 s9 m args below meth c9 ls S hr hlocks hP hK hl
  obtain ⟨hx, hb, hml, hown, htc⟩ := id S
  have hl : lv_has ls 9 [(0, .ref (ad 0)), (1, .long (lN A)), (3, .long (lN B)), (5, .int (nI mm))] := hl
  refine lv_iconst (v := (nI 0)) hx hb d_g_hasForkWithin_0 (by decide) ?_
  refine nr_top (w := .int (bI false)) (congrArg Value.int rfl) ?_
  refine lv_istore (lv' := [(6, .int (bI false)), (0, .ref (ad 0)), (1, .long (lN A)), (3, .long (lN B)), (5, .int (nI mm))]) hx hb d_g_hasForkWithin_1 hl (by decide) rfl (fun ls hl => ?_)
  refine lv_iconst (v := (-1)) hx hb d_g_hasForkWithin_3 (by decide) ?_
  refine nr_top (w := .int (mI 0)) (congrArg Value.int rfl) ?_
  refine lv_istore (lv' := [(7, .int (mI 0)), (6, .int (bI false)), (0, .ref (ad 0)), (1, .long (lN A)), (3, .long (lN B)), (5, .int (nI mm))]) hx hb d_g_hasForkWithin_4 hl (by decide) rfl (fun ls hl => ?_)
  refine lv_bipush (v := (nI 119)) hx hb d_g_hasForkWithin_6 (by decide) ?_
  refine nr_top (w := .int (mI 120)) (congrArg Value.int rfl) ?_
  refine lv_istore (lv' := [(8, .int (mI 120)), (7, .int (mI 0)), (6, .int (bI false)), (0, .ref (ad 0)), (1, .long (lN A)), (3, .long (lN B)), (5, .int (nI mm))]) hx hb d_g_hasForkWithin_8 hl (by decide) rfl (fun ls hl => ?_)
  have loop : ∀ (d : Nat) (j t : Nat) (met : Bool) (ls : Array Slot), j < d → j ≤ 120 → t ≤ 120 → fw (fun i => wt A B i && c i == mm) s j met t = fa A B c s mm → lv_has ls 9 [(8, .int (mI j)), (7, .int (mI t)), (6, .int (bI met)), (5, .int (nI mm)), (3, .long (lN B)), (1, .long (lN A)), (0, .ref (ad 0))] → W p9 l e9 ({ frames := 1, cells := 0, slots := 0, locals := 26 }) s9 m args below meth c9 s9.heap [] 0 0 (MQ below (vp_Si (fun r9 => r9 = (bI (fa A B c s mm)))) args s9 0 0 (fun _ => False)) (F0 m 10 ls []) := by
    intro d
    induction d with
    | zero =>
      intro j t met ls hd hj ht hf hl
      exact absurd hd (by omega)
    | succ d ih =>
      intro j t met ls hd hj ht hf hl
      refine lv_iload hx hb d_g_hasForkWithin_10 (lv_at hl 0 rfl) ?_
      refine nr_iflt_m (tgt := 69) hx hb (by omega) d_g_hasForkWithin_12 (by decide) (fun c_12 => ?_) (fun c_12 => ?_)
      · refine lv_iconst (v := (nI 0)) hx hb d_g_hasForkWithin_69 (by decide) ?_
        refine nr_top (w := .int (bI false)) rfl ?_
        exact PM.zret hx hb hr hlocks d_g_hasForkWithin_70 (by rw [← hf, show j = 0 from c_12]; rfl)
      · obtain ⟨i, rfl⟩ : ∃ i, j = i + 1 := ⟨j - 1, by omega⟩
        have hl : lv_has ls 9 [(8, .int (nI i)), (7, .int (mI t)), (6, .int (bI met)), (5, .int (nI mm)), (3, .long (lN B)), (1, .long (lN A)), (0, .ref (ad 0))] := hl
        refine lv_lload_n hx hb d_g_hasForkWithin_15 rfl (lv_at hl 5 rfl) ?_
        refine lv_lload_n hx hb d_g_hasForkWithin_16 rfl (lv_at hl 4 rfl) ?_
        refine lv_iload hx hb d_g_hasForkWithin_17 (lv_at hl 0 rfl) ?_
        refine PM.callS (rest := []) S (c_g_isWithin l D cI cJ cZ ad n ev g A B i hA hB (by omega)) k_1_179 k_1_180 k_1_1 k_1_181 h_g_isWithin ⟨Nat.le_of_ble_eq_true rfl, Nat.le_of_ble_eq_true rfl⟩ ⟨Nat.le_of_ble_eq_true rfl, Nat.le_of_ble_eq_true rfl⟩ hP hK hl.1 (Nat.le_of_ble_eq_true rfl) rfl d_g_hasForkWithin_19 ?_
        refine nr_ifeq_b (tgt := 63) hx hb d_g_hasForkWithin_22 (by decide) (fun c_22 => ?_) (fun c_22 => ?_)
        · refine lv_iinc (v := (mI i)) (lv' := [(8, .int (mI i)), (7, .int (mI t)), (6, .int (bI met)), (5, .int (nI mm)), (3, .long (lN B)), (1, .long (lN A)), (0, .ref (ad 0))]) hx hb d_g_hasForkWithin_63 hl (k := 0) rfl (mI_d i) (by decide) rfl (fun ls hl => ?_)
          refine lv_goto (tgt := 10) hx hb d_g_hasForkWithin_66 (by decide) ?_
          exact ih i t met ls (by omega) (by omega) ht (by rw [← hf]; exact (fw_no (by simp [c_22])).symm) (lv_sub hl [0, 1, 2, 3, 4, 5, 6] rfl)
        · have hiK := hin i (by omega) c_22
          have hci := hc0 i hiK
          have hsi := hs0 i hiK
          refine lv_aload_n hx hb d_g_hasForkWithin_25 rfl (lv_at hl 6 rfl) ?_
          refine va_get (D := D) (ci := 0) (v := .ref (ad 1)) (C := "SightGraph") (T := T_g) (N := 8) hx hb htc in_g hown hK hP 0 rfl rfl 2 (by decide) (htc _ k_1_20) (fun _ h9 => h9) rfl d_g_hasForkWithin_26 ?_
          refine lv_iload hx hb d_g_hasForkWithin_29 (lv_at hl 0 rfl) ?_
          refine nr_iald hx hb hK hP 1 0 rfl rfl (by omega) (by decide) (v := (nI (c i))) (hC i (by omega)).1 d_g_hasForkWithin_31 ?_
          refine lv_iload hx hb d_g_hasForkWithin_32 (lv_at hl 3 rfl) ?_
          refine nr_icmp_ne (tgt := 63) hx hb (by omega) (by omega) d_g_hasForkWithin_34 (by decide) (fun c_34 => ?_) (fun c_34 => ?_)
          · refine lv_iinc (v := (mI i)) (lv' := [(8, .int (mI i)), (7, .int (mI t)), (6, .int (bI met)), (5, .int (nI mm)), (3, .long (lN B)), (1, .long (lN A)), (0, .ref (ad 0))]) hx hb d_g_hasForkWithin_63 hl (k := 0) rfl (mI_d i) (by decide) rfl (fun ls hl => ?_)
            refine lv_goto (tgt := 10) hx hb d_g_hasForkWithin_66 (by decide) ?_
            exact ih i t met ls (by omega) (by omega) ht (by rw [← hf]; exact (fw_no (by simp [c_34])).symm) (lv_sub hl [0, 1, 2, 3, 4, 5, 6] rfl)
          · refine lv_iload hx hb d_g_hasForkWithin_37 (lv_at hl 2 rfl) ?_
            refine nr_ifeq_b (tgt := 51) hx hb d_g_hasForkWithin_39 (by decide) (fun c_39 => ?_) (fun c_39 => ?_)
            · refine lv_iconst (v := (nI 1)) hx hb d_g_hasForkWithin_51 (by decide) ?_
              refine nr_top (w := .int (bI true)) (congrArg Value.int rfl) ?_
              refine lv_istore (lv' := [(6, .int (bI true)), (8, .int (nI i)), (7, .int (mI t)), (5, .int (nI mm)), (3, .long (lN B)), (1, .long (lN A)), (0, .ref (ad 0))]) hx hb d_g_hasForkWithin_52 hl (by decide) rfl (fun ls hl => ?_)
              refine lv_aload_n hx hb d_g_hasForkWithin_54 rfl (lv_at hl 6 rfl) ?_
              refine va_get (D := D) (ci := 0) (v := .ref (ad 2)) (C := "SightGraph") (T := T_g) (N := 8) hx hb htc in_g hown hK hP 0 rfl rfl 3 (by decide) (htc _ k_1_21) (fun _ h9 => h9) rfl d_g_hasForkWithin_55 ?_
              refine lv_iload hx hb d_g_hasForkWithin_58 (lv_at hl 1 rfl) ?_
              refine nr_iald hx hb hK hP 2 0 rfl rfl (by omega) (by decide) (v := (mI (s i))) (hC i (by omega)).2.1 d_g_hasForkWithin_60 ?_
              refine lv_istore (lv' := [(7, .int (mI (s i))), (6, .int (bI true)), (8, .int (nI i)), (5, .int (nI mm)), (3, .long (lN B)), (1, .long (lN A)), (0, .ref (ad 0))]) hx hb d_g_hasForkWithin_61 hl (by decide) rfl (fun ls hl => ?_)
              refine lv_iinc (v := (mI i)) (lv' := [(8, .int (mI i)), (7, .int (mI (s i))), (6, .int (bI true)), (5, .int (nI mm)), (3, .long (lN B)), (1, .long (lN A)), (0, .ref (ad 0))]) hx hb d_g_hasForkWithin_63 hl (k := 2) rfl (mI_d i) (by decide) rfl (fun ls hl => ?_)
              refine lv_goto (tgt := 10) hx hb d_g_hasForkWithin_66 (by decide) ?_
              exact ih i (s i) true ls (by omega) (by omega) (by omega) (by rw [← hf]; exact (fw_on (by simp [c_22, c_34]) (Or.inl c_39)).symm) (lv_sub hl [0, 1, 2, 3, 4, 5, 6] rfl)
            · refine lv_iload hx hb d_g_hasForkWithin_42 (lv_at hl 0 rfl) ?_
              refine lv_iload hx hb d_g_hasForkWithin_44 (lv_at hl 1 rfl) ?_
              refine lv_icmp_eq (tgt := 51) hx hb d_g_hasForkWithin_46 (by decide) (fun c_46 => ?_) (fun c_46 => ?_)
              · refine lv_iconst (v := (nI 1)) hx hb d_g_hasForkWithin_51 (by decide) ?_
                refine nr_top (w := .int (bI true)) (congrArg Value.int rfl) ?_
                refine lv_istore (lv' := [(6, .int (bI true)), (8, .int (nI i)), (7, .int (mI t)), (5, .int (nI mm)), (3, .long (lN B)), (1, .long (lN A)), (0, .ref (ad 0))]) hx hb d_g_hasForkWithin_52 hl (by decide) rfl (fun ls hl => ?_)
                refine lv_aload_n hx hb d_g_hasForkWithin_54 rfl (lv_at hl 6 rfl) ?_
                refine va_get (D := D) (ci := 0) (v := .ref (ad 2)) (C := "SightGraph") (T := T_g) (N := 8) hx hb htc in_g hown hK hP 0 rfl rfl 3 (by decide) (htc _ k_1_21) (fun _ h9 => h9) rfl d_g_hasForkWithin_55 ?_
                refine lv_iload hx hb d_g_hasForkWithin_58 (lv_at hl 1 rfl) ?_
                refine nr_iald hx hb hK hP 2 0 rfl rfl (by omega) (by decide) (v := (mI (s i))) (hC i (by omega)).2.1 d_g_hasForkWithin_60 ?_
                refine lv_istore (lv' := [(7, .int (mI (s i))), (6, .int (bI true)), (8, .int (nI i)), (5, .int (nI mm)), (3, .long (lN B)), (1, .long (lN A)), (0, .ref (ad 0))]) hx hb d_g_hasForkWithin_61 hl (by decide) rfl (fun ls hl => ?_)
                refine lv_iinc (v := (mI i)) (lv' := [(8, .int (mI i)), (7, .int (mI (s i))), (6, .int (bI true)), (5, .int (nI mm)), (3, .long (lN B)), (1, .long (lN A)), (0, .ref (ad 0))]) hx hb d_g_hasForkWithin_63 hl (k := 2) rfl (mI_d i) (by decide) rfl (fun ls hl => ?_)
                refine lv_goto (tgt := 10) hx hb d_g_hasForkWithin_66 (by decide) ?_
                exact ih i (s i) true ls (by omega) (by omega) (by omega) (by rw [← hf]; exact (fw_on (by simp [c_22, c_34]) (Or.inr ((mI_nI (by omega) (by omega)).mp c_46.symm))).symm) (lv_sub hl [0, 1, 2, 3, 4, 5, 6] rfl)
              · refine lv_iconst (v := (nI 1)) hx hb d_g_hasForkWithin_49 (by decide) ?_
                refine nr_top (w := .int (bI true)) rfl ?_
                exact PM.zret hx hb hr hlocks d_g_hasForkWithin_50 (by rw [← hf, c_39]; exact congrArg bI (fw_hit (by simp [c_22, c_34]) (fun q => c_46 ((mI_nI (by omega) (by omega)).mpr q).symm)).symm)
  exact loop 121 120 0 false ls (by omega) (by omega) (by omega) rfl (lv_sub hl [0, 1, 2, 6, 5, 4, 3] rfl)
set_option maxHeartbeats 4000000 in
set_option maxRecDepth 100000 in
theorem c_g_forkersWithin (l : Launch) (D : va_G) (cI cJ cZ : ClassId) (ad : Nat → Nat) (n ev : Nat) (g : GA) (c s : Nat → Nat) (K : Nat) (hKb : K ≤ 120) (hC : gCs K g c s) (hs0 : ∀ i, i < K → s i ≤ i) (hc0 : ∀ i, i < K → c i < 8) (A B : Nat) (hA : A < 2 ^ 64) (hB : B < 2 ^ 64) (hin : ∀ i, i < 120 → wt A B i = true → i < K) (hn : n ≤ 8) : PM l D (tys cI cJ cZ) (gL cI cJ ad n ev g) y_g_forkersWithin b_g_forkersWithin 7 (some .int) 2 54 [.ref (ad 0), .long (lN A), .long (lN B)] (nI (bs (fF A B c s n) 8)) := by
  refine PM.of (by decide) (Nat.le_of_ble_eq_true rfl) ?_
  intro p9 e9 s9 m args below meth c9 ls S hr hlocks hP hK hl
  obtain ⟨hx, hb, hml, hown, htc⟩ := id S
  have hl : lv_has ls 7 [(0, .ref (ad 0)), (1, .long (lN A)), (3, .long (lN B))] := hl
  refine lv_iconst (v := (nI 0)) hx hb d_g_forkersWithin_0 (by decide) ?_
  refine lv_istore (lv' := [(5, .int (nI 0)), (0, .ref (ad 0)), (1, .long (lN A)), (3, .long (lN B))]) hx hb d_g_forkersWithin_1 hl (by decide) rfl (fun ls hl => ?_)
  refine lv_iconst (v := (nI 0)) hx hb d_g_forkersWithin_3 (by decide) ?_
  refine lv_istore (lv' := [(6, .int (nI 0)), (5, .int (nI 0)), (0, .ref (ad 0)), (1, .long (lN A)), (3, .long (lN B))]) hx hb d_g_forkersWithin_4 hl (by decide) rfl (fun ls hl => ?_)
  have loop : ∀ (d : Nat) (u : Nat) (ls : Array Slot), n - u < d → u ≤ n → lv_has ls 7 [(6, .int (nI u)), (5, .int (nI (bs (fF A B c s u) 8))), (3, .long (lN B)), (1, .long (lN A)), (0, .ref (ad 0))] → W p9 l e9 ({ frames := 2, cells := 0, slots := 0, locals := 54 }) s9 m args below meth c9 s9.heap [] 0 0 (MQ below (vp_Si (fun r9 => r9 = (nI (bs (fF A B c s n) 8)))) args s9 0 0 (fun _ => False)) (F0 m 6 ls []) := by
    intro d
    induction d with
    | zero =>
      intro u ls hd hu hl
      exact absurd hd (by omega)
    | succ d ih =>
      intro u ls hd hu hl
      refine lv_iload hx hb d_g_forkersWithin_6 (lv_at hl 0 rfl) ?_
      refine lv_aload_n hx hb d_g_forkersWithin_8 rfl (lv_at hl 4 rfl) ?_
      refine va_get (D := D) (ci := 0) (v := .int (nI n)) (C := "SightGraph") (T := T_g) (N := 8) hx hb htc in_g hown hK hP 0 rfl rfl 0 (by decide) (htc _ k_1_18) (fun _ h9 => h9) rfl d_g_forkersWithin_9 ?_
      refine nr_icmp_ge (tgt := 41) hx hb (by omega) (by omega) d_g_forkersWithin_12 (by decide) (fun c_12 => ?_) (fun c_12 => ?_)
      · refine lv_iload hx hb d_g_forkersWithin_41 (lv_at hl 1 rfl) ?_
        exact PM.iret hx hb hr hlocks d_g_forkersWithin_43 (by rw [show u = n by omega])
      · refine lv_aload_n hx hb d_g_forkersWithin_15 rfl (lv_at hl 4 rfl) ?_
        refine lv_lload_n hx hb d_g_forkersWithin_16 rfl (lv_at hl 3 rfl) ?_
        refine lv_lload_n hx hb d_g_forkersWithin_17 rfl (lv_at hl 2 rfl) ?_
        refine lv_iload hx hb d_g_forkersWithin_18 (lv_at hl 0 rfl) ?_
        refine PM.callV (rest := []) S (c_g_hasForkWithin l D cI cJ cZ ad n ev g c s K hKb hC hs0 hc0 A B u hA hB hin (by omega)) k_1_175 k_1_177 k_s_8 k_1_1 k_1_178 h_g_hasForkWithin ⟨Nat.le_of_ble_eq_true rfl, Nat.le_of_ble_eq_true rfl⟩ ⟨Nat.le_of_ble_eq_true rfl, Nat.le_of_ble_eq_true rfl⟩ hP hK 0 0 rfl rfl rfl hl.1 (Nat.le_of_ble_eq_true rfl) rfl d_g_forkersWithin_20 ?_
        refine nr_ifeq_b (tgt := 35) hx hb d_g_forkersWithin_23 (by decide) (fun c_23 => ?_) (fun c_23 => ?_)
        · refine lv_iinc (v := (nI (u + 1))) (lv' := [(6, .int (nI (u + 1))), (5, .int (nI (bs (fF A B c s u) 8))), (3, .long (lN B)), (1, .long (lN A)), (0, .ref (ad 0))]) hx hb d_g_forkersWithin_35 hl (k := 0) rfl (nI_add u 1) (by decide) rfl (fun ls hl => ?_)
          refine lv_goto (tgt := 6) hx hb d_g_forkersWithin_38 (by decide) ?_
          exact ih (u + 1) ls (by omega) (by omega) (by rw [fF_no c_23]; exact (lv_sub hl [0, 1, 2, 3, 4] rfl))
        · refine lv_iload hx hb d_g_forkersWithin_26 (lv_at hl 1 rfl) ?_
          refine lv_iconst (v := (nI 1)) hx hb d_g_forkersWithin_28 (by decide) ?_
          refine lv_iload hx hb d_g_forkersWithin_29 (lv_at hl 0 rfl) ?_
          refine lv_ishl hx hb d_g_forkersWithin_31 ?_
          refine lv_ior hx hb d_g_forkersWithin_32 ?_
          refine nr_top (w := .int (nI (bs (fun m => fF A B c s u m || u == m) 8))) (congrArg Value.int (bs_add (by omega))) ?_
          refine lv_istore (lv' := [(5, .int (nI (bs (fun m => fF A B c s u m || u == m) 8))), (6, .int (nI u)), (3, .long (lN B)), (1, .long (lN A)), (0, .ref (ad 0))]) hx hb d_g_forkersWithin_33 hl (by decide) rfl (fun ls hl => ?_)
          refine lv_iinc (v := (nI (u + 1))) (lv' := [(6, .int (nI (u + 1))), (5, .int (nI (bs (fun m => fF A B c s u m || u == m) 8))), (3, .long (lN B)), (1, .long (lN A)), (0, .ref (ad 0))]) hx hb d_g_forkersWithin_35 hl (k := 1) rfl (nI_add u 1) (by decide) rfl (fun ls hl => ?_)
          refine lv_goto (tgt := 6) hx hb d_g_forkersWithin_38 (by decide) ?_
          exact ih (u + 1) ls (by omega) (by omega) (by rw [fF_yes c_23]; exact (lv_sub hl [0, 1, 2, 3, 4] rfl))
  exact loop (n + 1) 0 ls (by omega) (by omega) (by rw [fF_0]; exact (lv_sub hl [0, 1, 4, 3, 2] rfl))
set_option maxHeartbeats 4000000 in
set_option maxRecDepth 100000 in
theorem c_g_lowestBits (l : Launch) (D : va_G) (cI cJ cZ : ClassId) (ad : Nat → Nat) (n ev : Nat) (g : GA) (x : Int32) (k : Nat) (hk : lbA x k) : PL l D (tys cI cJ cZ) (gL cI cJ ad n ev g) y_g_lowestBits b_g_lowestBits 1 (some .long) 0 0 [.int x] (lN (lb k)) := by
  refine PL.of (by decide) (Nat.le_of_ble_eq_true rfl) ?_
  intro p9 e9 s9 m args below meth c9 ls S hr hlocks hP hK hl
  obtain ⟨hx, hb, hml, hown, htc⟩ := id S
  have hl : lv_has ls 1 [(0, .int x)] := hl
  refine lv_iload_n hx hb d_g_lowestBits_0 rfl (lv_at hl 0 rfl) ?_
  refine lv_if_gt (tgt := 6) hx hb d_g_lowestBits_1 (by decide) (fun c_1 => ?_) (fun c_1 => ?_)
  · refine lv_iload_n hx hb d_g_lowestBits_6 rfl (lv_at hl 0 rfl) ?_
    refine lv_bipush (v := (nI 64)) hx hb d_g_lowestBits_7 (by decide) ?_
    refine lv_icmp_lt (tgt := 18) hx hb d_g_lowestBits_9 (by decide) (fun c_9 => ?_) (fun c_9 => ?_)
    · refine lv_lconst (v := 1) hx hb d_g_lowestBits_18 (by decide) ?_
      refine lv_iload_n hx hb d_g_lowestBits_19 rfl (lv_at hl 0 rfl) ?_
      refine lv_lshl hx hb d_g_lowestBits_20 rfl ?_
      refine lv_lconst (v := 1) hx hb d_g_lowestBits_21 (by decide) ?_
      refine lv_lsub hx hb d_g_lowestBits_22 ?_
      exact PL.lret hx hb hr hlocks d_g_lowestBits_23 (by obtain ⟨e1, e2⟩ := lbA_yes hk c_1; have z : k < 64 := by { rw [e1] at c_9; exact (nI_ltI (by omega) (by omega)).mp c_9 }; rw [e1]; exact lb_lo z)
    · refine lv_ldc2 hx hb hown (htc _ k_2_61) d_g_lowestBits_12 ?_
      refine lv_goto (tgt := 23) hx hb d_g_lowestBits_15 (by decide) ?_
      exact PL.lret hx hb hr hlocks d_g_lowestBits_23 (by obtain ⟨e1, e2⟩ := lbA_yes hk c_1; have z : 64 ≤ k := by { rw [e1] at c_9; exact Nat.not_lt.mp (fun q => c_9 ((nI_ltI (by omega) (by omega)).mpr q)) }; exact lb_hi z)
  · refine lv_lconst (v := 0) hx hb d_g_lowestBits_4 (by decide) ?_
    exact PL.lret hx hb hr hlocks d_g_lowestBits_5 (by rw [lbA_no hk c_1]; exact lb_0)
set_option maxHeartbeats 4000000 in
set_option maxRecDepth 100000 in
theorem c_g_forkersOfAll (l : Launch) (D : va_G) (cI cJ cZ : ClassId) (ad : Nat → Nat) (n ev : Nat) (g : GA) (c s : Nat → Nat) (K : Nat) (hKb : K ≤ 120) (hC : gCs K g c s) (hs0 : ∀ i, i < K → s i ≤ i) (hc0 : ∀ i, i < K → c i < 8) (hn : n ≤ 8) (hev : ev ≤ K) : PM l D (tys cI cJ cZ) (gL cI cJ ad n ev g) y_g_forkersOfAll b_g_forkersOfAll 1 (some .int) 3 80 [.ref (ad 0)] (nI (bs (fF (lb ev) (lb (ev - 64)) c s n) 8)) := by
  refine PM.of (by decide) (Nat.le_of_ble_eq_true rfl) ?_
  intro p9 e9 s9 m args below meth c9 ls S hr hlocks hP hK hl
  obtain ⟨hx, hb, hml, hown, htc⟩ := id S
  have hl : lv_has ls 1 [(0, .ref (ad 0))] := hl
  refine lv_aload_n hx hb d_g_forkersOfAll_0 rfl (lv_at hl 0 rfl) ?_
  refine lv_aload_n hx hb d_g_forkersOfAll_1 rfl (lv_at hl 0 rfl) ?_
  refine va_get (D := D) (ci := 0) (v := .int (nI ev)) (C := "SightGraph") (T := T_g) (N := 8) hx hb htc in_g hown hK hP 0 rfl rfl 1 (by decide) (htc _ k_1_19) (fun _ h9 => h9) rfl d_g_forkersOfAll_2 ?_
  refine PL.callS (rest := [.ref (ad 0)]) S (c_g_lowestBits l D cI cJ cZ ad n ev g (nI ev) ev (Or.inr ⟨rfl, by omega⟩)) k_2_58 k_2_59 k_1_1 k_2_60 h_g_lowestBits ⟨Nat.le_of_ble_eq_true rfl, Nat.le_of_ble_eq_true rfl⟩ ⟨Nat.le_of_ble_eq_true rfl, Nat.le_of_ble_eq_true rfl⟩ hP hK hl.1 (Nat.le_of_ble_eq_true rfl) rfl d_g_forkersOfAll_5 ?_
  refine lv_aload_n hx hb d_g_forkersOfAll_8 rfl (lv_at hl 0 rfl) ?_
  refine va_get (D := D) (ci := 0) (v := .int (nI ev)) (C := "SightGraph") (T := T_g) (N := 8) hx hb htc in_g hown hK hP 0 rfl rfl 1 (by decide) (htc _ k_1_19) (fun _ h9 => h9) rfl d_g_forkersOfAll_9 ?_
  refine lv_bipush (v := (nI 64)) hx hb d_g_forkersOfAll_12 (by decide) ?_
  refine lv_isub hx hb d_g_forkersOfAll_14 ?_
  refine PL.callS (rest := [.long (lN (lb ev)), .ref (ad 0)]) S (c_g_lowestBits l D cI cJ cZ ad n ev g (nI ev - nI 64) (ev - 64) (lbA_sub (by omega))) k_2_58 k_2_59 k_1_1 k_2_60 h_g_lowestBits ⟨Nat.le_of_ble_eq_true rfl, Nat.le_of_ble_eq_true rfl⟩ ⟨Nat.le_of_ble_eq_true rfl, Nat.le_of_ble_eq_true rfl⟩ hP hK hl.1 (Nat.le_of_ble_eq_true rfl) rfl d_g_forkersOfAll_15 ?_
  refine PM.callV (rest := []) S (c_g_forkersWithin l D cI cJ cZ ad n ev g c s K hKb hC hs0 hc0 (lb ev) (lb (ev - 64)) (bs_lt _ 64) (bs_lt _ 64) (fun i h1 h2 => by rw [wt_lb (by omega)] at h2; have := of_decide_eq_true h2; omega) hn) k_1_171 k_1_173 k_s_7 k_1_1 k_1_174 h_g_forkersWithin ⟨Nat.le_of_ble_eq_true rfl, Nat.le_of_ble_eq_true rfl⟩ ⟨Nat.le_of_ble_eq_true rfl, Nat.le_of_ble_eq_true rfl⟩ hP hK 0 0 rfl rfl rfl hl.1 (Nat.le_of_ble_eq_true rfl) rfl d_g_forkersOfAll_18 ?_
  exact PM.iret hx hb hr hlocks d_g_forkersOfAll_21 rfl
set_option maxHeartbeats 4000000 in
set_option maxRecDepth 100000 in
theorem c_g_greatestRound (l : Launch) (D : va_G) (cI cJ cZ : ClassId) (ad : Nat → Nat) (n ev : Nat) (g : GA) (rd : Nat → Nat) (KR : Nat) (hKR : KR ≤ 120) (hR : gR KR g rd) (hev : ev ≤ KR) : PM l D (tys cI cJ cZ) (gL cI cJ ad n ev g) y_g_greatestRound b_g_greatestRound 3 (some .int) 1 20 [.ref (ad 0)] (nI (gr rd ev)) := by
  refine PM.of (by decide) (Nat.le_of_ble_eq_true rfl) ?_
  intro p9 e9 s9 m args below meth c9 ls S hr hlocks hP hK hl
  obtain ⟨hx, hb, hml, hown, htc⟩ := id S
  have hl : lv_has ls 3 [(0, .ref (ad 0))] := hl
  refine lv_iconst (v := (nI 0)) hx hb d_g_greatestRound_0 (by decide) ?_
  refine lv_istore_n (lv' := [(1, .int (nI 0)), (0, .ref (ad 0))]) hx hb d_g_greatestRound_1 rfl hl (by decide) rfl (fun ls hl => ?_)
  refine lv_iconst (v := (nI 0)) hx hb d_g_greatestRound_2 (by decide) ?_
  refine lv_istore_n (lv' := [(2, .int (nI 0)), (1, .int (nI 0)), (0, .ref (ad 0))]) hx hb d_g_greatestRound_3 rfl hl (by decide) rfl (fun ls hl => ?_)
  have loop : ∀ (d : Nat) (k : Nat) (ls : Array Slot), ev - k < d → k ≤ ev → lv_has ls 3 [(2, .int (nI k)), (1, .int (nI (gr rd k))), (0, .ref (ad 0))] → W p9 l e9 ({ frames := 1, cells := 0, slots := 0, locals := 20 }) s9 m args below meth c9 s9.heap [] 0 0 (MQ below (vp_Si (fun r9 => r9 = (nI (gr rd ev)))) args s9 0 0 (fun _ => False)) (F0 m 4 ls []) := by
    intro d
    induction d with
    | zero =>
      intro k ls hd hk hl
      exact absurd hd (by omega)
    | succ d ih =>
      intro k ls hd hk hl
      refine lv_iload_n hx hb d_g_greatestRound_4 rfl (lv_at hl 0 rfl) ?_
      refine lv_aload_n hx hb d_g_greatestRound_5 rfl (lv_at hl 2 rfl) ?_
      refine va_get (D := D) (ci := 0) (v := .int (nI ev)) (C := "SightGraph") (T := T_g) (N := 8) hx hb htc in_g hown hK hP 0 rfl rfl 1 (by decide) (htc _ k_1_19) (fun _ h9 => h9) rfl d_g_greatestRound_6 ?_
      refine nr_icmp_ge (tgt := 29) hx hb (by omega) (by omega) d_g_greatestRound_9 (by decide) (fun c_9 => ?_) (fun c_9 => ?_)
      · refine lv_iload_n hx hb d_g_greatestRound_29 rfl (lv_at hl 1 rfl) ?_
        exact PM.iret hx hb hr hlocks d_g_greatestRound_30 (by rw [show k = ev by omega])
      · have hb9 := (hR k (by omega)).2
        have hb8 : gr rd k ≤ 121 := gr_le (fun j hj => by have := (hR j (by omega)).2; omega)
        refine lv_iload_n hx hb d_g_greatestRound_12 rfl (lv_at hl 1 rfl) ?_
        refine lv_aload_n hx hb d_g_greatestRound_13 rfl (lv_at hl 2 rfl) ?_
        refine va_get (D := D) (ci := 0) (v := .ref (ad 3)) (C := "SightGraph") (T := T_g) (N := 8) hx hb htc in_g hown hK hP 0 rfl rfl 4 (by decide) (htc _ k_1_22) (fun _ h9 => h9) rfl d_g_greatestRound_14 ?_
        refine lv_iload_n hx hb d_g_greatestRound_17 rfl (lv_at hl 0 rfl) ?_
        refine nr_iald hx hb hK hP 3 0 rfl rfl (by omega) (by decide) (v := (nI (rd k))) (hR k (by omega)).1 d_g_greatestRound_18 ?_
        refine va_mmax hx hb (hml.trans hl.1.symm) hown (htc _ k_1_190) (htc _ k_1_191) (htc _ k_1_8) (htc _ k_1_192) (Nat.le_of_ble_eq_true rfl) (Nat.le_of_ble_eq_true rfl) (Nat.le_of_ble_eq_true rfl) (Nat.le_of_ble_eq_true rfl) d_g_greatestRound_19 ?_
        refine nr_top (w := .int (nI (max (gr rd k) (rd k)))) (congrArg Value.int (mx_I (by omega) (by omega))) ?_
        refine lv_istore_n (lv' := [(1, .int (nI (max (gr rd k) (rd k)))), (2, .int (nI k)), (0, .ref (ad 0))]) hx hb d_g_greatestRound_22 rfl hl (by decide) rfl (fun ls hl => ?_)
        refine lv_iinc (v := (nI (k + 1))) (lv' := [(2, .int (nI (k + 1))), (1, .int (nI (max (gr rd k) (rd k)))), (0, .ref (ad 0))]) hx hb d_g_greatestRound_23 hl (k := 1) rfl (nI_add k 1) (by decide) rfl (fun ls hl => ?_)
        refine lv_goto (tgt := 4) hx hb d_g_greatestRound_26 (by decide) ?_
        exact ih (k + 1) ls (by omega) (by omega) (lv_sub hl [0, 1, 2] rfl)
  exact loop (ev + 1) 0 ls (by omega) (by omega) (lv_sub hl [0, 1, 2] rfl)
end
section
/-! what a throw needs of the state; contracts of methods that answer nothing, that throw, that write -/
def BW : List Cond := [.castable "java/lang/IllegalArgumentException" "java/lang/IllegalArgumentException", .castable "java/lang/IndexOutOfBoundsException" "java/lang/IndexOutOfBoundsException", .declares ⟨"java/lang/RuntimeException", "<init>", "(Ljava/lang/String;)V"⟩, .declares ⟨"java/lang/Exception", "<init>", "(Ljava/lang/String;)V"⟩, .declares ⟨"java/lang/Throwable", "<init>", "(Ljava/lang/String;)V"⟩]
theorem BW_warm {s U : State} (hW : s.WarmedH U.vm) (h : ∀ w ∈ BW, va_Nw w s) : ∀ w ∈ BW, va_Nw w U := by
  intro w hw
  have h0 := h w hw
  simp only [BW, List.mem_cons, List.not_mem_nil, or_false] at hw
  rcases hw with rfl | rfl | rfl | rfl | rfl
  · exact va_Nw.warmC hW h0
  · exact va_Nw.warmC hW h0
  · exact va_Nw.warmD hW h0
  · exact va_Nw.warmD hW h0
  · exact va_Nw.warmD hW h0
theorem BW_use {U : State} {A : Array Value} (h : ∀ w ∈ BW, va_Nw w U) : ∀ w ∈ BW, w.before A U = true := by
  intro w hw
  have h0 := h w hw
  simp only [BW, List.mem_cons, List.not_mem_nil, or_false] at hw
  rcases hw with rfl | rfl | rfl | rfl | rfl <;> exact va_Nw.use rfl h0
def sT : List (Nat × String) := [(38, "the number of nodes is not 2 to 8"), (113, "there is no such node"), (51, "the self-parent is no event of the node"), (56, "the other-parent is no event of another node"), (60, "there are 120 events"), (118, "there is no such event"), (111, "there is no such count")]
/-- what a throw needs: two statics of Throwable, the texts, a few words -/
def TE (A : Nat → Prop) (sa : Nat → Nat) (U : State) (H : Heap) : Prop := (vx_Zq Bundle.tN "UNASSIGNED_STACK" Bundle.steD A U H ∧ vx_Zq Bundle.tN "SUPPRESSED_SENTINEL" Bundle.listD A U H) ∧ (∀ w ∈ BW, va_Nw w U) ∧ ∀ (i : Nat) (q : Nat × String), sT[i]? = some q → vk_R "SightGraph" q.1 q.2 (sa i) U
theorem TE.warm {A : Nat → Prop} {sa : Nat → Nat} {s U : State} {H : Heap} (hW : s.WarmedH U.vm) (h : TE A sa s H) : TE A sa U H := ⟨⟨vx_Zq.moved hW.alike h.1.1, vx_Zq.moved hW.alike h.1.2⟩, BW_warm hW h.2.1, fun i q hq => vk_R.warm hW (h.2.2 i q hq)⟩
theorem TE.kept {A : Nat → Prop} {sa : Nat → Nat} {U : State} {H H1 : Heap} (h : TE A sa U H) (hq : ∀ a : Nat, a < H.size → ¬ A a → H1[a]? = H[a]?) : TE A sa U H1 := ⟨⟨vx_Zq.kept h.1.1 hq, vx_Zq.kept h.1.2 hq⟩, h.2⟩
theorem TE.narrow {A B : Nat → Prop} {sa : Nat → Nat} {U : State} {H : Heap} (h : TE A sa U H) (hAB : ∀ q, B q → A q) : TE B sa U H := ⟨⟨vx_Zq.narrow h.1.1 hAB, vx_Zq.narrow h.1.2 hAB⟩, h.2⟩
def noA : Nat → Prop := fun _ => False
theorem at_40 : ∀ w ∈ (vx_atS "SightGraph" 40 "java/lang/IllegalArgumentException" ["java/lang/RuntimeException", "java/lang/Exception"]).filter goodWord, w ∈ lw_tbl := by decide +kernel
theorem ab_40 : ∀ w ∈ (vx_atS "SightGraph" 40 "java/lang/IllegalArgumentException" ["java/lang/RuntimeException", "java/lang/Exception"]).filter (fun w => !goodWord w), w ∈ BW := by decide +kernel
theorem ag_40 : ∀ w ∈ Cond.classLink "SightGraph" 36 "java/lang/IllegalArgumentException" :: Cond.initialized "java/lang/IllegalArgumentException" :: vx_atS "SightGraph" 40 "java/lang/IllegalArgumentException" ["java/lang/RuntimeException", "java/lang/Exception"], vx_ot w = true := by decide +kernel
theorem ah_40 {args : Array Value} {s : State} (htc : ∀ w ∈ Cw, w.before args s = true) (hB : ∀ w ∈ BW, va_Nw w s) : ∀ w ∈ vx_atS "SightGraph" 40 "java/lang/IllegalArgumentException" ["java/lang/RuntimeException", "java/lang/Exception"], w.before args s = true :=
  vx_hat (B := BW) (fun w hw => htc w (List.mem_filter.mpr ⟨at_40 w hw, (List.mem_filter.mp hw).2⟩)) ab_40 (BW_use hB)
theorem at_62 : ∀ w ∈ (vx_atS "SightGraph" 62 "java/lang/IndexOutOfBoundsException" ["java/lang/RuntimeException", "java/lang/Exception"]).filter goodWord, w ∈ lw_tbl := by decide +kernel
theorem ab_62 : ∀ w ∈ (vx_atS "SightGraph" 62 "java/lang/IndexOutOfBoundsException" ["java/lang/RuntimeException", "java/lang/Exception"]).filter (fun w => !goodWord w), w ∈ BW := by decide +kernel
theorem ag_62 : ∀ w ∈ Cond.classLink "SightGraph" 58 "java/lang/IndexOutOfBoundsException" :: Cond.initialized "java/lang/IndexOutOfBoundsException" :: vx_atS "SightGraph" 62 "java/lang/IndexOutOfBoundsException" ["java/lang/RuntimeException", "java/lang/Exception"], vx_ot w = true := by decide +kernel
theorem ah_62 {args : Array Value} {s : State} (htc : ∀ w ∈ Cw, w.before args s = true) (hB : ∀ w ∈ BW, va_Nw w s) : ∀ w ∈ vx_atS "SightGraph" 62 "java/lang/IndexOutOfBoundsException" ["java/lang/RuntimeException", "java/lang/Exception"], w.before args s = true :=
  vx_hat (B := BW) (fun w hw => htc w (List.mem_filter.mpr ⟨at_62 w hw, (List.mem_filter.mp hw).2⟩)) ab_62 (BW_use hB)
theorem fn_ok : ∀ n ∈ (["java/lang/RuntimeException", "java/lang/Exception"] : List String), Bundle.fit n = true := by decide +kernel
/-- old cells as they were, one more -/
def XCe (E : String) : String → State → State → Prop := fun E' st t => E' = E ∧ st.heap.size ≤ t.heap.size ∧ ∀ q : Nat, q < st.heap.size → t.heap[q]? = st.heap[q]?
def QFa : Array Value → State → Outcome → State → Prop := fun _ _ _ _ => False
def wt9 (D : va_G) (tys : List (ClassId × FieldType)) (ws : va_W) (sa : Nat → Nat) (U : State) : Prop := wd D tys ws U ∧ TE noA sa U U.heap
theorem wt9_blind {D : va_G} {tys : List (ClassId × FieldType)} {ws : va_W} {sa : Nat → Nat} {av : List Value} : FrameBlind (va_Pc av (wt9 D tys ws sa)) := fun a U g mk q => ⟨q.1, ⟨q.2.1.1, va_K.moved (u := U) (U := U.calling g mk a) (Vm.Alike.refl U.vm) q.2.1.2⟩, TE.warm (s := U) (U := U.calling g mk a) (State.WarmedH.refl U) q.2.2⟩
/-- a method that throws E, and writes nothing -/
def XT (l : Launch) (D : va_G) (tys : List (ClassId × FieldType)) (ws : va_W) (sa : Nat → Nat) (y : MethodName) (bs : ByteArray) (mL : Nat) (ret : Option FieldType) (f lo : Nat) (av : List Value) (E : String) : Prop :=
  vx_Met l y (Cond.code y bs mL ret :: Cw) ({ frames := f, cells := 1, slots := 6, locals := lo }) (va_Pc av (wt9 D tys ws sa)) QFa (XCe E) 1 6 nofree
theorem XT.of {l : Launch} {D : va_G} {tys : List (ClassId × FieldType)} {ws : va_W} {sa : Nat → Nat} {y : MethodName} {bs : ByteArray} {mL : Nat} {ret : Option FieldType} {f lo : Nat} {av : List Value} {E : String} (hy : plainName y.cls = true) (hn : (lg_sl av).length ≤ mL)
    (body : ∀ (p : Program) (e : Env) (s : State) (m : MethodId) (args : Array Value) (below : List Frame) (meth : Method) (c : Code) (ls : Array Slot), CallFix p m c bs mL s args Cw y.cls → meth.sig.returnType = ret → meth.locks = false → (∀ x ∈ c.exceptionTable.toList, False) → va_P D cls ws s.heap → va_K D cls tys s → TE noA sa s s.heap → lv_has ls mL (lv_args 0 av) →
      W p l e ({ frames := f, cells := 1, slots := 6, locals := lo }) s m args below meth c s.heap [] 0 0 (vx_MQ below QFa (XCe E) args s 1 6 nofree) (F0 m 0 ls [])) : XT l D tys ws sa y bs mL ret f lo av E := by
  refine vx_ofW (cc := bs) (maxL := mL) (ret := ret) hy rfl ?_
  intro p e s m args below meth c s₁ B hml ht hv
  obtain ⟨rfl, ⟨hP, hK⟩, hTE⟩ := hv
  have hts := atoms_spec (ws := Cond.code y bs mL ret :: Cw) B.pre
  have hl := lv_entry av (n := mL) hn
  rw [lg_entry_eq]
  exact body p e s m _ below meth c _ ⟨B.exec, B.bytes, hml, findClass_of_methodNamed B.named, fun w hw => hts w (List.mem_cons_of_mem _ hw)⟩ B.returns B.notSynchronized ht hP hK hTE hl
section XTR
variable {p : Program} {l : Launch} {e : Env} {R : Room} {s : State} {m : MethodId} {args : Array Value} {below : List Frame} {meth : Method} {c : Code} {H : Heap} {locs : List Loc} {cells slots : Nat} {Q : State → Prop}
variable {cc : ByteArray} {pc : Nat} {ls : Array Slot} {rest st : List Value}
theorem XT.thI {nL : Nat} {sa : Nat → Nat} (hl0 : l.stackTraces = false) (S : CallFix p m c cc nL s args Cw "SightGraph") (ht : ∀ x ∈ c.exceptionTable.toList, False) (hTE : TE noA sa s s.heap) (hlocks : meth.locks = false) (hl : ls.size = nL) (i : Nat) {q : Nat × String} (hq : sT[i]? = some q) (hR : 5 < R.frames ∧ (rest.map fun v => v.category).sum + 82 ≤ R.locals ∧ 1 ≤ R.cells ∧ 6 ≤ R.slots)
    (d0 : decode cc pc = .ok (.new 36, 3)) (d3 : decode cc (pc + 3) = .ok (.dup, 1)) (d4 : decode cc (pc + 4) = .ok (.ldc q.1, 2)) (d6 : decode cc (pc + 6) = .ok (.invokespecial 40, 3)) (d9 : decode cc (pc + 9) = .ok (.athrow, 1)) :
    W p l e R s m args below meth c s.heap [] 0 0 (vx_MQ below QFa (XCe "java/lang/IllegalArgumentException") args s 1 6 nofree) (F0 m pc ls rest) := by
  obtain ⟨hx, hb, hml, hown, htc⟩ := id S
  exact vx_throwS (A := noA) (own := "SightGraph") (cls := "java/lang/IllegalArgumentException") (names := ["java/lang/RuntimeException", "java/lang/Exception"]) hx hb hl0 hown (by decide +kernel) fn_ok (htc _ k_1_53) (htc _ k_1_6) (hTE.2.2 i q hq) (ah_40 htc hTE.2.1) ag_40 hTE.1.1 hTE.1.2 va_S.rf (by rw [hl, hml]) d0 d3 d4 d6 d9 (fun x hx9 => (ht x hx9).elim) hR.1 hR.2.1 (by simpa using hR.2.2.1) (by simpa using hR.2.2.2) hlocks (fun t _ h1 h2 => ⟨rfl, h1, h2⟩) (fun _ h => nomatch h) (Nat.le_refl _) (Nat.le_refl _)
theorem XT.thB {nL : Nat} {sa : Nat → Nat} (hl0 : l.stackTraces = false) (S : CallFix p m c cc nL s args Cw "SightGraph") (ht : ∀ x ∈ c.exceptionTable.toList, False) (hTE : TE noA sa s s.heap) (hlocks : meth.locks = false) (hl : ls.size = nL) (i : Nat) {q : Nat × String} (hq : sT[i]? = some q) (hR : 5 < R.frames ∧ (rest.map fun v => v.category).sum + 82 ≤ R.locals ∧ 1 ≤ R.cells ∧ 6 ≤ R.slots)
    (d0 : decode cc pc = .ok (.new 58, 3)) (d3 : decode cc (pc + 3) = .ok (.dup, 1)) (d4 : decode cc (pc + 4) = .ok (.ldc q.1, 2)) (d6 : decode cc (pc + 6) = .ok (.invokespecial 62, 3)) (d9 : decode cc (pc + 9) = .ok (.athrow, 1)) :
    W p l e R s m args below meth c s.heap [] 0 0 (vx_MQ below QFa (XCe "java/lang/IndexOutOfBoundsException") args s 1 6 nofree) (F0 m pc ls rest) := by
  obtain ⟨hx, hb, hml, hown, htc⟩ := id S
  exact vx_throwS (A := noA) (own := "SightGraph") (cls := "java/lang/IndexOutOfBoundsException") (names := ["java/lang/RuntimeException", "java/lang/Exception"]) hx hb hl0 hown (by decide +kernel) fn_ok (htc _ k_1_147) (htc _ k_1_7) (hTE.2.2 i q hq) (ah_62 htc hTE.2.1) ag_62 hTE.1.1 hTE.1.2 va_S.rf (by rw [hl, hml]) d0 d3 d4 d6 d9 (fun x hx9 => (ht x hx9).elim) hR.1 hR.2.1 (by simpa using hR.2.2.1) (by simpa using hR.2.2.2) hlocks (fun t _ h1 h2 => ⟨rfl, h1, h2⟩) (fun _ h => nomatch h) (Nat.le_refl _) (Nat.le_refl _)
theorem XT.pass {D : va_G} {tys : List (ClassId × FieldType)} {ws : va_W} {sa : Nat → Nat} {nL : Nat} {own : String} {y : MethodName} {bs : ByteArray} {mL : Nat} {ret : Option FieldType} {f lo b idx : Nat} {As : List Value} {E : String} (S : CallFix p m c cc nL s args Cw own) (hM : XT l D tys ws sa y bs mL ret f lo (.ref b :: As) E)
    (k1 : Cond.methodLink own idx y ∈ Cw) (k2 : Cond.instanceMethod y ∈ Cw) (k3 : Cond.selects y.cls y y ∈ Cw) (k4 : Cond.initialized y.cls ∈ Cw) (k5 : Cond.code y bs mL ret ∈ Cw) (hd : y.cls ≠ "java/lang/invoke/MethodHandle" ∧ y.cls ≠ "java/lang/invoke/VarHandle" ∧ (parseMethodDescriptor y.desc).map (fun d => d.parameters.length) = some As.length)
    (hR : f + 1 ≤ R.frames ∧ 8 + (mL + 11) + lo ≤ R.locals) (hf : 1 ≤ R.cells ∧ 6 ≤ R.slots) (hP : va_P D cls ws s.heap) (hK : va_K D cls tys s) (hTE : TE noA sa s s.heap) (ht : ∀ x ∈ c.exceptionTable.toList, False) (hlocks : meth.locks = false) (q0 ci : Nat) {q : vw_C} {fs : List Value} (hc : cls[ci]? = some q) (hq : q.1 = y.cls) (he : ws[q0]? = some (b, .inr (ci, fs)))
    (hl : ls.size = nL) (hrest : (rest.map fun v => v.category).sum ≤ 8) (hst : st = As.reverse ++ .ref b :: rest) (d : decode cc pc = .ok (.invokevirtual idx, 3)) :
    W p l e R s m args below meth c s.heap [] 0 0 (vx_MQ below QFa (XCe E) args s 1 6 nofree) (F0 m pc ls st) := by
  intro T hT X
  have hr := vx_runV (p := p) (l := l) (e := e) (R := R) (below := below) (meth := meth) (H := s.heap) (locs := []) (cells := 0) (slots := 0) (g := F0 m pc ls st) (As := As) (rest := rest) (b := b) S hM (cwV As.length S.2.2.2.2 (cw_V k1 k2 k3 k4 k5) rfl rfl rfl ⟨rfl, hd⟩ hR) ⟨wt9_blind, by rw [← hq]; exact va_recv hK hP hc he, fun U hU hW => ⟨rfl, ⟨by rw [hU]; exact hP, va_K.moved hW.alike hK⟩, by rw [hU]; exact TE.warm hW hTE⟩⟩ rfl rfl hl hst (lv_room hrest) d (by simpa using hf)
  rcases hr T hT X with ⟨v, st₀, t, T', L, h0, X', hL, e1, e2, hq9, stp⟩ | ⟨q9, st₀, t, T', L, E', ce, h0, X', hL, e1, e2, ⟨hE, hz, hk⟩, hce, hcv, hcl, stp⟩
  · exact hq9.elim
  · have ho := vx_out (p := p) (l := l) (e := e) (R := R) (s := s) (m := m) (args := args) (below := below) (meth := meth) (c := c) (H := T'.heap) (locs := [] ++ L) (cells := 0 + 1) (slots := 0 + 6) (ls := ls) (rest := rest) (pc := pc) (E := E') (ce := ce) (q := q9) (mc := 1) (ms := 6) (free := nofree) (Qc := QFa) (XC := XCe E) (fun x hx9 => (ht x hx9).elim) hlocks (by rw [e1]; exact hce) hcv hcl
      (fun u hu _ => ⟨hE, by rw [hu, e1, ← h0]; exact hz, fun j hj => by rw [hu, e1, ← h0]; exact hk j (by rw [h0]; exact hj)⟩) (fun z hz9 => by simpa using hL z (by simpa using hz9)) (by omega) (by omega)
    obtain ⟨t2, a1, b1⟩ := ho T' rfl X'
    exact ⟨t2, stp.trans a1, b1⟩
end XTR
/-- a method that answers nothing and writes nothing -/
def PV (l : Launch) (D : va_G) (tys : List (ClassId × FieldType)) (ws : va_W) (y : MethodName) (bs : ByteArray) (mL : Nat) (f lo : Nat) (av : List Value) : Prop :=
  Met l y (Cond.code y bs mL none :: Cw) ({ frames := f, cells := 0, slots := 0, locals := lo }) (va_Pc av (wd D tys ws)) (va_Sv (fun _ => True)) 0 0 (fun _ => False)
theorem PV.of {l : Launch} {D : va_G} {tys : List (ClassId × FieldType)} {ws : va_W} {y : MethodName} {bs : ByteArray} {mL : Nat} {f lo : Nat} {av : List Value} (hy : plainName y.cls = true) (hn : (lg_sl av).length ≤ mL)
    (body : ∀ (p : Program) (e : Env) (s : State) (m : MethodId) (args : Array Value) (below : List Frame) (meth : Method) (c : Code) (ls : Array Slot), CallFix p m c bs mL s args Cw y.cls → meth.sig.returnType = none → meth.locks = false → va_P D cls ws s.heap → va_K D cls tys s → lv_has ls mL (lv_args 0 av) →
      W p l e ({ frames := f, cells := 0, slots := 0, locals := lo }) s m args below meth c s.heap [] 0 0 (MQ below (va_Sv (fun _ => True)) args s 0 0 (fun _ => False)) (F0 m 0 ls [])) : PV l D tys ws y bs mL f lo av := by
  refine Met.ofW (cc := bs) (maxL := mL) (ret := none) hy rfl ?_
  intro p e s m args below meth c s₁ B hml hv
  obtain ⟨rfl, hP, hK⟩ := hv
  have hts := atoms_spec (ws := Cond.code y bs mL none :: Cw) B.pre
  have hl := lv_entry av (n := mL) hn
  rw [lg_entry_eq]
  exact body p e s m _ below meth c _ ⟨B.exec, B.bytes, hml, findClass_of_methodNamed B.named, fun w hw => hts w (List.mem_cons_of_mem _ hw)⟩ B.returns B.notSynchronized hP hK hl
section PVR
variable {p : Program} {l : Launch} {e : Env} {R : Room} {s : State} {m : MethodId} {args : Array Value} {below : List Frame} {meth : Method} {c : Code} {H : Heap} {locs : List Loc} {cells slots : Nat} {Q : State → Prop}
variable {cc : ByteArray} {pc : Nat} {ls : Array Slot} {rest st : List Value}
theorem PV.ret (hx : p.tables.exec = Jvm.exec) (hb : c.code = cc) (hr : meth.sig.returnType = none) (hlocks : meth.locks = false) (d : decode cc pc = .ok (.return_, 1)) : W p l e R s m args below meth c s.heap [] 0 0 (MQ below (va_Sv (fun _ => True)) args s 0 0 (fun _ => False)) (F0 m pc ls []) :=
  W.vret hx hb hr (fun t ht _ => ⟨rfl, trivial, ht⟩) (fun _ h => nomatch h) d hlocks
theorem PV.callV {D : va_G} {tys : List (ClassId × FieldType)} {ws : va_W} {nL : Nat} {own : String} {y : MethodName} {bs : ByteArray} {mL : Nat} {f lo b idx : Nat} {As : List Value} (S : CallFix p m c cc nL s args Cw own) (hM : PV l D tys ws y bs mL f lo (.ref b :: As))
    (k1 : Cond.methodLink own idx y ∈ Cw) (k2 : Cond.instanceMethod y ∈ Cw) (k3 : Cond.selects y.cls y y ∈ Cw) (k4 : Cond.initialized y.cls ∈ Cw) (k5 : Cond.code y bs mL none ∈ Cw) (hd : y.cls ≠ "java/lang/invoke/MethodHandle" ∧ y.cls ≠ "java/lang/invoke/VarHandle" ∧ (parseMethodDescriptor y.desc).map (fun d => d.parameters.length) = some As.length)
    (hR : f + 1 ≤ R.frames ∧ 8 + (mL + 11) + lo ≤ R.locals) (hf : cells ≤ R.cells ∧ slots ≤ R.slots) (hP : va_P D cls ws H) (hK : va_K D cls tys s) (q0 ci : Nat) {q : vw_C} {fs : List Value} (hc : cls[ci]? = some q) (hq : q.1 = y.cls) (he : ws[q0]? = some (b, .inr (ci, fs)))
    (hl : ls.size = nL) (hrest : (rest.map fun v => v.category).sum ≤ 8) (hst : st = As.reverse ++ .ref b :: rest) (d : decode cc pc = .ok (.invokevirtual idx, 3))
    (k : W p l e R s m args below meth c H locs cells slots Q (F0 m (pc + 3) ls rest)) : W p l e R s m args below meth c H locs cells slots Q (F0 m pc ls st) :=
  va_csv (post := fun _ => True) (W.runV (g := F0 m pc ls st) (As := As) (rest := rest) (b := b) S hM (cwV As.length S.2.2.2.2 (cw_V k1 k2 k3 k4 k5) rfl rfl rfl ⟨rfl, hd⟩ hR) ⟨wd_blind, by rw [← hq]; exact va_recv hK hP hc he, fun U hU hW => ⟨rfl, by rw [hU]; exact hP, va_K.moved hW.alike hK⟩⟩ rfl rfl hl hst (lv_room hrest) d hf) (fun _ => k)
end PVR
end
section
theorem iv_t {ev j : Nat} (h : j < ev) (hev : ev ≤ 120) : iv ev (nI j) = true := decide_eq_true ⟨nI_pos' (by omega), nI_lt h (by omega)⟩
theorem iv_of {ev : Nat} {x : Int32} (h : iv ev x = true) (hev : ev ≤ 120) : ∃ j, j < ev ∧ x = nI j := by
  obtain ⟨h1, h2⟩ := of_decide_eq_true h
  obtain ⟨j, hj, e⟩ := nI_of (x := x) (Int32.not_lt.mpr h1)
  subst e
  exact ⟨j, (nI_ltI hj (by omega)).mp h2, rfl⟩
/-- an argument that may be the self-parent, the other-parent -/
def okS (ev : Nat) (c : Nat → Nat) (nd : Nat) (x : Int32) : Bool := decide (x = -1) || ex ev (fun j => decide (x = nI j) && c j == nd)
def okO (ev : Nat) (c : Nat → Nat) (nd : Nat) (x : Int32) : Bool := decide (x = -1) || ex ev (fun j => decide (x = nI j) && !(c j == nd))
theorem ok_no {ev : Nat} {x : Int32} {f : Nat → Bool} (hev : ev ≤ 120) (h : iv ev x = false) (h1 : ¬ x = -1) : (decide (x = -1) || ex ev (fun j => decide (x = nI j) && f j)) = false := by
  rw [decide_eq_false h1, Bool.false_or]
  refine ex_f.mpr (fun j hj => ?_)
  rw [decide_eq_false (fun q => by rw [q, iv_t hj hev] at h; cases h)]; rfl
theorem ok_in {ev j : Nat} {f : Nat → Bool} (hev : ev ≤ 120) (hj : j < ev) : (decide (nI j = -1) || ex ev (fun i => decide (nI j = nI i) && f i)) = f j := by
  rw [decide_eq_false (fun q => absurd (by rw [q]; decide) (nI_pos (n := j) (by omega))), Bool.false_or]
  cases hf : f j with
  | true => exact ex_t.mpr ⟨j, hj, by rw [decide_eq_true rfl, hf]; rfl⟩
  | false =>
    refine ex_f.mpr (fun i hi => ?_)
    by_cases e : j = i
    · subst e; rw [hf, Bool.and_false]
    · rw [decide_eq_false (fun q => e ((nI_eq (by omega) (by omega)).mp q))]; rfl
theorem own_yes {K n : Nat} {c s o : Nat → Nat} {an ow : Nat → Nat → Bool} (h : Lw K n c s o an ow) {t y : Nat} (hy : y < K) (ht : t = y + 1) : pa ow t y = true := by
  subst ht
  show (!(y + 1 == 0) && ow (y + 1 - 1) y) = true
  rw [show y + 1 - 1 = y from rfl, (h y hy).2.2.2.2.2.2 y]; simp
theorem own_no {K n : Nat} {c s o : Nat → Nat} {an ow : Nat → Nat → Bool} (h : Lw K n c s o an ow) {t y : Nat} (hy : y < K) (ht : t ≤ y + 1) (hn : ¬ t = y + 1) : pa ow t y = false := by
  unfold pa
  cases he : ow (t - 1) y with
  | false => rw [Bool.and_false]
  | true =>
    by_cases q : t = 0
    · subst q; rfl
    · have := h.ow_le (t - 1) (by omega) y he
      omega
set_option maxHeartbeats 4000000 in
set_option maxRecDepth 100000 in
theorem c_g_mayBeSelfParent (l : Launch) (D : va_G) (cI cJ cZ : ClassId) (ad : Nat → Nat) (n ev : Nat) (g : GA) (c s : Nat → Nat) (an fk : Nat → Nat → Bool) (K : Nat) (hKb : K ≤ 120) (hC : gC K g c s an fk) (hc0 : ∀ i, i < K → c i < 8) (hev : ev ≤ K) (nd : Nat) (hnd : nd < 8) (x : Int32) : PM l D (tys cI cJ cZ) (gL cI cJ ad n ev g) y_g_mayBeSelfParent b_g_mayBeSelfParent 3 (some .boolean) 1 21 [.ref (ad 0), .int (nI nd), .int x] (bI (okS ev c nd x)) := by
  refine PM.of (by decide) (Nat.le_of_ble_eq_true rfl) ?_
  intro p9 e9 s9 m args below meth c9 ls S hr hlocks hP hK hl
  obtain ⟨hx, hb, hml, hown, htc⟩ := id S
  have hl : lv_has ls 3 [(0, .ref (ad 0)), (1, .int (nI nd)), (2, .int x)] := hl
  refine lv_iload_n hx hb d_g_mayBeSelfParent_0 rfl (lv_at hl 2 rfl) ?_
  refine lv_iconst (v := (-1)) hx hb d_g_mayBeSelfParent_1 (by decide) ?_
  refine lv_icmp_eq (tgt := 23) hx hb d_g_mayBeSelfParent_2 (by decide) (fun c_2 => ?_) (fun c_2 => ?_)
  · refine lv_iconst (v := (nI 1)) hx hb d_g_mayBeSelfParent_23 (by decide) ?_
    refine lv_goto (tgt := 28) hx hb d_g_mayBeSelfParent_24 (by decide) ?_
    refine nr_top (w := .int (bI true)) rfl ?_
    exact PM.zret hx hb hr hlocks d_g_mayBeSelfParent_28 (by unfold okS; rw [decide_eq_true c_2]; rfl)
  · refine lv_aload_n hx hb d_g_mayBeSelfParent_5 rfl (lv_at hl 0 rfl) ?_
    refine lv_iload_n hx hb d_g_mayBeSelfParent_6 rfl (lv_at hl 2 rfl) ?_
    refine PM.callV (rest := []) S (c_g_isEvent l D cI cJ cZ ad n ev g x) k_1_137 k_1_139 k_s_3 k_1_1 k_1_140 h_g_isEvent ⟨Nat.le_of_ble_eq_true rfl, Nat.le_of_ble_eq_true rfl⟩ ⟨Nat.le_of_ble_eq_true rfl, Nat.le_of_ble_eq_true rfl⟩ hP hK 0 0 rfl rfl rfl hl.1 (Nat.le_of_ble_eq_true rfl) rfl d_g_mayBeSelfParent_7 ?_
    refine nr_ifeq_b (tgt := 27) hx hb d_g_mayBeSelfParent_10 (by decide) (fun c_10 => ?_) (fun c_10 => ?_)
    · refine lv_iconst (v := (nI 0)) hx hb d_g_mayBeSelfParent_27 (by decide) ?_
      refine nr_top (w := .int (bI false)) rfl ?_
      exact PM.zret hx hb hr hlocks d_g_mayBeSelfParent_28 (by rw [show okS ev c nd x = false from ok_no (by omega) c_10 c_2])
    · obtain ⟨j, hj, rfl⟩ := iv_of c_10 (by omega)
      have hcj := hc0 j (by omega)
      refine lv_aload_n hx hb d_g_mayBeSelfParent_13 rfl (lv_at hl 0 rfl) ?_
      refine va_get (D := D) (ci := 0) (v := .ref (ad 1)) (C := "SightGraph") (T := T_g) (N := 8) hx hb htc in_g hown hK hP 0 rfl rfl 2 (by decide) (htc _ k_1_20) (fun _ h9 => h9) rfl d_g_mayBeSelfParent_14 ?_
      refine lv_iload_n hx hb d_g_mayBeSelfParent_17 rfl (lv_at hl 2 rfl) ?_
      refine nr_iald hx hb hK hP 1 0 rfl rfl (by omega) (by decide) (v := (nI (c j))) (hC j (by omega)).1 d_g_mayBeSelfParent_18 ?_
      refine lv_iload_n hx hb d_g_mayBeSelfParent_19 rfl (lv_at hl 1 rfl) ?_
      refine nr_icmp_ne (tgt := 27) hx hb (by omega) (by omega) d_g_mayBeSelfParent_20 (by decide) (fun c_20 => ?_) (fun c_20 => ?_)
      · refine lv_iconst (v := (nI 0)) hx hb d_g_mayBeSelfParent_27 (by decide) ?_
        refine nr_top (w := .int (bI false)) rfl ?_
        exact PM.zret hx hb hr hlocks d_g_mayBeSelfParent_28 (by rw [show okS ev c nd (nI j) = (c j == nd) from ok_in (by omega) hj, show (c j == nd) = false from by simpa using c_20]; try rfl)
      · refine lv_iconst (v := (nI 1)) hx hb d_g_mayBeSelfParent_23 (by decide) ?_
        refine lv_goto (tgt := 28) hx hb d_g_mayBeSelfParent_24 (by decide) ?_
        refine nr_top (w := .int (bI true)) rfl ?_
        exact PM.zret hx hb hr hlocks d_g_mayBeSelfParent_28 (by rw [show okS ev c nd (nI j) = (c j == nd) from ok_in (by omega) hj, show (c j == nd) = true from by simpa using c_20]; try rfl)
set_option maxHeartbeats 4000000 in
set_option maxRecDepth 100000 in
theorem c_g_mayBeOtherParent (l : Launch) (D : va_G) (cI cJ cZ : ClassId) (ad : Nat → Nat) (n ev : Nat) (g : GA) (c s : Nat → Nat) (an fk : Nat → Nat → Bool) (K : Nat) (hKb : K ≤ 120) (hC : gC K g c s an fk) (hc0 : ∀ i, i < K → c i < 8) (hev : ev ≤ K) (nd : Nat) (hnd : nd < 8) (x : Int32) : PM l D (tys cI cJ cZ) (gL cI cJ ad n ev g) y_g_mayBeOtherParent b_g_mayBeOtherParent 3 (some .boolean) 1 21 [.ref (ad 0), .int (nI nd), .int x] (bI (okO ev c nd x)) := by
  refine PM.of (by decide) (Nat.le_of_ble_eq_true rfl) ?_
  intro p9 e9 s9 m args below meth c9 ls S hr hlocks hP hK hl
  obtain ⟨hx, hb, hml, hown, htc⟩ := id S
  have hl : lv_has ls 3 [(0, .ref (ad 0)), (1, .int (nI nd)), (2, .int x)] := hl
  refine lv_iload_n hx hb d_g_mayBeOtherParent_0 rfl (lv_at hl 2 rfl) ?_
  refine lv_iconst (v := (-1)) hx hb d_g_mayBeOtherParent_1 (by decide) ?_
  refine lv_icmp_eq (tgt := 23) hx hb d_g_mayBeOtherParent_2 (by decide) (fun c_2 => ?_) (fun c_2 => ?_)
  · refine lv_iconst (v := (nI 1)) hx hb d_g_mayBeOtherParent_23 (by decide) ?_
    refine lv_goto (tgt := 28) hx hb d_g_mayBeOtherParent_24 (by decide) ?_
    refine nr_top (w := .int (bI true)) rfl ?_
    exact PM.zret hx hb hr hlocks d_g_mayBeOtherParent_28 (by unfold okO; rw [decide_eq_true c_2]; rfl)
  · refine lv_aload_n hx hb d_g_mayBeOtherParent_5 rfl (lv_at hl 0 rfl) ?_
    refine lv_iload_n hx hb d_g_mayBeOtherParent_6 rfl (lv_at hl 2 rfl) ?_
    refine PM.callV (rest := []) S (c_g_isEvent l D cI cJ cZ ad n ev g x) k_1_137 k_1_139 k_s_3 k_1_1 k_1_140 h_g_isEvent ⟨Nat.le_of_ble_eq_true rfl, Nat.le_of_ble_eq_true rfl⟩ ⟨Nat.le_of_ble_eq_true rfl, Nat.le_of_ble_eq_true rfl⟩ hP hK 0 0 rfl rfl rfl hl.1 (Nat.le_of_ble_eq_true rfl) rfl d_g_mayBeOtherParent_7 ?_
    refine nr_ifeq_b (tgt := 27) hx hb d_g_mayBeOtherParent_10 (by decide) (fun c_10 => ?_) (fun c_10 => ?_)
    · refine lv_iconst (v := (nI 0)) hx hb d_g_mayBeOtherParent_27 (by decide) ?_
      refine nr_top (w := .int (bI false)) rfl ?_
      exact PM.zret hx hb hr hlocks d_g_mayBeOtherParent_28 (by rw [show okO ev c nd x = false from ok_no (by omega) c_10 c_2])
    · obtain ⟨j, hj, rfl⟩ := iv_of c_10 (by omega)
      have hcj := hc0 j (by omega)
      refine lv_aload_n hx hb d_g_mayBeOtherParent_13 rfl (lv_at hl 0 rfl) ?_
      refine va_get (D := D) (ci := 0) (v := .ref (ad 1)) (C := "SightGraph") (T := T_g) (N := 8) hx hb htc in_g hown hK hP 0 rfl rfl 2 (by decide) (htc _ k_1_20) (fun _ h9 => h9) rfl d_g_mayBeOtherParent_14 ?_
      refine lv_iload_n hx hb d_g_mayBeOtherParent_17 rfl (lv_at hl 2 rfl) ?_
      refine nr_iald hx hb hK hP 1 0 rfl rfl (by omega) (by decide) (v := (nI (c j))) (hC j (by omega)).1 d_g_mayBeOtherParent_18 ?_
      refine lv_iload_n hx hb d_g_mayBeOtherParent_19 rfl (lv_at hl 1 rfl) ?_
      refine nr_icmp_eq (tgt := 27) hx hb (by omega) (by omega) d_g_mayBeOtherParent_20 (by decide) (fun c_20 => ?_) (fun c_20 => ?_)
      · refine lv_iconst (v := (nI 0)) hx hb d_g_mayBeOtherParent_27 (by decide) ?_
        refine nr_top (w := .int (bI false)) rfl ?_
        exact PM.zret hx hb hr hlocks d_g_mayBeOtherParent_28 (by rw [show okO ev c nd (nI j) = (!(c j == nd)) from ok_in (by omega) hj, show (c j == nd) = true from by simpa using c_20]; try rfl)
      · refine lv_iconst (v := (nI 1)) hx hb d_g_mayBeOtherParent_23 (by decide) ?_
        refine lv_goto (tgt := 28) hx hb d_g_mayBeOtherParent_24 (by decide) ?_
        refine nr_top (w := .int (bI true)) rfl ?_
        exact PM.zret hx hb hr hlocks d_g_mayBeOtherParent_28 (by rw [show okO ev c nd (nI j) = (!(c j == nd)) from ok_in (by omega) hj, show (c j == nd) = false from by simpa using c_20]; try rfl)
set_option maxHeartbeats 4000000 in
set_option maxRecDepth 100000 in
theorem c_g_requireNode_ok (l : Launch) (D : va_G) (cI cJ cZ : ClassId) (ad : Nat → Nat) (n ev : Nat) (g : GA) (hn : n ≤ 8) (v : Nat) (hv : v < n) : PV l D (tys cI cJ cZ) (gL cI cJ ad n ev g) y_g_requireNode b_g_requireNode 2 0 0 [.ref (ad 0), .int (nI v)] := by
  refine PV.of (by decide) (Nat.le_of_ble_eq_true rfl) ?_
  intro p9 e9 s9 m args below meth c9 ls S hr hlocks hP hK hl
  obtain ⟨hx, hb, hml, hown, htc⟩ := id S
  have hl : lv_has ls 2 [(0, .ref (ad 0)), (1, .int (nI v))] := hl
  refine lv_iload_n hx hb d_g_requireNode_0 rfl (lv_at hl 1 rfl) ?_
  refine nr_iflt_n (tgt := 12) hx hb (by omega) d_g_requireNode_1 (by decide) ?_
  refine lv_iload_n hx hb d_g_requireNode_4 rfl (lv_at hl 1 rfl) ?_
  refine lv_aload_n hx hb d_g_requireNode_5 rfl (lv_at hl 0 rfl) ?_
  refine va_get (D := D) (ci := 0) (v := .int (nI n)) (C := "SightGraph") (T := T_g) (N := 8) hx hb htc in_g hown hK hP 0 rfl rfl 0 (by decide) (htc _ k_1_18) (fun _ h9 => h9) rfl d_g_requireNode_6 ?_
  refine nr_icmp_lt (tgt := 22) hx hb (by omega) (by omega) d_g_requireNode_9 (by decide) (fun c_9 => ?_) (fun c_9 => ?_)
  · exact PV.ret hx hb hr hlocks d_g_requireNode_22
  · exact absurd c_9 (by omega)
set_option maxHeartbeats 4000000 in
set_option maxRecDepth 100000 in
theorem c_g_requireNode_x (l : Launch) (D : va_G) (cI cJ cZ : ClassId) (ad : Nat → Nat) (n ev : Nat) (g : GA) (hl0 : l.stackTraces = false) (sa : Nat → Nat) (x : Int32) (hv : iv n x = false) : XT l D (tys cI cJ cZ) (gL cI cJ ad n ev g) sa y_g_requireNode b_g_requireNode 2 none 6 82 [.ref (ad 0), .int x] "java/lang/IllegalArgumentException" := by
  refine XT.of (by decide) (Nat.le_of_ble_eq_true rfl) ?_
  intro p9 e9 s9 m args below meth c9 ls S hr hlocks ht hP hK hTE hl
  obtain ⟨hx, hb, hml, hown, htc⟩ := id S
  have hl : lv_has ls 2 [(0, .ref (ad 0)), (1, .int x)] := hl
  refine lv_iload_n hx hb d_g_requireNode_0 rfl (lv_at hl 1 rfl) ?_
  refine lv_if_lt (tgt := 12) hx hb d_g_requireNode_1 (by decide) (fun c_1 => ?_) (fun c_1 => ?_)
  · exact XT.thI hl0 S ht hTE hlocks hl.1 1 rfl ⟨Nat.le_of_ble_eq_true rfl, Nat.le_of_ble_eq_true rfl, Nat.le_of_ble_eq_true rfl, Nat.le_of_ble_eq_true rfl⟩ d_g_requireNode_12 d_g_requireNode_15 d_g_requireNode_16 d_g_requireNode_18 d_g_requireNode_21
  · refine lv_iload_n hx hb d_g_requireNode_4 rfl (lv_at hl 1 rfl) ?_
    refine lv_aload_n hx hb d_g_requireNode_5 rfl (lv_at hl 0 rfl) ?_
    refine va_get (D := D) (ci := 0) (v := .int (nI n)) (C := "SightGraph") (T := T_g) (N := 8) hx hb htc in_g hown hK hP 0 rfl rfl 0 (by decide) (htc _ k_1_18) (fun _ h9 => h9) rfl d_g_requireNode_6 ?_
    refine lv_icmp_lt (tgt := 22) hx hb d_g_requireNode_9 (by decide) (fun c_9 => ?_) (fun c_9 => ?_)
    · exact absurd (show iv n x = true from decide_eq_true ⟨Int32.not_lt.mp c_1, c_9⟩) (by rw [hv]; decide)
    · exact XT.thI hl0 S ht hTE hlocks hl.1 1 rfl ⟨Nat.le_of_ble_eq_true rfl, Nat.le_of_ble_eq_true rfl, Nat.le_of_ble_eq_true rfl, Nat.le_of_ble_eq_true rfl⟩ d_g_requireNode_12 d_g_requireNode_15 d_g_requireNode_16 d_g_requireNode_18 d_g_requireNode_21
set_option maxHeartbeats 4000000 in
set_option maxRecDepth 100000 in
theorem c_g_requireEvent_ok (l : Launch) (D : va_G) (cI cJ cZ : ClassId) (ad : Nat → Nat) (n ev : Nat) (g : GA) (x : Int32) (hv : iv ev x = true) : PV l D (tys cI cJ cZ) (gL cI cJ ad n ev g) y_g_requireEvent b_g_requireEvent 2 1 21 [.ref (ad 0), .int x] := by
  refine PV.of (by decide) (Nat.le_of_ble_eq_true rfl) ?_
  intro p9 e9 s9 m args below meth c9 ls S hr hlocks hP hK hl
  obtain ⟨hx, hb, hml, hown, htc⟩ := id S
  have hl : lv_has ls 2 [(0, .ref (ad 0)), (1, .int x)] := hl
  refine lv_aload_n hx hb d_g_requireEvent_0 rfl (lv_at hl 0 rfl) ?_
  refine lv_iload_n hx hb d_g_requireEvent_1 rfl (lv_at hl 1 rfl) ?_
  refine PM.callV (rest := []) S (c_g_isEvent l D cI cJ cZ ad n ev g x) k_1_137 k_1_139 k_s_3 k_1_1 k_1_140 h_g_isEvent ⟨Nat.le_of_ble_eq_true rfl, Nat.le_of_ble_eq_true rfl⟩ ⟨Nat.le_of_ble_eq_true rfl, Nat.le_of_ble_eq_true rfl⟩ hP hK 0 0 rfl rfl rfl hl.1 (Nat.le_of_ble_eq_true rfl) rfl d_g_requireEvent_2 ?_
  refine nr_ifne_b (tgt := 18) hx hb d_g_requireEvent_5 (by decide) (fun c_5 => ?_) (fun c_5 => ?_)
  · exact PV.ret hx hb hr hlocks d_g_requireEvent_18
  · exact absurd hv (by rw [c_5]; decide)
set_option maxHeartbeats 4000000 in
set_option maxRecDepth 100000 in
theorem c_g_requireEvent_x (l : Launch) (D : va_G) (cI cJ cZ : ClassId) (ad : Nat → Nat) (n ev : Nat) (g : GA) (hl0 : l.stackTraces = false) (sa : Nat → Nat) (x : Int32) (hv : iv ev x = false) : XT l D (tys cI cJ cZ) (gL cI cJ ad n ev g) sa y_g_requireEvent b_g_requireEvent 2 none 6 82 [.ref (ad 0), .int x] "java/lang/IndexOutOfBoundsException" := by
  refine XT.of (by decide) (Nat.le_of_ble_eq_true rfl) ?_
  intro p9 e9 s9 m args below meth c9 ls S hr hlocks ht hP hK hTE hl
  obtain ⟨hx, hb, hml, hown, htc⟩ := id S
  have hl : lv_has ls 2 [(0, .ref (ad 0)), (1, .int x)] := hl
  refine lv_aload_n hx hb d_g_requireEvent_0 rfl (lv_at hl 0 rfl) ?_
  refine lv_iload_n hx hb d_g_requireEvent_1 rfl (lv_at hl 1 rfl) ?_
  refine PM.callV (rest := []) S (c_g_isEvent l D cI cJ cZ ad n ev g x) k_1_137 k_1_139 k_s_3 k_1_1 k_1_140 h_g_isEvent ⟨Nat.le_of_ble_eq_true rfl, Nat.le_of_ble_eq_true rfl⟩ ⟨Nat.le_of_ble_eq_true rfl, Nat.le_of_ble_eq_true rfl⟩ hP hK 0 0 rfl rfl rfl hl.1 (Nat.le_of_ble_eq_true rfl) rfl d_g_requireEvent_2 ?_
  refine nr_ifne_b (tgt := 18) hx hb d_g_requireEvent_5 (by decide) (fun c_5 => ?_) (fun c_5 => ?_)
  · exact absurd c_5 (by rw [hv]; decide)
  · exact XT.thB hl0 S ht hTE hlocks hl.1 5 rfl ⟨Nat.le_of_ble_eq_true rfl, Nat.le_of_ble_eq_true rfl, Nat.le_of_ble_eq_true rfl, Nat.le_of_ble_eq_true rfl⟩ d_g_requireEvent_8 d_g_requireEvent_11 d_g_requireEvent_12 d_g_requireEvent_14 d_g_requireEvent_17
set_option maxHeartbeats 4000000 in
set_option maxRecDepth 100000 in
theorem c_g_ancestor_ok (l : Launch) (D : va_G) (cI cJ cZ : ClassId) (ad : Nat → Nat) (n ev : Nat) (g : GA) (c s : Nat → Nat) (an fk : Nat → Nat → Bool) (K : Nat) (hKb : K ≤ 120) (hC : gC K g c s an fk) (hev : ev ≤ K)  (x y : Nat) (hx0 : x < ev) (hy0 : y < ev) : PM l D (tys cI cJ cZ) (gL cI cJ ad n ev g) y_g_ancestor b_g_ancestor 3 (some .boolean) 2 48 [.ref (ad 0), .int (nI x), .int (nI y)] (bI (an x y)) := by
  refine PM.of (by decide) (Nat.le_of_ble_eq_true rfl) ?_
  intro p9 e9 s9 m args below meth c9 ls S hr hlocks hP hK hl
  obtain ⟨hx, hb, hml, hown, htc⟩ := id S
  have hl : lv_has ls 3 [(0, .ref (ad 0)), (1, .int (nI x)), (2, .int (nI y))] := hl
  refine lv_aload_n hx hb d_g_ancestor_0 rfl (lv_at hl 0 rfl) ?_
  refine lv_iload_n hx hb d_g_ancestor_1 rfl (lv_at hl 1 rfl) ?_
  refine PV.callV (rest := []) S (c_g_requireEvent_ok l D cI cJ cZ ad n ev g (nI x) (iv_t hx0 (by omega))) k_1_233 k_1_235 k_s_17 k_1_1 k_1_236 h_g_requireEvent ⟨Nat.le_of_ble_eq_true rfl, Nat.le_of_ble_eq_true rfl⟩ ⟨Nat.le_of_ble_eq_true rfl, Nat.le_of_ble_eq_true rfl⟩ hP hK 0 0 rfl rfl rfl hl.1 (Nat.le_of_ble_eq_true rfl) rfl d_g_ancestor_2 ?_
  refine lv_aload_n hx hb d_g_ancestor_5 rfl (lv_at hl 0 rfl) ?_
  refine lv_iload_n hx hb d_g_ancestor_6 rfl (lv_at hl 2 rfl) ?_
  refine PV.callV (rest := []) S (c_g_requireEvent_ok l D cI cJ cZ ad n ev g (nI y) (iv_t hy0 (by omega))) k_1_233 k_1_235 k_s_17 k_1_1 k_1_236 h_g_requireEvent ⟨Nat.le_of_ble_eq_true rfl, Nat.le_of_ble_eq_true rfl⟩ ⟨Nat.le_of_ble_eq_true rfl, Nat.le_of_ble_eq_true rfl⟩ hP hK 0 0 rfl rfl rfl hl.1 (Nat.le_of_ble_eq_true rfl) rfl d_g_ancestor_7 ?_
  refine lv_aload_n hx hb d_g_ancestor_10 rfl (lv_at hl 0 rfl) ?_
  refine lv_iload_n hx hb d_g_ancestor_11 rfl (lv_at hl 1 rfl) ?_
  refine lv_iload_n hx hb d_g_ancestor_12 rfl (lv_at hl 2 rfl) ?_
  refine PM.callV (rest := []) S (c_g_hasAncestor l D cI cJ cZ ad n ev g c s an fk K hKb hC x y (by omega) (by omega)) k_1_209 k_1_211 k_s_15 k_1_1 k_1_212 h_g_hasAncestor ⟨Nat.le_of_ble_eq_true rfl, Nat.le_of_ble_eq_true rfl⟩ ⟨Nat.le_of_ble_eq_true rfl, Nat.le_of_ble_eq_true rfl⟩ hP hK 0 0 rfl rfl rfl hl.1 (Nat.le_of_ble_eq_true rfl) rfl d_g_ancestor_13 ?_
  exact PM.zret hx hb hr hlocks d_g_ancestor_16 rfl
set_option maxHeartbeats 4000000 in
set_option maxRecDepth 100000 in
theorem c_g_ancestor_x1 (l : Launch) (D : va_G) (cI cJ cZ : ClassId) (ad : Nat → Nat) (n ev : Nat) (g : GA) (hl0 : l.stackTraces = false) (sa : Nat → Nat) (x y : Int32) (hx1 : iv ev x = false) : XT l D (tys cI cJ cZ) (gL cI cJ ad n ev g) sa y_g_ancestor b_g_ancestor 3 (some .boolean) 7 103 [.ref (ad 0), .int x, .int y] "java/lang/IndexOutOfBoundsException" := by
  refine XT.of (by decide) (Nat.le_of_ble_eq_true rfl) ?_
  intro p9 e9 s9 m args below meth c9 ls S hr hlocks ht hP hK hTE hl
  obtain ⟨hx, hb, hml, hown, htc⟩ := id S
  have hl : lv_has ls 3 [(0, .ref (ad 0)), (1, .int x), (2, .int y)] := hl
  refine lv_aload_n hx hb d_g_ancestor_0 rfl (lv_at hl 0 rfl) ?_
  refine lv_iload_n hx hb d_g_ancestor_1 rfl (lv_at hl 1 rfl) ?_
  exact XT.pass (rest := []) S (c_g_requireEvent_x l D cI cJ cZ ad n ev g hl0 sa x hx1) k_1_233 k_1_235 k_s_17 k_1_1 k_1_236 h_g_requireEvent ⟨Nat.le_of_ble_eq_true rfl, Nat.le_of_ble_eq_true rfl⟩ ⟨Nat.le_of_ble_eq_true rfl, Nat.le_of_ble_eq_true rfl⟩ hP hK hTE ht hlocks 0 0 rfl rfl rfl hl.1 (Nat.le_of_ble_eq_true rfl) rfl d_g_ancestor_2
set_option maxHeartbeats 4000000 in
set_option maxRecDepth 100000 in
theorem c_g_ancestor_x2 (l : Launch) (D : va_G) (cI cJ cZ : ClassId) (ad : Nat → Nat) (n ev : Nat) (g : GA) (hl0 : l.stackTraces = false) (sa : Nat → Nat) (x y : Int32) (hx1 : iv ev x = true) (hy1 : iv ev y = false) : XT l D (tys cI cJ cZ) (gL cI cJ ad n ev g) sa y_g_ancestor b_g_ancestor 3 (some .boolean) 7 103 [.ref (ad 0), .int x, .int y] "java/lang/IndexOutOfBoundsException" := by
  refine XT.of (by decide) (Nat.le_of_ble_eq_true rfl) ?_
  intro p9 e9 s9 m args below meth c9 ls S hr hlocks ht hP hK hTE hl
  obtain ⟨hx, hb, hml, hown, htc⟩ := id S
  have hl : lv_has ls 3 [(0, .ref (ad 0)), (1, .int x), (2, .int y)] := hl
  refine lv_aload_n hx hb d_g_ancestor_0 rfl (lv_at hl 0 rfl) ?_
  refine lv_iload_n hx hb d_g_ancestor_1 rfl (lv_at hl 1 rfl) ?_
  refine PV.callV (rest := []) S (c_g_requireEvent_ok l D cI cJ cZ ad n ev g x hx1) k_1_233 k_1_235 k_s_17 k_1_1 k_1_236 h_g_requireEvent ⟨Nat.le_of_ble_eq_true rfl, Nat.le_of_ble_eq_true rfl⟩ ⟨Nat.le_of_ble_eq_true rfl, Nat.le_of_ble_eq_true rfl⟩ hP hK 0 0 rfl rfl rfl hl.1 (Nat.le_of_ble_eq_true rfl) rfl d_g_ancestor_2 ?_
  refine lv_aload_n hx hb d_g_ancestor_5 rfl (lv_at hl 0 rfl) ?_
  refine lv_iload_n hx hb d_g_ancestor_6 rfl (lv_at hl 2 rfl) ?_
  exact XT.pass (rest := []) S (c_g_requireEvent_x l D cI cJ cZ ad n ev g hl0 sa y hy1) k_1_233 k_1_235 k_s_17 k_1_1 k_1_236 h_g_requireEvent ⟨Nat.le_of_ble_eq_true rfl, Nat.le_of_ble_eq_true rfl⟩ ⟨Nat.le_of_ble_eq_true rfl, Nat.le_of_ble_eq_true rfl⟩ hP hK hTE ht hlocks 0 0 rfl rfl rfl hl.1 (Nat.le_of_ble_eq_true rfl) rfl d_g_ancestor_7
set_option maxHeartbeats 4000000 in
set_option maxRecDepth 100000 in
theorem c_g_sees_ok (l : Launch) (D : va_G) (cI cJ cZ : ClassId) (ad : Nat → Nat) (n ev : Nat) (g : GA) (c s : Nat → Nat) (an fk : Nat → Nat → Bool) (K : Nat) (hKb : K ≤ 120) (hC : gC K g c s an fk) (hev : ev ≤ K) (hc0 : ∀ i, i < K → c i < 8)  (x y : Nat) (hx0 : x < ev) (hy0 : y < ev) : PM l D (tys cI cJ cZ) (gL cI cJ ad n ev g) y_g_sees b_g_sees 3 (some .boolean) 3 70 [.ref (ad 0), .int (nI x), .int (nI y)] (bI (se an fk c x y)) := by
  refine PM.of (by decide) (Nat.le_of_ble_eq_true rfl) ?_
  intro p9 e9 s9 m args below meth c9 ls S hr hlocks hP hK hl
  obtain ⟨hx, hb, hml, hown, htc⟩ := id S
  have hl : lv_has ls 3 [(0, .ref (ad 0)), (1, .int (nI x)), (2, .int (nI y))] := hl
  refine lv_aload_n hx hb d_g_sees_0 rfl (lv_at hl 0 rfl) ?_
  refine lv_iload_n hx hb d_g_sees_1 rfl (lv_at hl 1 rfl) ?_
  refine PV.callV (rest := []) S (c_g_requireEvent_ok l D cI cJ cZ ad n ev g (nI x) (iv_t hx0 (by omega))) k_1_233 k_1_235 k_s_17 k_1_1 k_1_236 h_g_requireEvent ⟨Nat.le_of_ble_eq_true rfl, Nat.le_of_ble_eq_true rfl⟩ ⟨Nat.le_of_ble_eq_true rfl, Nat.le_of_ble_eq_true rfl⟩ hP hK 0 0 rfl rfl rfl hl.1 (Nat.le_of_ble_eq_true rfl) rfl d_g_sees_2 ?_
  refine lv_aload_n hx hb d_g_sees_5 rfl (lv_at hl 0 rfl) ?_
  refine lv_iload_n hx hb d_g_sees_6 rfl (lv_at hl 2 rfl) ?_
  refine PV.callV (rest := []) S (c_g_requireEvent_ok l D cI cJ cZ ad n ev g (nI y) (iv_t hy0 (by omega))) k_1_233 k_1_235 k_s_17 k_1_1 k_1_236 h_g_requireEvent ⟨Nat.le_of_ble_eq_true rfl, Nat.le_of_ble_eq_true rfl⟩ ⟨Nat.le_of_ble_eq_true rfl, Nat.le_of_ble_eq_true rfl⟩ hP hK 0 0 rfl rfl rfl hl.1 (Nat.le_of_ble_eq_true rfl) rfl d_g_sees_7 ?_
  refine lv_aload_n hx hb d_g_sees_10 rfl (lv_at hl 0 rfl) ?_
  refine lv_iload_n hx hb d_g_sees_11 rfl (lv_at hl 1 rfl) ?_
  refine lv_iload_n hx hb d_g_sees_12 rfl (lv_at hl 2 rfl) ?_
  refine PM.callV (rest := []) S (c_g_hasSight l D cI cJ cZ ad n ev g c s an fk K hKb hC x y (by omega) (by omega) (hc0 y (by omega))) k_1_205 k_1_207 k_s_14 k_1_1 k_1_208 h_g_hasSight ⟨Nat.le_of_ble_eq_true rfl, Nat.le_of_ble_eq_true rfl⟩ ⟨Nat.le_of_ble_eq_true rfl, Nat.le_of_ble_eq_true rfl⟩ hP hK 0 0 rfl rfl rfl hl.1 (Nat.le_of_ble_eq_true rfl) rfl d_g_sees_13 ?_
  exact PM.zret hx hb hr hlocks d_g_sees_16 rfl
set_option maxHeartbeats 4000000 in
set_option maxRecDepth 100000 in
theorem c_g_sees_x1 (l : Launch) (D : va_G) (cI cJ cZ : ClassId) (ad : Nat → Nat) (n ev : Nat) (g : GA) (hl0 : l.stackTraces = false) (sa : Nat → Nat) (x y : Int32) (hx1 : iv ev x = false) : XT l D (tys cI cJ cZ) (gL cI cJ ad n ev g) sa y_g_sees b_g_sees 3 (some .boolean) 7 103 [.ref (ad 0), .int x, .int y] "java/lang/IndexOutOfBoundsException" := by
  refine XT.of (by decide) (Nat.le_of_ble_eq_true rfl) ?_
  intro p9 e9 s9 m args below meth c9 ls S hr hlocks ht hP hK hTE hl
  obtain ⟨hx, hb, hml, hown, htc⟩ := id S
  have hl : lv_has ls 3 [(0, .ref (ad 0)), (1, .int x), (2, .int y)] := hl
  refine lv_aload_n hx hb d_g_sees_0 rfl (lv_at hl 0 rfl) ?_
  refine lv_iload_n hx hb d_g_sees_1 rfl (lv_at hl 1 rfl) ?_
  exact XT.pass (rest := []) S (c_g_requireEvent_x l D cI cJ cZ ad n ev g hl0 sa x hx1) k_1_233 k_1_235 k_s_17 k_1_1 k_1_236 h_g_requireEvent ⟨Nat.le_of_ble_eq_true rfl, Nat.le_of_ble_eq_true rfl⟩ ⟨Nat.le_of_ble_eq_true rfl, Nat.le_of_ble_eq_true rfl⟩ hP hK hTE ht hlocks 0 0 rfl rfl rfl hl.1 (Nat.le_of_ble_eq_true rfl) rfl d_g_sees_2
set_option maxHeartbeats 4000000 in
set_option maxRecDepth 100000 in
theorem c_g_sees_x2 (l : Launch) (D : va_G) (cI cJ cZ : ClassId) (ad : Nat → Nat) (n ev : Nat) (g : GA) (hl0 : l.stackTraces = false) (sa : Nat → Nat) (x y : Int32) (hx1 : iv ev x = true) (hy1 : iv ev y = false) : XT l D (tys cI cJ cZ) (gL cI cJ ad n ev g) sa y_g_sees b_g_sees 3 (some .boolean) 7 103 [.ref (ad 0), .int x, .int y] "java/lang/IndexOutOfBoundsException" := by
  refine XT.of (by decide) (Nat.le_of_ble_eq_true rfl) ?_
  intro p9 e9 s9 m args below meth c9 ls S hr hlocks ht hP hK hTE hl
  obtain ⟨hx, hb, hml, hown, htc⟩ := id S
  have hl : lv_has ls 3 [(0, .ref (ad 0)), (1, .int x), (2, .int y)] := hl
  refine lv_aload_n hx hb d_g_sees_0 rfl (lv_at hl 0 rfl) ?_
  refine lv_iload_n hx hb d_g_sees_1 rfl (lv_at hl 1 rfl) ?_
  refine PV.callV (rest := []) S (c_g_requireEvent_ok l D cI cJ cZ ad n ev g x hx1) k_1_233 k_1_235 k_s_17 k_1_1 k_1_236 h_g_requireEvent ⟨Nat.le_of_ble_eq_true rfl, Nat.le_of_ble_eq_true rfl⟩ ⟨Nat.le_of_ble_eq_true rfl, Nat.le_of_ble_eq_true rfl⟩ hP hK 0 0 rfl rfl rfl hl.1 (Nat.le_of_ble_eq_true rfl) rfl d_g_sees_2 ?_
  refine lv_aload_n hx hb d_g_sees_5 rfl (lv_at hl 0 rfl) ?_
  refine lv_iload_n hx hb d_g_sees_6 rfl (lv_at hl 2 rfl) ?_
  exact XT.pass (rest := []) S (c_g_requireEvent_x l D cI cJ cZ ad n ev g hl0 sa y hy1) k_1_233 k_1_235 k_s_17 k_1_1 k_1_236 h_g_requireEvent ⟨Nat.le_of_ble_eq_true rfl, Nat.le_of_ble_eq_true rfl⟩ ⟨Nat.le_of_ble_eq_true rfl, Nat.le_of_ble_eq_true rfl⟩ hP hK hTE ht hlocks 0 0 rfl rfl rfl hl.1 (Nat.le_of_ble_eq_true rfl) rfl d_g_sees_7
set_option maxHeartbeats 4000000 in
set_option maxRecDepth 100000 in
theorem c_g_strength_ok (l : Launch) (D : va_G) (cI cJ cZ : ClassId) (ad : Nat → Nat) (n ev : Nat) (g : GA) (c s : Nat → Nat) (an fk : Nat → Nat → Bool) (K : Nat) (hKb : K ≤ 120) (hC : gC K g c s an fk) (o : Nat → Nat) (ow : Nat → Nat → Bool) (hLw : Lw K n c s o an ow) (hn : n ≤ 8) (hev : ev ≤ K)  (x y : Nat) (hx0 : x < ev) (hy0 : y < ev) : PM l D (tys cI cJ cZ) (gL cI cJ ad n ev g) y_g_strength b_g_strength 3 (some .int) 4 94 [.ref (ad 0), .int (nI x), .int (nI y)] (nI (sn n an fk c x y)) := by
  refine PM.of (by decide) (Nat.le_of_ble_eq_true rfl) ?_
  intro p9 e9 s9 m args below meth c9 ls S hr hlocks hP hK hl
  obtain ⟨hx, hb, hml, hown, htc⟩ := id S
  have hl : lv_has ls 3 [(0, .ref (ad 0)), (1, .int (nI x)), (2, .int (nI y))] := hl
  refine lv_aload_n hx hb d_g_strength_0 rfl (lv_at hl 0 rfl) ?_
  refine lv_iload_n hx hb d_g_strength_1 rfl (lv_at hl 1 rfl) ?_
  refine PV.callV (rest := []) S (c_g_requireEvent_ok l D cI cJ cZ ad n ev g (nI x) (iv_t hx0 (by omega))) k_1_233 k_1_235 k_s_17 k_1_1 k_1_236 h_g_requireEvent ⟨Nat.le_of_ble_eq_true rfl, Nat.le_of_ble_eq_true rfl⟩ ⟨Nat.le_of_ble_eq_true rfl, Nat.le_of_ble_eq_true rfl⟩ hP hK 0 0 rfl rfl rfl hl.1 (Nat.le_of_ble_eq_true rfl) rfl d_g_strength_2 ?_
  refine lv_aload_n hx hb d_g_strength_5 rfl (lv_at hl 0 rfl) ?_
  refine lv_iload_n hx hb d_g_strength_6 rfl (lv_at hl 2 rfl) ?_
  refine PV.callV (rest := []) S (c_g_requireEvent_ok l D cI cJ cZ ad n ev g (nI y) (iv_t hy0 (by omega))) k_1_233 k_1_235 k_s_17 k_1_1 k_1_236 h_g_requireEvent ⟨Nat.le_of_ble_eq_true rfl, Nat.le_of_ble_eq_true rfl⟩ ⟨Nat.le_of_ble_eq_true rfl, Nat.le_of_ble_eq_true rfl⟩ hP hK 0 0 rfl rfl rfl hl.1 (Nat.le_of_ble_eq_true rfl) rfl d_g_strength_7 ?_
  refine lv_aload_n hx hb d_g_strength_10 rfl (lv_at hl 0 rfl) ?_
  refine lv_iload_n hx hb d_g_strength_11 rfl (lv_at hl 1 rfl) ?_
  refine lv_iload_n hx hb d_g_strength_12 rfl (lv_at hl 2 rfl) ?_
  refine PM.callV (rest := []) S (c_g_nodesBetween l D cI cJ cZ ad n ev g c s an fk K hKb hC o ow hLw hn x y (by omega) (by omega)) k_1_201 k_1_203 k_s_13 k_1_1 k_1_204 h_g_nodesBetween ⟨Nat.le_of_ble_eq_true rfl, Nat.le_of_ble_eq_true rfl⟩ ⟨Nat.le_of_ble_eq_true rfl, Nat.le_of_ble_eq_true rfl⟩ hP hK 0 0 rfl rfl rfl hl.1 (Nat.le_of_ble_eq_true rfl) rfl d_g_strength_13 ?_
  exact PM.iret hx hb hr hlocks d_g_strength_16 rfl
set_option maxHeartbeats 4000000 in
set_option maxRecDepth 100000 in
theorem c_g_strength_x1 (l : Launch) (D : va_G) (cI cJ cZ : ClassId) (ad : Nat → Nat) (n ev : Nat) (g : GA) (hl0 : l.stackTraces = false) (sa : Nat → Nat) (x y : Int32) (hx1 : iv ev x = false) : XT l D (tys cI cJ cZ) (gL cI cJ ad n ev g) sa y_g_strength b_g_strength 3 (some .int) 7 103 [.ref (ad 0), .int x, .int y] "java/lang/IndexOutOfBoundsException" := by
  refine XT.of (by decide) (Nat.le_of_ble_eq_true rfl) ?_
  intro p9 e9 s9 m args below meth c9 ls S hr hlocks ht hP hK hTE hl
  obtain ⟨hx, hb, hml, hown, htc⟩ := id S
  have hl : lv_has ls 3 [(0, .ref (ad 0)), (1, .int x), (2, .int y)] := hl
  refine lv_aload_n hx hb d_g_strength_0 rfl (lv_at hl 0 rfl) ?_
  refine lv_iload_n hx hb d_g_strength_1 rfl (lv_at hl 1 rfl) ?_
  exact XT.pass (rest := []) S (c_g_requireEvent_x l D cI cJ cZ ad n ev g hl0 sa x hx1) k_1_233 k_1_235 k_s_17 k_1_1 k_1_236 h_g_requireEvent ⟨Nat.le_of_ble_eq_true rfl, Nat.le_of_ble_eq_true rfl⟩ ⟨Nat.le_of_ble_eq_true rfl, Nat.le_of_ble_eq_true rfl⟩ hP hK hTE ht hlocks 0 0 rfl rfl rfl hl.1 (Nat.le_of_ble_eq_true rfl) rfl d_g_strength_2
set_option maxHeartbeats 4000000 in
set_option maxRecDepth 100000 in
theorem c_g_strength_x2 (l : Launch) (D : va_G) (cI cJ cZ : ClassId) (ad : Nat → Nat) (n ev : Nat) (g : GA) (hl0 : l.stackTraces = false) (sa : Nat → Nat) (x y : Int32) (hx1 : iv ev x = true) (hy1 : iv ev y = false) : XT l D (tys cI cJ cZ) (gL cI cJ ad n ev g) sa y_g_strength b_g_strength 3 (some .int) 7 103 [.ref (ad 0), .int x, .int y] "java/lang/IndexOutOfBoundsException" := by
  refine XT.of (by decide) (Nat.le_of_ble_eq_true rfl) ?_
  intro p9 e9 s9 m args below meth c9 ls S hr hlocks ht hP hK hTE hl
  obtain ⟨hx, hb, hml, hown, htc⟩ := id S
  have hl : lv_has ls 3 [(0, .ref (ad 0)), (1, .int x), (2, .int y)] := hl
  refine lv_aload_n hx hb d_g_strength_0 rfl (lv_at hl 0 rfl) ?_
  refine lv_iload_n hx hb d_g_strength_1 rfl (lv_at hl 1 rfl) ?_
  refine PV.callV (rest := []) S (c_g_requireEvent_ok l D cI cJ cZ ad n ev g x hx1) k_1_233 k_1_235 k_s_17 k_1_1 k_1_236 h_g_requireEvent ⟨Nat.le_of_ble_eq_true rfl, Nat.le_of_ble_eq_true rfl⟩ ⟨Nat.le_of_ble_eq_true rfl, Nat.le_of_ble_eq_true rfl⟩ hP hK 0 0 rfl rfl rfl hl.1 (Nat.le_of_ble_eq_true rfl) rfl d_g_strength_2 ?_
  refine lv_aload_n hx hb d_g_strength_5 rfl (lv_at hl 0 rfl) ?_
  refine lv_iload_n hx hb d_g_strength_6 rfl (lv_at hl 2 rfl) ?_
  exact XT.pass (rest := []) S (c_g_requireEvent_x l D cI cJ cZ ad n ev g hl0 sa y hy1) k_1_233 k_1_235 k_s_17 k_1_1 k_1_236 h_g_requireEvent ⟨Nat.le_of_ble_eq_true rfl, Nat.le_of_ble_eq_true rfl⟩ ⟨Nat.le_of_ble_eq_true rfl, Nat.le_of_ble_eq_true rfl⟩ hP hK hTE ht hlocks 0 0 rfl rfl rfl hl.1 (Nat.le_of_ble_eq_true rfl) rfl d_g_strength_7
set_option maxHeartbeats 4000000 in
set_option maxRecDepth 100000 in
theorem c_g_strongly_ok (l : Launch) (D : va_G) (cI cJ cZ : ClassId) (ad : Nat → Nat) (n ev : Nat) (g : GA) (c s : Nat → Nat) (an fk : Nat → Nat → Bool) (K : Nat) (hKb : K ≤ 120) (hC : gC K g c s an fk) (o : Nat → Nat) (ow : Nat → Nat → Bool) (hLw : Lw K n c s o an ow) (hn : n ≤ 8) (hev : ev ≤ K)  (x y : Nat) (hx0 : x < ev) (hy0 : y < ev) : PM l D (tys cI cJ cZ) (gL cI cJ ad n ev g) y_g_strongly b_g_strongly 3 (some .boolean) 4 94 [.ref (ad 0), .int (nI x), .int (nI y)] (bI (mn n (sn n an fk c x y))) := by
  refine PM.of (by decide) (Nat.le_of_ble_eq_true rfl) ?_
  intro p9 e9 s9 m args below meth c9 ls S hr hlocks hP hK hl
  obtain ⟨hx, hb, hml, hown, htc⟩ := id S
  have hl : lv_has ls 3 [(0, .ref (ad 0)), (1, .int (nI x)), (2, .int (nI y))] := hl
  refine lv_aload_n hx hb d_g_strongly_0 rfl (lv_at hl 0 rfl) ?_
  refine lv_iload_n hx hb d_g_strongly_1 rfl (lv_at hl 1 rfl) ?_
  refine PV.callV (rest := []) S (c_g_requireEvent_ok l D cI cJ cZ ad n ev g (nI x) (iv_t hx0 (by omega))) k_1_233 k_1_235 k_s_17 k_1_1 k_1_236 h_g_requireEvent ⟨Nat.le_of_ble_eq_true rfl, Nat.le_of_ble_eq_true rfl⟩ ⟨Nat.le_of_ble_eq_true rfl, Nat.le_of_ble_eq_true rfl⟩ hP hK 0 0 rfl rfl rfl hl.1 (Nat.le_of_ble_eq_true rfl) rfl d_g_strongly_2 ?_
  refine lv_aload_n hx hb d_g_strongly_5 rfl (lv_at hl 0 rfl) ?_
  refine lv_iload_n hx hb d_g_strongly_6 rfl (lv_at hl 2 rfl) ?_
  refine PV.callV (rest := []) S (c_g_requireEvent_ok l D cI cJ cZ ad n ev g (nI y) (iv_t hy0 (by omega))) k_1_233 k_1_235 k_s_17 k_1_1 k_1_236 h_g_requireEvent ⟨Nat.le_of_ble_eq_true rfl, Nat.le_of_ble_eq_true rfl⟩ ⟨Nat.le_of_ble_eq_true rfl, Nat.le_of_ble_eq_true rfl⟩ hP hK 0 0 rfl rfl rfl hl.1 (Nat.le_of_ble_eq_true rfl) rfl d_g_strongly_7 ?_
  refine lv_aload_n hx hb d_g_strongly_10 rfl (lv_at hl 0 rfl) ?_
  refine lv_aload_n hx hb d_g_strongly_11 rfl (lv_at hl 0 rfl) ?_
  refine lv_iload_n hx hb d_g_strongly_12 rfl (lv_at hl 1 rfl) ?_
  refine lv_iload_n hx hb d_g_strongly_13 rfl (lv_at hl 2 rfl) ?_
  refine PM.callV (rest := [.ref (ad 0)]) S (c_g_nodesBetween l D cI cJ cZ ad n ev g c s an fk K hKb hC o ow hLw hn x y (by omega) (by omega)) k_1_201 k_1_203 k_s_13 k_1_1 k_1_204 h_g_nodesBetween ⟨Nat.le_of_ble_eq_true rfl, Nat.le_of_ble_eq_true rfl⟩ ⟨Nat.le_of_ble_eq_true rfl, Nat.le_of_ble_eq_true rfl⟩ hP hK 0 0 rfl rfl rfl hl.1 (Nat.le_of_ble_eq_true rfl) rfl d_g_strongly_14 ?_
  refine PM.callV (rest := []) S (c_g_isMany l D cI cJ cZ ad n ev g (sn n an fk c x y) (Nat.le_trans (sn_le n an fk c x y) (by omega)) hn) k_1_222 k_1_224 k_s_16 k_1_1 k_1_225 h_g_isMany ⟨Nat.le_of_ble_eq_true rfl, Nat.le_of_ble_eq_true rfl⟩ ⟨Nat.le_of_ble_eq_true rfl, Nat.le_of_ble_eq_true rfl⟩ hP hK 0 0 rfl rfl rfl hl.1 (Nat.le_of_ble_eq_true rfl) rfl d_g_strongly_17 ?_
  exact PM.zret hx hb hr hlocks d_g_strongly_20 rfl
set_option maxHeartbeats 4000000 in
set_option maxRecDepth 100000 in
theorem c_g_strongly_x1 (l : Launch) (D : va_G) (cI cJ cZ : ClassId) (ad : Nat → Nat) (n ev : Nat) (g : GA) (hl0 : l.stackTraces = false) (sa : Nat → Nat) (x y : Int32) (hx1 : iv ev x = false) : XT l D (tys cI cJ cZ) (gL cI cJ ad n ev g) sa y_g_strongly b_g_strongly 3 (some .boolean) 7 103 [.ref (ad 0), .int x, .int y] "java/lang/IndexOutOfBoundsException" := by
  refine XT.of (by decide) (Nat.le_of_ble_eq_true rfl) ?_
  intro p9 e9 s9 m args below meth c9 ls S hr hlocks ht hP hK hTE hl
  obtain ⟨hx, hb, hml, hown, htc⟩ := id S
  have hl : lv_has ls 3 [(0, .ref (ad 0)), (1, .int x), (2, .int y)] := hl
  refine lv_aload_n hx hb d_g_strongly_0 rfl (lv_at hl 0 rfl) ?_
  refine lv_iload_n hx hb d_g_strongly_1 rfl (lv_at hl 1 rfl) ?_
  exact XT.pass (rest := []) S (c_g_requireEvent_x l D cI cJ cZ ad n ev g hl0 sa x hx1) k_1_233 k_1_235 k_s_17 k_1_1 k_1_236 h_g_requireEvent ⟨Nat.le_of_ble_eq_true rfl, Nat.le_of_ble_eq_true rfl⟩ ⟨Nat.le_of_ble_eq_true rfl, Nat.le_of_ble_eq_true rfl⟩ hP hK hTE ht hlocks 0 0 rfl rfl rfl hl.1 (Nat.le_of_ble_eq_true rfl) rfl d_g_strongly_2
set_option maxHeartbeats 4000000 in
set_option maxRecDepth 100000 in
theorem c_g_strongly_x2 (l : Launch) (D : va_G) (cI cJ cZ : ClassId) (ad : Nat → Nat) (n ev : Nat) (g : GA) (hl0 : l.stackTraces = false) (sa : Nat → Nat) (x y : Int32) (hx1 : iv ev x = true) (hy1 : iv ev y = false) : XT l D (tys cI cJ cZ) (gL cI cJ ad n ev g) sa y_g_strongly b_g_strongly 3 (some .boolean) 7 103 [.ref (ad 0), .int x, .int y] "java/lang/IndexOutOfBoundsException" := by
  refine XT.of (by decide) (Nat.le_of_ble_eq_true rfl) ?_
  intro p9 e9 s9 m args below meth c9 ls S hr hlocks ht hP hK hTE hl
  obtain ⟨hx, hb, hml, hown, htc⟩ := id S
  have hl : lv_has ls 3 [(0, .ref (ad 0)), (1, .int x), (2, .int y)] := hl
  refine lv_aload_n hx hb d_g_strongly_0 rfl (lv_at hl 0 rfl) ?_
  refine lv_iload_n hx hb d_g_strongly_1 rfl (lv_at hl 1 rfl) ?_
  refine PV.callV (rest := []) S (c_g_requireEvent_ok l D cI cJ cZ ad n ev g x hx1) k_1_233 k_1_235 k_s_17 k_1_1 k_1_236 h_g_requireEvent ⟨Nat.le_of_ble_eq_true rfl, Nat.le_of_ble_eq_true rfl⟩ ⟨Nat.le_of_ble_eq_true rfl, Nat.le_of_ble_eq_true rfl⟩ hP hK 0 0 rfl rfl rfl hl.1 (Nat.le_of_ble_eq_true rfl) rfl d_g_strongly_2 ?_
  refine lv_aload_n hx hb d_g_strongly_5 rfl (lv_at hl 0 rfl) ?_
  refine lv_iload_n hx hb d_g_strongly_6 rfl (lv_at hl 2 rfl) ?_
  exact XT.pass (rest := []) S (c_g_requireEvent_x l D cI cJ cZ ad n ev g hl0 sa y hy1) k_1_233 k_1_235 k_s_17 k_1_1 k_1_236 h_g_requireEvent ⟨Nat.le_of_ble_eq_true rfl, Nat.le_of_ble_eq_true rfl⟩ ⟨Nat.le_of_ble_eq_true rfl, Nat.le_of_ble_eq_true rfl⟩ hP hK hTE ht hlocks 0 0 rfl rfl rfl hl.1 (Nat.le_of_ble_eq_true rfl) rfl d_g_strongly_7
set_option maxHeartbeats 4000000 in
set_option maxRecDepth 100000 in
theorem c_g_own_ok (l : Launch) (D : va_G) (cI cJ cZ : ClassId) (ad : Nat → Nat) (n ev : Nat) (g : GA) (c s : Nat → Nat) (an fk : Nat → Nat → Bool) (K : Nat) (hKb : K ≤ 120) (hC : gC K g c s an fk) (o : Nat → Nat) (ow : Nat → Nat → Bool) (hLw : Lw K n c s o an ow) (hn : n ≤ 8) (hev : ev ≤ K)  (x y : Nat) (hx0 : x < ev) (hy0 : y < ev) : PM l D (tys cI cJ cZ) (gL cI cJ ad n ev g) y_g_own b_g_own 5 (some .boolean) 2 42 [.ref (ad 0), .int (nI x), .int (nI y)] (bI (ow x y)) := by
  refine PM.of (by decide) (Nat.le_of_ble_eq_true rfl) ?_
  intro p9 e9 s9 m args below meth c9 ls S hr hlocks hP hK hl
  obtain ⟨hx, hb, hml, hown, htc⟩ := id S
  have hl : lv_has ls 5 [(0, .ref (ad 0)), (1, .int (nI x)), (2, .int (nI y))] := hl
  refine lv_aload_n hx hb d_g_own_0 rfl (lv_at hl 0 rfl) ?_
  refine lv_iload_n hx hb d_g_own_1 rfl (lv_at hl 1 rfl) ?_
  refine PV.callV (rest := []) S (c_g_requireEvent_ok l D cI cJ cZ ad n ev g (nI x) (iv_t hx0 (by omega))) k_1_233 k_1_235 k_s_17 k_1_1 k_1_236 h_g_requireEvent ⟨Nat.le_of_ble_eq_true rfl, Nat.le_of_ble_eq_true rfl⟩ ⟨Nat.le_of_ble_eq_true rfl, Nat.le_of_ble_eq_true rfl⟩ hP hK 0 0 rfl rfl rfl hl.1 (Nat.le_of_ble_eq_true rfl) rfl d_g_own_2 ?_
  refine lv_aload_n hx hb d_g_own_5 rfl (lv_at hl 0 rfl) ?_
  refine lv_iload_n hx hb d_g_own_6 rfl (lv_at hl 2 rfl) ?_
  refine PV.callV (rest := []) S (c_g_requireEvent_ok l D cI cJ cZ ad n ev g (nI y) (iv_t hy0 (by omega))) k_1_233 k_1_235 k_s_17 k_1_1 k_1_236 h_g_requireEvent ⟨Nat.le_of_ble_eq_true rfl, Nat.le_of_ble_eq_true rfl⟩ ⟨Nat.le_of_ble_eq_true rfl, Nat.le_of_ble_eq_true rfl⟩ hP hK 0 0 rfl rfl rfl hl.1 (Nat.le_of_ble_eq_true rfl) rfl d_g_own_7 ?_
  refine lv_iload_n hx hb d_g_own_10 rfl (lv_at hl 1 rfl) ?_
  refine nr_top (w := .int (mI (x + 1))) rfl ?_
  refine lv_istore_n (lv' := [(3, .int (mI (x + 1))), (0, .ref (ad 0)), (1, .int (nI x)), (2, .int (nI y))]) hx hb d_g_own_11 rfl hl (by decide) rfl (fun ls hl => ?_)
  refine lv_iload_n hx hb d_g_own_12 rfl (lv_at hl 2 rfl) ?_
  refine lv_istore (lv' := [(4, .int (nI x)), (3, .int (mI (x + 1))), (0, .ref (ad 0)), (1, .int (nI x)), (2, .int (nI y))]) hx hb d_g_own_13 hl (by decide) rfl (fun ls hl => ?_)
  have loop : ∀ (d : Nat) (i t : Nat) (ls : Array Slot), i < d → i < K → t ≤ i + 1 → i < 120 → pa ow t y = ow x y → lv_has ls 5 [(4, .int (nI i)), (3, .int (mI t)), (2, .int (nI y)), (1, .int (nI x)), (0, .ref (ad 0))] → W p9 l e9 ({ frames := 2, cells := 0, slots := 0, locals := 42 }) s9 m args below meth c9 s9.heap [] 0 0 (MQ below (vp_Si (fun r9 => r9 = (bI (ow x y)))) args s9 0 0 (fun _ => False)) (F0 m 15 ls []) := by
    intro d
    induction d with
    | zero =>
      intro i t ls hd hi ht9 hi2 hw hl
      exact absurd hd (by omega)
    | succ d ih =>
      intro i t ls hd hi ht9 hi2 hw hl
      refine lv_iload hx hb d_g_own_15 (lv_at hl 0 rfl) ?_
      refine lv_iload_n hx hb d_g_own_17 rfl (lv_at hl 2 rfl) ?_
      refine nr_icmp_le (tgt := 41) hx hb (by omega) (by omega) d_g_own_18 (by decide) (fun c_18 => ?_) (fun c_18 => ?_)
      · refine lv_iload_n hx hb d_g_own_41 rfl (lv_at hl 1 rfl) ?_
        refine lv_iload_n hx hb d_g_own_42 rfl (lv_at hl 2 rfl) ?_
        refine lv_icmp_ne (tgt := 50) hx hb d_g_own_43 (by decide) (fun c_43 => ?_) (fun c_43 => ?_)
        · refine lv_iconst (v := (nI 0)) hx hb d_g_own_50 (by decide) ?_
          refine nr_top (w := .int (bI false)) rfl ?_
          exact PM.zret hx hb hr hlocks d_g_own_51 (by rw [← hw]; exact congrArg bI (own_no hLw (by omega) (by omega) (fun q => c_43 (by rw [q]; rfl))).symm)
        · refine lv_iconst (v := (nI 1)) hx hb d_g_own_46 (by decide) ?_
          refine lv_goto (tgt := 51) hx hb d_g_own_47 (by decide) ?_
          refine nr_top (w := .int (bI true)) rfl ?_
          exact PM.zret hx hb hr hlocks d_g_own_51 (by rw [← hw]; exact congrArg bI (own_yes hLw (by omega) ((mI_nI (by omega) (by omega)).mp c_43)).symm)
      · refine lv_iload hx hb d_g_own_21 (lv_at hl 0 rfl) ?_
        refine lv_iload_n hx hb d_g_own_23 rfl (lv_at hl 1 rfl) ?_
        refine lv_icmp_ne (tgt := 35) hx hb d_g_own_24 (by decide) (fun c_24 => ?_) (fun c_24 => ?_)
        · refine lv_iinc (v := nI (i - 1)) (lv' := [(4, .int (nI (i - 1))), (3, .int (mI t)), (2, .int (nI y)), (1, .int (nI x)), (0, .ref (ad 0))]) hx hb d_g_own_35 hl (k := 0) rfl (by rw [show i = (i - 1) + 1 by omega]; exact pk_m1 (i - 1)) (by decide) rfl (fun ls hl => ?_)
          refine lv_goto (tgt := 15) hx hb d_g_own_38 (by decide) ?_
          exact ih (i - 1) t ls (by omega) (by omega) (by have q : ¬ t = i + 1 := (fun z => c_24 ((mI_nI (by omega) (by omega)).mpr z).symm); omega) (by omega) hw (lv_sub hl [0, 1, 2, 3, 4] rfl)
        · refine lv_aload_n hx hb d_g_own_27 rfl (lv_at hl 4 rfl) ?_
          refine va_get (D := D) (ci := 0) (v := .ref (ad 2)) (C := "SightGraph") (T := T_g) (N := 8) hx hb htc in_g hown hK hP 0 rfl rfl 3 (by decide) (htc _ k_1_21) (fun _ h9 => h9) rfl d_g_own_28 ?_
          refine lv_iload hx hb d_g_own_31 (lv_at hl 0 rfl) ?_
          refine nr_iald hx hb hK hP 2 0 rfl rfl (by omega) (by decide) (v := (mI (s i))) (hC i (by omega)).2.1 d_g_own_33 ?_
          refine lv_istore_n (lv' := [(3, .int (mI (s i))), (4, .int (nI i)), (2, .int (nI y)), (1, .int (nI x)), (0, .ref (ad 0))]) hx hb d_g_own_34 rfl hl (by decide) rfl (fun ls hl => ?_)
          refine lv_iinc (v := nI (i - 1)) (lv' := [(4, .int (nI (i - 1))), (3, .int (mI (s i))), (2, .int (nI y)), (1, .int (nI x)), (0, .ref (ad 0))]) hx hb d_g_own_35 hl (k := 1) rfl (by rw [show i = (i - 1) + 1 by omega]; exact pk_m1 (i - 1)) (by decide) rfl (fun ls hl => ?_)
          refine lv_goto (tgt := 15) hx hb d_g_own_38 (by decide) ?_
          exact ih (i - 1) (s i) ls (by omega) (by omega) (by have := (hLw i (by omega)).2.1; omega) (by omega) (by rw [← hw, show t = i + 1 from (mI_nI (by omega) (by omega)).mp c_24.symm]; show _ = (!(i + 1 == 0) && ow (i + 1 - 1) y); rw [show i + 1 - 1 = i from rfl, (hLw i (by omega)).2.2.2.2.2.2 y]; simp [show ¬ i = y by omega]) (lv_sub hl [0, 1, 2, 3, 4] rfl)
  exact loop (x + 1) x (x + 1) ls (by omega) (by omega) (by omega) (by omega) (by simp [pa]) (lv_sub hl [0, 1, 4, 3, 2] rfl)
set_option maxHeartbeats 4000000 in
set_option maxRecDepth 100000 in
theorem c_g_own_x1 (l : Launch) (D : va_G) (cI cJ cZ : ClassId) (ad : Nat → Nat) (n ev : Nat) (g : GA) (hl0 : l.stackTraces = false) (sa : Nat → Nat) (x y : Int32) (hx1 : iv ev x = false) : XT l D (tys cI cJ cZ) (gL cI cJ ad n ev g) sa y_g_own b_g_own 5 (some .boolean) 7 103 [.ref (ad 0), .int x, .int y] "java/lang/IndexOutOfBoundsException" := by
  refine XT.of (by decide) (Nat.le_of_ble_eq_true rfl) ?_
  intro p9 e9 s9 m args below meth c9 ls S hr hlocks ht hP hK hTE hl
  obtain ⟨hx, hb, hml, hown, htc⟩ := id S
  have hl : lv_has ls 5 [(0, .ref (ad 0)), (1, .int x), (2, .int y)] := hl
  refine lv_aload_n hx hb d_g_own_0 rfl (lv_at hl 0 rfl) ?_
  refine lv_iload_n hx hb d_g_own_1 rfl (lv_at hl 1 rfl) ?_
  exact XT.pass (rest := []) S (c_g_requireEvent_x l D cI cJ cZ ad n ev g hl0 sa x hx1) k_1_233 k_1_235 k_s_17 k_1_1 k_1_236 h_g_requireEvent ⟨Nat.le_of_ble_eq_true rfl, Nat.le_of_ble_eq_true rfl⟩ ⟨Nat.le_of_ble_eq_true rfl, Nat.le_of_ble_eq_true rfl⟩ hP hK hTE ht hlocks 0 0 rfl rfl rfl hl.1 (Nat.le_of_ble_eq_true rfl) rfl d_g_own_2
set_option maxHeartbeats 4000000 in
set_option maxRecDepth 100000 in
theorem c_g_own_x2 (l : Launch) (D : va_G) (cI cJ cZ : ClassId) (ad : Nat → Nat) (n ev : Nat) (g : GA) (hl0 : l.stackTraces = false) (sa : Nat → Nat) (x y : Int32) (hx1 : iv ev x = true) (hy1 : iv ev y = false) : XT l D (tys cI cJ cZ) (gL cI cJ ad n ev g) sa y_g_own b_g_own 5 (some .boolean) 7 103 [.ref (ad 0), .int x, .int y] "java/lang/IndexOutOfBoundsException" := by
  refine XT.of (by decide) (Nat.le_of_ble_eq_true rfl) ?_
  intro p9 e9 s9 m args below meth c9 ls S hr hlocks ht hP hK hTE hl
  obtain ⟨hx, hb, hml, hown, htc⟩ := id S
  have hl : lv_has ls 5 [(0, .ref (ad 0)), (1, .int x), (2, .int y)] := hl
  refine lv_aload_n hx hb d_g_own_0 rfl (lv_at hl 0 rfl) ?_
  refine lv_iload_n hx hb d_g_own_1 rfl (lv_at hl 1 rfl) ?_
  refine PV.callV (rest := []) S (c_g_requireEvent_ok l D cI cJ cZ ad n ev g x hx1) k_1_233 k_1_235 k_s_17 k_1_1 k_1_236 h_g_requireEvent ⟨Nat.le_of_ble_eq_true rfl, Nat.le_of_ble_eq_true rfl⟩ ⟨Nat.le_of_ble_eq_true rfl, Nat.le_of_ble_eq_true rfl⟩ hP hK 0 0 rfl rfl rfl hl.1 (Nat.le_of_ble_eq_true rfl) rfl d_g_own_2 ?_
  refine lv_aload_n hx hb d_g_own_5 rfl (lv_at hl 0 rfl) ?_
  refine lv_iload_n hx hb d_g_own_6 rfl (lv_at hl 2 rfl) ?_
  exact XT.pass (rest := []) S (c_g_requireEvent_x l D cI cJ cZ ad n ev g hl0 sa y hy1) k_1_233 k_1_235 k_s_17 k_1_1 k_1_236 h_g_requireEvent ⟨Nat.le_of_ble_eq_true rfl, Nat.le_of_ble_eq_true rfl⟩ ⟨Nat.le_of_ble_eq_true rfl, Nat.le_of_ble_eq_true rfl⟩ hP hK hTE ht hlocks 0 0 rfl rfl rfl hl.1 (Nat.le_of_ble_eq_true rfl) rfl d_g_own_7
set_option maxHeartbeats 4000000 in
set_option maxRecDepth 100000 in
theorem c_g_forked_ok (l : Launch) (D : va_G) (cI cJ cZ : ClassId) (ad : Nat → Nat) (n ev : Nat) (g : GA) (c s : Nat → Nat) (an fk : Nat → Nat → Bool) (K : Nat) (hKb : K ≤ 120) (hC : gC K g c s an fk) (hev : ev ≤ K) (hn : n ≤ 8) (x v : Nat) (hx0 : x < ev) (hv : v < n) : PM l D (tys cI cJ cZ) (gL cI cJ ad n ev g) y_g_forked b_g_forked 3 (some .boolean) 2 42 [.ref (ad 0), .int (nI x), .int (nI v)] (bI (fk x v)) := by
  refine PM.of (by decide) (Nat.le_of_ble_eq_true rfl) ?_
  intro p9 e9 s9 m args below meth c9 ls S hr hlocks hP hK hl
  obtain ⟨hx, hb, hml, hown, htc⟩ := id S
  have hl : lv_has ls 3 [(0, .ref (ad 0)), (1, .int (nI x)), (2, .int (nI v))] := hl
  refine lv_aload_n hx hb d_g_forked_0 rfl (lv_at hl 0 rfl) ?_
  refine lv_iload_n hx hb d_g_forked_1 rfl (lv_at hl 2 rfl) ?_
  refine PV.callV (rest := []) S (c_g_requireNode_ok l D cI cJ cZ ad n ev g hn v hv) k_1_128 k_1_130 k_s_1 k_1_1 k_1_131 h_g_requireNode ⟨Nat.le_of_ble_eq_true rfl, Nat.le_of_ble_eq_true rfl⟩ ⟨Nat.le_of_ble_eq_true rfl, Nat.le_of_ble_eq_true rfl⟩ hP hK 0 0 rfl rfl rfl hl.1 (Nat.le_of_ble_eq_true rfl) rfl d_g_forked_2 ?_
  refine lv_aload_n hx hb d_g_forked_5 rfl (lv_at hl 0 rfl) ?_
  refine lv_iload_n hx hb d_g_forked_6 rfl (lv_at hl 1 rfl) ?_
  refine PV.callV (rest := []) S (c_g_requireEvent_ok l D cI cJ cZ ad n ev g (nI x) (iv_t hx0 (by omega))) k_1_233 k_1_235 k_s_17 k_1_1 k_1_236 h_g_requireEvent ⟨Nat.le_of_ble_eq_true rfl, Nat.le_of_ble_eq_true rfl⟩ ⟨Nat.le_of_ble_eq_true rfl, Nat.le_of_ble_eq_true rfl⟩ hP hK 0 0 rfl rfl rfl hl.1 (Nat.le_of_ble_eq_true rfl) rfl d_g_forked_7 ?_
  refine lv_aload_n hx hb d_g_forked_10 rfl (lv_at hl 0 rfl) ?_
  refine va_get (D := D) (ci := 0) (v := .ref (ad 4)) (C := "SightGraph") (T := T_g) (N := 8) hx hb htc in_g hown hK hP 0 rfl rfl 5 (by decide) (htc _ k_1_23) (fun _ h9 => h9) rfl d_g_forked_11 ?_
  refine lv_iload_n hx hb d_g_forked_14 rfl (lv_at hl 1 rfl) ?_
  refine nr_iald hx hb hK hP 4 0 rfl rfl (by omega) (by decide) (v := (nI (bs (fk x) 8))) (hC x (by omega)).2.2.1 d_g_forked_15 ?_
  refine lv_iload_n hx hb d_g_forked_16 rfl (lv_at hl 2 rfl) ?_
  refine PM.callS (rest := []) S (c_g_hasBit l D cI cJ cZ ad n ev g _ _ (bs_lt _ 8) (by omega)) k_1_213 k_1_214 k_1_1 k_1_215 h_g_hasBit ⟨Nat.le_of_ble_eq_true rfl, Nat.le_of_ble_eq_true rfl⟩ ⟨Nat.le_of_ble_eq_true rfl, Nat.le_of_ble_eq_true rfl⟩ hP hK hl.1 (Nat.le_of_ble_eq_true rfl) rfl d_g_forked_17 ?_
  exact PM.zret hx hb hr hlocks d_g_forked_20 (by rw [bs_tb]; simp [show v < 8 by omega])
set_option maxHeartbeats 4000000 in
set_option maxRecDepth 100000 in
theorem c_g_forked_x1 (l : Launch) (D : va_G) (cI cJ cZ : ClassId) (ad : Nat → Nat) (n ev : Nat) (g : GA) (hl0 : l.stackTraces = false) (sa : Nat → Nat) (x v : Int32) (hv1 : iv n v = false) : XT l D (tys cI cJ cZ) (gL cI cJ ad n ev g) sa y_g_forked b_g_forked 3 (some .boolean) 7 103 [.ref (ad 0), .int x, .int v] "java/lang/IllegalArgumentException" := by
  refine XT.of (by decide) (Nat.le_of_ble_eq_true rfl) ?_
  intro p9 e9 s9 m args below meth c9 ls S hr hlocks ht hP hK hTE hl
  obtain ⟨hx, hb, hml, hown, htc⟩ := id S
  have hl : lv_has ls 3 [(0, .ref (ad 0)), (1, .int x), (2, .int v)] := hl
  refine lv_aload_n hx hb d_g_forked_0 rfl (lv_at hl 0 rfl) ?_
  refine lv_iload_n hx hb d_g_forked_1 rfl (lv_at hl 2 rfl) ?_
  exact XT.pass (rest := []) S (c_g_requireNode_x l D cI cJ cZ ad n ev g hl0 sa v hv1) k_1_128 k_1_130 k_s_1 k_1_1 k_1_131 h_g_requireNode ⟨Nat.le_of_ble_eq_true rfl, Nat.le_of_ble_eq_true rfl⟩ ⟨Nat.le_of_ble_eq_true rfl, Nat.le_of_ble_eq_true rfl⟩ hP hK hTE ht hlocks 0 0 rfl rfl rfl hl.1 (Nat.le_of_ble_eq_true rfl) rfl d_g_forked_2
set_option maxHeartbeats 4000000 in
set_option maxRecDepth 100000 in
theorem c_g_forked_x2 (l : Launch) (D : va_G) (cI cJ cZ : ClassId) (ad : Nat → Nat) (n ev : Nat) (g : GA) (hl0 : l.stackTraces = false) (sa : Nat → Nat) (hn : n ≤ 8) (x : Int32) (v : Nat) (hv : v < n) (hx1 : iv ev x = false) : XT l D (tys cI cJ cZ) (gL cI cJ ad n ev g) sa y_g_forked b_g_forked 3 (some .boolean) 7 103 [.ref (ad 0), .int x, .int (nI v)] "java/lang/IndexOutOfBoundsException" := by
  refine XT.of (by decide) (Nat.le_of_ble_eq_true rfl) ?_
  intro p9 e9 s9 m args below meth c9 ls S hr hlocks ht hP hK hTE hl
  obtain ⟨hx, hb, hml, hown, htc⟩ := id S
  have hl : lv_has ls 3 [(0, .ref (ad 0)), (1, .int x), (2, .int (nI v))] := hl
  refine lv_aload_n hx hb d_g_forked_0 rfl (lv_at hl 0 rfl) ?_
  refine lv_iload_n hx hb d_g_forked_1 rfl (lv_at hl 2 rfl) ?_
  refine PV.callV (rest := []) S (c_g_requireNode_ok l D cI cJ cZ ad n ev g hn v hv) k_1_128 k_1_130 k_s_1 k_1_1 k_1_131 h_g_requireNode ⟨Nat.le_of_ble_eq_true rfl, Nat.le_of_ble_eq_true rfl⟩ ⟨Nat.le_of_ble_eq_true rfl, Nat.le_of_ble_eq_true rfl⟩ hP hK 0 0 rfl rfl rfl hl.1 (Nat.le_of_ble_eq_true rfl) rfl d_g_forked_2 ?_
  refine lv_aload_n hx hb d_g_forked_5 rfl (lv_at hl 0 rfl) ?_
  refine lv_iload_n hx hb d_g_forked_6 rfl (lv_at hl 1 rfl) ?_
  exact XT.pass (rest := []) S (c_g_requireEvent_x l D cI cJ cZ ad n ev g hl0 sa x hx1) k_1_233 k_1_235 k_s_17 k_1_1 k_1_236 h_g_requireEvent ⟨Nat.le_of_ble_eq_true rfl, Nat.le_of_ble_eq_true rfl⟩ ⟨Nat.le_of_ble_eq_true rfl, Nat.le_of_ble_eq_true rfl⟩ hP hK hTE ht hlocks 0 0 rfl rfl rfl hl.1 (Nat.le_of_ble_eq_true rfl) rfl d_g_forked_7
set_option maxHeartbeats 4000000 in
set_option maxRecDepth 100000 in
theorem c_g_round_ok (l : Launch) (D : va_G) (cI cJ cZ : ClassId) (ad : Nat → Nat) (n ev : Nat) (g : GA) (rd : Nat → Nat) (KR : Nat) (hKR : KR ≤ 120) (hR : gR KR g rd) (hev : ev ≤ KR) (x : Nat) (hx0 : x < ev) : PM l D (tys cI cJ cZ) (gL cI cJ ad n ev g) y_g_round b_g_round 2 (some .int) 2 42 [.ref (ad 0), .int (nI x)] (nI (rd x)) := by
  refine PM.of (by decide) (Nat.le_of_ble_eq_true rfl) ?_
  intro p9 e9 s9 m args below meth c9 ls S hr hlocks hP hK hl
  obtain ⟨hx, hb, hml, hown, htc⟩ := id S
  have hl : lv_has ls 2 [(0, .ref (ad 0)), (1, .int (nI x))] := hl
  refine lv_aload_n hx hb d_g_round_0 rfl (lv_at hl 0 rfl) ?_
  refine lv_iload_n hx hb d_g_round_1 rfl (lv_at hl 1 rfl) ?_
  refine PV.callV (rest := []) S (c_g_requireEvent_ok l D cI cJ cZ ad n ev g (nI x) (iv_t hx0 (by omega))) k_1_233 k_1_235 k_s_17 k_1_1 k_1_236 h_g_requireEvent ⟨Nat.le_of_ble_eq_true rfl, Nat.le_of_ble_eq_true rfl⟩ ⟨Nat.le_of_ble_eq_true rfl, Nat.le_of_ble_eq_true rfl⟩ hP hK 0 0 rfl rfl rfl hl.1 (Nat.le_of_ble_eq_true rfl) rfl d_g_round_2 ?_
  refine lv_aload_n hx hb d_g_round_5 rfl (lv_at hl 0 rfl) ?_
  refine va_get (D := D) (ci := 0) (v := .ref (ad 3)) (C := "SightGraph") (T := T_g) (N := 8) hx hb htc in_g hown hK hP 0 rfl rfl 4 (by decide) (htc _ k_1_22) (fun _ h9 => h9) rfl d_g_round_6 ?_
  refine lv_iload_n hx hb d_g_round_9 rfl (lv_at hl 1 rfl) ?_
  refine nr_iald hx hb hK hP 3 0 rfl rfl (by omega) (by decide) (v := (nI (rd x))) (hR x (by omega)).1 d_g_round_10 ?_
  exact PM.iret hx hb hr hlocks d_g_round_11 rfl
set_option maxHeartbeats 4000000 in
set_option maxRecDepth 100000 in
theorem c_g_round_x (l : Launch) (D : va_G) (cI cJ cZ : ClassId) (ad : Nat → Nat) (n ev : Nat) (g : GA) (hl0 : l.stackTraces = false) (sa : Nat → Nat) (x : Int32) (hx1 : iv ev x = false) : XT l D (tys cI cJ cZ) (gL cI cJ ad n ev g) sa y_g_round b_g_round 2 (some .int) 7 103 [.ref (ad 0), .int x] "java/lang/IndexOutOfBoundsException" := by
  refine XT.of (by decide) (Nat.le_of_ble_eq_true rfl) ?_
  intro p9 e9 s9 m args below meth c9 ls S hr hlocks ht hP hK hTE hl
  obtain ⟨hx, hb, hml, hown, htc⟩ := id S
  have hl : lv_has ls 2 [(0, .ref (ad 0)), (1, .int x)] := hl
  refine lv_aload_n hx hb d_g_round_0 rfl (lv_at hl 0 rfl) ?_
  refine lv_iload_n hx hb d_g_round_1 rfl (lv_at hl 1 rfl) ?_
  exact XT.pass (rest := []) S (c_g_requireEvent_x l D cI cJ cZ ad n ev g hl0 sa x hx1) k_1_233 k_1_235 k_s_17 k_1_1 k_1_236 h_g_requireEvent ⟨Nat.le_of_ble_eq_true rfl, Nat.le_of_ble_eq_true rfl⟩ ⟨Nat.le_of_ble_eq_true rfl, Nat.le_of_ble_eq_true rfl⟩ hP hK hTE ht hlocks 0 0 rfl rfl rfl hl.1 (Nat.le_of_ble_eq_true rfl) rfl d_g_round_2
set_option maxHeartbeats 4000000 in
set_option maxRecDepth 100000 in
theorem c_g_witness_ok (l : Launch) (D : va_G) (cI cJ cZ : ClassId) (ad : Nat → Nat) (n ev : Nat) (g : GA) (c s : Nat → Nat) (an fk : Nat → Nat → Bool) (K : Nat) (hKb : K ≤ 120) (hC : gC K g c s an fk) (rd : Nat → Nat) (KR : Nat) (hKR : KR ≤ 120) (hR : gR KR g rd) (hev : ev ≤ K) (hev2 : ev ≤ KR) (x : Nat) (hx0 : x < ev) (hsx : s x ≤ x) : PM l D (tys cI cJ cZ) (gL cI cJ ad n ev g) y_g_witness b_g_witness 2 (some .boolean) 2 42 [.ref (ad 0), .int (nI x)] (bI (wi s rd x)) := by
  refine PM.of (by decide) (Nat.le_of_ble_eq_true rfl) ?_
  intro p9 e9 s9 m args below meth c9 ls S hr hlocks hP hK hl
  obtain ⟨hx, hb, hml, hown, htc⟩ := id S
  have hl : lv_has ls 2 [(0, .ref (ad 0)), (1, .int (nI x))] := hl
  refine lv_aload_n hx hb d_g_witness_0 rfl (lv_at hl 0 rfl) ?_
  refine lv_iload_n hx hb d_g_witness_1 rfl (lv_at hl 1 rfl) ?_
  refine PV.callV (rest := []) S (c_g_requireEvent_ok l D cI cJ cZ ad n ev g (nI x) (iv_t hx0 (by omega))) k_1_233 k_1_235 k_s_17 k_1_1 k_1_236 h_g_requireEvent ⟨Nat.le_of_ble_eq_true rfl, Nat.le_of_ble_eq_true rfl⟩ ⟨Nat.le_of_ble_eq_true rfl, Nat.le_of_ble_eq_true rfl⟩ hP hK 0 0 rfl rfl rfl hl.1 (Nat.le_of_ble_eq_true rfl) rfl d_g_witness_2 ?_
  refine lv_aload_n hx hb d_g_witness_5 rfl (lv_at hl 0 rfl) ?_
  refine lv_iload_n hx hb d_g_witness_6 rfl (lv_at hl 1 rfl) ?_
  refine PM.callV (rest := []) S (c_g_opensRound l D cI cJ cZ ad n ev g c s an fk K hKb hC rd KR hKR hR x (by omega) (by omega) hsx) k_1_197 k_1_199 k_s_12 k_1_1 k_1_200 h_g_opensRound ⟨Nat.le_of_ble_eq_true rfl, Nat.le_of_ble_eq_true rfl⟩ ⟨Nat.le_of_ble_eq_true rfl, Nat.le_of_ble_eq_true rfl⟩ hP hK 0 0 rfl rfl rfl hl.1 (Nat.le_of_ble_eq_true rfl) rfl d_g_witness_7 ?_
  exact PM.zret hx hb hr hlocks d_g_witness_10 rfl
set_option maxHeartbeats 4000000 in
set_option maxRecDepth 100000 in
theorem c_g_witness_x (l : Launch) (D : va_G) (cI cJ cZ : ClassId) (ad : Nat → Nat) (n ev : Nat) (g : GA) (hl0 : l.stackTraces = false) (sa : Nat → Nat) (x : Int32) (hx1 : iv ev x = false) : XT l D (tys cI cJ cZ) (gL cI cJ ad n ev g) sa y_g_witness b_g_witness 2 (some .boolean) 7 103 [.ref (ad 0), .int x] "java/lang/IndexOutOfBoundsException" := by
  refine XT.of (by decide) (Nat.le_of_ble_eq_true rfl) ?_
  intro p9 e9 s9 m args below meth c9 ls S hr hlocks ht hP hK hTE hl
  obtain ⟨hx, hb, hml, hown, htc⟩ := id S
  have hl : lv_has ls 2 [(0, .ref (ad 0)), (1, .int x)] := hl
  refine lv_aload_n hx hb d_g_witness_0 rfl (lv_at hl 0 rfl) ?_
  refine lv_iload_n hx hb d_g_witness_1 rfl (lv_at hl 1 rfl) ?_
  exact XT.pass (rest := []) S (c_g_requireEvent_x l D cI cJ cZ ad n ev g hl0 sa x hx1) k_1_233 k_1_235 k_s_17 k_1_1 k_1_236 h_g_requireEvent ⟨Nat.le_of_ble_eq_true rfl, Nat.le_of_ble_eq_true rfl⟩ ⟨Nat.le_of_ble_eq_true rfl, Nat.le_of_ble_eq_true rfl⟩ hP hK hTE ht hlocks 0 0 rfl rfl rfl hl.1 (Nat.le_of_ble_eq_true rfl) rfl d_g_witness_2
end
section
/-- the world that a writing method leaves -/
def wB {S : Type} (D : va_G) (tys : List (ClassId × FieldType)) (w' : S → va_W) (A : Nat → Prop) : S → State → Prop := fun u t => va_P D cls (w' u) t.heap ∧ va_K D cls tys t ∧ va_D A (w' u)
def wS (D : va_G) (tys : List (ClassId × FieldType)) (ws : va_W) (sz : Nat) (U : State) : Prop := U.heap.size = sz ∧ wd D tys ws U ∧ va_D (fun _ => True) ws
theorem wS_blind {D : va_G} {tys : List (ClassId × FieldType)} {ws : va_W} {sz : Nat} {av : List Value} : FrameBlind (va_Pc av (wS D tys ws sz)) := fun a U g mk q => ⟨q.1, q.2.1, ⟨q.2.2.1.1, va_K.moved (u := U) (U := U.calling g mk a) (Vm.Alike.refl U.vm) q.2.2.1.2⟩, q.2.2.2⟩
theorem fm_of {ws wc : va_W} {is : List Nat} (h : is.map (fun i => ws[i]?) = wc.map some) : is.filterMap (fun i => ws[i]?) = wc := by
  induction is generalizing wc with
  | nil => cases wc with
    | nil => rfl
    | cons x t => simp at h
  | cons i t ih => cases wc with
    | nil => simp at h
    | cons x u =>
      simp only [List.map_cons, List.cons.injEq] at h
      rw [List.filterMap_cons, h.1]
      simp [ih h.2]
def WV {S : Type} (l : Launch) (D : va_G) (tys : List (ClassId × FieldType)) (ws : va_W) (w' : S → va_W) (post : S → Prop) (y : MethodName) (bs : ByteArray) (mL : Nat) (f lo : Nat) (av : List Value) : Prop :=
  ∀ sz : Nat, Met l y (Cond.code y bs mL none :: Cw) ({ frames := f, cells := 0, slots := 0, locals := lo }) (va_Pc av (wS D tys ws sz)) (va_Qv post (wB D tys w' (va_A ws sz)) (va_A ws sz)) 0 0 (va_A ws sz)
theorem WV.of {S : Type} {l : Launch} {D : va_G} {tys : List (ClassId × FieldType)} {ws : va_W} {w' : S → va_W} {post : S → Prop} {y : MethodName} {bs : ByteArray} {mL : Nat} {f lo : Nat} {av : List Value} (hy : plainName y.cls = true) (hn : (lg_sl av).length ≤ mL)
    (body : ∀ (p : Program) (e : Env) (s : State) (m : MethodId) (args : Array Value) (below : List Frame) (meth : Method) (c : Code) (ls : Array Slot) (A : Nat → Prop), CallFix p m c bs mL s args Cw y.cls → meth.sig.returnType = none → meth.locks = false → (∀ q : Nat, s.heap.size ≤ q → A q) → va_P D cls ws s.heap → va_K D cls tys s → va_D A ws → lv_has ls mL (lv_args 0 av) →
      W p l e ({ frames := f, cells := 0, slots := 0, locals := lo }) s m args below meth c s.heap [] 0 0 (MQ below (va_Qv post (wB D tys w' A) A) args s 0 0 A) (F0 m 0 ls [])) : WV l D tys ws w' post y bs mL f lo av := by
  intro sz
  refine Met.ofW (cc := bs) (maxL := mL) (ret := none) hy rfl ?_
  intro p e s m args below meth c s₁ B hml hv
  obtain ⟨rfl, hsz, ⟨hP, hK⟩, hD0⟩ := hv
  subst hsz
  have hD := hD0.self (sz := s.heap.size)
  have hts := atoms_spec (ws := Cond.code y bs mL none :: Cw) B.pre
  have hl := lv_entry av (n := mL) hn
  rw [lg_entry_eq]
  exact body p e s m _ below meth c _ (va_A ws s.heap.size) ⟨B.exec, B.bytes, hml, findClass_of_methodNamed B.named, fun w hw => hts w (List.mem_cons_of_mem _ hw)⟩ B.returns B.notSynchronized (fun q h => Or.inr h) hP hK hD hl
section
variable {p : Program} {l : Launch} {e : Env} {R : Room} {s : State} {m : MethodId} {args : Array Value} {below : List Frame} {meth : Method} {c : Code} {H : Heap} {locs : List Loc} {cells slots : Nat} {Q : State → Prop}
variable {cc : ByteArray} {pc : Nat} {ls : Array Slot} {rest st : List Value}
theorem WV.ret {S : Type} {D : va_G} {tys : List (ClassId × FieldType)} {w' : S → va_W} {post : S → Prop} {A : Nat → Prop} (hx : p.tables.exec = Jvm.exec) (hb : c.code = cc) (hr : meth.sig.returnType = none) (hlocks : meth.locks = false) (hK : va_K D cls tys s) (hS : va_S A s.heap H locs) (d : decode cc pc = .ok (.return_, 1)) (u : S) (hu : post u) (hP : va_P D cls (w' u) H) (hD : va_D A (w' u)) : W p l e R s m args below meth c H locs 0 0 (MQ below (va_Qv post (wB D tys w' A) A) args s 0 0 A) (F0 m pc ls []) :=
  W.vret hx hb hr (fun t ht hW => ⟨⟨u, rfl, hu, by rw [ht]; exact hP, va_K.moved hW.alike hK, hD⟩, hS.F ht⟩) hS.2.2 d hlocks
theorem WV.callV {S : Type} {D : va_G} {tys : List (ClassId × FieldType)} {ws wc wr : va_W} {w' : S → va_W} {post : S → Prop} {A : Nat → Prop} {H0 : Heap} {nL : Nat} {own : String} {y : MethodName} {bs : ByteArray} {mL : Nat} {f lo b idx : Nat} {As : List Value} (S0 : CallFix p m c cc nL s args Cw own) (hM : WV l D tys wc w' post y bs mL f lo (.ref b :: As))
    (k1 : Cond.methodLink own idx y ∈ Cw) (k2 : Cond.instanceMethod y ∈ Cw) (k3 : Cond.selects y.cls y y ∈ Cw) (k4 : Cond.initialized y.cls ∈ Cw) (k5 : Cond.code y bs mL none ∈ Cw) (hd : y.cls ≠ "java/lang/invoke/MethodHandle" ∧ y.cls ≠ "java/lang/invoke/VarHandle" ∧ (parseMethodDescriptor y.desc).map (fun d => d.parameters.length) = some As.length)
    (hR : f + 1 ≤ R.frames ∧ 8 + (mL + 11) + lo ≤ R.locals) (hf : cells ≤ R.cells ∧ slots ≤ R.slots) (hP : va_P D cls ws H) (hK : va_K D cls tys s) (hD : va_D A ws) (hS : va_S A H0 H locs) (hA : ∀ q : Nat, H0.size ≤ q → A q) (isC isR : List Nat) (hC : isC.map (fun i => ws[i]?) = wc.map some) (hRr : isR.map (fun i => ws[i]?) = wr.map some) (hnC : va_nd isC = true) (hnR : va_nd isR = true) (hdis : ∀ i ∈ isR, i ∉ isC)
    (q0 ci : Nat) {q : vw_C} {fs : List Value} (hc : cls[ci]? = some q) (hq : q.1 = y.cls) (he : wc[q0]? = some (b, .inr (ci, fs)))
    (hl : ls.size = nL) (hrest : (rest.map fun v => v.category).sum ≤ 8) (hst : st = As.reverse ++ .ref b :: rest) (d : decode cc pc = .ok (.invokevirtual idx, 3))
    (k : ∀ (u : S) (H1 : Heap) (locs1 : List Loc), post u → va_P D cls (wr ++ w' u) H1 → va_D A (wr ++ w' u) → va_S A H0 H1 locs1 → W p l e R s m args below meth c H1 locs1 cells slots Q (F0 m (pc + 3) ls rest)) : W p l e R s m args below meth c H locs cells slots Q (F0 m pc ls st) := by
  have hPc := hP.sub (ws' := wc) isC (fm_of hC)
  have hDc := hD.sub (ws' := wc) isC hnC hC
  have hFc := va_free (wc := wc) hD hS hA isC hC
  refine va_callv (va_runV (g := F0 m pc ls st) (As := As) (rest := rest) (b := b) S0 (hM H.size) (cwV As.length S0.2.2.2.2 (cw_V k1 k2 k3 k4 k5) rfl rfl rfl ⟨rfl, hd⟩ hR) ⟨wS_blind, by rw [← hq]; exact va_recv hK hPc hc he, fun U hU hW => ⟨rfl, by rw [hU], ⟨by rw [hU]; exact hPc, va_K.moved hW.alike hK⟩, hDc.weaken (fun _ _ _ _ => trivial)⟩⟩ rfl rfl hl hst (lv_room hrest) d hf) hS (fun q9 _ h => hFc q9 h) hFc (fun u t H1 locs1 ht hvm hw hB hz1 hk1 hS1 => ?_)
  obtain ⟨hP1, -, hD1⟩ := hB
  rw [ht] at hP1
  obtain ⟨hP2, hD2⟩ := va_join (wr := wr) (w1 := w' u) hP hD isC isR hC hRr hnR hdis hk1 hFc hP1 hD1
  exact k u H1 locs1 hw hP2 hD2 hS1
end
def WI {S : Type} (l : Launch) (D : va_G) (tys : List (ClassId × FieldType)) (ws : va_W) (w' : S → va_W) (post : Int32 → S → Prop) (y : MethodName) (bs : ByteArray) (mL : Nat) (ret : Option FieldType) (f lo : Nat) (av : List Value) : Prop :=
  ∀ sz : Nat, Met l y (Cond.code y bs mL ret :: Cw) ({ frames := f, cells := 0, slots := 0, locals := lo }) (va_Pc av (wS D tys ws sz)) (va_Qi post (wB D tys w' (va_A ws sz)) (va_A ws sz)) 0 0 (va_A ws sz)
theorem WI.of {S : Type} {l : Launch} {D : va_G} {tys : List (ClassId × FieldType)} {ws : va_W} {w' : S → va_W} {post : Int32 → S → Prop} {y : MethodName} {bs : ByteArray} {mL : Nat} {ret : Option FieldType} {f lo : Nat} {av : List Value} (hy : plainName y.cls = true) (hn : (lg_sl av).length ≤ mL)
    (body : ∀ (p : Program) (e : Env) (s : State) (m : MethodId) (args : Array Value) (below : List Frame) (meth : Method) (c : Code) (ls : Array Slot) (A : Nat → Prop), CallFix p m c bs mL s args Cw y.cls → meth.sig.returnType = ret → meth.locks = false → (∀ q : Nat, s.heap.size ≤ q → A q) → va_P D cls ws s.heap → va_K D cls tys s → va_D A ws → lv_has ls mL (lv_args 0 av) →
      W p l e ({ frames := f, cells := 0, slots := 0, locals := lo }) s m args below meth c s.heap [] 0 0 (MQ below (va_Qi post (wB D tys w' A) A) args s 0 0 A) (F0 m 0 ls [])) : WI l D tys ws w' post y bs mL ret f lo av := by
  intro sz
  refine Met.ofW (cc := bs) (maxL := mL) (ret := ret) hy rfl ?_
  intro p e s m args below meth c s₁ B hml hv
  obtain ⟨rfl, hsz, ⟨hP, hK⟩, hD0⟩ := hv
  subst hsz
  have hD := hD0.self (sz := s.heap.size)
  have hts := atoms_spec (ws := Cond.code y bs mL ret :: Cw) B.pre
  have hl := lv_entry av (n := mL) hn
  rw [lg_entry_eq]
  exact body p e s m _ below meth c _ (va_A ws s.heap.size) ⟨B.exec, B.bytes, hml, findClass_of_methodNamed B.named, fun w hw => hts w (List.mem_cons_of_mem _ hw)⟩ B.returns B.notSynchronized (fun q h => Or.inr h) hP hK hD hl
section
variable {p : Program} {l : Launch} {e : Env} {R : Room} {s : State} {m : MethodId} {args : Array Value} {below : List Frame} {meth : Method} {c : Code} {H : Heap} {locs : List Loc} {cells slots : Nat} {Q : State → Prop}
variable {cc : ByteArray} {pc : Nat} {ls : Array Slot} {rest st : List Value}
theorem WI.iret {S : Type} {D : va_G} {tys : List (ClassId × FieldType)} {w' : S → va_W} {post : Int32 → S → Prop} {A : Nat → Prop} {v : Int32} (hx : p.tables.exec = Jvm.exec) (hb : c.code = cc) (hr : meth.sig.returnType = some .int) (hlocks : meth.locks = false) (hK : va_K D cls tys s) (hS : va_S A s.heap H locs) (d : decode cc pc = .ok (.ireturn, 1)) (u : S) (hu : post v u) (hP : va_P D cls (w' u) H) (hD : va_D A (w' u)) : W p l e R s m args below meth c H locs 0 0 (MQ below (va_Qi post (wB D tys w' A) A) args s 0 0 A) (F0 m pc ls [.int v]) :=
  W.iret (v := v) hx hb hr (fun t ht hW => ⟨⟨v, u, rfl, hu, by rw [ht]; exact hP, va_K.moved hW.alike hK, hD⟩, hS.F ht⟩) hS.2.2 d hlocks
theorem WI.zret {S : Type} {D : va_G} {tys : List (ClassId × FieldType)} {w' : S → va_W} {post : Int32 → S → Prop} {A : Nat → Prop} {b : Bool} (hx : p.tables.exec = Jvm.exec) (hb : c.code = cc) (hr : meth.sig.returnType = some .boolean) (hlocks : meth.locks = false) (hK : va_K D cls tys s) (hS : va_S A s.heap H locs) (d : decode cc pc = .ok (.ireturn, 1)) (u : S) (hu : post (bI b) u) (hP : va_P D cls (w' u) H) (hD : va_D A (w' u)) : W p l e R s m args below meth c H locs 0 0 (MQ below (va_Qi post (wB D tys w' A) A) args s 0 0 A) (F0 m pc ls [.int (bI b)]) :=
  W.zret (v := bI b) hx hb hr (bI_n b) (fun t ht hW => ⟨⟨bI b, u, rfl, hu, by rw [ht]; exact hP, va_K.moved hW.alike hK, hD⟩, hS.F ht⟩) hS.2.2 d hlocks
theorem WI.callV {S : Type} {D : va_G} {tys : List (ClassId × FieldType)} {ws wc wr : va_W} {w' : S → va_W} {post : Int32 → S → Prop} {A : Nat → Prop} {H0 : Heap} {nL : Nat} {own : String} {y : MethodName} {bs : ByteArray} {mL : Nat} {ret : Option FieldType} {f lo b idx : Nat} {As : List Value} (S0 : CallFix p m c cc nL s args Cw own) (hM : WI l D tys wc w' post y bs mL ret f lo (.ref b :: As))
    (k1 : Cond.methodLink own idx y ∈ Cw) (k2 : Cond.instanceMethod y ∈ Cw) (k3 : Cond.selects y.cls y y ∈ Cw) (k4 : Cond.initialized y.cls ∈ Cw) (k5 : Cond.code y bs mL ret ∈ Cw) (hd : y.cls ≠ "java/lang/invoke/MethodHandle" ∧ y.cls ≠ "java/lang/invoke/VarHandle" ∧ (parseMethodDescriptor y.desc).map (fun d => d.parameters.length) = some As.length)
    (hR : f + 1 ≤ R.frames ∧ 8 + (mL + 11) + lo ≤ R.locals) (hf : cells ≤ R.cells ∧ slots ≤ R.slots) (hP : va_P D cls ws H) (hK : va_K D cls tys s) (hD : va_D A ws) (hS : va_S A H0 H locs) (hA : ∀ q : Nat, H0.size ≤ q → A q) (isC isR : List Nat) (hC : isC.map (fun i => ws[i]?) = wc.map some) (hRr : isR.map (fun i => ws[i]?) = wr.map some) (hnC : va_nd isC = true) (hnR : va_nd isR = true) (hdis : ∀ i ∈ isR, i ∉ isC)
    (q0 ci : Nat) {q : vw_C} {fs : List Value} (hc : cls[ci]? = some q) (hq : q.1 = y.cls) (he : wc[q0]? = some (b, .inr (ci, fs)))
    (hl : ls.size = nL) (hrest : (rest.map fun v => v.category).sum ≤ 8) (hst : st = As.reverse ++ .ref b :: rest) (d : decode cc pc = .ok (.invokevirtual idx, 3))
    (k : ∀ (r : Int32) (u : S) (H1 : Heap) (locs1 : List Loc), post r u → va_P D cls (wr ++ w' u) H1 → va_D A (wr ++ w' u) → va_S A H0 H1 locs1 → W p l e R s m args below meth c H1 locs1 cells slots Q (F0 m (pc + 3) ls (.int r :: rest))) : W p l e R s m args below meth c H locs cells slots Q (F0 m pc ls st) := by
  have hPc := hP.sub (ws' := wc) isC (fm_of hC)
  have hDc := hD.sub (ws' := wc) isC hnC hC
  have hFc := va_free (wc := wc) hD hS hA isC hC
  refine va_calli (va_runV (g := F0 m pc ls st) (As := As) (rest := rest) (b := b) S0 (hM H.size) (cwV As.length S0.2.2.2.2 (cw_V k1 k2 k3 k4 k5) rfl rfl rfl ⟨rfl, hd⟩ hR) ⟨wS_blind, by rw [← hq]; exact va_recv hK hPc hc he, fun U hU hW => ⟨rfl, by rw [hU], ⟨by rw [hU]; exact hPc, va_K.moved hW.alike hK⟩, hDc.weaken (fun _ _ _ _ => trivial)⟩⟩ rfl rfl hl hst (lv_room hrest) d hf) hS (fun q9 _ h => hFc q9 h) hFc (fun r u t H1 locs1 ht hvm hw hB hz1 hk1 hS1 => ?_)
  obtain ⟨hP1, -, hD1⟩ := hB
  rw [ht] at hP1
  obtain ⟨hP2, hD2⟩ := va_join (wr := wr) (w1 := w' u) hP hD isC isR hC hRr hnR hdis hk1 hFc hP1 hD1
  exact k r u H1 locs1 hw hP2 hD2 hS1
end
end
section
theorem fw_iff {p : Nat → Bool} {s : Nat → Nat} {ow : Nat → Nat → Bool} {N : Nat} (hp : ∀ y, p y = true → y < N ∧ s y ≤ y ∧ (s y ≠ 0 → p (s y - 1) = true) ∧ ∀ z, ow y z = (y == z || pa ow (s y) z)) (hle : ∀ y z, y < N → ow y z = true → z ≤ y) :
    ∀ (j : Nat) (met : Bool) (t : Nat), (met = true → t ≠ 0 → t - 1 < j ∧ p (t - 1) = true) → (fw p s j met t = true ↔ (∃ y z, y < j ∧ z < y ∧ p y = true ∧ p z = true ∧ ow y z = false) ∨ (met = true ∧ ∃ z, z < j ∧ p z = true ∧ pa ow t z = false)) := by
  intro j
  induction j with
  | zero =>
    intro met t _
    constructor
    · intro h; cases h
    · rintro (⟨y, z, h, -⟩ | ⟨-, z, h, -⟩) <;> omega
  | succ j ih =>
    intro met t hm
    by_cases hj : p j = true
    · obtain ⟨hjN, hsj, hcl, how⟩ := hp j hj
      by_cases hc : met = true ∧ t ≠ j + 1
      · have e : fw p s (j + 1) met t = true := by rw [hc.1]; exact fw_hit hj hc.2
        refine iff_of_true e (Or.inr ⟨hc.1, j, by omega, hj, ?_⟩)
        unfold pa
        by_cases ht : t = 0
        · subst ht; rfl
        · obtain ⟨h1, h2⟩ := hm hc.1 ht
          cases ho : ow (t - 1) j with
          | false => rw [Bool.and_false]
          | true => have := hle (t - 1) j (hp _ h2).1 ho; omega
      · have hc2 : met = false ∨ t = j + 1 := by
          cases hmet : met with
          | false => exact Or.inl rfl
          | true => exact Or.inr (by by_cases q : t = j + 1; · exact q
                                     · exact absurd ⟨hmet, q⟩ hc)
        rw [fw_on hj hc2, ih true (s j) (fun _ q => ⟨by omega, hcl q⟩)]
        constructor
        · rintro (⟨y, z, h1, h2, h3, h4, h5⟩ | ⟨-, z, h1, h2, h3⟩)
          · exact Or.inl ⟨y, z, by omega, h2, h3, h4, h5⟩
          · refine Or.inl ⟨j, z, by omega, h1, hj, h2, ?_⟩
            rw [how z, h3]; simp; omega
        · rintro (⟨y, z, h1, h2, h3, h4, h5⟩ | ⟨hmt, z, h1, h2, h3⟩)
          · by_cases e : y = j
            · subst e
              refine Or.inr ⟨rfl, z, h2, h4, ?_⟩
              rw [how z] at h5
              cases hz : pa ow (s y) z with
              | false => rfl
              | true => rw [hz, Bool.or_true] at h5; cases h5
            · exact Or.inl ⟨y, z, by omega, h2, h3, h4, h5⟩
          · rcases hc2 with q | q
            · rw [q] at hmt; cases hmt
            · subst q
              have h3' : ow j z = false := h3
              have hzj : z ≠ j := fun e => by rw [e, how j] at h3'; simp at h3'
              refine Or.inr ⟨rfl, z, by omega, h2, ?_⟩
              rw [how z] at h3'
              cases hz : pa ow (s j) z with
              | false => rfl
              | true => rw [hz, Bool.or_true] at h3'; cases h3'
    · have hj' : p j = false := by simpa using hj
      rw [fw_no hj', ih met t (fun q1 q2 => by
        obtain ⟨h1, h2⟩ := hm q1 q2
        refine ⟨?_, h2⟩
        by_cases e : t - 1 = j
        · rw [e, hj'] at h2; cases h2
        · omega)]
      constructor
      · rintro (⟨y, z, h1, h2, h3, h4, h5⟩ | ⟨hmt, z, h1, h2, h3⟩)
        · exact Or.inl ⟨y, z, by omega, h2, h3, h4, h5⟩
        · exact Or.inr ⟨hmt, z, by omega, h2, h3⟩
      · rintro (⟨y, z, h1, h2, h3, h4, h5⟩ | ⟨hmt, z, h1, h2, h3⟩)
        · have : y ≠ j := fun e => by rw [e, hj'] at h3; cases h3
          exact Or.inl ⟨y, z, by omega, h2, h3, h4, h5⟩
        · have : z ≠ j := fun e => by rw [e, hj'] at h2; cases h2
          exact Or.inr ⟨hmt, z, by omega, h2, h3⟩
/-- the class's search finds just the forks -/
theorem fa_fo {A B N n : Nat} {c s o : Nat → Nat} {an ow : Nat → Nat → Bool} {a : Nat → Bool} (h : Lw N n c s o an ow) (hN : N ≤ 120) (hw : ∀ i, i < 128 → wt A B i = a i) (ha : ∀ i, a i = true → i < N) (hcl : ∀ i, a i = true → s i ≠ 0 → a (s i - 1) = true) (m : Nat) : fa A B c s m = fo a ow c N m := by
  have hpe : ∀ i, i < 120 → (wt A B i && c i == m) = (a i && c i == m) := fun i hi => by rw [hw i (by omega)]
  have e1 : ∀ (j : Nat) (met : Bool) (t : Nat), j ≤ 120 → fw (fun i => wt A B i && c i == m) s j met t = fw (fun i => a i && c i == m) s j met t := by
    intro j
    induction j with
    | zero => intro met t _; rfl
    | succ j ih =>
      intro met t hj
      show (if (wt A B j && c j == m) = true then _ else _) = (if (a j && c j == m) = true then _ else _)
      rw [hpe j (by omega), ih _ _ (by omega), ih _ _ (by omega)]
  have hle : ∀ y z, y < N → ow y z = true → z ≤ y := fun y z hy => h.ow_le y hy z
  have hp : ∀ y, (a y && c y == m) = true → y < N ∧ s y ≤ y ∧ (s y ≠ 0 → (a (s y - 1) && c (s y - 1) == m) = true) ∧ ∀ z, ow y z = (y == z || pa ow (s y) z) := by
    intro y hy
    simp only [Bool.and_eq_true, beq_iff_eq] at hy
    have hyN := ha y hy.1
    obtain ⟨-, h2, -, h4, -, -, h7⟩ := h y hyN
    exact ⟨hyN, h2, fun q => by simp only [Bool.and_eq_true, beq_iff_eq]; exact ⟨hcl y hy.1 q, by rw [h4 q]; exact hy.2⟩, h7⟩
  unfold fa fo
  rw [e1 120 false 0 (Nat.le_refl _), Bool.eq_iff_iff, fw_iff (ow := ow) (N := N) hp hle 120 false 0 (fun q => nomatch q), ex_t]
  constructor
  · rintro (⟨y, z, h1, h2, h3, h4, h5⟩ | ⟨q, -⟩)
    · refine ⟨y, (hp y h3).1, ex_t.mpr ⟨z, h2, ?_⟩⟩
      rw [h3, h4, h5]; rfl
    · cases q
  · rintro ⟨y, hy, hq⟩
    obtain ⟨z, hz, hq⟩ := ex_t.mp hq
    simp only [Bool.and_eq_true, Bool.not_eq_true'] at hq
    exact Or.inl ⟨y, z, by omega, hz, by simp only [Bool.and_eq_true]; exact hq.1, by simp only [Bool.and_eq_true]; exact hq.2.1, hq.2.2⟩
theorem fo_n {a : Nat → Bool} {ow : Nat → Nat → Bool} {c : Nat → Nat} {N n m : Nat} (hc : ∀ i, i < N → c i < n) (hm : n ≤ m) : fo a ow c N m = false := by
  refine ex_f.mpr (fun y hy => ex_f.mpr (fun z hz => ?_))
  have := hc y hy
  simp [show ¬ c y = m by omega]
/-- the class's row of forkers -/
theorem fF_fo {A B N n : Nat} {c s o : Nat → Nat} {an ow : Nat → Nat → Bool} {a : Nat → Bool} (h : Lw N n c s o an ow) (hN : N ≤ 120) (hw : ∀ i, i < 128 → wt A B i = a i) (ha : ∀ i, a i = true → i < N) (hcl : ∀ i, a i = true → s i ≠ 0 → a (s i - 1) = true) : bs (fF A B c s n) 8 = bs (fun m => fo a ow c N m) 8 := by
  refine bs_congr (fun m _ => ?_)
  unfold fF
  by_cases q : m < n
  · rw [fa_fo h hN hw ha hcl m]; simp [q]
  · rw [fo_n (fun i hi => (h i hi).1) (by omega)]; simp [q]
theorem mI_max {t : Nat} (h : t ≤ 200) : mI t < nI 200 := by
  cases t with
  | zero => decide
  | succ i => rw [mI_s]; exact nI_lt (by omega) (by decide)
theorem ga_lo1 {k : Nat} (h : k < 64) : (1 : Int64) <<< ((nI k).toInt64 &&& 63) = lN (bs (fun i => k == i) 64) := by
  rw [bs_one 64 k h]; exact (wb_shl 1 h).trans (by rw [Nat.one_mul])
theorem ga_lo0 {k : Nat} (h : 64 ≤ k) : (0 : Int64) = lN (bs (fun i => k == i) 64) := by
  rw [show bs (fun i => k == i) 64 = 0 from (bs_congr (fun i hi => by simp; omega)).trans (bs_none 64)]; rfl
theorem ga_hi0 {k : Nat} (h : k < 64) : (0 : Int64) = lN (bs (fun i => k == 64 + i) 64) := by
  rw [show bs (fun i => k == 64 + i) 64 = 0 from (bs_congr (fun i hi => by simp; omega)).trans (bs_none 64)]; rfl
theorem ga_hi1 {k : Nat} (h : 64 ≤ k) (h2 : k < 128) : (1 : Int64) <<< ((nI (k - 64)).toInt64 &&& 63) = lN (bs (fun i => k == 64 + i) 64) := by
  rw [show bs (fun i => k == 64 + i) 64 = bs (fun i => (k - 64) == i) 64 from bs_congr (fun i hi => by rw [Bool.eq_iff_iff]; simp; omega), bs_one 64 (k - 64) (by omega)]
  exact (wb_shl 1 (by omega)).trans (by rw [Nat.one_mul])
theorem pa_n {f : Nat → Nat → Bool} {t y : Nat} (h : t ≠ 0) : pa f t y = f (t - 1) y := by
  unfold pa
  rw [show (t == 0) = false from by simpa using h]; rfl
set_option maxHeartbeats 4000000 in
set_option maxRecDepth 100000 in
theorem c_g_addAncestorsOf (l : Launch) (D : va_G) (cI cJ cZ : ClassId) (ad : Nat → Nat) (n ev : Nat) (g : GA) (an : Nat → Nat → Bool) (k t : Nat) (P1 P2 : Nat → Bool) (hk : k < 120) (htk : t ≤ k) (hP1 : g.2.2.2.2.1 k = lN (bs P1 64)) (hP2 : g.2.2.2.2.2 k = lN (bs P2 64)) (hB : t ≠ 0 → g.2.2.2.2.1 (t - 1) = lN (bs (an (t - 1)) 64) ∧ g.2.2.2.2.2 (t - 1) = lN (bs (fun i => an (t - 1) (64 + i)) 64)) : WV (S := GA) l D (tys cI cJ cZ) (gL cI cJ ad n ev g) (fun u => gL cI cJ ad n ev u) (fun u => gA k g u (fun i => P1 i || pa an t i) (fun i => P2 i || pa an t (64 + i))) y_g_addAncestorsOf b_g_addAncestorsOf 3 0 0 [.ref (ad 0), .int (nI k), .int (mI t)] := by
  refine WV.of (by decide) (Nat.le_of_ble_eq_true rfl) ?_
  intro p9 e9 s9 m args below meth c9 ls A S hr hlocks hA hP hK hD hl
  obtain ⟨hx, hb, hml, hown, htc⟩ := id S
  have hS : va_S A s9.heap s9.heap [] := va_S.rf
  have hl : lv_has ls 3 [(0, .ref (ad 0)), (1, .int (nI k)), (2, .int (mI t))] := hl
  refine lv_iload_n hx hb d_g_addAncestorsOf_0 rfl (lv_at hl 2 rfl) ?_
  refine lv_iconst (v := (-1)) hx hb d_g_addAncestorsOf_1 (by decide) ?_
  refine lv_icmp_eq (tgt := 35) hx hb d_g_addAncestorsOf_2 (by decide) (fun c_2 => ?_) (fun c_2 => ?_)
  · exact WV.ret hx hb hr hlocks hK hS d_g_addAncestorsOf_35 g (by have z : t = 0 := (mI_m1 (by omega)).mp c_2; subst z; exact ⟨rfl, rfl, rfl, rfl, fun _ _ => ⟨rfl, rfl⟩, by rw [hP1]; congr 1; exact bs_congr (fun i _ => by simp [pa]), by rw [hP2]; congr 1; exact bs_congr (fun i _ => by simp [pa])⟩) hP hD
  · have ht1 : t = (t - 1) + 1 := by have q : t ≠ 0 := fun z => c_2 (by rw [z]; rfl); omega
    obtain ⟨hb1, hb2⟩ := hB (by omega)
    have hl : lv_has ls 3 [(0, .ref (ad 0)), (1, .int (nI k)), (2, .int (nI (t - 1)))] := by rw [ht1] at hl; exact hl
    refine lv_aload_n hx hb d_g_addAncestorsOf_5 rfl (lv_at hl 0 rfl) ?_
    refine va_get (D := D) (ci := 0) (v := .ref (ad 5)) (C := "SightGraph") (T := T_g) (N := 8) hx hb htc in_g hown hK hP 0 rfl rfl 6 (by decide) (htc _ k_1_24) (fun _ h9 => h9) rfl d_g_addAncestorsOf_6 ?_
    refine lv_iload_n hx hb d_g_addAncestorsOf_9 rfl (lv_at hl 1 rfl) ?_
    refine lv_dup2_11 hx hb d_g_addAncestorsOf_10 rfl rfl ?_
    refine nr_lald hx hb hK hP 5 1 rfl rfl (by omega) (by decide) (v := (lN (bs P1 64))) hP1 d_g_addAncestorsOf_11 ?_
    refine lv_aload_n hx hb d_g_addAncestorsOf_12 rfl (lv_at hl 0 rfl) ?_
    refine va_get (D := D) (ci := 0) (v := .ref (ad 5)) (C := "SightGraph") (T := T_g) (N := 8) hx hb htc in_g hown hK hP 0 rfl rfl 6 (by decide) (htc _ k_1_24) (fun _ h9 => h9) rfl d_g_addAncestorsOf_13 ?_
    refine lv_iload_n hx hb d_g_addAncestorsOf_16 rfl (lv_at hl 2 rfl) ?_
    refine nr_lald hx hb hK hP 5 1 rfl rfl (by omega) (by decide) (v := (lN (bs (an (t - 1)) 64))) hb1 d_g_addAncestorsOf_17 ?_
    refine lv_lor hx hb d_g_addAncestorsOf_18 ?_
    refine nr_top (w := .long (lN (bs (fun i => P1 i || pa an t i) 64))) (congrArg Value.long (by rw [wb_or (bs_lt _ 64) (bs_lt _ 64), bs_or]; congr 1; exact bs_congr (fun i _ => by rw [pa_n (show t ≠ 0 by omega)]))) ?_
    refine nr_last hx hb hK hP hD hS 5 1 rfl rfl (by omega) (by decide) d_g_addAncestorsOf_19 (fun H locs hP hD hS => ?_)
    have hP : va_P D cls (gL cI cJ ad n ev (g.1, g.2.1, g.2.2.1, g.2.2.2.1, vp_updL g.2.2.2.2.1 k (lN (bs (fun i => P1 i || pa an t i) 64)), g.2.2.2.2.2)) H := hP
    have hD : va_D A (gL cI cJ ad n ev (g.1, g.2.1, g.2.2.1, g.2.2.2.1, vp_updL g.2.2.2.2.1 k (lN (bs (fun i => P1 i || pa an t i) 64)), g.2.2.2.2.2)) := hD
    refine lv_aload_n hx hb d_g_addAncestorsOf_20 rfl (lv_at hl 0 rfl) ?_
    refine va_get (D := D) (ci := 0) (v := .ref (ad 6)) (C := "SightGraph") (T := T_g) (N := 8) hx hb htc in_g hown hK hP 0 rfl rfl 7 (by decide) (htc _ k_1_25) (fun _ h9 => h9) rfl d_g_addAncestorsOf_21 ?_
    refine lv_iload_n hx hb d_g_addAncestorsOf_24 rfl (lv_at hl 1 rfl) ?_
    refine lv_dup2_11 hx hb d_g_addAncestorsOf_25 rfl rfl ?_
    refine nr_lald hx hb hK hP 6 1 rfl rfl (by omega) (by decide) (v := (lN (bs P2 64))) hP2 d_g_addAncestorsOf_26 ?_
    refine lv_aload_n hx hb d_g_addAncestorsOf_27 rfl (lv_at hl 0 rfl) ?_
    refine va_get (D := D) (ci := 0) (v := .ref (ad 6)) (C := "SightGraph") (T := T_g) (N := 8) hx hb htc in_g hown hK hP 0 rfl rfl 7 (by decide) (htc _ k_1_25) (fun _ h9 => h9) rfl d_g_addAncestorsOf_28 ?_
    refine lv_iload_n hx hb d_g_addAncestorsOf_31 rfl (lv_at hl 2 rfl) ?_
    refine nr_lald hx hb hK hP 6 1 rfl rfl (by omega) (by decide) (v := (lN (bs (fun i => an (t - 1) (64 + i)) 64))) hb2 d_g_addAncestorsOf_32 ?_
    refine lv_lor hx hb d_g_addAncestorsOf_33 ?_
    refine nr_top (w := .long (lN (bs (fun i => P2 i || pa an t (64 + i)) 64))) (congrArg Value.long (by rw [wb_or (bs_lt _ 64) (bs_lt _ 64), bs_or]; congr 1; exact bs_congr (fun i _ => by rw [pa_n (show t ≠ 0 by omega)]))) ?_
    refine nr_last hx hb hK hP hD hS 6 1 rfl rfl (by omega) (by decide) d_g_addAncestorsOf_34 (fun H locs hP hD hS => ?_)
    have hP : va_P D cls (gL cI cJ ad n ev (g.1, g.2.1, g.2.2.1, g.2.2.2.1, vp_updL g.2.2.2.2.1 k (lN (bs (fun i => P1 i || pa an t i) 64)), vp_updL g.2.2.2.2.2 k (lN (bs (fun i => P2 i || pa an t (64 + i)) 64)))) H := hP
    have hD : va_D A (gL cI cJ ad n ev (g.1, g.2.1, g.2.2.1, g.2.2.2.1, vp_updL g.2.2.2.2.1 k (lN (bs (fun i => P1 i || pa an t i) 64)), vp_updL g.2.2.2.2.2 k (lN (bs (fun i => P2 i || pa an t (64 + i)) 64)))) := hD
    exact WV.ret hx hb hr hlocks hK hS d_g_addAncestorsOf_35 (g.1, g.2.1, g.2.2.1, g.2.2.2.1, vp_updL g.2.2.2.2.1 k (lN (bs (fun i => P1 i || pa an t i) 64)), vp_updL g.2.2.2.2.2 k (lN (bs (fun i => P2 i || pa an t (64 + i)) 64))) ⟨rfl, rfl, rfl, rfl, fun j hj => ⟨pk_uLn hj, pk_uLn hj⟩, pk_uLs, pk_uLs⟩ hP hD
set_option maxHeartbeats 4000000 in
set_option maxRecDepth 100000 in
theorem c_g_gatherAncestors (l : Launch) (D : va_G) (cI cJ cZ : ClassId) (ad : Nat → Nat) (n ev : Nat) (g : GA) (an : Nat → Nat → Bool) (k a b : Nat) (hk : k < 120) (hak : a ≤ k) (hbk : b ≤ k) (hB : ∀ j, j < k → g.2.2.2.2.1 j = lN (bs (an j) 64) ∧ g.2.2.2.2.2 j = lN (bs (fun i => an j (64 + i)) 64)) : WV (S := GA) l D (tys cI cJ cZ) (gL cI cJ ad n ev g) (fun u => gL cI cJ ad n ev u) (fun u => gA k g u (fun i => k == i || (pa an a i || pa an b i)) (fun i => k == 64 + i || (pa an a (64 + i) || pa an b (64 + i)))) y_g_gatherAncestors b_g_gatherAncestors 4 1 22 [.ref (ad 0), .int (nI k), .int (mI a), .int (mI b)] := by
  refine WV.of (by decide) (Nat.le_of_ble_eq_true rfl) ?_
  intro p9 e9 s9 m args below meth c9 ls A S hr hlocks hA hP hK hD hl
  obtain ⟨hx, hb, hml, hown, htc⟩ := id S
  have hS : va_S A s9.heap s9.heap [] := va_S.rf
  have hl : lv_has ls 4 [(0, .ref (ad 0)), (1, .int (nI k)), (2, .int (mI a)), (3, .int (mI b))] := hl
  refine lv_aload_n hx hb d_g_gatherAncestors_0 rfl (lv_at hl 0 rfl) ?_
  refine va_get (D := D) (ci := 0) (v := .ref (ad 5)) (C := "SightGraph") (T := T_g) (N := 8) hx hb htc in_g hown hK hP 0 rfl rfl 6 (by decide) (htc _ k_1_24) (fun _ h9 => h9) rfl d_g_gatherAncestors_1 ?_
  refine lv_iload_n hx hb d_g_gatherAncestors_4 rfl (lv_at hl 1 rfl) ?_
  refine lv_iload_n hx hb d_g_gatherAncestors_5 rfl (lv_at hl 1 rfl) ?_
  refine lv_bipush (v := (nI 64)) hx hb d_g_gatherAncestors_6 (by decide) ?_
  refine nr_icmp_ge (tgt := 17) hx hb (by omega) (by omega) d_g_gatherAncestors_8 (by decide) (fun c_8 => ?_) (fun c_8 => ?_)
  · refine lv_lconst (v := 0) hx hb d_g_gatherAncestors_17 (by decide) ?_
    refine nr_top (w := .long (lN (bs (fun i => k == i) 64))) (congrArg Value.long (ga_lo0 (by omega))) ?_
    refine nr_last hx hb hK hP hD hS 5 1 rfl rfl (by omega) (by decide) d_g_gatherAncestors_18 (fun H locs hP hD hS => ?_)
    have hP : va_P D cls (gL cI cJ ad n ev (g.1, g.2.1, g.2.2.1, g.2.2.2.1, vp_updL g.2.2.2.2.1 k (lN (bs (fun i => k == i) 64)), g.2.2.2.2.2)) H := hP
    have hD : va_D A (gL cI cJ ad n ev (g.1, g.2.1, g.2.2.1, g.2.2.2.1, vp_updL g.2.2.2.2.1 k (lN (bs (fun i => k == i) 64)), g.2.2.2.2.2)) := hD
    refine lv_aload_n hx hb d_g_gatherAncestors_19 rfl (lv_at hl 0 rfl) ?_
    refine va_get (D := D) (ci := 0) (v := .ref (ad 6)) (C := "SightGraph") (T := T_g) (N := 8) hx hb htc in_g hown hK hP 0 rfl rfl 7 (by decide) (htc _ k_1_25) (fun _ h9 => h9) rfl d_g_gatherAncestors_20 ?_
    refine lv_iload_n hx hb d_g_gatherAncestors_23 rfl (lv_at hl 1 rfl) ?_
    refine lv_iload_n hx hb d_g_gatherAncestors_24 rfl (lv_at hl 1 rfl) ?_
    refine lv_bipush (v := (nI 64)) hx hb d_g_gatherAncestors_25 (by decide) ?_
    refine nr_icmp_ge (tgt := 34) hx hb (by omega) (by omega) d_g_gatherAncestors_27 (by decide) (fun c_27 => ?_) (fun c_27 => ?_)
    · refine lv_lconst (v := 1) hx hb d_g_gatherAncestors_34 (by decide) ?_
      refine lv_iload_n hx hb d_g_gatherAncestors_35 rfl (lv_at hl 1 rfl) ?_
      refine lv_bipush (v := (nI 64)) hx hb d_g_gatherAncestors_36 (by decide) ?_
      refine nr_isub hx hb d_g_gatherAncestors_38 (by omega) ?_
      refine lv_lshl hx hb d_g_gatherAncestors_39 rfl ?_
      refine nr_top (w := .long (lN (bs (fun i => k == 64 + i) 64))) (congrArg Value.long (ga_hi1 (by omega) (by omega))) ?_
      refine nr_last hx hb hK hP hD hS 6 1 rfl rfl (by omega) (by decide) d_g_gatherAncestors_40 (fun H locs hP hD hS => ?_)
      have hP : va_P D cls (gL cI cJ ad n ev (g.1, g.2.1, g.2.2.1, g.2.2.2.1, vp_updL g.2.2.2.2.1 k (lN (bs (fun i => k == i) 64)), vp_updL g.2.2.2.2.2 k (lN (bs (fun i => k == 64 + i) 64)))) H := hP
      have hD : va_D A (gL cI cJ ad n ev (g.1, g.2.1, g.2.2.1, g.2.2.2.1, vp_updL g.2.2.2.2.1 k (lN (bs (fun i => k == i) 64)), vp_updL g.2.2.2.2.2 k (lN (bs (fun i => k == 64 + i) 64)))) := hD
      refine lv_aload_n hx hb d_g_gatherAncestors_41 rfl (lv_at hl 0 rfl) ?_
      refine lv_iload_n hx hb d_g_gatherAncestors_42 rfl (lv_at hl 1 rfl) ?_
      refine lv_iload_n hx hb d_g_gatherAncestors_43 rfl (lv_at hl 2 rfl) ?_
      refine WV.callV (wr := []) (rest := []) S (c_g_addAncestorsOf l D cI cJ cZ ad n ev (g.1, g.2.1, g.2.2.1, g.2.2.2.1, vp_updL g.2.2.2.2.1 k (lN (bs (fun i => k == i) 64)), vp_updL g.2.2.2.2.2 k (lN (bs (fun i => k == 64 + i) 64))) an k a (fun i => k == i) (fun i => k == 64 + i) hk hak pk_uLs pk_uLs (fun q => ⟨(pk_uLn (by omega)).trans (hB (a - 1) (by omega)).1, (pk_uLn (by omega)).trans (hB (a - 1) (by omega)).2⟩)) k_1_167 k_1_169 k_s_6 k_1_1 k_1_170 h_g_addAncestorsOf ⟨Nat.le_of_ble_eq_true rfl, Nat.le_of_ble_eq_true rfl⟩ ⟨Nat.le_of_ble_eq_true rfl, Nat.le_of_ble_eq_true rfl⟩ hP hK hD hS hA [0, 1, 2, 3, 4, 5, 6] [] rfl rfl (by decide) (by decide) (by decide) 0 0 rfl rfl rfl hl.1 (Nat.le_of_ble_eq_true rfl) rfl d_g_gatherAncestors_44 (fun u44 H locs hu44 hP hD hS => ?_)
      have hP : va_P D cls (gL cI cJ ad n ev u44) H := hP
      have hD : va_D A (gL cI cJ ad n ev u44) := hD
      refine lv_aload_n hx hb d_g_gatherAncestors_47 rfl (lv_at hl 0 rfl) ?_
      refine lv_iload_n hx hb d_g_gatherAncestors_48 rfl (lv_at hl 1 rfl) ?_
      refine lv_iload_n hx hb d_g_gatherAncestors_49 rfl (lv_at hl 3 rfl) ?_
      refine WV.callV (wr := []) (rest := []) S (c_g_addAncestorsOf l D cI cJ cZ ad n ev u44 an k b (fun i => k == i || pa an a i) (fun i => k == 64 + i || pa an a (64 + i)) hk hbk hu44.2.2.2.2.2.1 hu44.2.2.2.2.2.2 (fun q => ⟨(hu44.2.2.2.2.1 (b - 1) (by omega)).1.trans ((pk_uLn (by omega)).trans (hB (b - 1) (by omega)).1), (hu44.2.2.2.2.1 (b - 1) (by omega)).2.trans ((pk_uLn (by omega)).trans (hB (b - 1) (by omega)).2)⟩)) k_1_167 k_1_169 k_s_6 k_1_1 k_1_170 h_g_addAncestorsOf ⟨Nat.le_of_ble_eq_true rfl, Nat.le_of_ble_eq_true rfl⟩ ⟨Nat.le_of_ble_eq_true rfl, Nat.le_of_ble_eq_true rfl⟩ hP hK hD hS hA [0, 1, 2, 3, 4, 5, 6] [] rfl rfl (by decide) (by decide) (by decide) 0 0 rfl rfl rfl hl.1 (Nat.le_of_ble_eq_true rfl) rfl d_g_gatherAncestors_50 (fun u50 H locs hu50 hP hD hS => ?_)
      have hP : va_P D cls (gL cI cJ ad n ev u50) H := hP
      have hD : va_D A (gL cI cJ ad n ev u50) := hD
      exact WV.ret hx hb hr hlocks hK hS d_g_gatherAncestors_53 u50 ⟨hu50.1.trans hu44.1, hu50.2.1.trans hu44.2.1, hu50.2.2.1.trans hu44.2.2.1, hu50.2.2.2.1.trans hu44.2.2.2.1, fun j hj => ⟨(hu50.2.2.2.2.1 j hj).1.trans ((hu44.2.2.2.2.1 j hj).1.trans (pk_uLn hj)), (hu50.2.2.2.2.1 j hj).2.trans ((hu44.2.2.2.2.1 j hj).2.trans (pk_uLn hj))⟩, hu50.2.2.2.2.2.1.trans (congrArg lN (bs_congr (fun i _ => by rw [Bool.or_assoc]))), hu50.2.2.2.2.2.2.trans (congrArg lN (bs_congr (fun i _ => by rw [Bool.or_assoc])))⟩ hP hD
    · refine lv_lconst (v := 0) hx hb d_g_gatherAncestors_30 (by decide) ?_
      refine lv_goto (tgt := 40) hx hb d_g_gatherAncestors_31 (by decide) ?_
      refine nr_top (w := .long (lN (bs (fun i => k == 64 + i) 64))) (congrArg Value.long (ga_hi0 (by omega))) ?_
      refine nr_last hx hb hK hP hD hS 6 1 rfl rfl (by omega) (by decide) d_g_gatherAncestors_40 (fun H locs hP hD hS => ?_)
      have hP : va_P D cls (gL cI cJ ad n ev (g.1, g.2.1, g.2.2.1, g.2.2.2.1, vp_updL g.2.2.2.2.1 k (lN (bs (fun i => k == i) 64)), vp_updL g.2.2.2.2.2 k (lN (bs (fun i => k == 64 + i) 64)))) H := hP
      have hD : va_D A (gL cI cJ ad n ev (g.1, g.2.1, g.2.2.1, g.2.2.2.1, vp_updL g.2.2.2.2.1 k (lN (bs (fun i => k == i) 64)), vp_updL g.2.2.2.2.2 k (lN (bs (fun i => k == 64 + i) 64)))) := hD
      refine lv_aload_n hx hb d_g_gatherAncestors_41 rfl (lv_at hl 0 rfl) ?_
      refine lv_iload_n hx hb d_g_gatherAncestors_42 rfl (lv_at hl 1 rfl) ?_
      refine lv_iload_n hx hb d_g_gatherAncestors_43 rfl (lv_at hl 2 rfl) ?_
      refine WV.callV (wr := []) (rest := []) S (c_g_addAncestorsOf l D cI cJ cZ ad n ev (g.1, g.2.1, g.2.2.1, g.2.2.2.1, vp_updL g.2.2.2.2.1 k (lN (bs (fun i => k == i) 64)), vp_updL g.2.2.2.2.2 k (lN (bs (fun i => k == 64 + i) 64))) an k a (fun i => k == i) (fun i => k == 64 + i) hk hak pk_uLs pk_uLs (fun q => ⟨(pk_uLn (by omega)).trans (hB (a - 1) (by omega)).1, (pk_uLn (by omega)).trans (hB (a - 1) (by omega)).2⟩)) k_1_167 k_1_169 k_s_6 k_1_1 k_1_170 h_g_addAncestorsOf ⟨Nat.le_of_ble_eq_true rfl, Nat.le_of_ble_eq_true rfl⟩ ⟨Nat.le_of_ble_eq_true rfl, Nat.le_of_ble_eq_true rfl⟩ hP hK hD hS hA [0, 1, 2, 3, 4, 5, 6] [] rfl rfl (by decide) (by decide) (by decide) 0 0 rfl rfl rfl hl.1 (Nat.le_of_ble_eq_true rfl) rfl d_g_gatherAncestors_44 (fun u44 H locs hu44 hP hD hS => ?_)
      have hP : va_P D cls (gL cI cJ ad n ev u44) H := hP
      have hD : va_D A (gL cI cJ ad n ev u44) := hD
      refine lv_aload_n hx hb d_g_gatherAncestors_47 rfl (lv_at hl 0 rfl) ?_
      refine lv_iload_n hx hb d_g_gatherAncestors_48 rfl (lv_at hl 1 rfl) ?_
      refine lv_iload_n hx hb d_g_gatherAncestors_49 rfl (lv_at hl 3 rfl) ?_
      refine WV.callV (wr := []) (rest := []) S (c_g_addAncestorsOf l D cI cJ cZ ad n ev u44 an k b (fun i => k == i || pa an a i) (fun i => k == 64 + i || pa an a (64 + i)) hk hbk hu44.2.2.2.2.2.1 hu44.2.2.2.2.2.2 (fun q => ⟨(hu44.2.2.2.2.1 (b - 1) (by omega)).1.trans ((pk_uLn (by omega)).trans (hB (b - 1) (by omega)).1), (hu44.2.2.2.2.1 (b - 1) (by omega)).2.trans ((pk_uLn (by omega)).trans (hB (b - 1) (by omega)).2)⟩)) k_1_167 k_1_169 k_s_6 k_1_1 k_1_170 h_g_addAncestorsOf ⟨Nat.le_of_ble_eq_true rfl, Nat.le_of_ble_eq_true rfl⟩ ⟨Nat.le_of_ble_eq_true rfl, Nat.le_of_ble_eq_true rfl⟩ hP hK hD hS hA [0, 1, 2, 3, 4, 5, 6] [] rfl rfl (by decide) (by decide) (by decide) 0 0 rfl rfl rfl hl.1 (Nat.le_of_ble_eq_true rfl) rfl d_g_gatherAncestors_50 (fun u50 H locs hu50 hP hD hS => ?_)
      have hP : va_P D cls (gL cI cJ ad n ev u50) H := hP
      have hD : va_D A (gL cI cJ ad n ev u50) := hD
      exact WV.ret hx hb hr hlocks hK hS d_g_gatherAncestors_53 u50 ⟨hu50.1.trans hu44.1, hu50.2.1.trans hu44.2.1, hu50.2.2.1.trans hu44.2.2.1, hu50.2.2.2.1.trans hu44.2.2.2.1, fun j hj => ⟨(hu50.2.2.2.2.1 j hj).1.trans ((hu44.2.2.2.2.1 j hj).1.trans (pk_uLn hj)), (hu50.2.2.2.2.1 j hj).2.trans ((hu44.2.2.2.2.1 j hj).2.trans (pk_uLn hj))⟩, hu50.2.2.2.2.2.1.trans (congrArg lN (bs_congr (fun i _ => by rw [Bool.or_assoc]))), hu50.2.2.2.2.2.2.trans (congrArg lN (bs_congr (fun i _ => by rw [Bool.or_assoc])))⟩ hP hD
  · refine lv_lconst (v := 1) hx hb d_g_gatherAncestors_11 (by decide) ?_
    refine lv_iload_n hx hb d_g_gatherAncestors_12 rfl (lv_at hl 1 rfl) ?_
    refine lv_lshl hx hb d_g_gatherAncestors_13 rfl ?_
    refine lv_goto (tgt := 18) hx hb d_g_gatherAncestors_14 (by decide) ?_
    refine nr_top (w := .long (lN (bs (fun i => k == i) 64))) (congrArg Value.long (ga_lo1 (by omega))) ?_
    refine nr_last hx hb hK hP hD hS 5 1 rfl rfl (by omega) (by decide) d_g_gatherAncestors_18 (fun H locs hP hD hS => ?_)
    have hP : va_P D cls (gL cI cJ ad n ev (g.1, g.2.1, g.2.2.1, g.2.2.2.1, vp_updL g.2.2.2.2.1 k (lN (bs (fun i => k == i) 64)), g.2.2.2.2.2)) H := hP
    have hD : va_D A (gL cI cJ ad n ev (g.1, g.2.1, g.2.2.1, g.2.2.2.1, vp_updL g.2.2.2.2.1 k (lN (bs (fun i => k == i) 64)), g.2.2.2.2.2)) := hD
    refine lv_aload_n hx hb d_g_gatherAncestors_19 rfl (lv_at hl 0 rfl) ?_
    refine va_get (D := D) (ci := 0) (v := .ref (ad 6)) (C := "SightGraph") (T := T_g) (N := 8) hx hb htc in_g hown hK hP 0 rfl rfl 7 (by decide) (htc _ k_1_25) (fun _ h9 => h9) rfl d_g_gatherAncestors_20 ?_
    refine lv_iload_n hx hb d_g_gatherAncestors_23 rfl (lv_at hl 1 rfl) ?_
    refine lv_iload_n hx hb d_g_gatherAncestors_24 rfl (lv_at hl 1 rfl) ?_
    refine lv_bipush (v := (nI 64)) hx hb d_g_gatherAncestors_25 (by decide) ?_
    refine nr_icmp_ge (tgt := 34) hx hb (by omega) (by omega) d_g_gatherAncestors_27 (by decide) (fun c_27 => ?_) (fun c_27 => ?_)
    · refine lv_lconst (v := 1) hx hb d_g_gatherAncestors_34 (by decide) ?_
      refine lv_iload_n hx hb d_g_gatherAncestors_35 rfl (lv_at hl 1 rfl) ?_
      refine lv_bipush (v := (nI 64)) hx hb d_g_gatherAncestors_36 (by decide) ?_
      refine nr_isub hx hb d_g_gatherAncestors_38 (by omega) ?_
      refine lv_lshl hx hb d_g_gatherAncestors_39 rfl ?_
      refine nr_top (w := .long (lN (bs (fun i => k == 64 + i) 64))) (congrArg Value.long (ga_hi1 (by omega) (by omega))) ?_
      refine nr_last hx hb hK hP hD hS 6 1 rfl rfl (by omega) (by decide) d_g_gatherAncestors_40 (fun H locs hP hD hS => ?_)
      have hP : va_P D cls (gL cI cJ ad n ev (g.1, g.2.1, g.2.2.1, g.2.2.2.1, vp_updL g.2.2.2.2.1 k (lN (bs (fun i => k == i) 64)), vp_updL g.2.2.2.2.2 k (lN (bs (fun i => k == 64 + i) 64)))) H := hP
      have hD : va_D A (gL cI cJ ad n ev (g.1, g.2.1, g.2.2.1, g.2.2.2.1, vp_updL g.2.2.2.2.1 k (lN (bs (fun i => k == i) 64)), vp_updL g.2.2.2.2.2 k (lN (bs (fun i => k == 64 + i) 64)))) := hD
      refine lv_aload_n hx hb d_g_gatherAncestors_41 rfl (lv_at hl 0 rfl) ?_
      refine lv_iload_n hx hb d_g_gatherAncestors_42 rfl (lv_at hl 1 rfl) ?_
      refine lv_iload_n hx hb d_g_gatherAncestors_43 rfl (lv_at hl 2 rfl) ?_
      refine WV.callV (wr := []) (rest := []) S (c_g_addAncestorsOf l D cI cJ cZ ad n ev (g.1, g.2.1, g.2.2.1, g.2.2.2.1, vp_updL g.2.2.2.2.1 k (lN (bs (fun i => k == i) 64)), vp_updL g.2.2.2.2.2 k (lN (bs (fun i => k == 64 + i) 64))) an k a (fun i => k == i) (fun i => k == 64 + i) hk hak pk_uLs pk_uLs (fun q => ⟨(pk_uLn (by omega)).trans (hB (a - 1) (by omega)).1, (pk_uLn (by omega)).trans (hB (a - 1) (by omega)).2⟩)) k_1_167 k_1_169 k_s_6 k_1_1 k_1_170 h_g_addAncestorsOf ⟨Nat.le_of_ble_eq_true rfl, Nat.le_of_ble_eq_true rfl⟩ ⟨Nat.le_of_ble_eq_true rfl, Nat.le_of_ble_eq_true rfl⟩ hP hK hD hS hA [0, 1, 2, 3, 4, 5, 6] [] rfl rfl (by decide) (by decide) (by decide) 0 0 rfl rfl rfl hl.1 (Nat.le_of_ble_eq_true rfl) rfl d_g_gatherAncestors_44 (fun u44 H locs hu44 hP hD hS => ?_)
      have hP : va_P D cls (gL cI cJ ad n ev u44) H := hP
      have hD : va_D A (gL cI cJ ad n ev u44) := hD
      refine lv_aload_n hx hb d_g_gatherAncestors_47 rfl (lv_at hl 0 rfl) ?_
      refine lv_iload_n hx hb d_g_gatherAncestors_48 rfl (lv_at hl 1 rfl) ?_
      refine lv_iload_n hx hb d_g_gatherAncestors_49 rfl (lv_at hl 3 rfl) ?_
      refine WV.callV (wr := []) (rest := []) S (c_g_addAncestorsOf l D cI cJ cZ ad n ev u44 an k b (fun i => k == i || pa an a i) (fun i => k == 64 + i || pa an a (64 + i)) hk hbk hu44.2.2.2.2.2.1 hu44.2.2.2.2.2.2 (fun q => ⟨(hu44.2.2.2.2.1 (b - 1) (by omega)).1.trans ((pk_uLn (by omega)).trans (hB (b - 1) (by omega)).1), (hu44.2.2.2.2.1 (b - 1) (by omega)).2.trans ((pk_uLn (by omega)).trans (hB (b - 1) (by omega)).2)⟩)) k_1_167 k_1_169 k_s_6 k_1_1 k_1_170 h_g_addAncestorsOf ⟨Nat.le_of_ble_eq_true rfl, Nat.le_of_ble_eq_true rfl⟩ ⟨Nat.le_of_ble_eq_true rfl, Nat.le_of_ble_eq_true rfl⟩ hP hK hD hS hA [0, 1, 2, 3, 4, 5, 6] [] rfl rfl (by decide) (by decide) (by decide) 0 0 rfl rfl rfl hl.1 (Nat.le_of_ble_eq_true rfl) rfl d_g_gatherAncestors_50 (fun u50 H locs hu50 hP hD hS => ?_)
      have hP : va_P D cls (gL cI cJ ad n ev u50) H := hP
      have hD : va_D A (gL cI cJ ad n ev u50) := hD
      exact WV.ret hx hb hr hlocks hK hS d_g_gatherAncestors_53 u50 ⟨hu50.1.trans hu44.1, hu50.2.1.trans hu44.2.1, hu50.2.2.1.trans hu44.2.2.1, hu50.2.2.2.1.trans hu44.2.2.2.1, fun j hj => ⟨(hu50.2.2.2.2.1 j hj).1.trans ((hu44.2.2.2.2.1 j hj).1.trans (pk_uLn hj)), (hu50.2.2.2.2.1 j hj).2.trans ((hu44.2.2.2.2.1 j hj).2.trans (pk_uLn hj))⟩, hu50.2.2.2.2.2.1.trans (congrArg lN (bs_congr (fun i _ => by rw [Bool.or_assoc]))), hu50.2.2.2.2.2.2.trans (congrArg lN (bs_congr (fun i _ => by rw [Bool.or_assoc])))⟩ hP hD
    · refine lv_lconst (v := 0) hx hb d_g_gatherAncestors_30 (by decide) ?_
      refine lv_goto (tgt := 40) hx hb d_g_gatherAncestors_31 (by decide) ?_
      refine nr_top (w := .long (lN (bs (fun i => k == 64 + i) 64))) (congrArg Value.long (ga_hi0 (by omega))) ?_
      refine nr_last hx hb hK hP hD hS 6 1 rfl rfl (by omega) (by decide) d_g_gatherAncestors_40 (fun H locs hP hD hS => ?_)
      have hP : va_P D cls (gL cI cJ ad n ev (g.1, g.2.1, g.2.2.1, g.2.2.2.1, vp_updL g.2.2.2.2.1 k (lN (bs (fun i => k == i) 64)), vp_updL g.2.2.2.2.2 k (lN (bs (fun i => k == 64 + i) 64)))) H := hP
      have hD : va_D A (gL cI cJ ad n ev (g.1, g.2.1, g.2.2.1, g.2.2.2.1, vp_updL g.2.2.2.2.1 k (lN (bs (fun i => k == i) 64)), vp_updL g.2.2.2.2.2 k (lN (bs (fun i => k == 64 + i) 64)))) := hD
      refine lv_aload_n hx hb d_g_gatherAncestors_41 rfl (lv_at hl 0 rfl) ?_
      refine lv_iload_n hx hb d_g_gatherAncestors_42 rfl (lv_at hl 1 rfl) ?_
      refine lv_iload_n hx hb d_g_gatherAncestors_43 rfl (lv_at hl 2 rfl) ?_
      refine WV.callV (wr := []) (rest := []) S (c_g_addAncestorsOf l D cI cJ cZ ad n ev (g.1, g.2.1, g.2.2.1, g.2.2.2.1, vp_updL g.2.2.2.2.1 k (lN (bs (fun i => k == i) 64)), vp_updL g.2.2.2.2.2 k (lN (bs (fun i => k == 64 + i) 64))) an k a (fun i => k == i) (fun i => k == 64 + i) hk hak pk_uLs pk_uLs (fun q => ⟨(pk_uLn (by omega)).trans (hB (a - 1) (by omega)).1, (pk_uLn (by omega)).trans (hB (a - 1) (by omega)).2⟩)) k_1_167 k_1_169 k_s_6 k_1_1 k_1_170 h_g_addAncestorsOf ⟨Nat.le_of_ble_eq_true rfl, Nat.le_of_ble_eq_true rfl⟩ ⟨Nat.le_of_ble_eq_true rfl, Nat.le_of_ble_eq_true rfl⟩ hP hK hD hS hA [0, 1, 2, 3, 4, 5, 6] [] rfl rfl (by decide) (by decide) (by decide) 0 0 rfl rfl rfl hl.1 (Nat.le_of_ble_eq_true rfl) rfl d_g_gatherAncestors_44 (fun u44 H locs hu44 hP hD hS => ?_)
      have hP : va_P D cls (gL cI cJ ad n ev u44) H := hP
      have hD : va_D A (gL cI cJ ad n ev u44) := hD
      refine lv_aload_n hx hb d_g_gatherAncestors_47 rfl (lv_at hl 0 rfl) ?_
      refine lv_iload_n hx hb d_g_gatherAncestors_48 rfl (lv_at hl 1 rfl) ?_
      refine lv_iload_n hx hb d_g_gatherAncestors_49 rfl (lv_at hl 3 rfl) ?_
      refine WV.callV (wr := []) (rest := []) S (c_g_addAncestorsOf l D cI cJ cZ ad n ev u44 an k b (fun i => k == i || pa an a i) (fun i => k == 64 + i || pa an a (64 + i)) hk hbk hu44.2.2.2.2.2.1 hu44.2.2.2.2.2.2 (fun q => ⟨(hu44.2.2.2.2.1 (b - 1) (by omega)).1.trans ((pk_uLn (by omega)).trans (hB (b - 1) (by omega)).1), (hu44.2.2.2.2.1 (b - 1) (by omega)).2.trans ((pk_uLn (by omega)).trans (hB (b - 1) (by omega)).2)⟩)) k_1_167 k_1_169 k_s_6 k_1_1 k_1_170 h_g_addAncestorsOf ⟨Nat.le_of_ble_eq_true rfl, Nat.le_of_ble_eq_true rfl⟩ ⟨Nat.le_of_ble_eq_true rfl, Nat.le_of_ble_eq_true rfl⟩ hP hK hD hS hA [0, 1, 2, 3, 4, 5, 6] [] rfl rfl (by decide) (by decide) (by decide) 0 0 rfl rfl rfl hl.1 (Nat.le_of_ble_eq_true rfl) rfl d_g_gatherAncestors_50 (fun u50 H locs hu50 hP hD hS => ?_)
      have hP : va_P D cls (gL cI cJ ad n ev u50) H := hP
      have hD : va_D A (gL cI cJ ad n ev u50) := hD
      exact WV.ret hx hb hr hlocks hK hS d_g_gatherAncestors_53 u50 ⟨hu50.1.trans hu44.1, hu50.2.1.trans hu44.2.1, hu50.2.2.1.trans hu44.2.2.1, hu50.2.2.2.1.trans hu44.2.2.2.1, fun j hj => ⟨(hu50.2.2.2.2.1 j hj).1.trans ((hu44.2.2.2.2.1 j hj).1.trans (pk_uLn hj)), (hu50.2.2.2.2.1 j hj).2.trans ((hu44.2.2.2.2.1 j hj).2.trans (pk_uLn hj))⟩, hu50.2.2.2.2.2.1.trans (congrArg lN (bs_congr (fun i _ => by rw [Bool.or_assoc]))), hu50.2.2.2.2.2.2.trans (congrArg lN (bs_congr (fun i _ => by rw [Bool.or_assoc])))⟩ hP hD
set_option maxHeartbeats 4000000 in
set_option maxRecDepth 100000 in
theorem c_g_begin_ok (l : Launch) (D : va_G) (cI cJ cZ : ClassId) (ad : Nat → Nat) (n ev : Nat) (g : GA) (v : Nat) (h1 : 2 ≤ v) (h2 : v ≤ 8) : WV (S := Unit) l D (tys cI cJ cZ) (gL cI cJ ad n ev g) (fun _ => gL cI cJ ad v 0 g) (fun _ => True) y_g_begin b_g_begin 2 0 0 [.ref (ad 0), .int (nI v)] := by
  refine WV.of (by decide) (Nat.le_of_ble_eq_true rfl) ?_
  intro p9 e9 s9 m args below meth c9 ls A S hr hlocks hA hP hK hD hl
  obtain ⟨hx, hb, hml, hown, htc⟩ := id S
  have hS : va_S A s9.heap s9.heap [] := va_S.rf
  have hl : lv_has ls 2 [(0, .ref (ad 0)), (1, .int (nI v))] := hl
  refine lv_iload_n hx hb d_g_begin_0 rfl (lv_at hl 1 rfl) ?_
  refine lv_iconst (v := (nI 2)) hx hb d_g_begin_1 (by decide) ?_
  refine nr_icmp_lt (tgt := 11) hx hb (by omega) (by omega) d_g_begin_2 (by decide) (fun c_2 => ?_) (fun c_2 => ?_)
  · exact absurd h1 (by omega)
  · refine lv_iload_n hx hb d_g_begin_5 rfl (lv_at hl 1 rfl) ?_
    refine lv_bipush (v := (nI 8)) hx hb d_g_begin_6 (by decide) ?_
    refine nr_icmp_le (tgt := 21) hx hb (by omega) (by omega) d_g_begin_8 (by decide) (fun c_8 => ?_) (fun c_8 => ?_)
    · refine lv_aload_n hx hb d_g_begin_21 rfl (lv_at hl 0 rfl) ?_
      refine lv_iload_n hx hb d_g_begin_22 rfl (lv_at hl 1 rfl) ?_
      refine va_put (D := D) (ci := 0) (v := .int (nI v)) (ty := .int) (C := "SightGraph") (T := T_g) (N := 8) hx hb htc in_g t_g ft_g fn_g hown hK hP hD hS 0 rfl rfl 0 (by decide) (htc _ k_1_18) (fun _ h9 => h9) rfl (by decide +kernel) rfl rfl (Nat.le_of_ble_eq_true rfl) d_g_begin_23 (fun H locs hP hD hS => ?_)
      have hP : va_P D cls (gL cI cJ ad v ev g) H := hP
      have hD : va_D A (gL cI cJ ad v ev g) := hD
      refine lv_aload_n hx hb d_g_begin_26 rfl (lv_at hl 0 rfl) ?_
      refine lv_iconst (v := (nI 0)) hx hb d_g_begin_27 (by decide) ?_
      refine va_put (D := D) (ci := 0) (v := .int (nI 0)) (ty := .int) (C := "SightGraph") (T := T_g) (N := 8) hx hb htc in_g t_g ft_g fn_g hown hK hP hD hS 0 rfl rfl 1 (by decide) (htc _ k_1_19) (fun _ h9 => h9) rfl (by decide +kernel) rfl rfl (Nat.le_of_ble_eq_true rfl) d_g_begin_28 (fun H locs hP hD hS => ?_)
      have hP : va_P D cls (gL cI cJ ad v 0 g) H := hP
      have hD : va_D A (gL cI cJ ad v 0 g) := hD
      exact WV.ret hx hb hr hlocks hK hS d_g_begin_31 () trivial hP hD
    · exact absurd h1 (by omega)
set_option maxHeartbeats 4000000 in
set_option maxRecDepth 100000 in
theorem c_g_begin_x (l : Launch) (D : va_G) (cI cJ cZ : ClassId) (ad : Nat → Nat) (n ev : Nat) (g : GA) (hl0 : l.stackTraces = false) (sa : Nat → Nat) (x : Int32) (hv : ¬ (2 ≤ x ∧ x ≤ 8)) : XT l D (tys cI cJ cZ) (gL cI cJ ad n ev g) sa y_g_begin b_g_begin 2 none 6 82 [.ref (ad 0), .int x] "java/lang/IllegalArgumentException" := by
  refine XT.of (by decide) (Nat.le_of_ble_eq_true rfl) ?_
  intro p9 e9 s9 m args below meth c9 ls S hr hlocks ht hP hK hTE hl
  obtain ⟨hx, hb, hml, hown, htc⟩ := id S
  have hl : lv_has ls 2 [(0, .ref (ad 0)), (1, .int x)] := hl
  refine lv_iload_n hx hb d_g_begin_0 rfl (lv_at hl 1 rfl) ?_
  refine lv_iconst (v := (nI 2)) hx hb d_g_begin_1 (by decide) ?_
  refine lv_icmp_lt (tgt := 11) hx hb d_g_begin_2 (by decide) (fun c_2 => ?_) (fun c_2 => ?_)
  · exact XT.thI hl0 S ht hTE hlocks hl.1 0 rfl ⟨Nat.le_of_ble_eq_true rfl, Nat.le_of_ble_eq_true rfl, Nat.le_of_ble_eq_true rfl, Nat.le_of_ble_eq_true rfl⟩ d_g_begin_11 d_g_begin_14 d_g_begin_15 d_g_begin_17 d_g_begin_20
  · refine lv_iload_n hx hb d_g_begin_5 rfl (lv_at hl 1 rfl) ?_
    refine lv_bipush (v := (nI 8)) hx hb d_g_begin_6 (by decide) ?_
    refine lv_icmp_le (tgt := 21) hx hb d_g_begin_8 (by decide) (fun c_8 => ?_) (fun c_8 => ?_)
    · exact absurd (⟨Int32.not_lt.mp c_2, c_8⟩ : nI 2 ≤ x ∧ x ≤ nI 8) hv
    · exact XT.thI hl0 S ht hTE hlocks hl.1 0 rfl ⟨Nat.le_of_ble_eq_true rfl, Nat.le_of_ble_eq_true rfl, Nat.le_of_ble_eq_true rfl, Nat.le_of_ble_eq_true rfl⟩ d_g_begin_11 d_g_begin_14 d_g_begin_15 d_g_begin_17 d_g_begin_20
end
section
section EV
variable {g u : GA} {c s o rd : Nat → Nat} {an ow fk : Nat → Nat → Bool} {ev n : Nat} {P1 P2 : Nat → Bool}
def g1 (g : GA) (ev a : Nat) (b : Nat) : GA := (upd g.1 ev (nI a), upd g.2.1 ev (mI b), g.2.2.1, g.2.2.2.1, g.2.2.2.2.1, g.2.2.2.2.2)
theorem ev_1 (hC : gC ev g c s an fk) (hu : gA ev (g1 g ev (c ev) (s ev)) u P1 P2) : gCs (ev + 1) u c s := by
  intro j hj
  by_cases e : j = ev
  · subst e
    exact ⟨by rw [hu.1]; exact pk_us, by rw [hu.2.1]; exact pk_us, trivial⟩
  · exact ⟨by rw [hu.1]; exact (pk_un e).trans (hC j (by omega)).1, by rw [hu.2.1]; exact (pk_un e).trans (hC j (by omega)).2.1, trivial⟩
theorem ev_lo (hLw : Lw (ev + 1) n c s o an ow) (hu : gA ev (g1 g ev (c ev) (s ev)) u (fun i => ev == i || (pa an (s ev) i || pa an (o ev) i)) (fun i => ev == 64 + i || (pa an (s ev) (64 + i) || pa an (o ev) (64 + i)))) : u.2.2.2.2.1 ev = lN (bs (an ev) 64) ∧ u.2.2.2.2.2 ev = lN (bs (fun i => an ev (64 + i)) 64) :=
  ⟨hu.2.2.2.2.2.1.trans (congrArg lN (bs_congr (fun i _ => ((hLw ev (by omega)).2.2.2.2.2.1 i).symm))), hu.2.2.2.2.2.2.trans (congrArg lN (bs_congr (fun i _ => ((hLw ev (by omega)).2.2.2.2.2.1 (64 + i)).symm)))⟩
theorem ev_2 (hLw : Lw (ev + 1) n c s o an ow) (hC : gC ev g c s an fk) (hu : gA ev (g1 g ev (c ev) (s ev)) u (fun i => ev == i || (pa an (s ev) i || pa an (o ev) i)) (fun i => ev == 64 + i || (pa an (s ev) (64 + i) || pa an (o ev) (64 + i)))) : ∀ r : Nat → Int32, gC (ev + 1) (u.1, u.2.1, r, upd u.2.2.2.1 ev (nI (bs (fk ev) 8)), u.2.2.2.2.1, u.2.2.2.2.2) c s an fk := by
  intro r j hj
  obtain ⟨h1, h2, -⟩ := ev_1 hC hu j hj
  refine ⟨h1, h2, ?_⟩
  by_cases e : j = ev
  · subst e
    exact ⟨pk_us, (ev_lo hLw hu).1, (ev_lo hLw hu).2⟩
  · obtain ⟨-, -, h3, h4, h5⟩ := hC j (by omega)
    exact ⟨(pk_un e).trans ((congrFun hu.2.2.2.1 j).trans h3), (hu.2.2.2.2.1 j e).1.trans h4, (hu.2.2.2.2.1 j e).2.trans h5⟩
theorem ev_3 (hR : gR ev g rd) (hu : gA ev (g1 g ev (c ev) (s ev)) u P1 P2) : ∀ f : Nat → Int32, gR ev (u.1, u.2.1, u.2.2.1, f, u.2.2.2.2.1, u.2.2.2.2.2) rd := fun f j hj => ⟨(congrFun hu.2.2.1 j).trans (hR j hj).1, (hR j hj).2⟩
theorem ev_4 (hR : gR ev g rd) (hu : gA ev (g1 g ev (c ev) (s ev)) u P1 P2) (hrb : rd ev ≤ ev + 1) : ∀ f : Nat → Int32, gR (ev + 1) (u.1, u.2.1, upd u.2.2.1 ev (nI (rd ev)), f, u.2.2.2.2.1, u.2.2.2.2.2) rd := by
  intro f j hj
  by_cases e : j = ev
  · subst e; exact ⟨pk_us, hrb⟩
  · exact ⟨(pk_un e).trans ((congrFun hu.2.2.1 j).trans (hR j (by omega)).1), (hR j (by omega)).2⟩
theorem ev_f (hLw : Lw (ev + 1) n c s o an ow) (hev : ev < 120) (hfk : ∀ m, fk ev m = fo (an ev) ow c (ev + 1) m) : bs (fF (bs (an ev) 64) (bs (fun i => an ev (64 + i)) 64) c s n) 8 = bs (fk ev) 8 := by
  rw [fF_fo (a := an ev) hLw (by omega) (fun i hi => wt_an hi) (fun i hi => by have := hLw.an_le ev (by omega) i hi; omega) (fun i hi q => (hLw.an_self ev (by omega) i hi).1 q)]
  exact bs_congr (fun m _ => (hfk m).symm)
end EV
theorem iv4 {x : Int32} (h : iv 4 x = false) : x.toInt < 0 ∨ 3 < x.toInt := by
  have h1 := of_decide_eq_false h
  rw [Int32.le_iff_toInt_le, Int32.lt_iff_toInt_lt, Int32.toInt_zero, nI_toInt (by decide)] at h1
  omega
set_option maxHeartbeats 4000000 in
set_option maxRecDepth 100000 in
theorem c_g_event_ok (l : Launch) (D : va_G) (cI cJ cZ : ClassId) (ad : Nat → Nat) (n ev : Nat) (g : GA) (c s o rd : Nat → Nat) (an ow fk : Nat → Nat → Bool) (hLw : Lw (ev + 1) n c s o an ow) (hC : gC ev g c s an fk) (hR : gR ev g rd) (hfk : ∀ m, fk ev m = fo (an ev) ow c (ev + 1) m) (hrd : rd ev = ro n an fk c s o rd ev) (hrb : rd ev ≤ ev + 1) (hn : n ≤ 8) (hev : ev < 120) (hS1 : okS ev c (c ev) (mI (s ev)) = true) (hO1 : okO ev c (c ev) (mI (o ev)) = true) : WI (S := GA) l D (tys cI cJ cZ) (gL cI cJ ad n ev g) (fun u => gL cI cJ ad n (ev + 1) u) (fun r u => r = nI ev ∧ gC (ev + 1) u c s an fk ∧ gR (ev + 1) u rd) y_g_event b_g_event 5 (some .int) 6 142 [.ref (ad 0), .int (nI (c ev)), .int (mI (s ev)), .int (mI (o ev))] := by
  refine WI.of (by decide) (Nat.le_of_ble_eq_true rfl) ?_
  intro p9 e9 s9 m args below meth c9 ls A S hr hlocks hA hP hK hD hl
  obtain ⟨hx, hb, hml, hown, htc⟩ := id S
  have hS : va_S A s9.heap s9.heap [] := va_S.rf
  have hl : lv_has ls 5 [(0, .ref (ad 0)), (1, .int (nI (c ev))), (2, .int (mI (s ev))), (3, .int (mI (o ev)))] := hl
  have hcn := (hLw ev (by omega)).1
  have hsv := (hLw ev (by omega)).2.1
  have hov := (hLw ev (by omega)).2.2.1
  refine lv_aload_n hx hb d_g_event_0 rfl (lv_at hl 0 rfl) ?_
  refine lv_iload_n hx hb d_g_event_1 rfl (lv_at hl 1 rfl) ?_
  refine PV.callV (rest := []) S (c_g_requireNode_ok l D cI cJ cZ ad n ev g hn (c ev) hcn) k_1_128 k_1_130 k_s_1 k_1_1 k_1_131 h_g_requireNode ⟨Nat.le_of_ble_eq_true rfl, Nat.le_of_ble_eq_true rfl⟩ ⟨Nat.le_of_ble_eq_true rfl, Nat.le_of_ble_eq_true rfl⟩ hP hK 0 0 rfl rfl rfl hl.1 (Nat.le_of_ble_eq_true rfl) rfl d_g_event_2 ?_
  refine lv_aload_n hx hb d_g_event_5 rfl (lv_at hl 0 rfl) ?_
  refine lv_iload_n hx hb d_g_event_6 rfl (lv_at hl 1 rfl) ?_
  refine lv_iload_n hx hb d_g_event_7 rfl (lv_at hl 2 rfl) ?_
  refine PM.callV (rest := []) S (c_g_mayBeSelfParent l D cI cJ cZ ad n ev g c s an fk ev (by omega) hC (fun i hi => by have := (hLw i (by omega)).1; omega) (Nat.le_refl ev) (c ev) (by omega) (mI (s ev))) k_1_133 k_1_135 k_s_2 k_1_1 k_1_136 h_g_mayBeSelfParent ⟨Nat.le_of_ble_eq_true rfl, Nat.le_of_ble_eq_true rfl⟩ ⟨Nat.le_of_ble_eq_true rfl, Nat.le_of_ble_eq_true rfl⟩ hP hK 0 0 rfl rfl rfl hl.1 (Nat.le_of_ble_eq_true rfl) rfl d_g_event_8 ?_
  refine nr_ifne_b (tgt := 24) hx hb d_g_event_11 (by decide) (fun c_11 => ?_) (fun c_11 => ?_)
  · refine lv_aload_n hx hb d_g_event_24 rfl (lv_at hl 0 rfl) ?_
    refine lv_iload_n hx hb d_g_event_25 rfl (lv_at hl 1 rfl) ?_
    refine lv_iload_n hx hb d_g_event_26 rfl (lv_at hl 3 rfl) ?_
    refine PM.callV (rest := []) S (c_g_mayBeOtherParent l D cI cJ cZ ad n ev g c s an fk ev (by omega) hC (fun i hi => by have := (hLw i (by omega)).1; omega) (Nat.le_refl ev) (c ev) (by omega) (mI (o ev))) k_1_142 k_1_144 k_s_4 k_1_1 k_1_145 h_g_mayBeOtherParent ⟨Nat.le_of_ble_eq_true rfl, Nat.le_of_ble_eq_true rfl⟩ ⟨Nat.le_of_ble_eq_true rfl, Nat.le_of_ble_eq_true rfl⟩ hP hK 0 0 rfl rfl rfl hl.1 (Nat.le_of_ble_eq_true rfl) rfl d_g_event_27 ?_
    refine nr_ifne_b (tgt := 43) hx hb d_g_event_30 (by decide) (fun c_30 => ?_) (fun c_30 => ?_)
    · refine lv_aload_n hx hb d_g_event_43 rfl (lv_at hl 0 rfl) ?_
      refine va_get (D := D) (ci := 0) (v := .int (nI ev)) (C := "SightGraph") (T := T_g) (N := 8) hx hb htc in_g hown hK hP 0 rfl rfl 1 (by decide) (htc _ k_1_19) (fun _ h9 => h9) rfl d_g_event_44 ?_
      refine lv_bipush (v := (nI 120)) hx hb d_g_event_47 (by decide) ?_
      refine nr_icmp_lt (tgt := 62) hx hb (by omega) (by omega) d_g_event_49 (by decide) (fun c_49 => ?_) (fun c_49 => ?_)
      · refine lv_aload_n hx hb d_g_event_62 rfl (lv_at hl 0 rfl) ?_
        refine va_get (D := D) (ci := 0) (v := .int (nI ev)) (C := "SightGraph") (T := T_g) (N := 8) hx hb htc in_g hown hK hP 0 rfl rfl 1 (by decide) (htc _ k_1_19) (fun _ h9 => h9) rfl d_g_event_63 ?_
        refine lv_istore (lv' := [(4, .int (nI ev)), (0, .ref (ad 0)), (1, .int (nI (c ev))), (2, .int (mI (s ev))), (3, .int (mI (o ev)))]) hx hb d_g_event_66 hl (by decide) rfl (fun ls hl => ?_)
        refine lv_aload_n hx hb d_g_event_68 rfl (lv_at hl 1 rfl) ?_
        refine va_get (D := D) (ci := 0) (v := .ref (ad 1)) (C := "SightGraph") (T := T_g) (N := 8) hx hb htc in_g hown hK hP 0 rfl rfl 2 (by decide) (htc _ k_1_20) (fun _ h9 => h9) rfl d_g_event_69 ?_
        refine lv_iload hx hb d_g_event_72 (lv_at hl 0 rfl) ?_
        refine lv_iload_n hx hb d_g_event_74 rfl (lv_at hl 2 rfl) ?_
        refine nr_iast hx hb hK hP hD hS 1 0 rfl rfl (by omega) (by decide) d_g_event_75 (fun H locs hP hD hS => ?_)
        have hP : va_P D cls (gL cI cJ ad n ev (upd g.1 ev (nI (c ev)), g.2.1, g.2.2.1, g.2.2.2.1, g.2.2.2.2.1, g.2.2.2.2.2)) H := hP
        have hD : va_D A (gL cI cJ ad n ev (upd g.1 ev (nI (c ev)), g.2.1, g.2.2.1, g.2.2.2.1, g.2.2.2.2.1, g.2.2.2.2.2)) := hD
        refine lv_aload_n hx hb d_g_event_76 rfl (lv_at hl 1 rfl) ?_
        refine va_get (D := D) (ci := 0) (v := .ref (ad 2)) (C := "SightGraph") (T := T_g) (N := 8) hx hb htc in_g hown hK hP 0 rfl rfl 3 (by decide) (htc _ k_1_21) (fun _ h9 => h9) rfl d_g_event_77 ?_
        refine lv_iload hx hb d_g_event_80 (lv_at hl 0 rfl) ?_
        refine lv_iload_n hx hb d_g_event_82 rfl (lv_at hl 3 rfl) ?_
        refine nr_iast hx hb hK hP hD hS 2 0 rfl rfl (by omega) (by decide) d_g_event_83 (fun H locs hP hD hS => ?_)
        have hP : va_P D cls (gL cI cJ ad n ev (upd g.1 ev (nI (c ev)), upd g.2.1 ev (mI (s ev)), g.2.2.1, g.2.2.2.1, g.2.2.2.2.1, g.2.2.2.2.2)) H := hP
        have hD : va_D A (gL cI cJ ad n ev (upd g.1 ev (nI (c ev)), upd g.2.1 ev (mI (s ev)), g.2.2.1, g.2.2.2.1, g.2.2.2.2.1, g.2.2.2.2.2)) := hD
        refine lv_aload_n hx hb d_g_event_84 rfl (lv_at hl 1 rfl) ?_
        refine lv_iload hx hb d_g_event_85 (lv_at hl 0 rfl) ?_
        refine lv_iload_n hx hb d_g_event_87 rfl (lv_at hl 3 rfl) ?_
        refine lv_iload_n hx hb d_g_event_88 rfl (lv_at hl 4 rfl) ?_
        refine WV.callV (wr := []) (rest := []) S (c_g_gatherAncestors l D cI cJ cZ ad n ev (upd g.1 ev (nI (c ev)), upd g.2.1 ev (mI (s ev)), g.2.2.1, g.2.2.2.1, g.2.2.2.2.1, g.2.2.2.2.2) an ev (s ev) (o ev) hev hsv hov (fun j hj => (hC j hj).2.2.2)) k_1_163 k_1_165 k_s_5 k_1_1 k_1_166 h_g_gatherAncestors ⟨Nat.le_of_ble_eq_true rfl, Nat.le_of_ble_eq_true rfl⟩ ⟨Nat.le_of_ble_eq_true rfl, Nat.le_of_ble_eq_true rfl⟩ hP hK hD hS hA [0, 1, 2, 3, 4, 5, 6] [] rfl rfl (by decide) (by decide) (by decide) 0 0 rfl rfl rfl hl.1 (Nat.le_of_ble_eq_true rfl) rfl d_g_event_89 (fun u89 H locs hu89 hP hD hS => ?_)
        have hP : va_P D cls (gL cI cJ ad n ev u89) H := hP
        have hD : va_D A (gL cI cJ ad n ev u89) := hD
        have hu89 : gA ev (g1 g ev (c ev) (s ev)) u89 (fun i => ev == i || (pa an (s ev) i || pa an (o ev) i)) (fun i => ev == 64 + i || (pa an (s ev) (64 + i) || pa an (o ev) (64 + i))) := hu89
        have hlh := ev_lo hLw hu89
        refine lv_aload_n hx hb d_g_event_92 rfl (lv_at hl 1 rfl) ?_
        refine va_get (D := D) (ci := 0) (v := .ref (ad 4)) (C := "SightGraph") (T := T_g) (N := 8) hx hb htc in_g hown hK hP 0 rfl rfl 5 (by decide) (htc _ k_1_23) (fun _ h9 => h9) rfl d_g_event_93 ?_
        refine lv_iload hx hb d_g_event_96 (lv_at hl 0 rfl) ?_
        refine lv_aload_n hx hb d_g_event_98 rfl (lv_at hl 1 rfl) ?_
        refine lv_aload_n hx hb d_g_event_99 rfl (lv_at hl 1 rfl) ?_
        refine va_get (D := D) (ci := 0) (v := .ref (ad 5)) (C := "SightGraph") (T := T_g) (N := 8) hx hb htc in_g hown hK hP 0 rfl rfl 6 (by decide) (htc _ k_1_24) (fun _ h9 => h9) rfl d_g_event_100 ?_
        refine lv_iload hx hb d_g_event_103 (lv_at hl 0 rfl) ?_
        refine nr_lald hx hb hK hP 5 1 rfl rfl (by omega) (by decide) (v := (lN (bs (an ev) 64))) hlh.1 d_g_event_105 ?_
        refine lv_aload_n hx hb d_g_event_106 rfl (lv_at hl 1 rfl) ?_
        refine va_get (D := D) (ci := 0) (v := .ref (ad 6)) (C := "SightGraph") (T := T_g) (N := 8) hx hb htc in_g hown hK hP 0 rfl rfl 7 (by decide) (htc _ k_1_25) (fun _ h9 => h9) rfl d_g_event_107 ?_
        refine lv_iload hx hb d_g_event_110 (lv_at hl 0 rfl) ?_
        refine nr_lald hx hb hK hP 6 1 rfl rfl (by omega) (by decide) (v := (lN (bs (fun i => an ev (64 + i)) 64))) hlh.2 d_g_event_112 ?_
        refine PM.callV (rest := [.int (nI ev), .ref (ad 4)]) S (c_g_forkersWithin l D cI cJ cZ ad n ev u89 c s (ev + 1) (by omega) (ev_1 hC hu89) (fun i hi => (hLw i hi).2.1) (fun i hi => by have := (hLw i hi).1; omega) (bs (an ev) 64) (bs (fun i => an ev (64 + i)) 64) (bs_lt _ 64) (bs_lt _ 64) (fun i h1 h2 => by rw [wt_an (by omega)] at h2; have := hLw.an_le ev (by omega) i h2; omega) hn) k_1_171 k_1_173 k_s_7 k_1_1 k_1_174 h_g_forkersWithin ⟨Nat.le_of_ble_eq_true rfl, Nat.le_of_ble_eq_true rfl⟩ ⟨Nat.le_of_ble_eq_true rfl, Nat.le_of_ble_eq_true rfl⟩ hP hK 0 0 rfl rfl rfl hl.1 (Nat.le_of_ble_eq_true rfl) rfl d_g_event_113 ?_
        refine nr_top (w := .int (nI (bs (fk ev) 8))) (congrArg (fun z => Value.int (nI z)) (ev_f hLw hev hfk)) ?_
        refine nr_iast hx hb hK hP hD hS 4 0 rfl rfl (by omega) (by decide) d_g_event_116 (fun H locs hP hD hS => ?_)
        have hP : va_P D cls (gL cI cJ ad n ev (u89.1, u89.2.1, u89.2.2.1, upd u89.2.2.2.1 ev (nI (bs (fk ev) 8)), u89.2.2.2.2.1, u89.2.2.2.2.2)) H := hP
        have hD : va_D A (gL cI cJ ad n ev (u89.1, u89.2.1, u89.2.2.1, upd u89.2.2.2.1 ev (nI (bs (fk ev) 8)), u89.2.2.2.2.1, u89.2.2.2.2.2)) := hD
        refine lv_aload_n hx hb d_g_event_117 rfl (lv_at hl 1 rfl) ?_
        refine va_get (D := D) (ci := 0) (v := .ref (ad 3)) (C := "SightGraph") (T := T_g) (N := 8) hx hb htc in_g hown hK hP 0 rfl rfl 4 (by decide) (htc _ k_1_22) (fun _ h9 => h9) rfl d_g_event_118 ?_
        refine lv_iload hx hb d_g_event_121 (lv_at hl 0 rfl) ?_
        refine lv_aload_n hx hb d_g_event_123 rfl (lv_at hl 1 rfl) ?_
        refine lv_iload hx hb d_g_event_124 (lv_at hl 0 rfl) ?_
        refine lv_iload_n hx hb d_g_event_126 rfl (lv_at hl 3 rfl) ?_
        refine lv_iload_n hx hb d_g_event_127 rfl (lv_at hl 4 rfl) ?_
        refine PM.callV (rest := [.int (nI ev), .ref (ad 3)]) S (c_g_roundFrom l D cI cJ cZ ad n ev (u89.1, u89.2.1, u89.2.2.1, upd u89.2.2.2.1 ev (nI (bs (fk ev) 8)), u89.2.2.2.2.1, u89.2.2.2.2.2) c s an fk (ev + 1) (by omega) (ev_2 hLw hC hu89 _) o ow hLw hn rd ev (by omega) (ev_3 hR hu89 _) ev (by omega) (by omega)) k_1_182 k_1_184 k_s_9 k_1_1 k_1_185 h_g_roundFrom ⟨Nat.le_of_ble_eq_true rfl, Nat.le_of_ble_eq_true rfl⟩ ⟨Nat.le_of_ble_eq_true rfl, Nat.le_of_ble_eq_true rfl⟩ hP hK 0 0 rfl rfl rfl hl.1 (Nat.le_of_ble_eq_true rfl) rfl d_g_event_128 ?_
        refine nr_top (w := .int (nI (rd ev))) (congrArg (fun z => Value.int (nI z)) hrd.symm) ?_
        refine nr_iast hx hb hK hP hD hS 3 0 rfl rfl (by omega) (by decide) d_g_event_131 (fun H locs hP hD hS => ?_)
        have hP : va_P D cls (gL cI cJ ad n ev (u89.1, u89.2.1, upd u89.2.2.1 ev (nI (rd ev)), upd u89.2.2.2.1 ev (nI (bs (fk ev) 8)), u89.2.2.2.2.1, u89.2.2.2.2.2)) H := hP
        have hD : va_D A (gL cI cJ ad n ev (u89.1, u89.2.1, upd u89.2.2.1 ev (nI (rd ev)), upd u89.2.2.2.1 ev (nI (bs (fk ev) 8)), u89.2.2.2.2.1, u89.2.2.2.2.2)) := hD
        refine lv_aload_n hx hb d_g_event_132 rfl (lv_at hl 1 rfl) ?_
        refine lv_iload hx hb d_g_event_133 (lv_at hl 0 rfl) ?_
        refine lv_iconst (v := (nI 1)) hx hb d_g_event_135 (by decide) ?_
        refine nr_iadd hx hb d_g_event_136 ?_
        refine va_put (D := D) (ci := 0) (v := .int (nI (ev + 1))) (ty := .int) (C := "SightGraph") (T := T_g) (N := 8) hx hb htc in_g t_g ft_g fn_g hown hK hP hD hS 0 rfl rfl 1 (by decide) (htc _ k_1_19) (fun _ h9 => h9) rfl (by decide +kernel) rfl rfl (Nat.le_of_ble_eq_true rfl) d_g_event_137 (fun H locs hP hD hS => ?_)
        have hP : va_P D cls (gL cI cJ ad n (ev + 1) (u89.1, u89.2.1, upd u89.2.2.1 ev (nI (rd ev)), upd u89.2.2.2.1 ev (nI (bs (fk ev) 8)), u89.2.2.2.2.1, u89.2.2.2.2.2)) H := hP
        have hD : va_D A (gL cI cJ ad n (ev + 1) (u89.1, u89.2.1, upd u89.2.2.1 ev (nI (rd ev)), upd u89.2.2.2.1 ev (nI (bs (fk ev) 8)), u89.2.2.2.2.1, u89.2.2.2.2.2)) := hD
        refine lv_iload hx hb d_g_event_140 (lv_at hl 0 rfl) ?_
        exact WI.iret hx hb hr hlocks hK hS d_g_event_142 (u89.1, u89.2.1, upd u89.2.2.1 ev (nI (rd ev)), upd u89.2.2.2.1 ev (nI (bs (fk ev) 8)), u89.2.2.2.2.1, u89.2.2.2.2.2) ⟨rfl, ev_2 hLw hC hu89 _, ev_4 hR hu89 hrb _⟩ hP hD
      · exact absurd c_49 (by omega)
    · exact absurd hO1 (by rw [c_30]; decide)
  · exact absurd hS1 (by rw [c_11]; decide)
set_option maxHeartbeats 4000000 in
set_option maxRecDepth 100000 in
theorem c_g_event_x1 (l : Launch) (D : va_G) (cI cJ cZ : ClassId) (ad : Nat → Nat) (n ev : Nat) (g : GA) (hl0 : l.stackTraces = false) (sa : Nat → Nat) (x a b : Int32) (hx1 : iv n x = false) : XT l D (tys cI cJ cZ) (gL cI cJ ad n ev g) sa y_g_event b_g_event 5 (some .int) 7 103 [.ref (ad 0), .int x, .int a, .int b] "java/lang/IllegalArgumentException" := by
  refine XT.of (by decide) (Nat.le_of_ble_eq_true rfl) ?_
  intro p9 e9 s9 m args below meth c9 ls S hr hlocks ht hP hK hTE hl
  obtain ⟨hx, hb, hml, hown, htc⟩ := id S
  have hl : lv_has ls 5 [(0, .ref (ad 0)), (1, .int x), (2, .int a), (3, .int b)] := hl
  refine lv_aload_n hx hb d_g_event_0 rfl (lv_at hl 0 rfl) ?_
  refine lv_iload_n hx hb d_g_event_1 rfl (lv_at hl 1 rfl) ?_
  exact XT.pass (rest := []) S (c_g_requireNode_x l D cI cJ cZ ad n ev g hl0 sa x hx1) k_1_128 k_1_130 k_s_1 k_1_1 k_1_131 h_g_requireNode ⟨Nat.le_of_ble_eq_true rfl, Nat.le_of_ble_eq_true rfl⟩ ⟨Nat.le_of_ble_eq_true rfl, Nat.le_of_ble_eq_true rfl⟩ hP hK hTE ht hlocks 0 0 rfl rfl rfl hl.1 (Nat.le_of_ble_eq_true rfl) rfl d_g_event_2
set_option maxHeartbeats 4000000 in
set_option maxRecDepth 100000 in
theorem c_g_event_x2 (l : Launch) (D : va_G) (cI cJ cZ : ClassId) (ad : Nat → Nat) (n ev : Nat) (g : GA) (hl0 : l.stackTraces = false) (sa : Nat → Nat) (c s : Nat → Nat) (an fk : Nat → Nat → Bool) (hevb : ev ≤ 120) (hC : gC ev g c s an fk) (hc0 : ∀ i, i < ev → c i < 8) (hn : n ≤ 8) (nd : Nat) (hnd : nd < n) (a b : Int32) (h1 : okS ev c nd a = false) : XT l D (tys cI cJ cZ) (gL cI cJ ad n ev g) sa y_g_event b_g_event 5 (some .int) 7 103 [.ref (ad 0), .int (nI nd), .int a, .int b] "java/lang/IllegalArgumentException" := by
  refine XT.of (by decide) (Nat.le_of_ble_eq_true rfl) ?_
  intro p9 e9 s9 m args below meth c9 ls S hr hlocks ht hP hK hTE hl
  obtain ⟨hx, hb, hml, hown, htc⟩ := id S
  have hl : lv_has ls 5 [(0, .ref (ad 0)), (1, .int (nI nd)), (2, .int a), (3, .int b)] := hl
  refine lv_aload_n hx hb d_g_event_0 rfl (lv_at hl 0 rfl) ?_
  refine lv_iload_n hx hb d_g_event_1 rfl (lv_at hl 1 rfl) ?_
  refine PV.callV (rest := []) S (c_g_requireNode_ok l D cI cJ cZ ad n ev g hn nd hnd) k_1_128 k_1_130 k_s_1 k_1_1 k_1_131 h_g_requireNode ⟨Nat.le_of_ble_eq_true rfl, Nat.le_of_ble_eq_true rfl⟩ ⟨Nat.le_of_ble_eq_true rfl, Nat.le_of_ble_eq_true rfl⟩ hP hK 0 0 rfl rfl rfl hl.1 (Nat.le_of_ble_eq_true rfl) rfl d_g_event_2 ?_
  refine lv_aload_n hx hb d_g_event_5 rfl (lv_at hl 0 rfl) ?_
  refine lv_iload_n hx hb d_g_event_6 rfl (lv_at hl 1 rfl) ?_
  refine lv_iload_n hx hb d_g_event_7 rfl (lv_at hl 2 rfl) ?_
  refine PM.callV (rest := []) S (c_g_mayBeSelfParent l D cI cJ cZ ad n ev g c s an fk ev hevb hC hc0 (Nat.le_refl ev) nd (by omega) a) k_1_133 k_1_135 k_s_2 k_1_1 k_1_136 h_g_mayBeSelfParent ⟨Nat.le_of_ble_eq_true rfl, Nat.le_of_ble_eq_true rfl⟩ ⟨Nat.le_of_ble_eq_true rfl, Nat.le_of_ble_eq_true rfl⟩ hP hK 0 0 rfl rfl rfl hl.1 (Nat.le_of_ble_eq_true rfl) rfl d_g_event_8 ?_
  refine nr_ifne_b (tgt := 24) hx hb d_g_event_11 (by decide) (fun c_11 => ?_) (fun c_11 => ?_)
  · exact absurd c_11 (by rw [h1]; decide)
  · exact XT.thI hl0 S ht hTE hlocks hl.1 2 rfl ⟨Nat.le_of_ble_eq_true rfl, Nat.le_of_ble_eq_true rfl, Nat.le_of_ble_eq_true rfl, Nat.le_of_ble_eq_true rfl⟩ d_g_event_14 d_g_event_17 d_g_event_18 d_g_event_20 d_g_event_23
set_option maxHeartbeats 4000000 in
set_option maxRecDepth 100000 in
theorem c_g_event_x3 (l : Launch) (D : va_G) (cI cJ cZ : ClassId) (ad : Nat → Nat) (n ev : Nat) (g : GA) (hl0 : l.stackTraces = false) (sa : Nat → Nat) (c s : Nat → Nat) (an fk : Nat → Nat → Bool) (hevb : ev ≤ 120) (hC : gC ev g c s an fk) (hc0 : ∀ i, i < ev → c i < 8) (hn : n ≤ 8) (nd : Nat) (hnd : nd < n) (a b : Int32) (h1 : okS ev c nd a = true) (h2 : okO ev c nd b = false) : XT l D (tys cI cJ cZ) (gL cI cJ ad n ev g) sa y_g_event b_g_event 5 (some .int) 7 103 [.ref (ad 0), .int (nI nd), .int a, .int b] "java/lang/IllegalArgumentException" := by
  refine XT.of (by decide) (Nat.le_of_ble_eq_true rfl) ?_
  intro p9 e9 s9 m args below meth c9 ls S hr hlocks ht hP hK hTE hl
  obtain ⟨hx, hb, hml, hown, htc⟩ := id S
  have hl : lv_has ls 5 [(0, .ref (ad 0)), (1, .int (nI nd)), (2, .int a), (3, .int b)] := hl
  refine lv_aload_n hx hb d_g_event_0 rfl (lv_at hl 0 rfl) ?_
  refine lv_iload_n hx hb d_g_event_1 rfl (lv_at hl 1 rfl) ?_
  refine PV.callV (rest := []) S (c_g_requireNode_ok l D cI cJ cZ ad n ev g hn nd hnd) k_1_128 k_1_130 k_s_1 k_1_1 k_1_131 h_g_requireNode ⟨Nat.le_of_ble_eq_true rfl, Nat.le_of_ble_eq_true rfl⟩ ⟨Nat.le_of_ble_eq_true rfl, Nat.le_of_ble_eq_true rfl⟩ hP hK 0 0 rfl rfl rfl hl.1 (Nat.le_of_ble_eq_true rfl) rfl d_g_event_2 ?_
  refine lv_aload_n hx hb d_g_event_5 rfl (lv_at hl 0 rfl) ?_
  refine lv_iload_n hx hb d_g_event_6 rfl (lv_at hl 1 rfl) ?_
  refine lv_iload_n hx hb d_g_event_7 rfl (lv_at hl 2 rfl) ?_
  refine PM.callV (rest := []) S (c_g_mayBeSelfParent l D cI cJ cZ ad n ev g c s an fk ev hevb hC hc0 (Nat.le_refl ev) nd (by omega) a) k_1_133 k_1_135 k_s_2 k_1_1 k_1_136 h_g_mayBeSelfParent ⟨Nat.le_of_ble_eq_true rfl, Nat.le_of_ble_eq_true rfl⟩ ⟨Nat.le_of_ble_eq_true rfl, Nat.le_of_ble_eq_true rfl⟩ hP hK 0 0 rfl rfl rfl hl.1 (Nat.le_of_ble_eq_true rfl) rfl d_g_event_8 ?_
  refine nr_ifne_b (tgt := 24) hx hb d_g_event_11 (by decide) (fun c_11 => ?_) (fun c_11 => ?_)
  · refine lv_aload_n hx hb d_g_event_24 rfl (lv_at hl 0 rfl) ?_
    refine lv_iload_n hx hb d_g_event_25 rfl (lv_at hl 1 rfl) ?_
    refine lv_iload_n hx hb d_g_event_26 rfl (lv_at hl 3 rfl) ?_
    refine PM.callV (rest := []) S (c_g_mayBeOtherParent l D cI cJ cZ ad n ev g c s an fk ev hevb hC hc0 (Nat.le_refl ev) nd (by omega) b) k_1_142 k_1_144 k_s_4 k_1_1 k_1_145 h_g_mayBeOtherParent ⟨Nat.le_of_ble_eq_true rfl, Nat.le_of_ble_eq_true rfl⟩ ⟨Nat.le_of_ble_eq_true rfl, Nat.le_of_ble_eq_true rfl⟩ hP hK 0 0 rfl rfl rfl hl.1 (Nat.le_of_ble_eq_true rfl) rfl d_g_event_27 ?_
    refine nr_ifne_b (tgt := 43) hx hb d_g_event_30 (by decide) (fun c_30 => ?_) (fun c_30 => ?_)
    · exact absurd c_30 (by rw [h2]; decide)
    · exact XT.thI hl0 S ht hTE hlocks hl.1 3 rfl ⟨Nat.le_of_ble_eq_true rfl, Nat.le_of_ble_eq_true rfl, Nat.le_of_ble_eq_true rfl, Nat.le_of_ble_eq_true rfl⟩ d_g_event_33 d_g_event_36 d_g_event_37 d_g_event_39 d_g_event_42
  · exact absurd c_11 (by rw [h1]; decide)
set_option maxHeartbeats 4000000 in
set_option maxRecDepth 100000 in
theorem c_g_event_x4 (l : Launch) (D : va_G) (cI cJ cZ : ClassId) (ad : Nat → Nat) (n ev : Nat) (g : GA) (hl0 : l.stackTraces = false) (sa : Nat → Nat) (c s : Nat → Nat) (an fk : Nat → Nat → Bool) (hevb : ev ≤ 120) (hC : gC ev g c s an fk) (hc0 : ∀ i, i < ev → c i < 8) (hn : n ≤ 8) (nd : Nat) (hnd : nd < n) (a b : Int32) (h1 : okS ev c nd a = true) (h2 : okO ev c nd b = true) (h3 : ev = 120) : XT l D (tys cI cJ cZ) (gL cI cJ ad n ev g) sa y_g_event b_g_event 5 (some .int) 7 103 [.ref (ad 0), .int (nI nd), .int a, .int b] "java/lang/IndexOutOfBoundsException" := by
  refine XT.of (by decide) (Nat.le_of_ble_eq_true rfl) ?_
  intro p9 e9 s9 m args below meth c9 ls S hr hlocks ht hP hK hTE hl
  obtain ⟨hx, hb, hml, hown, htc⟩ := id S
  have hl : lv_has ls 5 [(0, .ref (ad 0)), (1, .int (nI nd)), (2, .int a), (3, .int b)] := hl
  refine lv_aload_n hx hb d_g_event_0 rfl (lv_at hl 0 rfl) ?_
  refine lv_iload_n hx hb d_g_event_1 rfl (lv_at hl 1 rfl) ?_
  refine PV.callV (rest := []) S (c_g_requireNode_ok l D cI cJ cZ ad n ev g hn nd hnd) k_1_128 k_1_130 k_s_1 k_1_1 k_1_131 h_g_requireNode ⟨Nat.le_of_ble_eq_true rfl, Nat.le_of_ble_eq_true rfl⟩ ⟨Nat.le_of_ble_eq_true rfl, Nat.le_of_ble_eq_true rfl⟩ hP hK 0 0 rfl rfl rfl hl.1 (Nat.le_of_ble_eq_true rfl) rfl d_g_event_2 ?_
  refine lv_aload_n hx hb d_g_event_5 rfl (lv_at hl 0 rfl) ?_
  refine lv_iload_n hx hb d_g_event_6 rfl (lv_at hl 1 rfl) ?_
  refine lv_iload_n hx hb d_g_event_7 rfl (lv_at hl 2 rfl) ?_
  refine PM.callV (rest := []) S (c_g_mayBeSelfParent l D cI cJ cZ ad n ev g c s an fk ev hevb hC hc0 (Nat.le_refl ev) nd (by omega) a) k_1_133 k_1_135 k_s_2 k_1_1 k_1_136 h_g_mayBeSelfParent ⟨Nat.le_of_ble_eq_true rfl, Nat.le_of_ble_eq_true rfl⟩ ⟨Nat.le_of_ble_eq_true rfl, Nat.le_of_ble_eq_true rfl⟩ hP hK 0 0 rfl rfl rfl hl.1 (Nat.le_of_ble_eq_true rfl) rfl d_g_event_8 ?_
  refine nr_ifne_b (tgt := 24) hx hb d_g_event_11 (by decide) (fun c_11 => ?_) (fun c_11 => ?_)
  · refine lv_aload_n hx hb d_g_event_24 rfl (lv_at hl 0 rfl) ?_
    refine lv_iload_n hx hb d_g_event_25 rfl (lv_at hl 1 rfl) ?_
    refine lv_iload_n hx hb d_g_event_26 rfl (lv_at hl 3 rfl) ?_
    refine PM.callV (rest := []) S (c_g_mayBeOtherParent l D cI cJ cZ ad n ev g c s an fk ev hevb hC hc0 (Nat.le_refl ev) nd (by omega) b) k_1_142 k_1_144 k_s_4 k_1_1 k_1_145 h_g_mayBeOtherParent ⟨Nat.le_of_ble_eq_true rfl, Nat.le_of_ble_eq_true rfl⟩ ⟨Nat.le_of_ble_eq_true rfl, Nat.le_of_ble_eq_true rfl⟩ hP hK 0 0 rfl rfl rfl hl.1 (Nat.le_of_ble_eq_true rfl) rfl d_g_event_27 ?_
    refine nr_ifne_b (tgt := 43) hx hb d_g_event_30 (by decide) (fun c_30 => ?_) (fun c_30 => ?_)
    · refine lv_aload_n hx hb d_g_event_43 rfl (lv_at hl 0 rfl) ?_
      refine va_get (D := D) (ci := 0) (v := .int (nI ev)) (C := "SightGraph") (T := T_g) (N := 8) hx hb htc in_g hown hK hP 0 rfl rfl 1 (by decide) (htc _ k_1_19) (fun _ h9 => h9) rfl d_g_event_44 ?_
      refine lv_bipush (v := (nI 120)) hx hb d_g_event_47 (by decide) ?_
      refine nr_icmp_lt (tgt := 62) hx hb (by omega) (by omega) d_g_event_49 (by decide) (fun c_49 => ?_) (fun c_49 => ?_)
      · exact absurd c_49 (by omega)
      · exact XT.thB hl0 S ht hTE hlocks hl.1 4 rfl ⟨Nat.le_of_ble_eq_true rfl, Nat.le_of_ble_eq_true rfl, Nat.le_of_ble_eq_true rfl, Nat.le_of_ble_eq_true rfl⟩ d_g_event_52 d_g_event_55 d_g_event_56 d_g_event_58 d_g_event_61
    · exact absurd c_30 (by rw [h2]; decide)
  · exact absurd c_11 (by rw [h1]; decide)
set_option maxHeartbeats 4000000 in
set_option maxRecDepth 100000 in
theorem c_g_count_0 (l : Launch) (D : va_G) (cI cJ cZ : ClassId) (ad : Nat → Nat) (n ev : Nat) (g : GA)  : PM l D (tys cI cJ cZ) (gL cI cJ ad n ev g) y_g_count b_g_count 2 (some .int) 0 0 [.ref (ad 0), .int (nI 0)] (nI ev) := by
  refine PM.of (by decide) (Nat.le_of_ble_eq_true rfl) ?_
  intro p9 e9 s9 m args below meth c9 ls S hr hlocks hP hK hl
  obtain ⟨hx, hb, hml, hown, htc⟩ := id S
  have hl : lv_has ls 2 [(0, .ref (ad 0)), (1, .int (nI 0))] := hl
  refine lv_iload_n hx hb d_g_count_0 rfl (lv_at hl 1 rfl) ?_
  refine lv_tableIn (off := 31) (tgt := 32) hx hb d_g_count_1 (by decide) (by decide) (by decide) (by decide) ?_
  refine lv_aload_n hx hb d_g_count_32 rfl (lv_at hl 0 rfl) ?_
  refine va_get (D := D) (ci := 0) (v := .int (nI ev)) (C := "SightGraph") (T := T_g) (N := 8) hx hb htc in_g hown hK hP 0 rfl rfl 1 (by decide) (htc _ k_1_19) (fun _ h9 => h9) rfl d_g_count_33 ?_
  exact PM.iret hx hb hr hlocks d_g_count_36 rfl
set_option maxHeartbeats 4000000 in
set_option maxRecDepth 100000 in
theorem c_g_count_1 (l : Launch) (D : va_G) (cI cJ cZ : ClassId) (ad : Nat → Nat) (n ev : Nat) (g : GA)  : PM l D (tys cI cJ cZ) (gL cI cJ ad n ev g) y_g_count b_g_count 2 (some .int) 0 0 [.ref (ad 0), .int (nI 1)] (nI n) := by
  refine PM.of (by decide) (Nat.le_of_ble_eq_true rfl) ?_
  intro p9 e9 s9 m args below meth c9 ls S hr hlocks hP hK hl
  obtain ⟨hx, hb, hml, hown, htc⟩ := id S
  have hl : lv_has ls 2 [(0, .ref (ad 0)), (1, .int (nI 1))] := hl
  refine lv_iload_n hx hb d_g_count_0 rfl (lv_at hl 1 rfl) ?_
  refine lv_tableIn (off := 36) (tgt := 37) hx hb d_g_count_1 (by decide) (by decide) (by decide) (by decide) ?_
  refine lv_aload_n hx hb d_g_count_37 rfl (lv_at hl 0 rfl) ?_
  refine va_get (D := D) (ci := 0) (v := .int (nI n)) (C := "SightGraph") (T := T_g) (N := 8) hx hb htc in_g hown hK hP 0 rfl rfl 0 (by decide) (htc _ k_1_18) (fun _ h9 => h9) rfl d_g_count_38 ?_
  exact PM.iret hx hb hr hlocks d_g_count_41 rfl
set_option maxHeartbeats 4000000 in
set_option maxRecDepth 100000 in
theorem c_g_count_2 (l : Launch) (D : va_G) (cI cJ cZ : ClassId) (ad : Nat → Nat) (n ev : Nat) (g : GA) (c s : Nat → Nat) (K : Nat) (hKb : K ≤ 120) (hC : gCs K g c s) (hs0 : ∀ i, i < K → s i ≤ i) (hc0 : ∀ i, i < K → c i < 8) (hn : n ≤ 8) (hev : ev ≤ K) : PM l D (tys cI cJ cZ) (gL cI cJ ad n ev g) y_g_count b_g_count 2 (some .int) 4 100 [.ref (ad 0), .int (nI 2)] (nI (cn 8 (bs (fF (lb ev) (lb (ev - 64)) c s n) 8).testBit)) := by
  refine PM.of (by decide) (Nat.le_of_ble_eq_true rfl) ?_
  intro p9 e9 s9 m args below meth c9 ls S hr hlocks hP hK hl
  obtain ⟨hx, hb, hml, hown, htc⟩ := id S
  have hl : lv_has ls 2 [(0, .ref (ad 0)), (1, .int (nI 2))] := hl
  refine lv_iload_n hx hb d_g_count_0 rfl (lv_at hl 1 rfl) ?_
  refine lv_tableIn (off := 41) (tgt := 42) hx hb d_g_count_1 (by decide) (by decide) (by decide) (by decide) ?_
  refine lv_aload_n hx hb d_g_count_42 rfl (lv_at hl 0 rfl) ?_
  refine PM.callV (rest := []) S (c_g_forkersOfAll l D cI cJ cZ ad n ev g c s K hKb hC hs0 hc0 hn hev) k_2_54 k_2_56 k_s_18 k_1_1 k_2_57 h_g_forkersOfAll ⟨Nat.le_of_ble_eq_true rfl, Nat.le_of_ble_eq_true rfl⟩ ⟨Nat.le_of_ble_eq_true rfl, Nat.le_of_ble_eq_true rfl⟩ hP hK 0 0 rfl rfl rfl hl.1 (Nat.le_of_ble_eq_true rfl) rfl d_g_count_43 ?_
  refine PM.callS (rest := []) S (c_j_bitCount l D cI cJ cZ ad n ev g _ (bs_lt _ 8)) k_1_216 k_1_217 k_1_9 k_1_218 h_j_bitCount ⟨Nat.le_of_ble_eq_true rfl, Nat.le_of_ble_eq_true rfl⟩ ⟨Nat.le_of_ble_eq_true rfl, Nat.le_of_ble_eq_true rfl⟩ hP hK hl.1 (Nat.le_of_ble_eq_true rfl) rfl d_g_count_46 ?_
  exact PM.iret hx hb hr hlocks d_g_count_49 rfl
set_option maxHeartbeats 4000000 in
set_option maxRecDepth 100000 in
theorem c_g_count_3 (l : Launch) (D : va_G) (cI cJ cZ : ClassId) (ad : Nat → Nat) (n ev : Nat) (g : GA) (rd : Nat → Nat) (KR : Nat) (hKR : KR ≤ 120) (hR : gR KR g rd) (hev : ev ≤ KR) : PM l D (tys cI cJ cZ) (gL cI cJ ad n ev g) y_g_count b_g_count 2 (some .int) 2 42 [.ref (ad 0), .int (nI 3)] (nI (gr rd ev)) := by
  refine PM.of (by decide) (Nat.le_of_ble_eq_true rfl) ?_
  intro p9 e9 s9 m args below meth c9 ls S hr hlocks hP hK hl
  obtain ⟨hx, hb, hml, hown, htc⟩ := id S
  have hl : lv_has ls 2 [(0, .ref (ad 0)), (1, .int (nI 3))] := hl
  refine lv_iload_n hx hb d_g_count_0 rfl (lv_at hl 1 rfl) ?_
  refine lv_tableIn (off := 49) (tgt := 50) hx hb d_g_count_1 (by decide) (by decide) (by decide) (by decide) ?_
  refine lv_aload_n hx hb d_g_count_50 rfl (lv_at hl 0 rfl) ?_
  refine PM.callV (rest := []) S (c_g_greatestRound l D cI cJ cZ ad n ev g rd KR hKR hR hev) k_2_62 k_2_64 k_s_19 k_1_1 k_2_65 h_g_greatestRound ⟨Nat.le_of_ble_eq_true rfl, Nat.le_of_ble_eq_true rfl⟩ ⟨Nat.le_of_ble_eq_true rfl, Nat.le_of_ble_eq_true rfl⟩ hP hK 0 0 rfl rfl rfl hl.1 (Nat.le_of_ble_eq_true rfl) rfl d_g_count_51 ?_
  exact PM.iret hx hb hr hlocks d_g_count_54 rfl
set_option maxHeartbeats 4000000 in
set_option maxRecDepth 100000 in
theorem c_g_count_x (l : Launch) (D : va_G) (cI cJ cZ : ClassId) (ad : Nat → Nat) (n ev : Nat) (g : GA) (hl0 : l.stackTraces = false) (sa : Nat → Nat) (x : Int32) (hx1 : iv 4 x = false) : XT l D (tys cI cJ cZ) (gL cI cJ ad n ev g) sa y_g_count b_g_count 2 (some .int) 6 82 [.ref (ad 0), .int x] "java/lang/IllegalArgumentException" := by
  refine XT.of (by decide) (Nat.le_of_ble_eq_true rfl) ?_
  intro p9 e9 s9 m args below meth c9 ls S hr hlocks ht hP hK hTE hl
  obtain ⟨hx, hb, hml, hown, htc⟩ := id S
  have hl : lv_has ls 2 [(0, .ref (ad 0)), (1, .int x)] := hl
  refine lv_iload_n hx hb d_g_count_0 rfl (lv_at hl 1 rfl) ?_
  refine lv_tableOut (tgt := 55) hx hb d_g_count_1 (iv4 hx1) (by decide) ?_
  exact XT.thI hl0 S ht hTE hlocks hl.1 6 rfl ⟨Nat.le_of_ble_eq_true rfl, Nat.le_of_ble_eq_true rfl, Nat.le_of_ble_eq_true rfl, Nat.le_of_ble_eq_true rfl⟩ d_g_count_55 d_g_count_58 d_g_count_59 d_g_count_61 d_g_count_64
end
section
theorem ra_i {s : State} {cA cB : ClassId} (h1 : va_RA s cA .int) (h2 : va_RA s cB .int) : cA = cB := Option.some.inj ((va_nm_int h1).symm.trans (va_nm_int h2))
theorem ra_l {s : State} {cA cB : ClassId} (h1 : va_RA s cA .long) (h2 : va_RA s cB .long) : cA = cB := Option.some.inj ((va_nm_long h1).symm.trans (va_nm_long h2))
theorem ra_z {s : State} {cA cB : ClassId} (h1 : va_RA s cA .boolean) (h2 : va_RA s cB .boolean) : cA = cB := Option.some.inj ((va_nm_boolean h1).symm.trans (va_nm_boolean h2))
/-- a new array: its class is the one that the tables name -/
theorem nr_newa {p : Program} {l : Launch} {e : Env} {R : Room} {s : State} {m : MethodId} {args : Array Value} {below : List Frame} {meth : Method} {c : Code} {H : Heap} {locs : List Loc} {cells slots : Nat} {Q : State → Prop} {cc : ByteArray} {pc : Nat} {ls : Array Slot} {rest : List Value} {D : va_G} {cl : List vw_C} {ws : va_W} {tys : List (ClassId × FieldType)} {A : Nat → Prop} {H0 : Heap}
    (hx : p.tables.exec = Jvm.exec) (hb : c.code = cc) {atype : ArrayType} {ty : FieldType} (harr : (Cond.arrayClass (newarray.typeOf atype)).before args s = true) (hty : newarray.typeOf atype = ty) (hK : va_K D cl tys s) (hP : va_P D cl ws H) (hD : va_D A ws) (hS : va_S A H0 H locs) (hA : ∀ q, H0.size ≤ q → A q) (t0 : Nat) {cT : ClassId} (ht : tys[t0]? = some (cT, ty)) (hu : ∀ cA, va_RA s cA ty → cA = cT)
    {N : Nat} {a0 : vp_A} (ha : ∀ cA : ClassId, vp_cell cA a0 = arrV cA N (fun _ => defaultValue ty)) (hN : N < 2 ^ 31) (hbytes : N * componentBytes ty ≤ 536870912) (hcells : cells + 1 ≤ R.cells) (hslots : slots + N ≤ R.slots) (d : decode cc pc = .ok (.newarray atype, 2))
    (k : ∀ (q : Nat) (H1 : Heap), va_P D cl (ws ++ [(q, .inl (cT, a0))]) H1 → va_D A (ws ++ [(q, .inl (cT, a0))]) → va_S A H0 H1 locs → W p l e R s m args below meth c H1 locs (cells + 1) (slots + N) Q (F0 m (pc + 2) ls (.ref q :: rest))) : W p l e R s m args below meth c H locs cells slots Q (F0 m pc ls (.int (nI N) :: rest)) := by
  refine va_newa hx hb harr hty hK hP hD hS hA ha (nI_pos hN) (nI_clamp hN) hbytes hcells hslots d (fun q cA H1 hK1 hP1 hD1 hS1 => ?_)
  have e1 : cA = cT := hu cA (hK1.2 tys.length (cA, ty) (by simp)).2
  subst e1
  exact k q H1 hP1 hD1 hS1
/-- a constructor: it makes mc cells of ms slots -/
def WN {S : Type} (l : Launch) (D : va_G) (tys : List (ClassId × FieldType)) (ws : va_W) (w' : S → va_W) (post : S → Prop) (y : MethodName) (bs : ByteArray) (mL : Nat) (f lo mc ms : Nat) (av : List Value) : Prop :=
  ∀ sz : Nat, Met l y (Cond.code y bs mL none :: Cw) ({ frames := f, cells := mc, slots := ms, locals := lo }) (va_Pc av (wS D tys ws sz)) (va_Qv post (wB D tys w' (va_A ws sz)) (va_A ws sz)) mc ms (va_A ws sz)
theorem WN.of {S : Type} {l : Launch} {D : va_G} {tys : List (ClassId × FieldType)} {ws : va_W} {w' : S → va_W} {post : S → Prop} {y : MethodName} {bs : ByteArray} {mL : Nat} {f lo mc ms : Nat} {av : List Value} (hy : plainName y.cls = true) (hi : y.name = "<init>") (hn : (lg_sl av).length ≤ mL)
    (body : ∀ (p : Program) (e : Env) (s : State) (m : MethodId) (args : Array Value) (below : List Frame) (meth : Method) (c : Code) (ls : Array Slot) (A : Nat → Prop), CallFix p m c bs mL s args Cw y.cls → meth.sig.returnType = none → meth.locks = false → meth.name = "<init>" → (∀ q : Nat, s.heap.size ≤ q → A q) → va_P D cls ws s.heap → va_K D cls tys s → va_D A ws → lv_has ls mL (lv_args 0 av) →
      W p l e ({ frames := f, cells := mc, slots := ms, locals := lo }) s m args below meth c s.heap [] 0 0 (MQ below (va_Qv post (wB D tys w' A) A) args s mc ms A) (F0 m 0 ls [])) : WN l D tys ws w' post y bs mL f lo mc ms av := by
  intro sz
  refine Met.ofW (cc := bs) (maxL := mL) (ret := none) hy rfl ?_
  intro p e s m args below meth c s₁ B hml hv
  obtain ⟨rfl, hsz, ⟨hP, hK⟩, hD0⟩ := hv
  subst hsz
  have hD := hD0.self (sz := s.heap.size)
  have hts := atoms_spec (ws := Cond.code y bs mL none :: Cw) B.pre
  have hl := lv_entry av (n := mL) hn
  rw [lg_entry_eq]
  exact body p e s m _ below meth c _ (va_A ws s.heap.size) ⟨B.exec, B.bytes, hml, findClass_of_methodNamed B.named, fun w hw => hts w (List.mem_cons_of_mem _ hw)⟩ B.returns B.notSynchronized (by rw [← hi]; exact (name_of_methodNamed B.named B.method).1) (fun q h => Or.inr h) hP hK hD hl
/-! the reference's cells: creator, self, other, rounds, todo, above, forks -/
abbrev RA : Type := (Nat → Int32) × (Nat → Int32) × (Nat → Int32) × (Nat → Int32) × (Nat → Int32) × (Nat → Int32) × (Nat → Int32)
def rL (cI cZ : ClassId) (ad : Nat → Nat) (er : Int32) (n ev : Nat) (r : RA) : va_W := [(ad 0, .inr (1, [.int er, .int (nI n), .int (nI ev), .ref (ad 1), .ref (ad 2), .ref (ad 3), .ref (ad 4), .ref (ad 5), .ref (ad 6), .ref (ad 7)])), (ad 1, .inl (cI, 120, .inl r.1)), (ad 2, .inl (cI, 120, .inl r.2.1)), (ad 3, .inl (cI, 120, .inl r.2.2.1)), (ad 4, .inl (cI, 120, .inl r.2.2.2.1)), (ad 5, .inl (cI, 242, .inl r.2.2.2.2.1)), (ad 6, .inl (cZ, 14400, .inl r.2.2.2.2.2.1)), (ad 7, .inl (cZ, 960, .inl r.2.2.2.2.2.2))]
def zg : GA := (fun _ => 0, fun _ => 0, fun _ => 0, fun _ => 0, fun _ => 0, fun _ => 0)
def zr : RA := (fun _ => 0, fun _ => 0, fun _ => 0, fun _ => 0, fun _ => 0, fun _ => 0, fun _ => 0)
set_option maxHeartbeats 4000000 in
set_option maxRecDepth 100000 in
theorem c_g_init (l : Launch) (D : va_G) (cI cJ cZ : ClassId) (h0 : Nat) : WN (S := Nat → Nat) l D (tys cI cJ cZ) [(h0, .inr (0, [.int 0, .int 0, .null, .null, .null, .null, .null, .null]))] (fun ad => gL cI cJ ad 4 0 zg) (fun ad => ad 0 = h0) y_g_init b_g_init 1 1 12 6 720 [.ref h0] := by
  refine WN.of (by decide) rfl (Nat.le_of_ble_eq_true rfl) ?_
  intro p9 e9 s9 m args below meth c9 ls A S hr hlocks hin hA hP hK hD hl
  obtain ⟨hx, hb, hml, hown, htc⟩ := id S
  have hS : va_S A s9.heap s9.heap [] := va_S.rf
  have hl : lv_has ls 1 [(0, .ref h0)] := hl
  refine lv_aload_n hx hb d_g_init_0 rfl (lv_at hl 0 rfl) ?_
  refine W.objInit hx hb hown (htc _ k_1_15) (htc _ k_1_16) (htc _ k_1_17) rfl (by rw [hml]; exact hl.1) rfl d_g_init_1 (Nat.le_of_ble_eq_true rfl) (Nat.le_of_ble_eq_true rfl) ?_
  refine W.eq (g2 := F0 m 4 ls []) rfl ?_
  refine lv_aload_n hx hb d_g_init_4 rfl (lv_at hl 0 rfl) ?_
  refine lv_iconst (v := nI 4) hx hb d_g_init_5 (by decide) ?_
  refine va_put (D := D) (ci := 0) (v := .int (nI 4)) (ty := .int) (C := "SightGraph") (T := T_g) (N := 8) hx hb htc in_g t_g ft_g fn_g hown hK hP hD hS 0 rfl rfl 0 (by decide) (htc _ k_1_18) (fun _ h9 => h9) rfl (by decide +kernel) rfl rfl (Nat.le_of_ble_eq_true rfl) d_g_init_6 (fun H locs hP hD hS => ?_)
  have hP : va_P D cls [(h0, .inr (0, [.int (nI 4), .int 0, .null, .null, .null, .null, .null, .null]))] H := hP
  have hD : va_D A [(h0, .inr (0, [.int (nI 4), .int 0, .null, .null, .null, .null, .null, .null]))] := hD
  refine lv_aload_n hx hb d_g_init_9 rfl (lv_at hl 0 rfl) ?_
  refine lv_iconst (v := nI 0) hx hb d_g_init_10 (by decide) ?_
  refine va_put (D := D) (ci := 0) (v := .int (nI 0)) (ty := .int) (C := "SightGraph") (T := T_g) (N := 8) hx hb htc in_g t_g ft_g fn_g hown hK hP hD hS 0 rfl rfl 1 (by decide) (htc _ k_1_19) (fun _ h9 => h9) rfl (by decide +kernel) rfl rfl (Nat.le_of_ble_eq_true rfl) d_g_init_11 (fun H locs hP hD hS => ?_)
  have hP : va_P D cls [(h0, .inr (0, [.int (nI 4), .int (nI 0), .null, .null, .null, .null, .null, .null]))] H := hP
  have hD : va_D A [(h0, .inr (0, [.int (nI 4), .int (nI 0), .null, .null, .null, .null, .null, .null]))] := hD
  refine lv_aload_n hx hb d_g_init_14 rfl (lv_at hl 0 rfl) ?_
  refine lv_bipush (v := nI 120) hx hb d_g_init_15 (by decide) ?_
  refine nr_newa hx hb (atype := .int) (htc _ k_1_43) rfl hK hP hD hS hA 0 rfl (fun cA h => ra_i h (hK.2 0 _ rfl).2) (N := 120) (a0 := (120, .inl (fun _ => 0))) (fun _ => rfl) (by decide) (by decide) (Nat.le_of_ble_eq_true rfl) (Nat.le_of_ble_eq_true rfl) d_g_init_17 (fun q1 H hP hD hS => ?_)
  have hP : va_P D cls [(h0, .inr (0, [.int (nI 4), .int (nI 0), .null, .null, .null, .null, .null, .null])), (q1, .inl (cI, 120, .inl (fun _ => 0)))] H := hP
  have hD : va_D A [(h0, .inr (0, [.int (nI 4), .int (nI 0), .null, .null, .null, .null, .null, .null])), (q1, .inl (cI, 120, .inl (fun _ => 0)))] := hD
  refine va_putF (D := D) (ci := 0) (v := .ref q1) (ty := .array .int) (C := "SightGraph") (T := T_g) (N := 8) hx hb htc in_g t_g ft_g fn_g hown hK hP hD hS 0 rfl rfl 2 (by decide) (htc _ k_1_20) (fun _ h9 => h9) rfl hin rfl (by decide +kernel) rfl rfl (Nat.le_of_ble_eq_true rfl) d_g_init_19 (fun H locs hP hD hS => ?_)
  have hP : va_P D cls [(h0, .inr (0, [.int (nI 4), .int (nI 0), .ref q1, .null, .null, .null, .null, .null])), (q1, .inl (cI, 120, .inl (fun _ => 0)))] H := hP
  have hD : va_D A [(h0, .inr (0, [.int (nI 4), .int (nI 0), .ref q1, .null, .null, .null, .null, .null])), (q1, .inl (cI, 120, .inl (fun _ => 0)))] := hD
  refine lv_aload_n hx hb d_g_init_22 rfl (lv_at hl 0 rfl) ?_
  refine lv_bipush (v := nI 120) hx hb d_g_init_23 (by decide) ?_
  refine nr_newa hx hb (atype := .int) (htc _ k_1_43) rfl hK hP hD hS hA 0 rfl (fun cA h => ra_i h (hK.2 0 _ rfl).2) (N := 120) (a0 := (120, .inl (fun _ => 0))) (fun _ => rfl) (by decide) (by decide) (Nat.le_of_ble_eq_true rfl) (Nat.le_of_ble_eq_true rfl) d_g_init_25 (fun q2 H hP hD hS => ?_)
  have hP : va_P D cls [(h0, .inr (0, [.int (nI 4), .int (nI 0), .ref q1, .null, .null, .null, .null, .null])), (q1, .inl (cI, 120, .inl (fun _ => 0))), (q2, .inl (cI, 120, .inl (fun _ => 0)))] H := hP
  have hD : va_D A [(h0, .inr (0, [.int (nI 4), .int (nI 0), .ref q1, .null, .null, .null, .null, .null])), (q1, .inl (cI, 120, .inl (fun _ => 0))), (q2, .inl (cI, 120, .inl (fun _ => 0)))] := hD
  refine va_putF (D := D) (ci := 0) (v := .ref q2) (ty := .array .int) (C := "SightGraph") (T := T_g) (N := 8) hx hb htc in_g t_g ft_g fn_g hown hK hP hD hS 0 rfl rfl 3 (by decide) (htc _ k_1_21) (fun _ h9 => h9) rfl hin rfl (by decide +kernel) rfl rfl (Nat.le_of_ble_eq_true rfl) d_g_init_27 (fun H locs hP hD hS => ?_)
  have hP : va_P D cls [(h0, .inr (0, [.int (nI 4), .int (nI 0), .ref q1, .ref q2, .null, .null, .null, .null])), (q1, .inl (cI, 120, .inl (fun _ => 0))), (q2, .inl (cI, 120, .inl (fun _ => 0)))] H := hP
  have hD : va_D A [(h0, .inr (0, [.int (nI 4), .int (nI 0), .ref q1, .ref q2, .null, .null, .null, .null])), (q1, .inl (cI, 120, .inl (fun _ => 0))), (q2, .inl (cI, 120, .inl (fun _ => 0)))] := hD
  refine lv_aload_n hx hb d_g_init_30 rfl (lv_at hl 0 rfl) ?_
  refine lv_bipush (v := nI 120) hx hb d_g_init_31 (by decide) ?_
  refine nr_newa hx hb (atype := .int) (htc _ k_1_43) rfl hK hP hD hS hA 0 rfl (fun cA h => ra_i h (hK.2 0 _ rfl).2) (N := 120) (a0 := (120, .inl (fun _ => 0))) (fun _ => rfl) (by decide) (by decide) (Nat.le_of_ble_eq_true rfl) (Nat.le_of_ble_eq_true rfl) d_g_init_33 (fun q3 H hP hD hS => ?_)
  have hP : va_P D cls [(h0, .inr (0, [.int (nI 4), .int (nI 0), .ref q1, .ref q2, .null, .null, .null, .null])), (q1, .inl (cI, 120, .inl (fun _ => 0))), (q2, .inl (cI, 120, .inl (fun _ => 0))), (q3, .inl (cI, 120, .inl (fun _ => 0)))] H := hP
  have hD : va_D A [(h0, .inr (0, [.int (nI 4), .int (nI 0), .ref q1, .ref q2, .null, .null, .null, .null])), (q1, .inl (cI, 120, .inl (fun _ => 0))), (q2, .inl (cI, 120, .inl (fun _ => 0))), (q3, .inl (cI, 120, .inl (fun _ => 0)))] := hD
  refine va_putF (D := D) (ci := 0) (v := .ref q3) (ty := .array .int) (C := "SightGraph") (T := T_g) (N := 8) hx hb htc in_g t_g ft_g fn_g hown hK hP hD hS 0 rfl rfl 4 (by decide) (htc _ k_1_22) (fun _ h9 => h9) rfl hin rfl (by decide +kernel) rfl rfl (Nat.le_of_ble_eq_true rfl) d_g_init_35 (fun H locs hP hD hS => ?_)
  have hP : va_P D cls [(h0, .inr (0, [.int (nI 4), .int (nI 0), .ref q1, .ref q2, .ref q3, .null, .null, .null])), (q1, .inl (cI, 120, .inl (fun _ => 0))), (q2, .inl (cI, 120, .inl (fun _ => 0))), (q3, .inl (cI, 120, .inl (fun _ => 0)))] H := hP
  have hD : va_D A [(h0, .inr (0, [.int (nI 4), .int (nI 0), .ref q1, .ref q2, .ref q3, .null, .null, .null])), (q1, .inl (cI, 120, .inl (fun _ => 0))), (q2, .inl (cI, 120, .inl (fun _ => 0))), (q3, .inl (cI, 120, .inl (fun _ => 0)))] := hD
  refine lv_aload_n hx hb d_g_init_38 rfl (lv_at hl 0 rfl) ?_
  refine lv_bipush (v := nI 120) hx hb d_g_init_39 (by decide) ?_
  refine nr_newa hx hb (atype := .int) (htc _ k_1_43) rfl hK hP hD hS hA 0 rfl (fun cA h => ra_i h (hK.2 0 _ rfl).2) (N := 120) (a0 := (120, .inl (fun _ => 0))) (fun _ => rfl) (by decide) (by decide) (Nat.le_of_ble_eq_true rfl) (Nat.le_of_ble_eq_true rfl) d_g_init_41 (fun q4 H hP hD hS => ?_)
  have hP : va_P D cls [(h0, .inr (0, [.int (nI 4), .int (nI 0), .ref q1, .ref q2, .ref q3, .null, .null, .null])), (q1, .inl (cI, 120, .inl (fun _ => 0))), (q2, .inl (cI, 120, .inl (fun _ => 0))), (q3, .inl (cI, 120, .inl (fun _ => 0))), (q4, .inl (cI, 120, .inl (fun _ => 0)))] H := hP
  have hD : va_D A [(h0, .inr (0, [.int (nI 4), .int (nI 0), .ref q1, .ref q2, .ref q3, .null, .null, .null])), (q1, .inl (cI, 120, .inl (fun _ => 0))), (q2, .inl (cI, 120, .inl (fun _ => 0))), (q3, .inl (cI, 120, .inl (fun _ => 0))), (q4, .inl (cI, 120, .inl (fun _ => 0)))] := hD
  refine va_putF (D := D) (ci := 0) (v := .ref q4) (ty := .array .int) (C := "SightGraph") (T := T_g) (N := 8) hx hb htc in_g t_g ft_g fn_g hown hK hP hD hS 0 rfl rfl 5 (by decide) (htc _ k_1_23) (fun _ h9 => h9) rfl hin rfl (by decide +kernel) rfl rfl (Nat.le_of_ble_eq_true rfl) d_g_init_43 (fun H locs hP hD hS => ?_)
  have hP : va_P D cls [(h0, .inr (0, [.int (nI 4), .int (nI 0), .ref q1, .ref q2, .ref q3, .ref q4, .null, .null])), (q1, .inl (cI, 120, .inl (fun _ => 0))), (q2, .inl (cI, 120, .inl (fun _ => 0))), (q3, .inl (cI, 120, .inl (fun _ => 0))), (q4, .inl (cI, 120, .inl (fun _ => 0)))] H := hP
  have hD : va_D A [(h0, .inr (0, [.int (nI 4), .int (nI 0), .ref q1, .ref q2, .ref q3, .ref q4, .null, .null])), (q1, .inl (cI, 120, .inl (fun _ => 0))), (q2, .inl (cI, 120, .inl (fun _ => 0))), (q3, .inl (cI, 120, .inl (fun _ => 0))), (q4, .inl (cI, 120, .inl (fun _ => 0)))] := hD
  refine lv_aload_n hx hb d_g_init_46 rfl (lv_at hl 0 rfl) ?_
  refine lv_bipush (v := nI 120) hx hb d_g_init_47 (by decide) ?_
  refine nr_newa hx hb (atype := .long) (htc _ k_1_44) rfl hK hP hD hS hA 1 rfl (fun cA h => ra_l h (hK.2 1 _ rfl).2) (N := 120) (a0 := (120, .inr (.inl (fun _ => 0)))) (fun _ => rfl) (by decide) (by decide) (Nat.le_of_ble_eq_true rfl) (Nat.le_of_ble_eq_true rfl) d_g_init_49 (fun q5 H hP hD hS => ?_)
  have hP : va_P D cls [(h0, .inr (0, [.int (nI 4), .int (nI 0), .ref q1, .ref q2, .ref q3, .ref q4, .null, .null])), (q1, .inl (cI, 120, .inl (fun _ => 0))), (q2, .inl (cI, 120, .inl (fun _ => 0))), (q3, .inl (cI, 120, .inl (fun _ => 0))), (q4, .inl (cI, 120, .inl (fun _ => 0))), (q5, .inl (cJ, 120, .inr (.inl (fun _ => 0))))] H := hP
  have hD : va_D A [(h0, .inr (0, [.int (nI 4), .int (nI 0), .ref q1, .ref q2, .ref q3, .ref q4, .null, .null])), (q1, .inl (cI, 120, .inl (fun _ => 0))), (q2, .inl (cI, 120, .inl (fun _ => 0))), (q3, .inl (cI, 120, .inl (fun _ => 0))), (q4, .inl (cI, 120, .inl (fun _ => 0))), (q5, .inl (cJ, 120, .inr (.inl (fun _ => 0))))] := hD
  refine va_putF (D := D) (ci := 0) (v := .ref q5) (ty := .array .long) (C := "SightGraph") (T := T_g) (N := 8) hx hb htc in_g t_g ft_g fn_g hown hK hP hD hS 0 rfl rfl 6 (by decide) (htc _ k_1_24) (fun _ h9 => h9) rfl hin rfl (by decide +kernel) rfl rfl (Nat.le_of_ble_eq_true rfl) d_g_init_51 (fun H locs hP hD hS => ?_)
  have hP : va_P D cls [(h0, .inr (0, [.int (nI 4), .int (nI 0), .ref q1, .ref q2, .ref q3, .ref q4, .ref q5, .null])), (q1, .inl (cI, 120, .inl (fun _ => 0))), (q2, .inl (cI, 120, .inl (fun _ => 0))), (q3, .inl (cI, 120, .inl (fun _ => 0))), (q4, .inl (cI, 120, .inl (fun _ => 0))), (q5, .inl (cJ, 120, .inr (.inl (fun _ => 0))))] H := hP
  have hD : va_D A [(h0, .inr (0, [.int (nI 4), .int (nI 0), .ref q1, .ref q2, .ref q3, .ref q4, .ref q5, .null])), (q1, .inl (cI, 120, .inl (fun _ => 0))), (q2, .inl (cI, 120, .inl (fun _ => 0))), (q3, .inl (cI, 120, .inl (fun _ => 0))), (q4, .inl (cI, 120, .inl (fun _ => 0))), (q5, .inl (cJ, 120, .inr (.inl (fun _ => 0))))] := hD
  refine lv_aload_n hx hb d_g_init_54 rfl (lv_at hl 0 rfl) ?_
  refine lv_bipush (v := nI 120) hx hb d_g_init_55 (by decide) ?_
  refine nr_newa hx hb (atype := .long) (htc _ k_1_44) rfl hK hP hD hS hA 1 rfl (fun cA h => ra_l h (hK.2 1 _ rfl).2) (N := 120) (a0 := (120, .inr (.inl (fun _ => 0)))) (fun _ => rfl) (by decide) (by decide) (Nat.le_of_ble_eq_true rfl) (Nat.le_of_ble_eq_true rfl) d_g_init_57 (fun q6 H hP hD hS => ?_)
  have hP : va_P D cls [(h0, .inr (0, [.int (nI 4), .int (nI 0), .ref q1, .ref q2, .ref q3, .ref q4, .ref q5, .null])), (q1, .inl (cI, 120, .inl (fun _ => 0))), (q2, .inl (cI, 120, .inl (fun _ => 0))), (q3, .inl (cI, 120, .inl (fun _ => 0))), (q4, .inl (cI, 120, .inl (fun _ => 0))), (q5, .inl (cJ, 120, .inr (.inl (fun _ => 0)))), (q6, .inl (cJ, 120, .inr (.inl (fun _ => 0))))] H := hP
  have hD : va_D A [(h0, .inr (0, [.int (nI 4), .int (nI 0), .ref q1, .ref q2, .ref q3, .ref q4, .ref q5, .null])), (q1, .inl (cI, 120, .inl (fun _ => 0))), (q2, .inl (cI, 120, .inl (fun _ => 0))), (q3, .inl (cI, 120, .inl (fun _ => 0))), (q4, .inl (cI, 120, .inl (fun _ => 0))), (q5, .inl (cJ, 120, .inr (.inl (fun _ => 0)))), (q6, .inl (cJ, 120, .inr (.inl (fun _ => 0))))] := hD
  refine va_putF (D := D) (ci := 0) (v := .ref q6) (ty := .array .long) (C := "SightGraph") (T := T_g) (N := 8) hx hb htc in_g t_g ft_g fn_g hown hK hP hD hS 0 rfl rfl 7 (by decide) (htc _ k_1_25) (fun _ h9 => h9) rfl hin rfl (by decide +kernel) rfl rfl (Nat.le_of_ble_eq_true rfl) d_g_init_59 (fun H locs hP hD hS => ?_)
  have hP : va_P D cls [(h0, .inr (0, [.int (nI 4), .int (nI 0), .ref q1, .ref q2, .ref q3, .ref q4, .ref q5, .ref q6])), (q1, .inl (cI, 120, .inl (fun _ => 0))), (q2, .inl (cI, 120, .inl (fun _ => 0))), (q3, .inl (cI, 120, .inl (fun _ => 0))), (q4, .inl (cI, 120, .inl (fun _ => 0))), (q5, .inl (cJ, 120, .inr (.inl (fun _ => 0)))), (q6, .inl (cJ, 120, .inr (.inl (fun _ => 0))))] H := hP
  have hD : va_D A [(h0, .inr (0, [.int (nI 4), .int (nI 0), .ref q1, .ref q2, .ref q3, .ref q4, .ref q5, .ref q6])), (q1, .inl (cI, 120, .inl (fun _ => 0))), (q2, .inl (cI, 120, .inl (fun _ => 0))), (q3, .inl (cI, 120, .inl (fun _ => 0))), (q4, .inl (cI, 120, .inl (fun _ => 0))), (q5, .inl (cJ, 120, .inr (.inl (fun _ => 0)))), (q6, .inl (cJ, 120, .inr (.inl (fun _ => 0))))] := hD
  refine W.widen (k := 6) (n := 720) (Nat.le_of_ble_eq_true rfl) (Nat.le_of_ble_eq_true rfl) ?_
  exact W.vret hx hb hr (fun t ht hW => ⟨⟨(fun k => [h0, q1, q2, q3, q4, q5, q6].getD k 0), rfl, rfl, by rw [ht]; exact hP, va_K.moved hW.alike hK, hD⟩, hS.F ht⟩) hS.2.2 d_g_init_62 hlocks
set_option maxHeartbeats 4000000 in
set_option maxRecDepth 100000 in
theorem c_r_init (l : Launch) (D : va_G) (cI cJ cZ : ClassId) (h0 : Nat) : WN (S := Nat → Nat) l D (tys cI cJ cZ) [(h0, .inr (1, [.int 0, .int 0, .int 0, .null, .null, .null, .null, .null, .null, .null]))] (fun ad => rL cI cZ ad 0 4 0 zr) (fun ad => ad 0 = h0) y_r_init b_r_init 1 1 12 7 16082 [.ref h0] := by
  refine WN.of (by decide) rfl (Nat.le_of_ble_eq_true rfl) ?_
  intro p9 e9 s9 m args below meth c9 ls A S hr hlocks hin hA hP hK hD hl
  obtain ⟨hx, hb, hml, hown, htc⟩ := id S
  have hS : va_S A s9.heap s9.heap [] := va_S.rf
  have hl : lv_has ls 1 [(0, .ref h0)] := hl
  refine lv_aload_n hx hb d_r_init_0 rfl (lv_at hl 0 rfl) ?_
  refine W.objInit hx hb hown (htc _ k_2_72) (htc _ k_1_16) (htc _ k_1_17) rfl (by rw [hml]; exact hl.1) rfl d_r_init_1 (Nat.le_of_ble_eq_true rfl) (Nat.le_of_ble_eq_true rfl) ?_
  refine W.eq (g2 := F0 m 4 ls []) rfl ?_
  refine lv_aload_n hx hb d_r_init_4 rfl (lv_at hl 0 rfl) ?_
  refine lv_iconst (v := nI 4) hx hb d_r_init_5 (by decide) ?_
  refine va_put (D := D) (ci := 1) (v := .int (nI 4)) (ty := .int) (C := "SightGraphModel") (T := T_r) (N := 10) hx hb htc in_r t_r ft_r fn_r hown hK hP hD hS 0 rfl rfl 1 (by decide) (htc _ k_2_74) (fun _ h9 => h9) rfl (by decide +kernel) rfl rfl (Nat.le_of_ble_eq_true rfl) d_r_init_6 (fun H locs hP hD hS => ?_)
  have hP : va_P D cls [(h0, .inr (1, [.int 0, .int (nI 4), .int 0, .null, .null, .null, .null, .null, .null, .null]))] H := hP
  have hD : va_D A [(h0, .inr (1, [.int 0, .int (nI 4), .int 0, .null, .null, .null, .null, .null, .null, .null]))] := hD
  refine lv_aload_n hx hb d_r_init_9 rfl (lv_at hl 0 rfl) ?_
  refine lv_bipush (v := nI 120) hx hb d_r_init_10 (by decide) ?_
  refine nr_newa hx hb (atype := .int) (htc _ k_1_43) rfl hK hP hD hS hA 0 rfl (fun cA h => ra_i h (hK.2 0 _ rfl).2) (N := 120) (a0 := (120, .inl (fun _ => 0))) (fun _ => rfl) (by decide) (by decide) (Nat.le_of_ble_eq_true rfl) (Nat.le_of_ble_eq_true rfl) d_r_init_12 (fun q1 H hP hD hS => ?_)
  have hP : va_P D cls [(h0, .inr (1, [.int 0, .int (nI 4), .int 0, .null, .null, .null, .null, .null, .null, .null])), (q1, .inl (cI, 120, .inl (fun _ => 0)))] H := hP
  have hD : va_D A [(h0, .inr (1, [.int 0, .int (nI 4), .int 0, .null, .null, .null, .null, .null, .null, .null])), (q1, .inl (cI, 120, .inl (fun _ => 0)))] := hD
  refine va_putF (D := D) (ci := 1) (v := .ref q1) (ty := .array .int) (C := "SightGraphModel") (T := T_r) (N := 10) hx hb htc in_r t_r ft_r fn_r hown hK hP hD hS 0 rfl rfl 3 (by decide) (htc _ k_2_76) (fun _ h9 => h9) rfl hin rfl (by decide +kernel) rfl rfl (Nat.le_of_ble_eq_true rfl) d_r_init_14 (fun H locs hP hD hS => ?_)
  have hP : va_P D cls [(h0, .inr (1, [.int 0, .int (nI 4), .int 0, .ref q1, .null, .null, .null, .null, .null, .null])), (q1, .inl (cI, 120, .inl (fun _ => 0)))] H := hP
  have hD : va_D A [(h0, .inr (1, [.int 0, .int (nI 4), .int 0, .ref q1, .null, .null, .null, .null, .null, .null])), (q1, .inl (cI, 120, .inl (fun _ => 0)))] := hD
  refine lv_aload_n hx hb d_r_init_17 rfl (lv_at hl 0 rfl) ?_
  refine lv_bipush (v := nI 120) hx hb d_r_init_18 (by decide) ?_
  refine nr_newa hx hb (atype := .int) (htc _ k_1_43) rfl hK hP hD hS hA 0 rfl (fun cA h => ra_i h (hK.2 0 _ rfl).2) (N := 120) (a0 := (120, .inl (fun _ => 0))) (fun _ => rfl) (by decide) (by decide) (Nat.le_of_ble_eq_true rfl) (Nat.le_of_ble_eq_true rfl) d_r_init_20 (fun q2 H hP hD hS => ?_)
  have hP : va_P D cls [(h0, .inr (1, [.int 0, .int (nI 4), .int 0, .ref q1, .null, .null, .null, .null, .null, .null])), (q1, .inl (cI, 120, .inl (fun _ => 0))), (q2, .inl (cI, 120, .inl (fun _ => 0)))] H := hP
  have hD : va_D A [(h0, .inr (1, [.int 0, .int (nI 4), .int 0, .ref q1, .null, .null, .null, .null, .null, .null])), (q1, .inl (cI, 120, .inl (fun _ => 0))), (q2, .inl (cI, 120, .inl (fun _ => 0)))] := hD
  refine va_putF (D := D) (ci := 1) (v := .ref q2) (ty := .array .int) (C := "SightGraphModel") (T := T_r) (N := 10) hx hb htc in_r t_r ft_r fn_r hown hK hP hD hS 0 rfl rfl 4 (by decide) (htc _ k_2_77) (fun _ h9 => h9) rfl hin rfl (by decide +kernel) rfl rfl (Nat.le_of_ble_eq_true rfl) d_r_init_22 (fun H locs hP hD hS => ?_)
  have hP : va_P D cls [(h0, .inr (1, [.int 0, .int (nI 4), .int 0, .ref q1, .ref q2, .null, .null, .null, .null, .null])), (q1, .inl (cI, 120, .inl (fun _ => 0))), (q2, .inl (cI, 120, .inl (fun _ => 0)))] H := hP
  have hD : va_D A [(h0, .inr (1, [.int 0, .int (nI 4), .int 0, .ref q1, .ref q2, .null, .null, .null, .null, .null])), (q1, .inl (cI, 120, .inl (fun _ => 0))), (q2, .inl (cI, 120, .inl (fun _ => 0)))] := hD
  refine lv_aload_n hx hb d_r_init_25 rfl (lv_at hl 0 rfl) ?_
  refine lv_bipush (v := nI 120) hx hb d_r_init_26 (by decide) ?_
  refine nr_newa hx hb (atype := .int) (htc _ k_1_43) rfl hK hP hD hS hA 0 rfl (fun cA h => ra_i h (hK.2 0 _ rfl).2) (N := 120) (a0 := (120, .inl (fun _ => 0))) (fun _ => rfl) (by decide) (by decide) (Nat.le_of_ble_eq_true rfl) (Nat.le_of_ble_eq_true rfl) d_r_init_28 (fun q3 H hP hD hS => ?_)
  have hP : va_P D cls [(h0, .inr (1, [.int 0, .int (nI 4), .int 0, .ref q1, .ref q2, .null, .null, .null, .null, .null])), (q1, .inl (cI, 120, .inl (fun _ => 0))), (q2, .inl (cI, 120, .inl (fun _ => 0))), (q3, .inl (cI, 120, .inl (fun _ => 0)))] H := hP
  have hD : va_D A [(h0, .inr (1, [.int 0, .int (nI 4), .int 0, .ref q1, .ref q2, .null, .null, .null, .null, .null])), (q1, .inl (cI, 120, .inl (fun _ => 0))), (q2, .inl (cI, 120, .inl (fun _ => 0))), (q3, .inl (cI, 120, .inl (fun _ => 0)))] := hD
  refine va_putF (D := D) (ci := 1) (v := .ref q3) (ty := .array .int) (C := "SightGraphModel") (T := T_r) (N := 10) hx hb htc in_r t_r ft_r fn_r hown hK hP hD hS 0 rfl rfl 5 (by decide) (htc _ k_2_78) (fun _ h9 => h9) rfl hin rfl (by decide +kernel) rfl rfl (Nat.le_of_ble_eq_true rfl) d_r_init_30 (fun H locs hP hD hS => ?_)
  have hP : va_P D cls [(h0, .inr (1, [.int 0, .int (nI 4), .int 0, .ref q1, .ref q2, .ref q3, .null, .null, .null, .null])), (q1, .inl (cI, 120, .inl (fun _ => 0))), (q2, .inl (cI, 120, .inl (fun _ => 0))), (q3, .inl (cI, 120, .inl (fun _ => 0)))] H := hP
  have hD : va_D A [(h0, .inr (1, [.int 0, .int (nI 4), .int 0, .ref q1, .ref q2, .ref q3, .null, .null, .null, .null])), (q1, .inl (cI, 120, .inl (fun _ => 0))), (q2, .inl (cI, 120, .inl (fun _ => 0))), (q3, .inl (cI, 120, .inl (fun _ => 0)))] := hD
  refine lv_aload_n hx hb d_r_init_33 rfl (lv_at hl 0 rfl) ?_
  refine lv_bipush (v := nI 120) hx hb d_r_init_34 (by decide) ?_
  refine nr_newa hx hb (atype := .int) (htc _ k_1_43) rfl hK hP hD hS hA 0 rfl (fun cA h => ra_i h (hK.2 0 _ rfl).2) (N := 120) (a0 := (120, .inl (fun _ => 0))) (fun _ => rfl) (by decide) (by decide) (Nat.le_of_ble_eq_true rfl) (Nat.le_of_ble_eq_true rfl) d_r_init_36 (fun q4 H hP hD hS => ?_)
  have hP : va_P D cls [(h0, .inr (1, [.int 0, .int (nI 4), .int 0, .ref q1, .ref q2, .ref q3, .null, .null, .null, .null])), (q1, .inl (cI, 120, .inl (fun _ => 0))), (q2, .inl (cI, 120, .inl (fun _ => 0))), (q3, .inl (cI, 120, .inl (fun _ => 0))), (q4, .inl (cI, 120, .inl (fun _ => 0)))] H := hP
  have hD : va_D A [(h0, .inr (1, [.int 0, .int (nI 4), .int 0, .ref q1, .ref q2, .ref q3, .null, .null, .null, .null])), (q1, .inl (cI, 120, .inl (fun _ => 0))), (q2, .inl (cI, 120, .inl (fun _ => 0))), (q3, .inl (cI, 120, .inl (fun _ => 0))), (q4, .inl (cI, 120, .inl (fun _ => 0)))] := hD
  refine va_putF (D := D) (ci := 1) (v := .ref q4) (ty := .array .int) (C := "SightGraphModel") (T := T_r) (N := 10) hx hb htc in_r t_r ft_r fn_r hown hK hP hD hS 0 rfl rfl 6 (by decide) (htc _ k_2_79) (fun _ h9 => h9) rfl hin rfl (by decide +kernel) rfl rfl (Nat.le_of_ble_eq_true rfl) d_r_init_38 (fun H locs hP hD hS => ?_)
  have hP : va_P D cls [(h0, .inr (1, [.int 0, .int (nI 4), .int 0, .ref q1, .ref q2, .ref q3, .ref q4, .null, .null, .null])), (q1, .inl (cI, 120, .inl (fun _ => 0))), (q2, .inl (cI, 120, .inl (fun _ => 0))), (q3, .inl (cI, 120, .inl (fun _ => 0))), (q4, .inl (cI, 120, .inl (fun _ => 0)))] H := hP
  have hD : va_D A [(h0, .inr (1, [.int 0, .int (nI 4), .int 0, .ref q1, .ref q2, .ref q3, .ref q4, .null, .null, .null])), (q1, .inl (cI, 120, .inl (fun _ => 0))), (q2, .inl (cI, 120, .inl (fun _ => 0))), (q3, .inl (cI, 120, .inl (fun _ => 0))), (q4, .inl (cI, 120, .inl (fun _ => 0)))] := hD
  refine lv_aload_n hx hb d_r_init_41 rfl (lv_at hl 0 rfl) ?_
  refine lv_sipush (v := nI 242) hx hb d_r_init_42 (by decide) ?_
  refine nr_newa hx hb (atype := .int) (htc _ k_1_43) rfl hK hP hD hS hA 0 rfl (fun cA h => ra_i h (hK.2 0 _ rfl).2) (N := 242) (a0 := (242, .inl (fun _ => 0))) (fun _ => rfl) (by decide) (by decide) (Nat.le_of_ble_eq_true rfl) (Nat.le_of_ble_eq_true rfl) d_r_init_45 (fun q5 H hP hD hS => ?_)
  have hP : va_P D cls [(h0, .inr (1, [.int 0, .int (nI 4), .int 0, .ref q1, .ref q2, .ref q3, .ref q4, .null, .null, .null])), (q1, .inl (cI, 120, .inl (fun _ => 0))), (q2, .inl (cI, 120, .inl (fun _ => 0))), (q3, .inl (cI, 120, .inl (fun _ => 0))), (q4, .inl (cI, 120, .inl (fun _ => 0))), (q5, .inl (cI, 242, .inl (fun _ => 0)))] H := hP
  have hD : va_D A [(h0, .inr (1, [.int 0, .int (nI 4), .int 0, .ref q1, .ref q2, .ref q3, .ref q4, .null, .null, .null])), (q1, .inl (cI, 120, .inl (fun _ => 0))), (q2, .inl (cI, 120, .inl (fun _ => 0))), (q3, .inl (cI, 120, .inl (fun _ => 0))), (q4, .inl (cI, 120, .inl (fun _ => 0))), (q5, .inl (cI, 242, .inl (fun _ => 0)))] := hD
  refine va_putF (D := D) (ci := 1) (v := .ref q5) (ty := .array .int) (C := "SightGraphModel") (T := T_r) (N := 10) hx hb htc in_r t_r ft_r fn_r hown hK hP hD hS 0 rfl rfl 7 (by decide) (htc _ k_2_80) (fun _ h9 => h9) rfl hin rfl (by decide +kernel) rfl rfl (Nat.le_of_ble_eq_true rfl) d_r_init_47 (fun H locs hP hD hS => ?_)
  have hP : va_P D cls [(h0, .inr (1, [.int 0, .int (nI 4), .int 0, .ref q1, .ref q2, .ref q3, .ref q4, .ref q5, .null, .null])), (q1, .inl (cI, 120, .inl (fun _ => 0))), (q2, .inl (cI, 120, .inl (fun _ => 0))), (q3, .inl (cI, 120, .inl (fun _ => 0))), (q4, .inl (cI, 120, .inl (fun _ => 0))), (q5, .inl (cI, 242, .inl (fun _ => 0)))] H := hP
  have hD : va_D A [(h0, .inr (1, [.int 0, .int (nI 4), .int 0, .ref q1, .ref q2, .ref q3, .ref q4, .ref q5, .null, .null])), (q1, .inl (cI, 120, .inl (fun _ => 0))), (q2, .inl (cI, 120, .inl (fun _ => 0))), (q3, .inl (cI, 120, .inl (fun _ => 0))), (q4, .inl (cI, 120, .inl (fun _ => 0))), (q5, .inl (cI, 242, .inl (fun _ => 0)))] := hD
  refine lv_aload_n hx hb d_r_init_50 rfl (lv_at hl 0 rfl) ?_
  refine lv_sipush (v := nI 14400) hx hb d_r_init_51 (by decide) ?_
  refine nr_newa hx hb (atype := .boolean) (htc _ k_2_104) rfl hK hP hD hS hA 2 rfl (fun cA h => ra_z h (hK.2 2 _ rfl).2) (N := 14400) (a0 := (14400, .inl (fun _ => 0))) (fun _ => rfl) (by decide) (by decide) (Nat.le_of_ble_eq_true rfl) (Nat.le_of_ble_eq_true rfl) d_r_init_54 (fun q6 H hP hD hS => ?_)
  have hP : va_P D cls [(h0, .inr (1, [.int 0, .int (nI 4), .int 0, .ref q1, .ref q2, .ref q3, .ref q4, .ref q5, .null, .null])), (q1, .inl (cI, 120, .inl (fun _ => 0))), (q2, .inl (cI, 120, .inl (fun _ => 0))), (q3, .inl (cI, 120, .inl (fun _ => 0))), (q4, .inl (cI, 120, .inl (fun _ => 0))), (q5, .inl (cI, 242, .inl (fun _ => 0))), (q6, .inl (cZ, 14400, .inl (fun _ => 0)))] H := hP
  have hD : va_D A [(h0, .inr (1, [.int 0, .int (nI 4), .int 0, .ref q1, .ref q2, .ref q3, .ref q4, .ref q5, .null, .null])), (q1, .inl (cI, 120, .inl (fun _ => 0))), (q2, .inl (cI, 120, .inl (fun _ => 0))), (q3, .inl (cI, 120, .inl (fun _ => 0))), (q4, .inl (cI, 120, .inl (fun _ => 0))), (q5, .inl (cI, 242, .inl (fun _ => 0))), (q6, .inl (cZ, 14400, .inl (fun _ => 0)))] := hD
  refine va_putF (D := D) (ci := 1) (v := .ref q6) (ty := .array .boolean) (C := "SightGraphModel") (T := T_r) (N := 10) hx hb htc in_r t_r ft_r fn_r hown hK hP hD hS 0 rfl rfl 8 (by decide) (htc _ k_2_81) (fun _ h9 => h9) rfl hin rfl (by decide +kernel) rfl rfl (Nat.le_of_ble_eq_true rfl) d_r_init_56 (fun H locs hP hD hS => ?_)
  have hP : va_P D cls [(h0, .inr (1, [.int 0, .int (nI 4), .int 0, .ref q1, .ref q2, .ref q3, .ref q4, .ref q5, .ref q6, .null])), (q1, .inl (cI, 120, .inl (fun _ => 0))), (q2, .inl (cI, 120, .inl (fun _ => 0))), (q3, .inl (cI, 120, .inl (fun _ => 0))), (q4, .inl (cI, 120, .inl (fun _ => 0))), (q5, .inl (cI, 242, .inl (fun _ => 0))), (q6, .inl (cZ, 14400, .inl (fun _ => 0)))] H := hP
  have hD : va_D A [(h0, .inr (1, [.int 0, .int (nI 4), .int 0, .ref q1, .ref q2, .ref q3, .ref q4, .ref q5, .ref q6, .null])), (q1, .inl (cI, 120, .inl (fun _ => 0))), (q2, .inl (cI, 120, .inl (fun _ => 0))), (q3, .inl (cI, 120, .inl (fun _ => 0))), (q4, .inl (cI, 120, .inl (fun _ => 0))), (q5, .inl (cI, 242, .inl (fun _ => 0))), (q6, .inl (cZ, 14400, .inl (fun _ => 0)))] := hD
  refine lv_aload_n hx hb d_r_init_59 rfl (lv_at hl 0 rfl) ?_
  refine lv_sipush (v := nI 960) hx hb d_r_init_60 (by decide) ?_
  refine nr_newa hx hb (atype := .boolean) (htc _ k_2_104) rfl hK hP hD hS hA 2 rfl (fun cA h => ra_z h (hK.2 2 _ rfl).2) (N := 960) (a0 := (960, .inl (fun _ => 0))) (fun _ => rfl) (by decide) (by decide) (Nat.le_of_ble_eq_true rfl) (Nat.le_of_ble_eq_true rfl) d_r_init_63 (fun q7 H hP hD hS => ?_)
  have hP : va_P D cls [(h0, .inr (1, [.int 0, .int (nI 4), .int 0, .ref q1, .ref q2, .ref q3, .ref q4, .ref q5, .ref q6, .null])), (q1, .inl (cI, 120, .inl (fun _ => 0))), (q2, .inl (cI, 120, .inl (fun _ => 0))), (q3, .inl (cI, 120, .inl (fun _ => 0))), (q4, .inl (cI, 120, .inl (fun _ => 0))), (q5, .inl (cI, 242, .inl (fun _ => 0))), (q6, .inl (cZ, 14400, .inl (fun _ => 0))), (q7, .inl (cZ, 960, .inl (fun _ => 0)))] H := hP
  have hD : va_D A [(h0, .inr (1, [.int 0, .int (nI 4), .int 0, .ref q1, .ref q2, .ref q3, .ref q4, .ref q5, .ref q6, .null])), (q1, .inl (cI, 120, .inl (fun _ => 0))), (q2, .inl (cI, 120, .inl (fun _ => 0))), (q3, .inl (cI, 120, .inl (fun _ => 0))), (q4, .inl (cI, 120, .inl (fun _ => 0))), (q5, .inl (cI, 242, .inl (fun _ => 0))), (q6, .inl (cZ, 14400, .inl (fun _ => 0))), (q7, .inl (cZ, 960, .inl (fun _ => 0)))] := hD
  refine va_putF (D := D) (ci := 1) (v := .ref q7) (ty := .array .boolean) (C := "SightGraphModel") (T := T_r) (N := 10) hx hb htc in_r t_r ft_r fn_r hown hK hP hD hS 0 rfl rfl 9 (by decide) (htc _ k_2_82) (fun _ h9 => h9) rfl hin rfl (by decide +kernel) rfl rfl (Nat.le_of_ble_eq_true rfl) d_r_init_65 (fun H locs hP hD hS => ?_)
  have hP : va_P D cls [(h0, .inr (1, [.int 0, .int (nI 4), .int 0, .ref q1, .ref q2, .ref q3, .ref q4, .ref q5, .ref q6, .ref q7])), (q1, .inl (cI, 120, .inl (fun _ => 0))), (q2, .inl (cI, 120, .inl (fun _ => 0))), (q3, .inl (cI, 120, .inl (fun _ => 0))), (q4, .inl (cI, 120, .inl (fun _ => 0))), (q5, .inl (cI, 242, .inl (fun _ => 0))), (q6, .inl (cZ, 14400, .inl (fun _ => 0))), (q7, .inl (cZ, 960, .inl (fun _ => 0)))] H := hP
  have hD : va_D A [(h0, .inr (1, [.int 0, .int (nI 4), .int 0, .ref q1, .ref q2, .ref q3, .ref q4, .ref q5, .ref q6, .ref q7])), (q1, .inl (cI, 120, .inl (fun _ => 0))), (q2, .inl (cI, 120, .inl (fun _ => 0))), (q3, .inl (cI, 120, .inl (fun _ => 0))), (q4, .inl (cI, 120, .inl (fun _ => 0))), (q5, .inl (cI, 242, .inl (fun _ => 0))), (q6, .inl (cZ, 14400, .inl (fun _ => 0))), (q7, .inl (cZ, 960, .inl (fun _ => 0)))] := hD
  refine W.widen (k := 7) (n := 16082) (Nat.le_of_ble_eq_true rfl) (Nat.le_of_ble_eq_true rfl) ?_
  exact W.vret hx hb hr (fun t ht hW => ⟨⟨(fun k => [h0, q1, q2, q3, q4, q5, q6, q7].getD k 0), rfl, rfl, by rw [ht]; exact hP, va_K.moved hW.alike hK, hD⟩, hS.F ht⟩) hS.2.2 d_r_init_68 hlocks
end
section
theorem in_b (v a b : Int64) : (bI (decide (a ≤ v ∧ v ≤ b))) = bI (decide (a ≤ v ∧ v ≤ b)) := rfl
theorem t64 (x : Int32) : x.toInt64.toInt = x.toInt := Int32.toInt_toInt64 x
/-- the reference's test of an index -/
theorem iv_l {k : Nat} (hk : k ≤ 120) (x : Int32) : decide ((0 : Int64) ≤ x.toInt64 ∧ x.toInt64 ≤ (nI k - nI 1).toInt64) = iv k x := by
  unfold iv
  rw [decide_eq_decide, Int64.le_iff_toInt_le, Int64.le_iff_toInt_le, t64, t64, Int32.le_iff_toInt_le, Int32.lt_iff_toInt_lt, pk_sub_toInt (by omega) (by decide), nI_toInt (by omega), Int32.toInt_zero]
  show (0 : Int64).toInt ≤ x.toInt ∧ _ ↔ _
  rw [show (0 : Int64).toInt = 0 from by decide]
  omega
theorem sn_step {p : Nat → Bool} {z N : Nat} {has : Bool} (hh : has = ex z p) (hz : z ≤ N) (he : z = N ∨ has = true) : has = ex N p := by
  rcases he with e | e
  · rw [← e]; exact hh
  · rw [e]
    rw [e] at hh
    obtain ⟨i, h1, h2⟩ := ex_t.mp hh.symm
    exact (ex_t.mpr ⟨i, by omega, h2⟩).symm
theorem ex_hs {p : Nat → Bool} {z : Nat} {b : Bool} (h0 : ex z p = false) (hb : p z = b) : b = ex (z + 1) p := by
  show b = (ex z p || p z)
  rw [h0, hb, Bool.false_or]
theorem cn_y {p : Nat → Bool} {u : Nat} (h : p u = true) : cn u p + 1 = cn (u + 1) p := by
  show _ = cn u p + (if p u = true then 1 else 0)
  rw [if_pos h]
theorem cn_n {p : Nat → Bool} {u : Nat} (h : p u = false) : cn u p = cn (u + 1) p := by
  show _ = cn u p + (if p u = true then 1 else 0)
  rw [h]; rfl
theorem pa_0 {f : Nat → Nat → Bool} {y : Nat} : pa f 0 y = false := rfl
set_option maxHeartbeats 4000000 in
set_option maxRecDepth 100000 in
theorem c_r_in (l : Launch) (D : va_G) (cI cJ cZ : ClassId) (ad : Nat → Nat) (er : Int32) (n ev : Nat) (r : RA) (v a b : Int64) : PM l D (tys cI cJ cZ) (rL cI cZ ad er n ev r) y_r_in b_r_in 6 (some .boolean) 0 0 [.long v, .long a, .long b] (bI (decide (a ≤ v ∧ v ≤ b))) := by
  refine PM.of (by decide) (Nat.le_of_ble_eq_true rfl) ?_
  intro p9 e9 s9 m args below meth c9 ls S hr hlocks hP hK hl
  obtain ⟨hx, hb, hml, hown, htc⟩ := id S
  have hl : lv_has ls 6 [(0, .long v), (2, .long a), (4, .long b)] := hl
  refine lv_lload_n hx hb d_r_in_0 rfl (lv_at hl 0 rfl) ?_
  refine lv_lload_n hx hb d_r_in_1 rfl (lv_at hl 1 rfl) ?_
  refine W.lcmp hx hb d_r_in_2 ?_
  refine lv_if_lt (tgt := 17) hx hb d_r_in_3 (by decide) (fun c_3 => ?_) (fun c_3 => ?_)
  · refine lv_iconst (v := (nI 0)) hx hb d_r_in_17 (by decide) ?_
    refine nr_top (w := .int (bI false)) rfl ?_
    exact PM.zret hx hb hr hlocks d_r_in_18 (by rw [decide_eq_false (fun q => absurd ((lg_cmp_lt v a).mp c_3) (Int64.not_lt.mpr q.1))])
  · refine lv_lload_n hx hb d_r_in_6 rfl (lv_at hl 0 rfl) ?_
    refine lv_lload hx hb d_r_in_7 (lv_at hl 2 rfl) ?_
    refine W.lcmp hx hb d_r_in_9 ?_
    refine lv_if_gt (tgt := 17) hx hb d_r_in_10 (by decide) (fun c_10 => ?_) (fun c_10 => ?_)
    · refine lv_iconst (v := (nI 0)) hx hb d_r_in_17 (by decide) ?_
      refine nr_top (w := .int (bI false)) rfl ?_
      exact PM.zret hx hb hr hlocks d_r_in_18 (by rw [decide_eq_false (fun q => absurd ((lg_cmp_gt v b).mp c_10) (Int64.not_lt.mpr q.2))])
    · refine lv_iconst (v := (nI 1)) hx hb d_r_in_13 (by decide) ?_
      refine lv_goto (tgt := 18) hx hb d_r_in_14 (by decide) ?_
      refine nr_top (w := .int (bI true)) rfl ?_
      exact PM.zret hx hb hr hlocks d_r_in_18 (by rw [decide_eq_true ⟨Int64.not_lt.mp (fun q => c_3 ((lg_cmp_lt v a).mpr q)), Int64.not_lt.mp (fun q => c_10 ((lg_cmp_gt v b).mpr q))⟩])
set_option maxHeartbeats 4000000 in
set_option maxRecDepth 100000 in
theorem c_r_isEvent (l : Launch) (D : va_G) (cI cJ cZ : ClassId) (ad : Nat → Nat) (er : Int32) (n ev : Nat) (r : RA) (hev : ev ≤ 120) (x : Int32) : PM l D (tys cI cJ cZ) (rL cI cZ ad er n ev r) y_r_isEvent b_r_isEvent 2 (some .boolean) 1 25 [.ref (ad 0), .int x] (bI (iv ev x)) := by
  refine PM.of (by decide) (Nat.le_of_ble_eq_true rfl) ?_
  intro p9 e9 s9 m args below meth c9 ls S hr hlocks hP hK hl
  obtain ⟨hx, hb, hml, hown, htc⟩ := id S
  have hl : lv_has ls 2 [(0, .ref (ad 0)), (1, .int x)] := hl
  refine lv_iload_n hx hb d_r_isEvent_0 rfl (lv_at hl 1 rfl) ?_
  refine lv_i2l hx hb d_r_isEvent_1 rfl ?_
  refine lv_lconst (v := 0) hx hb d_r_isEvent_2 (by decide) ?_
  refine lv_aload_n hx hb d_r_isEvent_3 rfl (lv_at hl 0 rfl) ?_
  refine va_get (D := D) (ci := 1) (v := .int (nI ev)) (C := "SightGraphModel") (T := T_r) (N := 10) hx hb htc in_r hown hK hP 0 rfl rfl 2 (by decide) (htc _ k_2_75) (fun _ h9 => h9) rfl d_r_isEvent_4 ?_
  refine lv_iconst (v := (nI 1)) hx hb d_r_isEvent_7 (by decide) ?_
  refine lv_isub hx hb d_r_isEvent_8 ?_
  refine lv_i2l hx hb d_r_isEvent_9 rfl ?_
  refine PM.callS (rest := []) S (c_r_in l D cI cJ cZ ad er n ev r x.toInt64 0 (nI ev - nI 1).toInt64) k_2_115 k_2_116 k_1_2 k_2_117 h_r_in ⟨Nat.le_of_ble_eq_true rfl, Nat.le_of_ble_eq_true rfl⟩ ⟨Nat.le_of_ble_eq_true rfl, Nat.le_of_ble_eq_true rfl⟩ hP hK hl.1 (Nat.le_of_ble_eq_true rfl) rfl d_r_isEvent_10 ?_
  exact PM.zret hx hb hr hlocks d_r_isEvent_13 (by rw [iv_l hev x])
set_option maxHeartbeats 4000000 in
set_option maxRecDepth 100000 in
theorem c_r_isAbove (l : Launch) (D : va_G) (cI cJ cZ : ClassId) (ad : Nat → Nat) (er : Int32) (n ev : Nat) (r : RA) (K : Nat) (hKb : K ≤ 120) (an : Nat → Nat → Bool) (ha : ∀ j, j < K → ∀ y, y < 120 → r.2.2.2.2.2.1 (120 * j + y) = bI (an j y)) (x y : Nat) (hx0 : x < K) (hy0 : y < 120) : PM l D (tys cI cJ cZ) (rL cI cZ ad er n ev r) y_r_isAbove b_r_isAbove 3 (some .boolean) 0 0 [.ref (ad 0), .int (nI y), .int (nI x)] (bI (an x y)) := by
  refine PM.of (by decide) (Nat.le_of_ble_eq_true rfl) ?_
  intro p9 e9 s9 m args below meth c9 ls S hr hlocks hP hK hl
  obtain ⟨hx, hb, hml, hown, htc⟩ := id S
  have hl : lv_has ls 3 [(0, .ref (ad 0)), (1, .int (nI y)), (2, .int (nI x))] := hl
  refine lv_aload_n hx hb d_r_isAbove_0 rfl (lv_at hl 0 rfl) ?_
  refine va_get (D := D) (ci := 1) (v := .ref (ad 6)) (C := "SightGraphModel") (T := T_r) (N := 10) hx hb htc in_r hown hK hP 0 rfl rfl 8 (by decide) (htc _ k_2_81) (fun _ h9 => h9) rfl d_r_isAbove_1 ?_
  refine lv_bipush (v := (nI 120)) hx hb d_r_isAbove_4 (by decide) ?_
  refine lv_iload_n hx hb d_r_isAbove_6 rfl (lv_at hl 2 rfl) ?_
  refine nr_imul hx hb d_r_isAbove_7 ?_
  refine lv_iload_n hx hb d_r_isAbove_8 rfl (lv_at hl 1 rfl) ?_
  refine nr_iadd hx hb d_r_isAbove_9 ?_
  refine nr_zald hx hb hK hP 6 2 rfl rfl (by omega) (by decide) (v := (bI (an x y))) (ha x (by omega) y (by omega)) d_r_isAbove_10 ?_
  exact PM.zret hx hb hr hlocks d_r_isAbove_11 rfl
set_option maxHeartbeats 4000000 in
set_option maxRecDepth 100000 in
theorem c_r_isOwn (l : Launch) (D : va_G) (cI cJ cZ : ClassId) (ad : Nat → Nat) (er : Int32) (n ev : Nat) (r : RA) (K : Nat) (hKb : K ≤ 120) (s : Nat → Nat) (hs : ∀ j, j < K → r.2.1 j = mI (s j)) (ow : Nat → Nat → Bool) (hLw : ∀ x, x < K → s x ≤ x ∧ ∀ y, ow x y = (x == y || pa ow (s x) y)) (x y : Nat) (hx0 : x < K) (hy0 : y < K) : PM l D (tys cI cJ cZ) (rL cI cZ ad er n ev r) y_r_isOwn b_r_isOwn 4 (some .boolean) 0 0 [.ref (ad 0), .int (nI x), .int (nI y)] (bI (ow x y)) := by
  refine PM.of (by decide) (Nat.le_of_ble_eq_true rfl) ?_
  intro p9 e9 s9 m args below meth c9 ls S hr hlocks hP hK hl
  obtain ⟨hx, hb, hml, hown, htc⟩ := id S
  have hl : lv_has ls 4 [(0, .ref (ad 0)), (1, .int (nI x)), (2, .int (nI y))] := hl
  refine lv_iload_n hx hb d_r_isOwn_0 rfl (lv_at hl 1 rfl) ?_
  refine nr_top (w := .int (mI (x + 1))) rfl ?_
  refine lv_istore_n (lv' := [(3, .int (mI (x + 1))), (0, .ref (ad 0)), (1, .int (nI x)), (2, .int (nI y))]) hx hb d_r_isOwn_1 rfl hl (by decide) rfl (fun ls hl => ?_)
  have loop1 : ∀ (d1 : Nat) (t : Nat) (ls : Array Slot), t < d1 → t ≤ K → pa ow t y = ow x y → lv_has ls 4 [(3, .int (mI t)), (2, .int (nI y)), (1, .int (nI x)), (0, .ref (ad 0))] → W p9 l e9 ({ frames := 0, cells := 0, slots := 0, locals := 0 }) s9 m args below meth c9 s9.heap [] 0 0 (MQ below (vp_Si (fun r9 => r9 = (bI (ow x y)))) args s9 0 0 (fun _ => False)) (F0 m 2 ls []) := by
    intro d1
    induction d1 with
    | zero =>
      intro t ls hd1 htK hw hl
      exact absurd hd1 (by omega)
    | succ d1 ih1 =>
      intro t ls hd1 htK hw hl
      refine lv_iload_n hx hb d_r_isOwn_2 rfl (lv_at hl 0 rfl) ?_
      refine nr_iflt_m (tgt := 23) hx hb (by omega) d_r_isOwn_3 (by decide) (fun c_3 => ?_) (fun c_3 => ?_)
      · refine lv_iconst (v := (nI 0)) hx hb d_r_isOwn_23 (by decide) ?_
        refine nr_top (w := .int (bI false)) rfl ?_
        exact PM.zret hx hb hr hlocks d_r_isOwn_24 (by rw [← hw, show t = 0 from c_3]; rfl)
      · obtain ⟨i, rfl⟩ : ∃ i, t = i + 1 := ⟨t - 1, by omega⟩
        have hl : lv_has ls 4 [(3, .int (nI i)), (2, .int (nI y)), (1, .int (nI x)), (0, .ref (ad 0))] := hl
        have hsi := (hLw i (by omega)).1
        have hoi := (hLw i (by omega)).2 y
        refine lv_iload_n hx hb d_r_isOwn_6 rfl (lv_at hl 0 rfl) ?_
        refine lv_iload_n hx hb d_r_isOwn_7 rfl (lv_at hl 1 rfl) ?_
        refine nr_icmp_ne (tgt := 13) hx hb (by omega) (by omega) d_r_isOwn_8 (by decide) (fun c_8 => ?_) (fun c_8 => ?_)
        · refine lv_aload_n hx hb d_r_isOwn_13 rfl (lv_at hl 3 rfl) ?_
          refine va_get (D := D) (ci := 1) (v := .ref (ad 2)) (C := "SightGraphModel") (T := T_r) (N := 10) hx hb htc in_r hown hK hP 0 rfl rfl 4 (by decide) (htc _ k_2_77) (fun _ h9 => h9) rfl d_r_isOwn_14 ?_
          refine lv_iload_n hx hb d_r_isOwn_17 rfl (lv_at hl 0 rfl) ?_
          refine nr_iald hx hb hK hP 2 0 rfl rfl (by omega) (by decide) (v := (mI (s i))) (hs i (by omega)) d_r_isOwn_18 ?_
          refine lv_istore_n (lv' := [(3, .int (mI (s i))), (2, .int (nI y)), (1, .int (nI x)), (0, .ref (ad 0))]) hx hb d_r_isOwn_19 rfl hl (by decide) rfl (fun ls hl => ?_)
          refine lv_goto (tgt := 2) hx hb d_r_isOwn_20 (by decide) ?_
          exact ih1 (s i) ls (by omega) (by omega) (by rw [← hw]; show _ = ow i y; rw [hoi]; simp [show ¬ i = y from c_8]) (lv_sub hl [0, 1, 2, 3] rfl)
        · refine lv_iconst (v := (nI 1)) hx hb d_r_isOwn_11 (by decide) ?_
          refine nr_top (w := .int (bI true)) rfl ?_
          exact PM.zret hx hb hr hlocks d_r_isOwn_12 (by rw [← hw]; show _ = bI (ow i y); rw [hoi, show (i == y) = true from by simpa using c_8]; rfl)
  exact loop1 (x + 2) (x + 1) ls (by omega) (by omega) (by simp [pa]) (lv_sub hl [0, 3, 2, 1] rfl)
set_option maxHeartbeats 4000000 in
set_option maxRecDepth 100000 in
theorem c_r_isFork (l : Launch) (D : va_G) (cI cJ cZ : ClassId) (ad : Nat → Nat) (er : Int32) (n ev : Nat) (r : RA) (K : Nat) (hKb : K ≤ 120) (c : Nat → Nat) (hc : ∀ j, j < K → r.1 j = nI (c j)) (s : Nat → Nat) (hs : ∀ j, j < K → r.2.1 j = mI (s j)) (ow : Nat → Nat → Bool) (hLw : ∀ x, x < K → s x ≤ x ∧ ∀ y, ow x y = (x == y || pa ow (s x) y)) (hc8 : ∀ j, j < K → c j < 8) (x y : Nat) (hx0 : x < K) (hy0 : y < K) : PM l D (tys cI cJ cZ) (rL cI cZ ad er n ev r) y_r_isFork b_r_isFork 3 (some .boolean) 1 23 [.ref (ad 0), .int (nI x), .int (nI y)] (bI (c x == c y && (!ow x y && !ow y x))) := by
  refine PM.of (by decide) (Nat.le_of_ble_eq_true rfl) ?_
  intro p9 e9 s9 m args below meth c9 ls S hr hlocks hP hK hl
  obtain ⟨hx, hb, hml, hown, htc⟩ := id S
  have hl : lv_has ls 3 [(0, .ref (ad 0)), (1, .int (nI x)), (2, .int (nI y))] := hl
  have hcx := hc8 x hx0
  have hcy := hc8 y hy0
  refine lv_aload_n hx hb d_r_isFork_0 rfl (lv_at hl 0 rfl) ?_
  refine va_get (D := D) (ci := 1) (v := .ref (ad 1)) (C := "SightGraphModel") (T := T_r) (N := 10) hx hb htc in_r hown hK hP 0 rfl rfl 3 (by decide) (htc _ k_2_76) (fun _ h9 => h9) rfl d_r_isFork_1 ?_
  refine lv_iload_n hx hb d_r_isFork_4 rfl (lv_at hl 1 rfl) ?_
  refine nr_iald hx hb hK hP 1 0 rfl rfl (by omega) (by decide) (v := (nI (c x))) (hc x (by omega)) d_r_isFork_5 ?_
  refine lv_aload_n hx hb d_r_isFork_6 rfl (lv_at hl 0 rfl) ?_
  refine va_get (D := D) (ci := 1) (v := .ref (ad 1)) (C := "SightGraphModel") (T := T_r) (N := 10) hx hb htc in_r hown hK hP 0 rfl rfl 3 (by decide) (htc _ k_2_76) (fun _ h9 => h9) rfl d_r_isFork_7 ?_
  refine lv_iload_n hx hb d_r_isFork_10 rfl (lv_at hl 2 rfl) ?_
  refine nr_iald hx hb hK hP 1 0 rfl rfl (by omega) (by decide) (v := (nI (c y))) (hc y (by omega)) d_r_isFork_11 ?_
  refine nr_icmp_ne (tgt := 37) hx hb (by omega) (by omega) d_r_isFork_12 (by decide) (fun c_12 => ?_) (fun c_12 => ?_)
  · refine lv_iconst (v := (nI 0)) hx hb d_r_isFork_37 (by decide) ?_
    refine nr_top (w := .int (bI false)) rfl ?_
    exact PM.zret hx hb hr hlocks d_r_isFork_38 (by rw [show (c x == c y) = false from by simpa using c_12]; rfl)
  · refine lv_aload_n hx hb d_r_isFork_15 rfl (lv_at hl 0 rfl) ?_
    refine lv_iload_n hx hb d_r_isFork_16 rfl (lv_at hl 1 rfl) ?_
    refine lv_iload_n hx hb d_r_isFork_17 rfl (lv_at hl 2 rfl) ?_
    refine PM.callV (rest := []) S (c_r_isOwn l D cI cJ cZ ad er n ev r K hKb s hs ow hLw x y hx0 hy0) k_2_142 k_2_144 k_s_25 k_1_2 k_2_145 h_r_isOwn ⟨Nat.le_of_ble_eq_true rfl, Nat.le_of_ble_eq_true rfl⟩ ⟨Nat.le_of_ble_eq_true rfl, Nat.le_of_ble_eq_true rfl⟩ hP hK 0 1 rfl rfl rfl hl.1 (Nat.le_of_ble_eq_true rfl) rfl d_r_isFork_18 ?_
    refine nr_ifne_b (tgt := 37) hx hb d_r_isFork_21 (by decide) (fun c_21 => ?_) (fun c_21 => ?_)
    · refine lv_iconst (v := (nI 0)) hx hb d_r_isFork_37 (by decide) ?_
      refine nr_top (w := .int (bI false)) rfl ?_
      exact PM.zret hx hb hr hlocks d_r_isFork_38 (by rw [show (c x == c y) = true from by simpa using c_12, c_21]; rfl)
    · refine lv_aload_n hx hb d_r_isFork_24 rfl (lv_at hl 0 rfl) ?_
      refine lv_iload_n hx hb d_r_isFork_25 rfl (lv_at hl 2 rfl) ?_
      refine lv_iload_n hx hb d_r_isFork_26 rfl (lv_at hl 1 rfl) ?_
      refine PM.callV (rest := []) S (c_r_isOwn l D cI cJ cZ ad er n ev r K hKb s hs ow hLw y x hy0 hx0) k_2_142 k_2_144 k_s_25 k_1_2 k_2_145 h_r_isOwn ⟨Nat.le_of_ble_eq_true rfl, Nat.le_of_ble_eq_true rfl⟩ ⟨Nat.le_of_ble_eq_true rfl, Nat.le_of_ble_eq_true rfl⟩ hP hK 0 1 rfl rfl rfl hl.1 (Nat.le_of_ble_eq_true rfl) rfl d_r_isFork_27 ?_
      refine nr_ifne_b (tgt := 37) hx hb d_r_isFork_30 (by decide) (fun c_30 => ?_) (fun c_30 => ?_)
      · refine lv_iconst (v := (nI 0)) hx hb d_r_isFork_37 (by decide) ?_
        refine nr_top (w := .int (bI false)) rfl ?_
        exact PM.zret hx hb hr hlocks d_r_isFork_38 (by rw [show (c x == c y) = true from by simpa using c_12, c_21, c_30]; rfl)
      · refine lv_iconst (v := (nI 1)) hx hb d_r_isFork_33 (by decide) ?_
        refine lv_goto (tgt := 38) hx hb d_r_isFork_34 (by decide) ?_
        refine nr_top (w := .int (bI true)) rfl ?_
        exact PM.zret hx hb hr hlocks d_r_isFork_38 (by rw [show (c x == c y) = true from by simpa using c_12, c_21, c_30]; rfl)
set_option maxHeartbeats 4000000 in
set_option maxRecDepth 100000 in
theorem c_r_isSeen (l : Launch) (D : va_G) (cI cJ cZ : ClassId) (ad : Nat → Nat) (er : Int32) (n ev : Nat) (r : RA) (K : Nat) (hKb : K ≤ 120) (c : Nat → Nat) (hc : ∀ j, j < K → r.1 j = nI (c j)) (an : Nat → Nat → Bool) (ha : ∀ j, j < K → ∀ y, y < 120 → r.2.2.2.2.2.1 (120 * j + y) = bI (an j y)) (fk : Nat → Nat → Bool) (hf : ∀ j, j < K → ∀ m, m < 8 → r.2.2.2.2.2.2 (8 * j + m) = bI (fk j m)) (hc8 : ∀ j, j < K → c j < 8) (x y : Nat) (hx0 : x < K) (hy0 : y < K) : PM l D (tys cI cJ cZ) (rL cI cZ ad er n ev r) y_r_isSeen b_r_isSeen 3 (some .boolean) 1 22 [.ref (ad 0), .int (nI x), .int (nI y)] (bI (se an fk c x y)) := by
  refine PM.of (by decide) (Nat.le_of_ble_eq_true rfl) ?_
  intro p9 e9 s9 m args below meth c9 ls S hr hlocks hP hK hl
  obtain ⟨hx, hb, hml, hown, htc⟩ := id S
  have hl : lv_has ls 3 [(0, .ref (ad 0)), (1, .int (nI x)), (2, .int (nI y))] := hl
  have hcy := hc8 y hy0
  refine lv_aload_n hx hb d_r_isSeen_0 rfl (lv_at hl 0 rfl) ?_
  refine lv_iload_n hx hb d_r_isSeen_1 rfl (lv_at hl 2 rfl) ?_
  refine lv_iload_n hx hb d_r_isSeen_2 rfl (lv_at hl 1 rfl) ?_
  refine PM.callV (rest := []) S (c_r_isAbove l D cI cJ cZ ad er n ev r K hKb an ha x y hx0 (by omega)) k_2_134 k_2_136 k_s_23 k_1_2 k_2_137 h_r_isAbove ⟨Nat.le_of_ble_eq_true rfl, Nat.le_of_ble_eq_true rfl⟩ ⟨Nat.le_of_ble_eq_true rfl, Nat.le_of_ble_eq_true rfl⟩ hP hK 0 1 rfl rfl rfl hl.1 (Nat.le_of_ble_eq_true rfl) rfl d_r_isSeen_3 ?_
  refine nr_ifeq_b (tgt := 32) hx hb d_r_isSeen_6 (by decide) (fun c_6 => ?_) (fun c_6 => ?_)
  · refine lv_iconst (v := (nI 0)) hx hb d_r_isSeen_32 (by decide) ?_
    refine nr_top (w := .int (bI false)) rfl ?_
    exact PM.zret hx hb hr hlocks d_r_isSeen_33 (by unfold se; rw [c_6]; rfl)
  · refine lv_aload_n hx hb d_r_isSeen_9 rfl (lv_at hl 0 rfl) ?_
    refine va_get (D := D) (ci := 1) (v := .ref (ad 7)) (C := "SightGraphModel") (T := T_r) (N := 10) hx hb htc in_r hown hK hP 0 rfl rfl 9 (by decide) (htc _ k_2_82) (fun _ h9 => h9) rfl d_r_isSeen_10 ?_
    refine lv_bipush (v := (nI 8)) hx hb d_r_isSeen_13 (by decide) ?_
    refine lv_iload_n hx hb d_r_isSeen_15 rfl (lv_at hl 1 rfl) ?_
    refine nr_imul hx hb d_r_isSeen_16 ?_
    refine lv_aload_n hx hb d_r_isSeen_17 rfl (lv_at hl 0 rfl) ?_
    refine va_get (D := D) (ci := 1) (v := .ref (ad 1)) (C := "SightGraphModel") (T := T_r) (N := 10) hx hb htc in_r hown hK hP 0 rfl rfl 3 (by decide) (htc _ k_2_76) (fun _ h9 => h9) rfl d_r_isSeen_18 ?_
    refine lv_iload_n hx hb d_r_isSeen_21 rfl (lv_at hl 2 rfl) ?_
    refine nr_iald hx hb hK hP 1 0 rfl rfl (by omega) (by decide) (v := (nI (c y))) (hc y (by omega)) d_r_isSeen_22 ?_
    refine nr_iadd hx hb d_r_isSeen_23 ?_
    refine nr_zald hx hb hK hP 7 2 rfl rfl (by omega) (by decide) (v := (bI (fk x (c y)))) (hf x (by omega) (c y) (by omega)) d_r_isSeen_24 ?_
    refine nr_ifne_b (tgt := 32) hx hb d_r_isSeen_25 (by decide) (fun c_25 => ?_) (fun c_25 => ?_)
    · refine lv_iconst (v := (nI 0)) hx hb d_r_isSeen_32 (by decide) ?_
      refine nr_top (w := .int (bI false)) rfl ?_
      exact PM.zret hx hb hr hlocks d_r_isSeen_33 (by unfold se; rw [c_6, c_25]; rfl)
    · refine lv_iconst (v := (nI 1)) hx hb d_r_isSeen_28 (by decide) ?_
      refine lv_goto (tgt := 33) hx hb d_r_isSeen_29 (by decide) ?_
      refine nr_top (w := .int (bI true)) rfl ?_
      exact PM.zret hx hb hr hlocks d_r_isSeen_33 (by unfold se; rw [c_6, c_25]; rfl)
set_option maxHeartbeats 4000000 in
set_option maxRecDepth 100000 in
theorem c_r_strengthOf (l : Launch) (D : va_G) (cI cJ cZ : ClassId) (ad : Nat → Nat) (er : Int32) (n ev : Nat) (r : RA) (K : Nat) (hKb : K ≤ 120) (c : Nat → Nat) (hc : ∀ j, j < K → r.1 j = nI (c j)) (an : Nat → Nat → Bool) (ha : ∀ j, j < K → ∀ y, y < 120 → r.2.2.2.2.2.1 (120 * j + y) = bI (an j y)) (fk : Nat → Nat → Bool) (hf : ∀ j, j < K → ∀ m, m < 8 → r.2.2.2.2.2.2 (8 * j + m) = bI (fk j m)) (hc8 : ∀ j, j < K → c j < 8) (hn : n ≤ 8) (x y : Nat) (hx0 : x < K) (hy0 : y < K) : PM l D (tys cI cJ cZ) (rL cI cZ ad er n ev r) y_r_strengthOf b_r_strengthOf 7 (some .int) 2 44 [.ref (ad 0), .int (nI x), .int (nI y)] (nI (sn n an fk c x y)) := by
  refine PM.of (by decide) (Nat.le_of_ble_eq_true rfl) ?_
  intro p9 e9 s9 m args below meth c9 ls S hr hlocks hP hK hl
  obtain ⟨hx, hb, hml, hown, htc⟩ := id S
  have hl : lv_has ls 7 [(0, .ref (ad 0)), (1, .int (nI x)), (2, .int (nI y))] := hl
  refine lv_iconst (v := (nI 0)) hx hb d_r_strengthOf_0 (by decide) ?_
  refine lv_istore_n (lv' := [(3, .int (nI 0)), (0, .ref (ad 0)), (1, .int (nI x)), (2, .int (nI y))]) hx hb d_r_strengthOf_1 rfl hl (by decide) rfl (fun ls hl => ?_)
  refine lv_iconst (v := (nI 0)) hx hb d_r_strengthOf_2 (by decide) ?_
  refine lv_istore (lv' := [(4, .int (nI 0)), (3, .int (nI 0)), (0, .ref (ad 0)), (1, .int (nI x)), (2, .int (nI y))]) hx hb d_r_strengthOf_3 hl (by decide) rfl (fun ls hl => ?_)
  have loop1 : ∀ (d1 : Nat) (m9 : Nat) (ls : Array Slot), n - m9 < d1 → m9 ≤ n → lv_has ls 7 [(4, .int (nI m9)), (3, .int (nI (cn m9 (fun m9 => ex (x + 1) (fun z => c z == m9 && (se an fk c x z && se an fk c z y)))))), (2, .int (nI y)), (1, .int (nI x)), (0, .ref (ad 0))] → W p9 l e9 ({ frames := 2, cells := 0, slots := 0, locals := 44 }) s9 m args below meth c9 s9.heap [] 0 0 (MQ below (vp_Si (fun r9 => r9 = (nI (sn n an fk c x y)))) args s9 0 0 (fun _ => False)) (F0 m 5 ls []) := by
    intro d1
    induction d1 with
    | zero =>
      intro m9 ls hd1 hm9 hl
      exact absurd hd1 (by omega)
    | succ d1 ih1 =>
      intro m9 ls hd1 hm9 hl
      have hcb := cn_le m9 (fun m9 => ex (x + 1) (fun z => c z == m9 && (se an fk c x z && se an fk c z y)))
      refine lv_iload hx hb d_r_strengthOf_5 (lv_at hl 0 rfl) ?_
      refine lv_aload_n hx hb d_r_strengthOf_7 rfl (lv_at hl 4 rfl) ?_
      refine va_get (D := D) (ci := 1) (v := .int (nI n)) (C := "SightGraphModel") (T := T_r) (N := 10) hx hb htc in_r hown hK hP 0 rfl rfl 1 (by decide) (htc _ k_2_74) (fun _ h9 => h9) rfl d_r_strengthOf_8 ?_
      refine nr_icmp_ge (tgt := 90) hx hb (by omega) (by omega) d_r_strengthOf_11 (by decide) (fun c_11 => ?_) (fun c_11 => ?_)
      · refine lv_iload_n hx hb d_r_strengthOf_90 rfl (lv_at hl 1 rfl) ?_
        exact PM.iret hx hb hr hlocks d_r_strengthOf_91 (by rw [show m9 = n by omega]; rfl)
      · refine lv_iconst (v := (nI 0)) hx hb d_r_strengthOf_14 (by decide) ?_
        refine nr_top (w := .int (bI false)) rfl ?_
        refine lv_istore (lv' := [(5, .int (bI false)), (4, .int (nI m9)), (3, .int (nI (cn m9 (fun m9 => ex (x + 1) (fun z => c z == m9 && (se an fk c x z && se an fk c z y)))))), (2, .int (nI y)), (1, .int (nI x)), (0, .ref (ad 0))]) hx hb d_r_strengthOf_15 hl (by decide) rfl (fun ls hl => ?_)
        refine lv_iconst (v := (nI 0)) hx hb d_r_strengthOf_17 (by decide) ?_
        refine lv_istore (lv' := [(6, .int (nI 0)), (5, .int (bI false)), (4, .int (nI m9)), (3, .int (nI (cn m9 (fun m9 => ex (x + 1) (fun z => c z == m9 && (se an fk c x z && se an fk c z y)))))), (2, .int (nI y)), (1, .int (nI x)), (0, .ref (ad 0))]) hx hb d_r_strengthOf_18 hl (by decide) rfl (fun ls hl => ?_)
        have loop2 : ∀ (d2 : Nat) (z : Nat) (has : Bool) (ls : Array Slot), x + 1 - z < d2 → z ≤ x + 1 → has = ex z (fun z => c z == m9 && (se an fk c x z && se an fk c z y)) → lv_has ls 7 [(6, .int (nI z)), (5, .int (bI has)), (4, .int (nI m9)), (3, .int (nI (cn m9 (fun m9 => ex (x + 1) (fun z => c z == m9 && (se an fk c x z && se an fk c z y)))))), (2, .int (nI y)), (1, .int (nI x)), (0, .ref (ad 0))] → W p9 l e9 ({ frames := 2, cells := 0, slots := 0, locals := 44 }) s9 m args below meth c9 s9.heap [] 0 0 (MQ below (vp_Si (fun r9 => r9 = (nI (sn n an fk c x y)))) args s9 0 0 (fun _ => False)) (F0 m 20 ls []) := by
          intro d2
          induction d2 with
          | zero =>
            intro z has ls hd2 hz hhs hl
            exact absurd hd2 (by omega)
          | succ d2 ih2 =>
            intro z has ls hd2 hz hhs hl
            refine lv_iload hx hb d_r_strengthOf_20 (lv_at hl 0 rfl) ?_
            refine lv_iload_n hx hb d_r_strengthOf_22 rfl (lv_at hl 5 rfl) ?_
            refine nr_icmp_gt (tgt := 76) hx hb (by omega) (by omega) d_r_strengthOf_23 (by decide) (fun c_23 => ?_) (fun c_23 => ?_)
            · have hhas : has = ex (x + 1) (fun z => c z == m9 && (se an fk c x z && se an fk c z y)) := sn_step hhs (by omega) (Or.inl (by omega))
              refine lv_iload hx hb d_r_strengthOf_76 (lv_at hl 1 rfl) ?_
              refine nr_ifeq_b (tgt := 84) hx hb d_r_strengthOf_78 (by decide) (fun c_78 => ?_) (fun c_78 => ?_)
              · refine lv_iinc (v := (nI (m9 + 1))) (lv' := [(4, .int (nI (m9 + 1))), (6, .int (nI z)), (5, .int (bI has)), (3, .int (nI (cn m9 (fun m9 => ex (x + 1) (fun z => c z == m9 && (se an fk c x z && se an fk c z y)))))), (2, .int (nI y)), (1, .int (nI x)), (0, .ref (ad 0))]) hx hb d_r_strengthOf_84 hl (k := 2) rfl (nI_add m9 1) (by decide) rfl (fun ls hl => ?_)
                refine lv_goto (tgt := 5) hx hb d_r_strengthOf_87 (by decide) ?_
                exact ih1 (m9 + 1) ls (by omega) (by omega) (by rw [← cn_n (p := (fun m9 => ex (x + 1) (fun z => c z == m9 && (se an fk c x z && se an fk c z y)))) (show ex (x + 1) (fun z => c z == m9 && (se an fk c x z && se an fk c z y)) = false from hhas.symm.trans c_78)]; exact (lv_sub hl [0, 3, 4, 5, 6] rfl))
              · refine lv_iinc (v := (nI ((cn m9 (fun m9 => ex (x + 1) (fun z => c z == m9 && (se an fk c x z && se an fk c z y)))) + 1))) (lv' := [(3, .int (nI ((cn m9 (fun m9 => ex (x + 1) (fun z => c z == m9 && (se an fk c x z && se an fk c z y)))) + 1))), (6, .int (nI z)), (5, .int (bI has)), (4, .int (nI m9)), (2, .int (nI y)), (1, .int (nI x)), (0, .ref (ad 0))]) hx hb d_r_strengthOf_81 hl (k := 3) rfl (nI_add (cn m9 (fun m9 => ex (x + 1) (fun z => c z == m9 && (se an fk c x z && se an fk c z y)))) 1) (by decide) rfl (fun ls hl => ?_)
                refine lv_iinc (v := (nI (m9 + 1))) (lv' := [(4, .int (nI (m9 + 1))), (3, .int (nI ((cn m9 (fun m9 => ex (x + 1) (fun z => c z == m9 && (se an fk c x z && se an fk c z y)))) + 1))), (6, .int (nI z)), (5, .int (bI has)), (2, .int (nI y)), (1, .int (nI x)), (0, .ref (ad 0))]) hx hb d_r_strengthOf_84 hl (k := 3) rfl (nI_add m9 1) (by decide) rfl (fun ls hl => ?_)
                refine lv_goto (tgt := 5) hx hb d_r_strengthOf_87 (by decide) ?_
                exact ih1 (m9 + 1) ls (by omega) (by omega) (by rw [← cn_y (p := (fun m9 => ex (x + 1) (fun z => c z == m9 && (se an fk c x z && se an fk c z y)))) (show ex (x + 1) (fun z => c z == m9 && (se an fk c x z && se an fk c z y)) = true from hhas.symm.trans c_78)]; exact (lv_sub hl [0, 1, 4, 5, 6] rfl))
            · refine lv_iload hx hb d_r_strengthOf_26 (lv_at hl 1 rfl) ?_
              refine nr_ifne_b (tgt := 76) hx hb d_r_strengthOf_28 (by decide) (fun c_28 => ?_) (fun c_28 => ?_)
              · have hhas : has = ex (x + 1) (fun z => c z == m9 && (se an fk c x z && se an fk c z y)) := sn_step hhs (by omega) (Or.inr c_28)
                refine lv_iload hx hb d_r_strengthOf_76 (lv_at hl 1 rfl) ?_
                refine nr_ifeq_b (tgt := 84) hx hb d_r_strengthOf_78 (by decide) (fun c_78 => ?_) (fun c_78 => ?_)
                · refine lv_iinc (v := (nI (m9 + 1))) (lv' := [(4, .int (nI (m9 + 1))), (6, .int (nI z)), (5, .int (bI has)), (3, .int (nI (cn m9 (fun m9 => ex (x + 1) (fun z => c z == m9 && (se an fk c x z && se an fk c z y)))))), (2, .int (nI y)), (1, .int (nI x)), (0, .ref (ad 0))]) hx hb d_r_strengthOf_84 hl (k := 2) rfl (nI_add m9 1) (by decide) rfl (fun ls hl => ?_)
                  refine lv_goto (tgt := 5) hx hb d_r_strengthOf_87 (by decide) ?_
                  exact ih1 (m9 + 1) ls (by omega) (by omega) (by rw [← cn_n (p := (fun m9 => ex (x + 1) (fun z => c z == m9 && (se an fk c x z && se an fk c z y)))) (show ex (x + 1) (fun z => c z == m9 && (se an fk c x z && se an fk c z y)) = false from hhas.symm.trans c_78)]; exact (lv_sub hl [0, 3, 4, 5, 6] rfl))
                · refine lv_iinc (v := (nI ((cn m9 (fun m9 => ex (x + 1) (fun z => c z == m9 && (se an fk c x z && se an fk c z y)))) + 1))) (lv' := [(3, .int (nI ((cn m9 (fun m9 => ex (x + 1) (fun z => c z == m9 && (se an fk c x z && se an fk c z y)))) + 1))), (6, .int (nI z)), (5, .int (bI has)), (4, .int (nI m9)), (2, .int (nI y)), (1, .int (nI x)), (0, .ref (ad 0))]) hx hb d_r_strengthOf_81 hl (k := 3) rfl (nI_add (cn m9 (fun m9 => ex (x + 1) (fun z => c z == m9 && (se an fk c x z && se an fk c z y)))) 1) (by decide) rfl (fun ls hl => ?_)
                  refine lv_iinc (v := (nI (m9 + 1))) (lv' := [(4, .int (nI (m9 + 1))), (3, .int (nI ((cn m9 (fun m9 => ex (x + 1) (fun z => c z == m9 && (se an fk c x z && se an fk c z y)))) + 1))), (6, .int (nI z)), (5, .int (bI has)), (2, .int (nI y)), (1, .int (nI x)), (0, .ref (ad 0))]) hx hb d_r_strengthOf_84 hl (k := 3) rfl (nI_add m9 1) (by decide) rfl (fun ls hl => ?_)
                  refine lv_goto (tgt := 5) hx hb d_r_strengthOf_87 (by decide) ?_
                  exact ih1 (m9 + 1) ls (by omega) (by omega) (by rw [← cn_y (p := (fun m9 => ex (x + 1) (fun z => c z == m9 && (se an fk c x z && se an fk c z y)))) (show ex (x + 1) (fun z => c z == m9 && (se an fk c x z && se an fk c z y)) = true from hhas.symm.trans c_78)]; exact (lv_sub hl [0, 1, 4, 5, 6] rfl))
              · have hcz := hc8 z (by omega)
                refine lv_aload_n hx hb d_r_strengthOf_31 rfl (lv_at hl 6 rfl) ?_
                refine va_get (D := D) (ci := 1) (v := .ref (ad 1)) (C := "SightGraphModel") (T := T_r) (N := 10) hx hb htc in_r hown hK hP 0 rfl rfl 3 (by decide) (htc _ k_2_76) (fun _ h9 => h9) rfl d_r_strengthOf_32 ?_
                refine lv_iload hx hb d_r_strengthOf_35 (lv_at hl 0 rfl) ?_
                refine nr_iald hx hb hK hP 1 0 rfl rfl (by omega) (by decide) (v := (nI (c z))) (hc z (by omega)) d_r_strengthOf_37 ?_
                refine lv_iload hx hb d_r_strengthOf_38 (lv_at hl 2 rfl) ?_
                refine nr_icmp_ne (tgt := 67) hx hb (by omega) (by omega) d_r_strengthOf_40 (by decide) (fun c_40 => ?_) (fun c_40 => ?_)
                · refine lv_iconst (v := (nI 0)) hx hb d_r_strengthOf_67 (by decide) ?_
                  refine nr_top (w := .int (bI false)) rfl ?_
                  refine lv_istore (lv' := [(5, .int (bI false)), (6, .int (nI z)), (4, .int (nI m9)), (3, .int (nI (cn m9 (fun m9 => ex (x + 1) (fun z => c z == m9 && (se an fk c x z && se an fk c z y)))))), (2, .int (nI y)), (1, .int (nI x)), (0, .ref (ad 0))]) hx hb d_r_strengthOf_68 hl (by decide) rfl (fun ls hl => ?_)
                  refine lv_iinc (v := (nI (z + 1))) (lv' := [(6, .int (nI (z + 1))), (5, .int (bI false)), (4, .int (nI m9)), (3, .int (nI (cn m9 (fun m9 => ex (x + 1) (fun z => c z == m9 && (se an fk c x z && se an fk c z y)))))), (2, .int (nI y)), (1, .int (nI x)), (0, .ref (ad 0))]) hx hb d_r_strengthOf_70 hl (k := 1) rfl (nI_add z 1) (by decide) rfl (fun ls hl => ?_)
                  refine lv_goto (tgt := 20) hx hb d_r_strengthOf_73 (by decide) ?_
                  exact ih2 (z + 1) false ls (by omega) (by omega) (ex_hs (p := (fun z => c z == m9 && (se an fk c x z && se an fk c z y))) (hhs.symm.trans c_28) (by rw [show (c z == m9) = false from by simpa using c_40]; rfl)) (lv_sub hl [0, 1, 2, 3, 4, 5, 6] rfl)
                · refine lv_aload_n hx hb d_r_strengthOf_43 rfl (lv_at hl 6 rfl) ?_
                  refine lv_iload_n hx hb d_r_strengthOf_44 rfl (lv_at hl 5 rfl) ?_
                  refine lv_iload hx hb d_r_strengthOf_45 (lv_at hl 0 rfl) ?_
                  refine PM.callV (rest := []) S (c_r_isSeen l D cI cJ cZ ad er n ev r K hKb c hc an ha fk hf hc8 x z hx0 (by omega)) k_2_159 k_2_161 k_s_29 k_1_2 k_2_162 h_r_isSeen ⟨Nat.le_of_ble_eq_true rfl, Nat.le_of_ble_eq_true rfl⟩ ⟨Nat.le_of_ble_eq_true rfl, Nat.le_of_ble_eq_true rfl⟩ hP hK 0 1 rfl rfl rfl hl.1 (Nat.le_of_ble_eq_true rfl) rfl d_r_strengthOf_47 ?_
                  refine nr_ifeq_b (tgt := 67) hx hb d_r_strengthOf_50 (by decide) (fun c_50 => ?_) (fun c_50 => ?_)
                  · refine lv_iconst (v := (nI 0)) hx hb d_r_strengthOf_67 (by decide) ?_
                    refine nr_top (w := .int (bI false)) rfl ?_
                    refine lv_istore (lv' := [(5, .int (bI false)), (6, .int (nI z)), (4, .int (nI m9)), (3, .int (nI (cn m9 (fun m9 => ex (x + 1) (fun z => c z == m9 && (se an fk c x z && se an fk c z y)))))), (2, .int (nI y)), (1, .int (nI x)), (0, .ref (ad 0))]) hx hb d_r_strengthOf_68 hl (by decide) rfl (fun ls hl => ?_)
                    refine lv_iinc (v := (nI (z + 1))) (lv' := [(6, .int (nI (z + 1))), (5, .int (bI false)), (4, .int (nI m9)), (3, .int (nI (cn m9 (fun m9 => ex (x + 1) (fun z => c z == m9 && (se an fk c x z && se an fk c z y)))))), (2, .int (nI y)), (1, .int (nI x)), (0, .ref (ad 0))]) hx hb d_r_strengthOf_70 hl (k := 1) rfl (nI_add z 1) (by decide) rfl (fun ls hl => ?_)
                    refine lv_goto (tgt := 20) hx hb d_r_strengthOf_73 (by decide) ?_
                    exact ih2 (z + 1) false ls (by omega) (by omega) (ex_hs (p := (fun z => c z == m9 && (se an fk c x z && se an fk c z y))) (hhs.symm.trans c_28) (by rw [c_50]; simp)) (lv_sub hl [0, 1, 2, 3, 4, 5, 6] rfl)
                  · refine lv_aload_n hx hb d_r_strengthOf_53 rfl (lv_at hl 6 rfl) ?_
                    refine lv_iload hx hb d_r_strengthOf_54 (lv_at hl 0 rfl) ?_
                    refine lv_iload_n hx hb d_r_strengthOf_56 rfl (lv_at hl 4 rfl) ?_
                    refine PM.callV (rest := []) S (c_r_isSeen l D cI cJ cZ ad er n ev r K hKb c hc an ha fk hf hc8 z y (by omega) hy0) k_2_159 k_2_161 k_s_29 k_1_2 k_2_162 h_r_isSeen ⟨Nat.le_of_ble_eq_true rfl, Nat.le_of_ble_eq_true rfl⟩ ⟨Nat.le_of_ble_eq_true rfl, Nat.le_of_ble_eq_true rfl⟩ hP hK 0 1 rfl rfl rfl hl.1 (Nat.le_of_ble_eq_true rfl) rfl d_r_strengthOf_57 ?_
                    refine nr_ifeq_b (tgt := 67) hx hb d_r_strengthOf_60 (by decide) (fun c_60 => ?_) (fun c_60 => ?_)
                    · refine lv_iconst (v := (nI 0)) hx hb d_r_strengthOf_67 (by decide) ?_
                      refine nr_top (w := .int (bI false)) rfl ?_
                      refine lv_istore (lv' := [(5, .int (bI false)), (6, .int (nI z)), (4, .int (nI m9)), (3, .int (nI (cn m9 (fun m9 => ex (x + 1) (fun z => c z == m9 && (se an fk c x z && se an fk c z y)))))), (2, .int (nI y)), (1, .int (nI x)), (0, .ref (ad 0))]) hx hb d_r_strengthOf_68 hl (by decide) rfl (fun ls hl => ?_)
                      refine lv_iinc (v := (nI (z + 1))) (lv' := [(6, .int (nI (z + 1))), (5, .int (bI false)), (4, .int (nI m9)), (3, .int (nI (cn m9 (fun m9 => ex (x + 1) (fun z => c z == m9 && (se an fk c x z && se an fk c z y)))))), (2, .int (nI y)), (1, .int (nI x)), (0, .ref (ad 0))]) hx hb d_r_strengthOf_70 hl (k := 1) rfl (nI_add z 1) (by decide) rfl (fun ls hl => ?_)
                      refine lv_goto (tgt := 20) hx hb d_r_strengthOf_73 (by decide) ?_
                      exact ih2 (z + 1) false ls (by omega) (by omega) (ex_hs (p := (fun z => c z == m9 && (se an fk c x z && se an fk c z y))) (hhs.symm.trans c_28) (by rw [c_60]; simp)) (lv_sub hl [0, 1, 2, 3, 4, 5, 6] rfl)
                    · refine lv_iconst (v := (nI 1)) hx hb d_r_strengthOf_63 (by decide) ?_
                      refine lv_goto (tgt := 68) hx hb d_r_strengthOf_64 (by decide) ?_
                      refine nr_top (w := .int (bI true)) rfl ?_
                      refine lv_istore (lv' := [(5, .int (bI true)), (6, .int (nI z)), (4, .int (nI m9)), (3, .int (nI (cn m9 (fun m9 => ex (x + 1) (fun z => c z == m9 && (se an fk c x z && se an fk c z y)))))), (2, .int (nI y)), (1, .int (nI x)), (0, .ref (ad 0))]) hx hb d_r_strengthOf_68 hl (by decide) rfl (fun ls hl => ?_)
                      refine lv_iinc (v := (nI (z + 1))) (lv' := [(6, .int (nI (z + 1))), (5, .int (bI true)), (4, .int (nI m9)), (3, .int (nI (cn m9 (fun m9 => ex (x + 1) (fun z => c z == m9 && (se an fk c x z && se an fk c z y)))))), (2, .int (nI y)), (1, .int (nI x)), (0, .ref (ad 0))]) hx hb d_r_strengthOf_70 hl (k := 1) rfl (nI_add z 1) (by decide) rfl (fun ls hl => ?_)
                      refine lv_goto (tgt := 20) hx hb d_r_strengthOf_73 (by decide) ?_
                      exact ih2 (z + 1) true ls (by omega) (by omega) (ex_hs (p := (fun z => c z == m9 && (se an fk c x z && se an fk c z y))) (hhs.symm.trans c_28) (by rw [show (c z == m9) = true from by simpa using c_40, c_50, c_60]; rfl)) (lv_sub hl [0, 1, 2, 3, 4, 5, 6] rfl)
        exact loop2 (x + 2) 0 false ls (by omega) (by omega) rfl (lv_sub hl [0, 1, 2, 3, 4, 5, 6] rfl)
  exact loop1 (n + 1) 0 ls (by omega) (by omega) (lv_sub hl [0, 1, 4, 3, 2] rfl)
set_option maxHeartbeats 4000000 in
set_option maxRecDepth 100000 in
theorem c_r_isStrong (l : Launch) (D : va_G) (cI cJ cZ : ClassId) (ad : Nat → Nat) (er : Int32) (n ev : Nat) (r : RA) (K : Nat) (hKb : K ≤ 120) (c : Nat → Nat) (hc : ∀ j, j < K → r.1 j = nI (c j)) (an : Nat → Nat → Bool) (ha : ∀ j, j < K → ∀ y, y < 120 → r.2.2.2.2.2.1 (120 * j + y) = bI (an j y)) (fk : Nat → Nat → Bool) (hf : ∀ j, j < K → ∀ m, m < 8 → r.2.2.2.2.2.2 (8 * j + m) = bI (fk j m)) (hc8 : ∀ j, j < K → c j < 8) (hn : n ≤ 8) (x y : Nat) (hx0 : x < K) (hy0 : y < K) : PM l D (tys cI cJ cZ) (rL cI cZ ad er n ev r) y_r_isStrong b_r_isStrong 3 (some .boolean) 3 70 [.ref (ad 0), .int (nI x), .int (nI y)] (bI (mn n (sn n an fk c x y))) := by
  refine PM.of (by decide) (Nat.le_of_ble_eq_true rfl) ?_
  intro p9 e9 s9 m args below meth c9 ls S hr hlocks hP hK hl
  obtain ⟨hx, hb, hml, hown, htc⟩ := id S
  have hl : lv_has ls 3 [(0, .ref (ad 0)), (1, .int (nI x)), (2, .int (nI y))] := hl
  have hsb := sn_le n an fk c x y
  refine lv_iconst (v := (nI 3)) hx hb d_r_isStrong_0 (by decide) ?_
  refine lv_aload_n hx hb d_r_isStrong_1 rfl (lv_at hl 0 rfl) ?_
  refine lv_iload_n hx hb d_r_isStrong_2 rfl (lv_at hl 1 rfl) ?_
  refine lv_iload_n hx hb d_r_isStrong_3 rfl (lv_at hl 2 rfl) ?_
  refine PM.callV (rest := [.int (nI 3)]) S (c_r_strengthOf l D cI cJ cZ ad er n ev r K hKb c hc an ha fk hf hc8 hn x y hx0 hy0) k_2_155 k_2_157 k_s_28 k_1_2 k_2_158 h_r_strengthOf ⟨Nat.le_of_ble_eq_true rfl, Nat.le_of_ble_eq_true rfl⟩ ⟨Nat.le_of_ble_eq_true rfl, Nat.le_of_ble_eq_true rfl⟩ hP hK 0 1 rfl rfl rfl hl.1 (Nat.le_of_ble_eq_true rfl) rfl d_r_isStrong_4 ?_
  refine nr_imul hx hb d_r_isStrong_7 ?_
  refine lv_iconst (v := (nI 2)) hx hb d_r_isStrong_8 (by decide) ?_
  refine lv_aload_n hx hb d_r_isStrong_9 rfl (lv_at hl 0 rfl) ?_
  refine va_get (D := D) (ci := 1) (v := .int (nI n)) (C := "SightGraphModel") (T := T_r) (N := 10) hx hb htc in_r hown hK hP 0 rfl rfl 1 (by decide) (htc _ k_2_74) (fun _ h9 => h9) rfl d_r_isStrong_10 ?_
  refine nr_imul hx hb d_r_isStrong_13 ?_
  refine nr_icmp_le (tgt := 21) hx hb (by omega) (by omega) d_r_isStrong_14 (by decide) (fun c_14 => ?_) (fun c_14 => ?_)
  · refine lv_iconst (v := (nI 0)) hx hb d_r_isStrong_21 (by decide) ?_
    refine nr_top (w := .int (bI false)) rfl ?_
    exact PM.zret hx hb hr hlocks d_r_isStrong_22 (by rw [show mn n (sn n an fk c x y) = false from decide_eq_false (by omega)])
  · refine lv_iconst (v := (nI 1)) hx hb d_r_isStrong_17 (by decide) ?_
    refine lv_goto (tgt := 22) hx hb d_r_isStrong_18 (by decide) ?_
    refine nr_top (w := .int (bI true)) rfl ?_
    exact PM.zret hx hb hr hlocks d_r_isStrong_22 (by rw [show mn n (sn n an fk c x y) = true from decide_eq_true (by omega)])
set_option maxHeartbeats 4000000 in
set_option maxRecDepth 100000 in
theorem c_r_isWitness (l : Launch) (D : va_G) (cI cJ cZ : ClassId) (ad : Nat → Nat) (er : Int32) (n ev : Nat) (r : RA) (K : Nat) (hKb : K ≤ 120) (s : Nat → Nat) (hs : ∀ j, j < K → r.2.1 j = mI (s j)) (rd : Nat → Nat) (KR : Nat) (hKR : KR ≤ 120) (hR : ∀ j, j < KR → r.2.2.2.1 j = nI (rd j) ∧ rd j ≤ j + 1) (x : Nat) (hx0 : x < K) (hxR : x < KR) (hsx : s x ≤ x) : PM l D (tys cI cJ cZ) (rL cI cZ ad er n ev r) y_r_isWitness b_r_isWitness 2 (some .boolean) 0 0 [.ref (ad 0), .int (nI x)] (bI (wi s rd x)) := by
  refine PM.of (by decide) (Nat.le_of_ble_eq_true rfl) ?_
  intro p9 e9 s9 m args below meth c9 ls S hr hlocks hP hK hl
  obtain ⟨hx, hb, hml, hown, htc⟩ := id S
  have hl : lv_has ls 2 [(0, .ref (ad 0)), (1, .int (nI x))] := hl
  refine lv_aload_n hx hb d_r_isWitness_0 rfl (lv_at hl 0 rfl) ?_
  refine va_get (D := D) (ci := 1) (v := .ref (ad 2)) (C := "SightGraphModel") (T := T_r) (N := 10) hx hb htc in_r hown hK hP 0 rfl rfl 4 (by decide) (htc _ k_2_77) (fun _ h9 => h9) rfl d_r_isWitness_1 ?_
  refine lv_iload_n hx hb d_r_isWitness_4 rfl (lv_at hl 1 rfl) ?_
  refine nr_iald hx hb hK hP 2 0 rfl rfl (by omega) (by decide) (v := (mI (s x))) (hs x (by omega)) d_r_isWitness_5 ?_
  refine nr_iflt_m (tgt := 29) hx hb (by omega) d_r_isWitness_6 (by decide) (fun c_6 => ?_) (fun c_6 => ?_)
  · refine lv_iconst (v := (nI 1)) hx hb d_r_isWitness_29 (by decide) ?_
    refine lv_goto (tgt := 34) hx hb d_r_isWitness_30 (by decide) ?_
    refine nr_top (w := .int (bI true)) rfl ?_
    exact PM.zret hx hb hr hlocks d_r_isWitness_34 (by unfold wi; rw [show s x = 0 from c_6]; rfl)
  · refine lv_aload_n hx hb d_r_isWitness_9 rfl (lv_at hl 0 rfl) ?_
    refine va_get (D := D) (ci := 1) (v := .ref (ad 4)) (C := "SightGraphModel") (T := T_r) (N := 10) hx hb htc in_r hown hK hP 0 rfl rfl 6 (by decide) (htc _ k_2_79) (fun _ h9 => h9) rfl d_r_isWitness_10 ?_
    refine lv_aload_n hx hb d_r_isWitness_13 rfl (lv_at hl 0 rfl) ?_
    refine va_get (D := D) (ci := 1) (v := .ref (ad 2)) (C := "SightGraphModel") (T := T_r) (N := 10) hx hb htc in_r hown hK hP 0 rfl rfl 4 (by decide) (htc _ k_2_77) (fun _ h9 => h9) rfl d_r_isWitness_14 ?_
    refine lv_iload_n hx hb d_r_isWitness_17 rfl (lv_at hl 1 rfl) ?_
    refine nr_iald hx hb hK hP 2 0 rfl rfl (by omega) (by decide) (v := (mI (s x))) (hs x (by omega)) d_r_isWitness_18 ?_
    have hs1 : s x = (s x - 1) + 1 := by omega
    have hb9 := (hR (s x - 1) (by omega)).2
    have hb8 := (hR x (by omega)).2
    refine nr_top (w := .int (nI (s x - 1))) (congrArg Value.int (by rw [hs1]; rfl)) ?_
    refine nr_iald hx hb hK hP 4 0 rfl rfl (by omega) (by decide) (v := (nI (rd (s x - 1)))) (hR (s x - 1) (by omega)).1 d_r_isWitness_19 ?_
    refine lv_aload_n hx hb d_r_isWitness_20 rfl (lv_at hl 0 rfl) ?_
    refine va_get (D := D) (ci := 1) (v := .ref (ad 4)) (C := "SightGraphModel") (T := T_r) (N := 10) hx hb htc in_r hown hK hP 0 rfl rfl 6 (by decide) (htc _ k_2_79) (fun _ h9 => h9) rfl d_r_isWitness_21 ?_
    refine lv_iload_n hx hb d_r_isWitness_24 rfl (lv_at hl 1 rfl) ?_
    refine nr_iald hx hb hK hP 4 0 rfl rfl (by omega) (by decide) (v := (nI (rd x))) (hR x (by omega)).1 d_r_isWitness_25 ?_
    refine nr_icmp_ge (tgt := 33) hx hb (by omega) (by omega) d_r_isWitness_26 (by decide) (fun c_26 => ?_) (fun c_26 => ?_)
    · refine lv_iconst (v := (nI 0)) hx hb d_r_isWitness_33 (by decide) ?_
      refine nr_top (w := .int (bI false)) rfl ?_
      exact PM.zret hx hb hr hlocks d_r_isWitness_34 (by unfold wi; rw [show (s x == 0) = false from by simpa using c_6, show decide (rd (s x - 1) < rd x) = false from decide_eq_false (by omega)]; rfl)
    · refine lv_iconst (v := (nI 1)) hx hb d_r_isWitness_29 (by decide) ?_
      refine lv_goto (tgt := 34) hx hb d_r_isWitness_30 (by decide) ?_
      refine nr_top (w := .int (bI true)) rfl ?_
      exact PM.zret hx hb hr hlocks d_r_isWitness_34 (by unfold wi; rw [show (s x == 0) = false from by simpa using c_6, show decide (rd (s x - 1) < rd x) = true from decide_eq_true (by omega)]; rfl)
set_option maxHeartbeats 4000000 in
set_option maxRecDepth 100000 in
theorem c_r_thrown (l : Launch) (D : va_G) (cI cJ cZ : ClassId) (ad : Nat → Nat) (er : Int32) (n ev : Nat) (r : RA)  : PM l D (tys cI cJ cZ) (rL cI cZ ad er n ev r) y_r_thrown b_r_thrown 1 (some .int) 0 0 [.ref (ad 0)] (er) := by
  refine PM.of (by decide) (Nat.le_of_ble_eq_true rfl) ?_
  intro p9 e9 s9 m args below meth c9 ls S hr hlocks hP hK hl
  obtain ⟨hx, hb, hml, hown, htc⟩ := id S
  have hl : lv_has ls 1 [(0, .ref (ad 0))] := hl
  refine lv_aload_n hx hb d_r_thrown_0 rfl (lv_at hl 0 rfl) ?_
  refine va_get (D := D) (ci := 1) (v := .int er) (C := "SightGraphModel") (T := T_r) (N := 10) hx hb htc in_r hown hK hP 0 rfl rfl 0 (by decide) (htc _ k_2_73) (fun _ h9 => h9) rfl d_r_thrown_1 ?_
  exact PM.iret hx hb hr hlocks d_r_thrown_4 rfl
end
section
def fe (b : Bool) (k : Nat) : Int32 := if b then nI k else 0
set_option maxHeartbeats 4000000 in
set_option maxRecDepth 100000 in
theorem c_r_fails_t (l : Launch) (D : va_G) (cI cJ cZ : ClassId) (ad : Nat → Nat) (n ev : Nat) (r : RA) (k : Nat) (hk : 0 < k) (hk2 : k < 1000) : WI (S := Unit) l D (tys cI cJ cZ) (rL cI cZ ad 0 n ev r) (fun _ => rL cI cZ ad (fe true k) n ev r) (fun v _ => v = bI true) y_r_fails b_r_fails 3 (some .boolean) 0 0 [.ref (ad 0), .int (bI true), .int (nI k)] := by
  refine WI.of (by decide) (Nat.le_of_ble_eq_true rfl) ?_
  intro p9 e9 s9 m args below meth c9 ls A S hr hlocks hA hP hK hD hl
  obtain ⟨hx, hb, hml, hown, htc⟩ := id S
  have hS : va_S A s9.heap s9.heap [] := va_S.rf
  have hl : lv_has ls 3 [(0, .ref (ad 0)), (1, .int (bI true)), (2, .int (nI k))] := hl
  refine lv_iload_n hx hb d_r_fails_0 rfl (lv_at hl 1 rfl) ?_
  refine lv_if_eq (tgt := 16) hx hb d_r_fails_1 (by decide) (fun q => absurd q (by decide)) (fun _ => ?_)
  refine lv_aload_n hx hb d_r_fails_4 rfl (lv_at hl 0 rfl) ?_
  refine va_get (D := D) (ci := 1) (v := .int 0) (C := "SightGraphModel") (T := T_r) (N := 10) hx hb htc in_r hown hK hP 0 rfl rfl 0 (by decide) (htc _ k_2_73) (fun _ h9 => h9) rfl d_r_fails_5 ?_
  refine lv_if_ne (tgt := 16) hx hb d_r_fails_8 (by decide) (fun q => absurd rfl q) (fun _ => ?_)
  refine lv_aload_n hx hb d_r_fails_11 rfl (lv_at hl 0 rfl) ?_
  refine lv_iload_n hx hb d_r_fails_12 rfl (lv_at hl 2 rfl) ?_
  refine va_put (D := D) (ci := 1) (v := .int (nI k)) (ty := .int) (C := "SightGraphModel") (T := T_r) (N := 10) hx hb htc in_r t_r ft_r fn_r hown hK hP hD hS 0 rfl rfl 0 (by decide) (htc _ k_2_73) (fun _ h9 => h9) rfl (by decide +kernel) rfl rfl (Nat.le_of_ble_eq_true rfl) d_r_fails_13 (fun H locs hP hD hS => ?_)
  have hP : va_P D cls (rL cI cZ ad (nI k) n ev r) H := hP
  have hD : va_D A (rL cI cZ ad (nI k) n ev r) := hD
  refine lv_aload_n hx hb d_r_fails_16 rfl (lv_at hl 0 rfl) ?_
  refine va_get (D := D) (ci := 1) (v := .int (nI k)) (C := "SightGraphModel") (T := T_r) (N := 10) hx hb htc in_r hown hK hP 0 rfl rfl 0 (by decide) (htc _ k_2_73) (fun _ h9 => h9) rfl d_r_fails_17 ?_
  refine lv_if_eq (tgt := 27) hx hb d_r_fails_20 (by decide) (fun q => absurd q (nI_ne0 hk (by omega))) (fun _ => ?_)
  refine lv_iconst (v := (nI 1)) hx hb d_r_fails_23 (by decide) ?_
  refine lv_goto (tgt := 28) hx hb d_r_fails_24 (by decide) ?_
  refine nr_top (w := .int (bI true)) rfl ?_
  exact WI.zret hx hb hr hlocks hK hS d_r_fails_28 () rfl hP hD
set_option maxHeartbeats 4000000 in
set_option maxRecDepth 100000 in
theorem c_r_fails_f (l : Launch) (D : va_G) (cI cJ cZ : ClassId) (ad : Nat → Nat) (n ev : Nat) (r : RA) (k : Nat) (hk : 0 < k) (hk2 : k < 1000) : WI (S := Unit) l D (tys cI cJ cZ) (rL cI cZ ad 0 n ev r) (fun _ => rL cI cZ ad (fe false k) n ev r) (fun v _ => v = bI false) y_r_fails b_r_fails 3 (some .boolean) 0 0 [.ref (ad 0), .int (bI false), .int (nI k)] := by
  refine WI.of (by decide) (Nat.le_of_ble_eq_true rfl) ?_
  intro p9 e9 s9 m args below meth c9 ls A S hr hlocks hA hP hK hD hl
  obtain ⟨hx, hb, hml, hown, htc⟩ := id S
  have hS : va_S A s9.heap s9.heap [] := va_S.rf
  have hl : lv_has ls 3 [(0, .ref (ad 0)), (1, .int (bI false)), (2, .int (nI k))] := hl
  refine lv_iload_n hx hb d_r_fails_0 rfl (lv_at hl 1 rfl) ?_
  refine lv_if_eq (tgt := 16) hx hb d_r_fails_1 (by decide) (fun _ => ?_) (fun q => absurd rfl q)
  refine lv_aload_n hx hb d_r_fails_16 rfl (lv_at hl 0 rfl) ?_
  refine va_get (D := D) (ci := 1) (v := .int 0) (C := "SightGraphModel") (T := T_r) (N := 10) hx hb htc in_r hown hK hP 0 rfl rfl 0 (by decide) (htc _ k_2_73) (fun _ h9 => h9) rfl d_r_fails_17 ?_
  refine lv_if_eq (tgt := 27) hx hb d_r_fails_20 (by decide) (fun _ => ?_) (fun q => absurd rfl q)
  refine lv_iconst (v := (nI 0)) hx hb d_r_fails_27 (by decide) ?_
  refine nr_top (w := .int (bI false)) rfl ?_
  exact WI.zret hx hb hr hlocks hK hS d_r_fails_28 () rfl hP hD
theorem c_r_fails (l : Launch) (D : va_G) (cI cJ cZ : ClassId) (ad : Nat → Nat) (n ev : Nat) (r : RA) (b : Bool) (k : Nat) (hk : 0 < k) (hk2 : k < 1000) : WI (S := Unit) l D (tys cI cJ cZ) (rL cI cZ ad 0 n ev r) (fun _ => rL cI cZ ad (fe b k) n ev r) (fun v _ => v = bI b) y_r_fails b_r_fails 3 (some .boolean) 0 0 [.ref (ad 0), .int (bI b), .int (nI k)] := by
  cases b with
  | true => exact c_r_fails_t l D cI cJ cZ ad n ev r k hk hk2
  | false => exact c_r_fails_f l D cI cJ cZ ad n ev r k hk hk2
set_option maxHeartbeats 4000000 in
set_option maxRecDepth 100000 in
theorem c_r_ancestor_ok (l : Launch) (D : va_G) (cI cJ cZ : ClassId) (ad : Nat → Nat) (er : Int32) (n ev : Nat) (r : RA) (hev : ev ≤ 120) (K : Nat) (hKb : K ≤ 120) (an : Nat → Nat → Bool) (ha : ∀ j, j < K → ∀ y, y < 120 → r.2.2.2.2.2.1 (120 * j + y) = bI (an j y)) (hevK : ev ≤ K) (x y : Nat) (hx0 : x < ev) (hy0 : y < ev) : WI (S := Unit) l D (tys cI cJ cZ) (rL cI cZ ad er n ev r) (fun _ => rL cI cZ ad 0 n ev r) (fun v _ => v = bI (an x y)) y_r_ancestor b_r_ancestor 3 (some .boolean) 2 50 [.ref (ad 0), .int (nI x), .int (nI y)] := by
  refine WI.of (by decide) (Nat.le_of_ble_eq_true rfl) ?_
  intro p9 e9 s9 m args below meth c9 ls A S hr hlocks hA hP hK hD hl
  obtain ⟨hx, hb, hml, hown, htc⟩ := id S
  have hS : va_S A s9.heap s9.heap [] := va_S.rf
  have hl : lv_has ls 3 [(0, .ref (ad 0)), (1, .int (nI x)), (2, .int (nI y))] := hl
  refine lv_aload_n hx hb d_r_ancestor_0 rfl (lv_at hl 0 rfl) ?_
  refine lv_iconst (v := (nI 0)) hx hb d_r_ancestor_1 (by decide) ?_
  refine va_put (D := D) (ci := 1) (v := .int (nI 0)) (ty := .int) (C := "SightGraphModel") (T := T_r) (N := 10) hx hb htc in_r t_r ft_r fn_r hown hK hP hD hS 0 rfl rfl 0 (by decide) (htc _ k_2_73) (fun _ h9 => h9) rfl (by decide +kernel) rfl rfl (Nat.le_of_ble_eq_true rfl) d_r_ancestor_2 (fun H locs hP hD hS => ?_)
  have hP : va_P D cls (rL cI cZ ad (nI 0) n ev r) H := hP
  have hD : va_D A (rL cI cZ ad (nI 0) n ev r) := hD
  refine lv_aload_n hx hb d_r_ancestor_5 rfl (lv_at hl 0 rfl) ?_
  refine lv_aload_n hx hb d_r_ancestor_6 rfl (lv_at hl 0 rfl) ?_
  refine lv_iload_n hx hb d_r_ancestor_7 rfl (lv_at hl 1 rfl) ?_
  refine PM.callV (rest := [.ref (ad 0)]) S (c_r_isEvent l D cI cJ cZ ad (nI 0) n ev r (by omega) (nI x)) k_2_126 k_2_128 k_s_21 k_1_2 k_2_129 h_r_isEvent ⟨Nat.le_of_ble_eq_true rfl, Nat.le_of_ble_eq_true rfl⟩ ⟨Nat.le_of_ble_eq_true rfl, Nat.le_of_ble_eq_true rfl⟩ hP hK 0 1 rfl rfl rfl hl.1 (Nat.le_of_ble_eq_true rfl) rfl d_r_ancestor_8 ?_
  refine nr_ifeq_b (tgt := 22) hx hb d_r_ancestor_11 (by decide) (fun q9 => absurd (show (iv ev (nI x)) = true from iv_t hx0 hev) (by rw [q9]; decide)) (fun q9 => ?_)
  refine lv_aload_n hx hb d_r_ancestor_14 rfl (lv_at hl 0 rfl) ?_
  refine lv_iload_n hx hb d_r_ancestor_15 rfl (lv_at hl 2 rfl) ?_
  refine PM.callV (rest := [.ref (ad 0)]) S (c_r_isEvent l D cI cJ cZ ad (nI 0) n ev r (by omega) (nI y)) k_2_126 k_2_128 k_s_21 k_1_2 k_2_129 h_r_isEvent ⟨Nat.le_of_ble_eq_true rfl, Nat.le_of_ble_eq_true rfl⟩ ⟨Nat.le_of_ble_eq_true rfl, Nat.le_of_ble_eq_true rfl⟩ hP hK 0 1 rfl rfl rfl hl.1 (Nat.le_of_ble_eq_true rfl) rfl d_r_ancestor_16 ?_
  refine nr_ifne_b (tgt := 26) hx hb d_r_ancestor_19 (by decide) (fun q9 => ?_) (fun q9 => absurd (show (iv ev (nI y)) = true from iv_t hy0 hev) (by rw [q9]; decide))
  refine lv_iconst (v := (nI 0)) hx hb d_r_ancestor_26 (by decide) ?_
  refine nr_top (w := .int (bI false)) rfl ?_
  refine lv_iconst (v := (nI 1)) hx hb d_r_ancestor_27 (by decide) ?_
  refine WI.callV (wr := []) (rest := []) S (c_r_fails l D cI cJ cZ ad n ev r false 1 (by decide) (by decide)) k_2_118 k_2_120 k_s_20 k_1_2 k_2_121 h_r_fails ⟨Nat.le_of_ble_eq_true rfl, Nat.le_of_ble_eq_true rfl⟩ ⟨Nat.le_of_ble_eq_true rfl, Nat.le_of_ble_eq_true rfl⟩ hP hK hD hS hA [0, 1, 2, 3, 4, 5, 6, 7] [] rfl rfl (by decide) (by decide) (by decide) 0 1 rfl rfl rfl hl.1 (Nat.le_of_ble_eq_true rfl) rfl d_r_ancestor_28 (fun v9 u9 H locs hv9 hP hD hS => ?_)
  obtain rfl := hv9
  have hP : va_P D cls (rL cI cZ ad 0 n ev r) H := hP
  have hD : va_D A (rL cI cZ ad 0 n ev r) := hD
  refine nr_ifne_b (tgt := 47) hx hb d_r_ancestor_31 (by decide) (fun q9 => nomatch q9) (fun q9 => ?_)
  refine lv_aload_n hx hb d_r_ancestor_34 rfl (lv_at hl 0 rfl) ?_
  refine lv_iload_n hx hb d_r_ancestor_35 rfl (lv_at hl 2 rfl) ?_
  refine lv_iload_n hx hb d_r_ancestor_36 rfl (lv_at hl 1 rfl) ?_
  refine PM.callV (rest := []) S (c_r_isAbove l D cI cJ cZ ad 0 n ev r K hKb an ha x y (by omega) (by omega)) k_2_134 k_2_136 k_s_23 k_1_2 k_2_137 h_r_isAbove ⟨Nat.le_of_ble_eq_true rfl, Nat.le_of_ble_eq_true rfl⟩ ⟨Nat.le_of_ble_eq_true rfl, Nat.le_of_ble_eq_true rfl⟩ hP hK 0 1 rfl rfl rfl hl.1 (Nat.le_of_ble_eq_true rfl) rfl d_r_ancestor_37 ?_
  refine nr_ifeq_b (tgt := 47) hx hb d_r_ancestor_40 (by decide) (fun c_40 => ?_) (fun c_40 => ?_)
  · refine lv_iconst (v := (nI 0)) hx hb d_r_ancestor_47 (by decide) ?_
    refine nr_top (w := .int (bI false)) rfl ?_
    exact WI.zret hx hb hr hlocks hK hS d_r_ancestor_48 () (by rw [c_40]) hP hD
  · refine lv_iconst (v := (nI 1)) hx hb d_r_ancestor_43 (by decide) ?_
    refine lv_goto (tgt := 48) hx hb d_r_ancestor_44 (by decide) ?_
    refine nr_top (w := .int (bI true)) rfl ?_
    exact WI.zret hx hb hr hlocks hK hS d_r_ancestor_48 () (by rw [c_40]) hP hD
set_option maxHeartbeats 4000000 in
set_option maxRecDepth 100000 in
theorem c_r_ancestor_x (l : Launch) (D : va_G) (cI cJ cZ : ClassId) (ad : Nat → Nat) (er : Int32) (n ev : Nat) (r : RA) (hev : ev ≤ 120) (x y : Int32) (hy1 : iv ev x = true → iv ev y = false) : WI (S := Unit) l D (tys cI cJ cZ) (rL cI cZ ad er n ev r) (fun _ => rL cI cZ ad (nI 1) n ev r) (fun _ _ => True) y_r_ancestor b_r_ancestor 3 (some .boolean) 2 50 [.ref (ad 0), .int x, .int y] := by
  refine WI.of (by decide) (Nat.le_of_ble_eq_true rfl) ?_
  intro p9 e9 s9 m args below meth c9 ls A S hr hlocks hA hP hK hD hl
  obtain ⟨hx, hb, hml, hown, htc⟩ := id S
  have hS : va_S A s9.heap s9.heap [] := va_S.rf
  have hl : lv_has ls 3 [(0, .ref (ad 0)), (1, .int x), (2, .int y)] := hl
  refine lv_aload_n hx hb d_r_ancestor_0 rfl (lv_at hl 0 rfl) ?_
  refine lv_iconst (v := (nI 0)) hx hb d_r_ancestor_1 (by decide) ?_
  refine va_put (D := D) (ci := 1) (v := .int (nI 0)) (ty := .int) (C := "SightGraphModel") (T := T_r) (N := 10) hx hb htc in_r t_r ft_r fn_r hown hK hP hD hS 0 rfl rfl 0 (by decide) (htc _ k_2_73) (fun _ h9 => h9) rfl (by decide +kernel) rfl rfl (Nat.le_of_ble_eq_true rfl) d_r_ancestor_2 (fun H locs hP hD hS => ?_)
  have hP : va_P D cls (rL cI cZ ad (nI 0) n ev r) H := hP
  have hD : va_D A (rL cI cZ ad (nI 0) n ev r) := hD
  refine lv_aload_n hx hb d_r_ancestor_5 rfl (lv_at hl 0 rfl) ?_
  refine lv_aload_n hx hb d_r_ancestor_6 rfl (lv_at hl 0 rfl) ?_
  refine lv_iload_n hx hb d_r_ancestor_7 rfl (lv_at hl 1 rfl) ?_
  refine PM.callV (rest := [.ref (ad 0)]) S (c_r_isEvent l D cI cJ cZ ad (nI 0) n ev r (by omega) (x)) k_2_126 k_2_128 k_s_21 k_1_2 k_2_129 h_r_isEvent ⟨Nat.le_of_ble_eq_true rfl, Nat.le_of_ble_eq_true rfl⟩ ⟨Nat.le_of_ble_eq_true rfl, Nat.le_of_ble_eq_true rfl⟩ hP hK 0 1 rfl rfl rfl hl.1 (Nat.le_of_ble_eq_true rfl) rfl d_r_ancestor_8 ?_
  refine nr_ifeq_b (tgt := 22) hx hb d_r_ancestor_11 (by decide) (fun c_11 => ?_) (fun c_11 => ?_)
  · refine lv_iconst (v := (nI 1)) hx hb d_r_ancestor_22 (by decide) ?_
    refine lv_goto (tgt := 27) hx hb d_r_ancestor_23 (by decide) ?_
    refine nr_top (w := .int (bI true)) rfl ?_
    refine lv_iconst (v := (nI 1)) hx hb d_r_ancestor_27 (by decide) ?_
    refine WI.callV (wr := []) (rest := []) S (c_r_fails l D cI cJ cZ ad n ev r true 1 (by decide) (by decide)) k_2_118 k_2_120 k_s_20 k_1_2 k_2_121 h_r_fails ⟨Nat.le_of_ble_eq_true rfl, Nat.le_of_ble_eq_true rfl⟩ ⟨Nat.le_of_ble_eq_true rfl, Nat.le_of_ble_eq_true rfl⟩ hP hK hD hS hA [0, 1, 2, 3, 4, 5, 6, 7] [] rfl rfl (by decide) (by decide) (by decide) 0 1 rfl rfl rfl hl.1 (Nat.le_of_ble_eq_true rfl) rfl d_r_ancestor_28 (fun v9 u9 H locs hv9 hP hD hS => ?_)
    obtain rfl := hv9
    have hP : va_P D cls (rL cI cZ ad (nI 1) n ev r) H := hP
    have hD : va_D A (rL cI cZ ad (nI 1) n ev r) := hD
    refine nr_ifne_b (tgt := 47) hx hb d_r_ancestor_31 (by decide) (fun q9 => ?_) (fun q9 => nomatch q9)
    refine lv_iconst (v := (nI 0)) hx hb d_r_ancestor_47 (by decide) ?_
    refine nr_top (w := .int (bI false)) rfl ?_
    exact WI.zret hx hb hr hlocks hK hS d_r_ancestor_48 () trivial hP hD
  · refine lv_aload_n hx hb d_r_ancestor_14 rfl (lv_at hl 0 rfl) ?_
    refine lv_iload_n hx hb d_r_ancestor_15 rfl (lv_at hl 2 rfl) ?_
    refine PM.callV (rest := [.ref (ad 0)]) S (c_r_isEvent l D cI cJ cZ ad (nI 0) n ev r (by omega) (y)) k_2_126 k_2_128 k_s_21 k_1_2 k_2_129 h_r_isEvent ⟨Nat.le_of_ble_eq_true rfl, Nat.le_of_ble_eq_true rfl⟩ ⟨Nat.le_of_ble_eq_true rfl, Nat.le_of_ble_eq_true rfl⟩ hP hK 0 1 rfl rfl rfl hl.1 (Nat.le_of_ble_eq_true rfl) rfl d_r_ancestor_16 ?_
    refine nr_ifne_b (tgt := 26) hx hb d_r_ancestor_19 (by decide) (fun q9 => absurd (show (iv ev (y)) = false from hy1 c_11) (by rw [q9]; decide)) (fun q9 => ?_)
    refine lv_iconst (v := (nI 1)) hx hb d_r_ancestor_22 (by decide) ?_
    refine lv_goto (tgt := 27) hx hb d_r_ancestor_23 (by decide) ?_
    refine nr_top (w := .int (bI true)) rfl ?_
    refine lv_iconst (v := (nI 1)) hx hb d_r_ancestor_27 (by decide) ?_
    refine WI.callV (wr := []) (rest := []) S (c_r_fails l D cI cJ cZ ad n ev r true 1 (by decide) (by decide)) k_2_118 k_2_120 k_s_20 k_1_2 k_2_121 h_r_fails ⟨Nat.le_of_ble_eq_true rfl, Nat.le_of_ble_eq_true rfl⟩ ⟨Nat.le_of_ble_eq_true rfl, Nat.le_of_ble_eq_true rfl⟩ hP hK hD hS hA [0, 1, 2, 3, 4, 5, 6, 7] [] rfl rfl (by decide) (by decide) (by decide) 0 1 rfl rfl rfl hl.1 (Nat.le_of_ble_eq_true rfl) rfl d_r_ancestor_28 (fun v9 u9 H locs hv9 hP hD hS => ?_)
    obtain rfl := hv9
    have hP : va_P D cls (rL cI cZ ad (nI 1) n ev r) H := hP
    have hD : va_D A (rL cI cZ ad (nI 1) n ev r) := hD
    refine nr_ifne_b (tgt := 47) hx hb d_r_ancestor_31 (by decide) (fun q9 => ?_) (fun q9 => nomatch q9)
    refine lv_iconst (v := (nI 0)) hx hb d_r_ancestor_47 (by decide) ?_
    refine nr_top (w := .int (bI false)) rfl ?_
    exact WI.zret hx hb hr hlocks hK hS d_r_ancestor_48 () trivial hP hD
set_option maxHeartbeats 4000000 in
set_option maxRecDepth 100000 in
theorem c_r_own_ok (l : Launch) (D : va_G) (cI cJ cZ : ClassId) (ad : Nat → Nat) (er : Int32) (n ev : Nat) (r : RA) (hev : ev ≤ 120) (K : Nat) (hKb : K ≤ 120) (s : Nat → Nat) (hs : ∀ j, j < K → r.2.1 j = mI (s j)) (ow : Nat → Nat → Bool) (hLw : ∀ x, x < K → s x ≤ x ∧ ∀ y, ow x y = (x == y || pa ow (s x) y)) (hevK : ev ≤ K) (x y : Nat) (hx0 : x < ev) (hy0 : y < ev) : WI (S := Unit) l D (tys cI cJ cZ) (rL cI cZ ad er n ev r) (fun _ => rL cI cZ ad 0 n ev r) (fun v _ => v = bI (ow x y)) y_r_own b_r_own 3 (some .boolean) 2 50 [.ref (ad 0), .int (nI x), .int (nI y)] := by
  refine WI.of (by decide) (Nat.le_of_ble_eq_true rfl) ?_
  intro p9 e9 s9 m args below meth c9 ls A S hr hlocks hA hP hK hD hl
  obtain ⟨hx, hb, hml, hown, htc⟩ := id S
  have hS : va_S A s9.heap s9.heap [] := va_S.rf
  have hl : lv_has ls 3 [(0, .ref (ad 0)), (1, .int (nI x)), (2, .int (nI y))] := hl
  refine lv_aload_n hx hb d_r_own_0 rfl (lv_at hl 0 rfl) ?_
  refine lv_iconst (v := (nI 0)) hx hb d_r_own_1 (by decide) ?_
  refine va_put (D := D) (ci := 1) (v := .int (nI 0)) (ty := .int) (C := "SightGraphModel") (T := T_r) (N := 10) hx hb htc in_r t_r ft_r fn_r hown hK hP hD hS 0 rfl rfl 0 (by decide) (htc _ k_2_73) (fun _ h9 => h9) rfl (by decide +kernel) rfl rfl (Nat.le_of_ble_eq_true rfl) d_r_own_2 (fun H locs hP hD hS => ?_)
  have hP : va_P D cls (rL cI cZ ad (nI 0) n ev r) H := hP
  have hD : va_D A (rL cI cZ ad (nI 0) n ev r) := hD
  refine lv_aload_n hx hb d_r_own_5 rfl (lv_at hl 0 rfl) ?_
  refine lv_aload_n hx hb d_r_own_6 rfl (lv_at hl 0 rfl) ?_
  refine lv_iload_n hx hb d_r_own_7 rfl (lv_at hl 1 rfl) ?_
  refine PM.callV (rest := [.ref (ad 0)]) S (c_r_isEvent l D cI cJ cZ ad (nI 0) n ev r (by omega) (nI x)) k_2_126 k_2_128 k_s_21 k_1_2 k_2_129 h_r_isEvent ⟨Nat.le_of_ble_eq_true rfl, Nat.le_of_ble_eq_true rfl⟩ ⟨Nat.le_of_ble_eq_true rfl, Nat.le_of_ble_eq_true rfl⟩ hP hK 0 1 rfl rfl rfl hl.1 (Nat.le_of_ble_eq_true rfl) rfl d_r_own_8 ?_
  refine nr_ifeq_b (tgt := 22) hx hb d_r_own_11 (by decide) (fun q9 => absurd (show (iv ev (nI x)) = true from iv_t hx0 hev) (by rw [q9]; decide)) (fun q9 => ?_)
  refine lv_aload_n hx hb d_r_own_14 rfl (lv_at hl 0 rfl) ?_
  refine lv_iload_n hx hb d_r_own_15 rfl (lv_at hl 2 rfl) ?_
  refine PM.callV (rest := [.ref (ad 0)]) S (c_r_isEvent l D cI cJ cZ ad (nI 0) n ev r (by omega) (nI y)) k_2_126 k_2_128 k_s_21 k_1_2 k_2_129 h_r_isEvent ⟨Nat.le_of_ble_eq_true rfl, Nat.le_of_ble_eq_true rfl⟩ ⟨Nat.le_of_ble_eq_true rfl, Nat.le_of_ble_eq_true rfl⟩ hP hK 0 1 rfl rfl rfl hl.1 (Nat.le_of_ble_eq_true rfl) rfl d_r_own_16 ?_
  refine nr_ifne_b (tgt := 26) hx hb d_r_own_19 (by decide) (fun q9 => ?_) (fun q9 => absurd (show (iv ev (nI y)) = true from iv_t hy0 hev) (by rw [q9]; decide))
  refine lv_iconst (v := (nI 0)) hx hb d_r_own_26 (by decide) ?_
  refine nr_top (w := .int (bI false)) rfl ?_
  refine lv_iconst (v := (nI 1)) hx hb d_r_own_27 (by decide) ?_
  refine WI.callV (wr := []) (rest := []) S (c_r_fails l D cI cJ cZ ad n ev r false 1 (by decide) (by decide)) k_2_118 k_2_120 k_s_20 k_1_2 k_2_121 h_r_fails ⟨Nat.le_of_ble_eq_true rfl, Nat.le_of_ble_eq_true rfl⟩ ⟨Nat.le_of_ble_eq_true rfl, Nat.le_of_ble_eq_true rfl⟩ hP hK hD hS hA [0, 1, 2, 3, 4, 5, 6, 7] [] rfl rfl (by decide) (by decide) (by decide) 0 1 rfl rfl rfl hl.1 (Nat.le_of_ble_eq_true rfl) rfl d_r_own_28 (fun v9 u9 H locs hv9 hP hD hS => ?_)
  obtain rfl := hv9
  have hP : va_P D cls (rL cI cZ ad 0 n ev r) H := hP
  have hD : va_D A (rL cI cZ ad 0 n ev r) := hD
  refine nr_ifne_b (tgt := 47) hx hb d_r_own_31 (by decide) (fun q9 => nomatch q9) (fun q9 => ?_)
  refine lv_aload_n hx hb d_r_own_34 rfl (lv_at hl 0 rfl) ?_
  refine lv_iload_n hx hb d_r_own_35 rfl (lv_at hl 1 rfl) ?_
  refine lv_iload_n hx hb d_r_own_36 rfl (lv_at hl 2 rfl) ?_
  refine PM.callV (rest := []) S (c_r_isOwn l D cI cJ cZ ad 0 n ev r K hKb s hs ow hLw x y (by omega) (by omega)) k_2_142 k_2_144 k_s_25 k_1_2 k_2_145 h_r_isOwn ⟨Nat.le_of_ble_eq_true rfl, Nat.le_of_ble_eq_true rfl⟩ ⟨Nat.le_of_ble_eq_true rfl, Nat.le_of_ble_eq_true rfl⟩ hP hK 0 1 rfl rfl rfl hl.1 (Nat.le_of_ble_eq_true rfl) rfl d_r_own_37 ?_
  refine nr_ifeq_b (tgt := 47) hx hb d_r_own_40 (by decide) (fun c_40 => ?_) (fun c_40 => ?_)
  · refine lv_iconst (v := (nI 0)) hx hb d_r_own_47 (by decide) ?_
    refine nr_top (w := .int (bI false)) rfl ?_
    exact WI.zret hx hb hr hlocks hK hS d_r_own_48 () (by rw [c_40]) hP hD
  · refine lv_iconst (v := (nI 1)) hx hb d_r_own_43 (by decide) ?_
    refine lv_goto (tgt := 48) hx hb d_r_own_44 (by decide) ?_
    refine nr_top (w := .int (bI true)) rfl ?_
    exact WI.zret hx hb hr hlocks hK hS d_r_own_48 () (by rw [c_40]) hP hD
set_option maxHeartbeats 4000000 in
set_option maxRecDepth 100000 in
theorem c_r_own_x (l : Launch) (D : va_G) (cI cJ cZ : ClassId) (ad : Nat → Nat) (er : Int32) (n ev : Nat) (r : RA) (hev : ev ≤ 120) (x y : Int32) (hy1 : iv ev x = true → iv ev y = false) : WI (S := Unit) l D (tys cI cJ cZ) (rL cI cZ ad er n ev r) (fun _ => rL cI cZ ad (nI 1) n ev r) (fun _ _ => True) y_r_own b_r_own 3 (some .boolean) 2 50 [.ref (ad 0), .int x, .int y] := by
  refine WI.of (by decide) (Nat.le_of_ble_eq_true rfl) ?_
  intro p9 e9 s9 m args below meth c9 ls A S hr hlocks hA hP hK hD hl
  obtain ⟨hx, hb, hml, hown, htc⟩ := id S
  have hS : va_S A s9.heap s9.heap [] := va_S.rf
  have hl : lv_has ls 3 [(0, .ref (ad 0)), (1, .int x), (2, .int y)] := hl
  refine lv_aload_n hx hb d_r_own_0 rfl (lv_at hl 0 rfl) ?_
  refine lv_iconst (v := (nI 0)) hx hb d_r_own_1 (by decide) ?_
  refine va_put (D := D) (ci := 1) (v := .int (nI 0)) (ty := .int) (C := "SightGraphModel") (T := T_r) (N := 10) hx hb htc in_r t_r ft_r fn_r hown hK hP hD hS 0 rfl rfl 0 (by decide) (htc _ k_2_73) (fun _ h9 => h9) rfl (by decide +kernel) rfl rfl (Nat.le_of_ble_eq_true rfl) d_r_own_2 (fun H locs hP hD hS => ?_)
  have hP : va_P D cls (rL cI cZ ad (nI 0) n ev r) H := hP
  have hD : va_D A (rL cI cZ ad (nI 0) n ev r) := hD
  refine lv_aload_n hx hb d_r_own_5 rfl (lv_at hl 0 rfl) ?_
  refine lv_aload_n hx hb d_r_own_6 rfl (lv_at hl 0 rfl) ?_
  refine lv_iload_n hx hb d_r_own_7 rfl (lv_at hl 1 rfl) ?_
  refine PM.callV (rest := [.ref (ad 0)]) S (c_r_isEvent l D cI cJ cZ ad (nI 0) n ev r (by omega) (x)) k_2_126 k_2_128 k_s_21 k_1_2 k_2_129 h_r_isEvent ⟨Nat.le_of_ble_eq_true rfl, Nat.le_of_ble_eq_true rfl⟩ ⟨Nat.le_of_ble_eq_true rfl, Nat.le_of_ble_eq_true rfl⟩ hP hK 0 1 rfl rfl rfl hl.1 (Nat.le_of_ble_eq_true rfl) rfl d_r_own_8 ?_
  refine nr_ifeq_b (tgt := 22) hx hb d_r_own_11 (by decide) (fun c_11 => ?_) (fun c_11 => ?_)
  · refine lv_iconst (v := (nI 1)) hx hb d_r_own_22 (by decide) ?_
    refine lv_goto (tgt := 27) hx hb d_r_own_23 (by decide) ?_
    refine nr_top (w := .int (bI true)) rfl ?_
    refine lv_iconst (v := (nI 1)) hx hb d_r_own_27 (by decide) ?_
    refine WI.callV (wr := []) (rest := []) S (c_r_fails l D cI cJ cZ ad n ev r true 1 (by decide) (by decide)) k_2_118 k_2_120 k_s_20 k_1_2 k_2_121 h_r_fails ⟨Nat.le_of_ble_eq_true rfl, Nat.le_of_ble_eq_true rfl⟩ ⟨Nat.le_of_ble_eq_true rfl, Nat.le_of_ble_eq_true rfl⟩ hP hK hD hS hA [0, 1, 2, 3, 4, 5, 6, 7] [] rfl rfl (by decide) (by decide) (by decide) 0 1 rfl rfl rfl hl.1 (Nat.le_of_ble_eq_true rfl) rfl d_r_own_28 (fun v9 u9 H locs hv9 hP hD hS => ?_)
    obtain rfl := hv9
    have hP : va_P D cls (rL cI cZ ad (nI 1) n ev r) H := hP
    have hD : va_D A (rL cI cZ ad (nI 1) n ev r) := hD
    refine nr_ifne_b (tgt := 47) hx hb d_r_own_31 (by decide) (fun q9 => ?_) (fun q9 => nomatch q9)
    refine lv_iconst (v := (nI 0)) hx hb d_r_own_47 (by decide) ?_
    refine nr_top (w := .int (bI false)) rfl ?_
    exact WI.zret hx hb hr hlocks hK hS d_r_own_48 () trivial hP hD
  · refine lv_aload_n hx hb d_r_own_14 rfl (lv_at hl 0 rfl) ?_
    refine lv_iload_n hx hb d_r_own_15 rfl (lv_at hl 2 rfl) ?_
    refine PM.callV (rest := [.ref (ad 0)]) S (c_r_isEvent l D cI cJ cZ ad (nI 0) n ev r (by omega) (y)) k_2_126 k_2_128 k_s_21 k_1_2 k_2_129 h_r_isEvent ⟨Nat.le_of_ble_eq_true rfl, Nat.le_of_ble_eq_true rfl⟩ ⟨Nat.le_of_ble_eq_true rfl, Nat.le_of_ble_eq_true rfl⟩ hP hK 0 1 rfl rfl rfl hl.1 (Nat.le_of_ble_eq_true rfl) rfl d_r_own_16 ?_
    refine nr_ifne_b (tgt := 26) hx hb d_r_own_19 (by decide) (fun q9 => absurd (show (iv ev (y)) = false from hy1 c_11) (by rw [q9]; decide)) (fun q9 => ?_)
    refine lv_iconst (v := (nI 1)) hx hb d_r_own_22 (by decide) ?_
    refine lv_goto (tgt := 27) hx hb d_r_own_23 (by decide) ?_
    refine nr_top (w := .int (bI true)) rfl ?_
    refine lv_iconst (v := (nI 1)) hx hb d_r_own_27 (by decide) ?_
    refine WI.callV (wr := []) (rest := []) S (c_r_fails l D cI cJ cZ ad n ev r true 1 (by decide) (by decide)) k_2_118 k_2_120 k_s_20 k_1_2 k_2_121 h_r_fails ⟨Nat.le_of_ble_eq_true rfl, Nat.le_of_ble_eq_true rfl⟩ ⟨Nat.le_of_ble_eq_true rfl, Nat.le_of_ble_eq_true rfl⟩ hP hK hD hS hA [0, 1, 2, 3, 4, 5, 6, 7] [] rfl rfl (by decide) (by decide) (by decide) 0 1 rfl rfl rfl hl.1 (Nat.le_of_ble_eq_true rfl) rfl d_r_own_28 (fun v9 u9 H locs hv9 hP hD hS => ?_)
    obtain rfl := hv9
    have hP : va_P D cls (rL cI cZ ad (nI 1) n ev r) H := hP
    have hD : va_D A (rL cI cZ ad (nI 1) n ev r) := hD
    refine nr_ifne_b (tgt := 47) hx hb d_r_own_31 (by decide) (fun q9 => ?_) (fun q9 => nomatch q9)
    refine lv_iconst (v := (nI 0)) hx hb d_r_own_47 (by decide) ?_
    refine nr_top (w := .int (bI false)) rfl ?_
    exact WI.zret hx hb hr hlocks hK hS d_r_own_48 () trivial hP hD
set_option maxHeartbeats 4000000 in
set_option maxRecDepth 100000 in
theorem c_r_sees_ok (l : Launch) (D : va_G) (cI cJ cZ : ClassId) (ad : Nat → Nat) (er : Int32) (n ev : Nat) (r : RA) (hev : ev ≤ 120) (K : Nat) (hKb : K ≤ 120) (c : Nat → Nat) (hc : ∀ j, j < K → r.1 j = nI (c j)) (an : Nat → Nat → Bool) (ha : ∀ j, j < K → ∀ y, y < 120 → r.2.2.2.2.2.1 (120 * j + y) = bI (an j y)) (fk : Nat → Nat → Bool) (hf : ∀ j, j < K → ∀ m, m < 8 → r.2.2.2.2.2.2 (8 * j + m) = bI (fk j m)) (hc8 : ∀ j, j < K → c j < 8) (hevK : ev ≤ K) (x y : Nat) (hx0 : x < ev) (hy0 : y < ev) : WI (S := Unit) l D (tys cI cJ cZ) (rL cI cZ ad er n ev r) (fun _ => rL cI cZ ad 0 n ev r) (fun v _ => v = bI (se an fk c x y)) y_r_sees b_r_sees 3 (some .boolean) 2 50 [.ref (ad 0), .int (nI x), .int (nI y)] := by
  refine WI.of (by decide) (Nat.le_of_ble_eq_true rfl) ?_
  intro p9 e9 s9 m args below meth c9 ls A S hr hlocks hA hP hK hD hl
  obtain ⟨hx, hb, hml, hown, htc⟩ := id S
  have hS : va_S A s9.heap s9.heap [] := va_S.rf
  have hl : lv_has ls 3 [(0, .ref (ad 0)), (1, .int (nI x)), (2, .int (nI y))] := hl
  refine lv_aload_n hx hb d_r_sees_0 rfl (lv_at hl 0 rfl) ?_
  refine lv_iconst (v := (nI 0)) hx hb d_r_sees_1 (by decide) ?_
  refine va_put (D := D) (ci := 1) (v := .int (nI 0)) (ty := .int) (C := "SightGraphModel") (T := T_r) (N := 10) hx hb htc in_r t_r ft_r fn_r hown hK hP hD hS 0 rfl rfl 0 (by decide) (htc _ k_2_73) (fun _ h9 => h9) rfl (by decide +kernel) rfl rfl (Nat.le_of_ble_eq_true rfl) d_r_sees_2 (fun H locs hP hD hS => ?_)
  have hP : va_P D cls (rL cI cZ ad (nI 0) n ev r) H := hP
  have hD : va_D A (rL cI cZ ad (nI 0) n ev r) := hD
  refine lv_aload_n hx hb d_r_sees_5 rfl (lv_at hl 0 rfl) ?_
  refine lv_aload_n hx hb d_r_sees_6 rfl (lv_at hl 0 rfl) ?_
  refine lv_iload_n hx hb d_r_sees_7 rfl (lv_at hl 1 rfl) ?_
  refine PM.callV (rest := [.ref (ad 0)]) S (c_r_isEvent l D cI cJ cZ ad (nI 0) n ev r (by omega) (nI x)) k_2_126 k_2_128 k_s_21 k_1_2 k_2_129 h_r_isEvent ⟨Nat.le_of_ble_eq_true rfl, Nat.le_of_ble_eq_true rfl⟩ ⟨Nat.le_of_ble_eq_true rfl, Nat.le_of_ble_eq_true rfl⟩ hP hK 0 1 rfl rfl rfl hl.1 (Nat.le_of_ble_eq_true rfl) rfl d_r_sees_8 ?_
  refine nr_ifeq_b (tgt := 22) hx hb d_r_sees_11 (by decide) (fun q9 => absurd (show (iv ev (nI x)) = true from iv_t hx0 hev) (by rw [q9]; decide)) (fun q9 => ?_)
  refine lv_aload_n hx hb d_r_sees_14 rfl (lv_at hl 0 rfl) ?_
  refine lv_iload_n hx hb d_r_sees_15 rfl (lv_at hl 2 rfl) ?_
  refine PM.callV (rest := [.ref (ad 0)]) S (c_r_isEvent l D cI cJ cZ ad (nI 0) n ev r (by omega) (nI y)) k_2_126 k_2_128 k_s_21 k_1_2 k_2_129 h_r_isEvent ⟨Nat.le_of_ble_eq_true rfl, Nat.le_of_ble_eq_true rfl⟩ ⟨Nat.le_of_ble_eq_true rfl, Nat.le_of_ble_eq_true rfl⟩ hP hK 0 1 rfl rfl rfl hl.1 (Nat.le_of_ble_eq_true rfl) rfl d_r_sees_16 ?_
  refine nr_ifne_b (tgt := 26) hx hb d_r_sees_19 (by decide) (fun q9 => ?_) (fun q9 => absurd (show (iv ev (nI y)) = true from iv_t hy0 hev) (by rw [q9]; decide))
  refine lv_iconst (v := (nI 0)) hx hb d_r_sees_26 (by decide) ?_
  refine nr_top (w := .int (bI false)) rfl ?_
  refine lv_iconst (v := (nI 1)) hx hb d_r_sees_27 (by decide) ?_
  refine WI.callV (wr := []) (rest := []) S (c_r_fails l D cI cJ cZ ad n ev r false 1 (by decide) (by decide)) k_2_118 k_2_120 k_s_20 k_1_2 k_2_121 h_r_fails ⟨Nat.le_of_ble_eq_true rfl, Nat.le_of_ble_eq_true rfl⟩ ⟨Nat.le_of_ble_eq_true rfl, Nat.le_of_ble_eq_true rfl⟩ hP hK hD hS hA [0, 1, 2, 3, 4, 5, 6, 7] [] rfl rfl (by decide) (by decide) (by decide) 0 1 rfl rfl rfl hl.1 (Nat.le_of_ble_eq_true rfl) rfl d_r_sees_28 (fun v9 u9 H locs hv9 hP hD hS => ?_)
  obtain rfl := hv9
  have hP : va_P D cls (rL cI cZ ad 0 n ev r) H := hP
  have hD : va_D A (rL cI cZ ad 0 n ev r) := hD
  refine nr_ifne_b (tgt := 47) hx hb d_r_sees_31 (by decide) (fun q9 => nomatch q9) (fun q9 => ?_)
  refine lv_aload_n hx hb d_r_sees_34 rfl (lv_at hl 0 rfl) ?_
  refine lv_iload_n hx hb d_r_sees_35 rfl (lv_at hl 1 rfl) ?_
  refine lv_iload_n hx hb d_r_sees_36 rfl (lv_at hl 2 rfl) ?_
  refine PM.callV (rest := []) S (c_r_isSeen l D cI cJ cZ ad 0 n ev r K hKb c hc an ha fk hf hc8 x y (by omega) (by omega)) k_2_159 k_2_161 k_s_29 k_1_2 k_2_162 h_r_isSeen ⟨Nat.le_of_ble_eq_true rfl, Nat.le_of_ble_eq_true rfl⟩ ⟨Nat.le_of_ble_eq_true rfl, Nat.le_of_ble_eq_true rfl⟩ hP hK 0 1 rfl rfl rfl hl.1 (Nat.le_of_ble_eq_true rfl) rfl d_r_sees_37 ?_
  refine nr_ifeq_b (tgt := 47) hx hb d_r_sees_40 (by decide) (fun c_40 => ?_) (fun c_40 => ?_)
  · refine lv_iconst (v := (nI 0)) hx hb d_r_sees_47 (by decide) ?_
    refine nr_top (w := .int (bI false)) rfl ?_
    exact WI.zret hx hb hr hlocks hK hS d_r_sees_48 () (by rw [c_40]) hP hD
  · refine lv_iconst (v := (nI 1)) hx hb d_r_sees_43 (by decide) ?_
    refine lv_goto (tgt := 48) hx hb d_r_sees_44 (by decide) ?_
    refine nr_top (w := .int (bI true)) rfl ?_
    exact WI.zret hx hb hr hlocks hK hS d_r_sees_48 () (by rw [c_40]) hP hD
set_option maxHeartbeats 4000000 in
set_option maxRecDepth 100000 in
theorem c_r_sees_x (l : Launch) (D : va_G) (cI cJ cZ : ClassId) (ad : Nat → Nat) (er : Int32) (n ev : Nat) (r : RA) (hev : ev ≤ 120) (x y : Int32) (hy1 : iv ev x = true → iv ev y = false) : WI (S := Unit) l D (tys cI cJ cZ) (rL cI cZ ad er n ev r) (fun _ => rL cI cZ ad (nI 1) n ev r) (fun _ _ => True) y_r_sees b_r_sees 3 (some .boolean) 2 50 [.ref (ad 0), .int x, .int y] := by
  refine WI.of (by decide) (Nat.le_of_ble_eq_true rfl) ?_
  intro p9 e9 s9 m args below meth c9 ls A S hr hlocks hA hP hK hD hl
  obtain ⟨hx, hb, hml, hown, htc⟩ := id S
  have hS : va_S A s9.heap s9.heap [] := va_S.rf
  have hl : lv_has ls 3 [(0, .ref (ad 0)), (1, .int x), (2, .int y)] := hl
  refine lv_aload_n hx hb d_r_sees_0 rfl (lv_at hl 0 rfl) ?_
  refine lv_iconst (v := (nI 0)) hx hb d_r_sees_1 (by decide) ?_
  refine va_put (D := D) (ci := 1) (v := .int (nI 0)) (ty := .int) (C := "SightGraphModel") (T := T_r) (N := 10) hx hb htc in_r t_r ft_r fn_r hown hK hP hD hS 0 rfl rfl 0 (by decide) (htc _ k_2_73) (fun _ h9 => h9) rfl (by decide +kernel) rfl rfl (Nat.le_of_ble_eq_true rfl) d_r_sees_2 (fun H locs hP hD hS => ?_)
  have hP : va_P D cls (rL cI cZ ad (nI 0) n ev r) H := hP
  have hD : va_D A (rL cI cZ ad (nI 0) n ev r) := hD
  refine lv_aload_n hx hb d_r_sees_5 rfl (lv_at hl 0 rfl) ?_
  refine lv_aload_n hx hb d_r_sees_6 rfl (lv_at hl 0 rfl) ?_
  refine lv_iload_n hx hb d_r_sees_7 rfl (lv_at hl 1 rfl) ?_
  refine PM.callV (rest := [.ref (ad 0)]) S (c_r_isEvent l D cI cJ cZ ad (nI 0) n ev r (by omega) (x)) k_2_126 k_2_128 k_s_21 k_1_2 k_2_129 h_r_isEvent ⟨Nat.le_of_ble_eq_true rfl, Nat.le_of_ble_eq_true rfl⟩ ⟨Nat.le_of_ble_eq_true rfl, Nat.le_of_ble_eq_true rfl⟩ hP hK 0 1 rfl rfl rfl hl.1 (Nat.le_of_ble_eq_true rfl) rfl d_r_sees_8 ?_
  refine nr_ifeq_b (tgt := 22) hx hb d_r_sees_11 (by decide) (fun c_11 => ?_) (fun c_11 => ?_)
  · refine lv_iconst (v := (nI 1)) hx hb d_r_sees_22 (by decide) ?_
    refine lv_goto (tgt := 27) hx hb d_r_sees_23 (by decide) ?_
    refine nr_top (w := .int (bI true)) rfl ?_
    refine lv_iconst (v := (nI 1)) hx hb d_r_sees_27 (by decide) ?_
    refine WI.callV (wr := []) (rest := []) S (c_r_fails l D cI cJ cZ ad n ev r true 1 (by decide) (by decide)) k_2_118 k_2_120 k_s_20 k_1_2 k_2_121 h_r_fails ⟨Nat.le_of_ble_eq_true rfl, Nat.le_of_ble_eq_true rfl⟩ ⟨Nat.le_of_ble_eq_true rfl, Nat.le_of_ble_eq_true rfl⟩ hP hK hD hS hA [0, 1, 2, 3, 4, 5, 6, 7] [] rfl rfl (by decide) (by decide) (by decide) 0 1 rfl rfl rfl hl.1 (Nat.le_of_ble_eq_true rfl) rfl d_r_sees_28 (fun v9 u9 H locs hv9 hP hD hS => ?_)
    obtain rfl := hv9
    have hP : va_P D cls (rL cI cZ ad (nI 1) n ev r) H := hP
    have hD : va_D A (rL cI cZ ad (nI 1) n ev r) := hD
    refine nr_ifne_b (tgt := 47) hx hb d_r_sees_31 (by decide) (fun q9 => ?_) (fun q9 => nomatch q9)
    refine lv_iconst (v := (nI 0)) hx hb d_r_sees_47 (by decide) ?_
    refine nr_top (w := .int (bI false)) rfl ?_
    exact WI.zret hx hb hr hlocks hK hS d_r_sees_48 () trivial hP hD
  · refine lv_aload_n hx hb d_r_sees_14 rfl (lv_at hl 0 rfl) ?_
    refine lv_iload_n hx hb d_r_sees_15 rfl (lv_at hl 2 rfl) ?_
    refine PM.callV (rest := [.ref (ad 0)]) S (c_r_isEvent l D cI cJ cZ ad (nI 0) n ev r (by omega) (y)) k_2_126 k_2_128 k_s_21 k_1_2 k_2_129 h_r_isEvent ⟨Nat.le_of_ble_eq_true rfl, Nat.le_of_ble_eq_true rfl⟩ ⟨Nat.le_of_ble_eq_true rfl, Nat.le_of_ble_eq_true rfl⟩ hP hK 0 1 rfl rfl rfl hl.1 (Nat.le_of_ble_eq_true rfl) rfl d_r_sees_16 ?_
    refine nr_ifne_b (tgt := 26) hx hb d_r_sees_19 (by decide) (fun q9 => absurd (show (iv ev (y)) = false from hy1 c_11) (by rw [q9]; decide)) (fun q9 => ?_)
    refine lv_iconst (v := (nI 1)) hx hb d_r_sees_22 (by decide) ?_
    refine lv_goto (tgt := 27) hx hb d_r_sees_23 (by decide) ?_
    refine nr_top (w := .int (bI true)) rfl ?_
    refine lv_iconst (v := (nI 1)) hx hb d_r_sees_27 (by decide) ?_
    refine WI.callV (wr := []) (rest := []) S (c_r_fails l D cI cJ cZ ad n ev r true 1 (by decide) (by decide)) k_2_118 k_2_120 k_s_20 k_1_2 k_2_121 h_r_fails ⟨Nat.le_of_ble_eq_true rfl, Nat.le_of_ble_eq_true rfl⟩ ⟨Nat.le_of_ble_eq_true rfl, Nat.le_of_ble_eq_true rfl⟩ hP hK hD hS hA [0, 1, 2, 3, 4, 5, 6, 7] [] rfl rfl (by decide) (by decide) (by decide) 0 1 rfl rfl rfl hl.1 (Nat.le_of_ble_eq_true rfl) rfl d_r_sees_28 (fun v9 u9 H locs hv9 hP hD hS => ?_)
    obtain rfl := hv9
    have hP : va_P D cls (rL cI cZ ad (nI 1) n ev r) H := hP
    have hD : va_D A (rL cI cZ ad (nI 1) n ev r) := hD
    refine nr_ifne_b (tgt := 47) hx hb d_r_sees_31 (by decide) (fun q9 => ?_) (fun q9 => nomatch q9)
    refine lv_iconst (v := (nI 0)) hx hb d_r_sees_47 (by decide) ?_
    refine nr_top (w := .int (bI false)) rfl ?_
    exact WI.zret hx hb hr hlocks hK hS d_r_sees_48 () trivial hP hD
set_option maxHeartbeats 4000000 in
set_option maxRecDepth 100000 in
theorem c_r_strength_ok (l : Launch) (D : va_G) (cI cJ cZ : ClassId) (ad : Nat → Nat) (er : Int32) (n ev : Nat) (r : RA) (hev : ev ≤ 120) (K : Nat) (hKb : K ≤ 120) (c : Nat → Nat) (hc : ∀ j, j < K → r.1 j = nI (c j)) (an : Nat → Nat → Bool) (ha : ∀ j, j < K → ∀ y, y < 120 → r.2.2.2.2.2.1 (120 * j + y) = bI (an j y)) (fk : Nat → Nat → Bool) (hf : ∀ j, j < K → ∀ m, m < 8 → r.2.2.2.2.2.2 (8 * j + m) = bI (fk j m)) (hc8 : ∀ j, j < K → c j < 8) (hn : n ≤ 8) (hevK : ev ≤ K) (x y : Nat) (hx0 : x < ev) (hy0 : y < ev) : WI (S := Unit) l D (tys cI cJ cZ) (rL cI cZ ad er n ev r) (fun _ => rL cI cZ ad 0 n ev r) (fun v _ => v = nI (sn n an fk c x y)) y_r_strength b_r_strength 3 (some .int) 3 70 [.ref (ad 0), .int (nI x), .int (nI y)] := by
  refine WI.of (by decide) (Nat.le_of_ble_eq_true rfl) ?_
  intro p9 e9 s9 m args below meth c9 ls A S hr hlocks hA hP hK hD hl
  obtain ⟨hx, hb, hml, hown, htc⟩ := id S
  have hS : va_S A s9.heap s9.heap [] := va_S.rf
  have hl : lv_has ls 3 [(0, .ref (ad 0)), (1, .int (nI x)), (2, .int (nI y))] := hl
  refine lv_aload_n hx hb d_r_strength_0 rfl (lv_at hl 0 rfl) ?_
  refine lv_iconst (v := (nI 0)) hx hb d_r_strength_1 (by decide) ?_
  refine va_put (D := D) (ci := 1) (v := .int (nI 0)) (ty := .int) (C := "SightGraphModel") (T := T_r) (N := 10) hx hb htc in_r t_r ft_r fn_r hown hK hP hD hS 0 rfl rfl 0 (by decide) (htc _ k_2_73) (fun _ h9 => h9) rfl (by decide +kernel) rfl rfl (Nat.le_of_ble_eq_true rfl) d_r_strength_2 (fun H locs hP hD hS => ?_)
  have hP : va_P D cls (rL cI cZ ad (nI 0) n ev r) H := hP
  have hD : va_D A (rL cI cZ ad (nI 0) n ev r) := hD
  refine lv_aload_n hx hb d_r_strength_5 rfl (lv_at hl 0 rfl) ?_
  refine lv_aload_n hx hb d_r_strength_6 rfl (lv_at hl 0 rfl) ?_
  refine lv_iload_n hx hb d_r_strength_7 rfl (lv_at hl 1 rfl) ?_
  refine PM.callV (rest := [.ref (ad 0)]) S (c_r_isEvent l D cI cJ cZ ad (nI 0) n ev r (by omega) (nI x)) k_2_126 k_2_128 k_s_21 k_1_2 k_2_129 h_r_isEvent ⟨Nat.le_of_ble_eq_true rfl, Nat.le_of_ble_eq_true rfl⟩ ⟨Nat.le_of_ble_eq_true rfl, Nat.le_of_ble_eq_true rfl⟩ hP hK 0 1 rfl rfl rfl hl.1 (Nat.le_of_ble_eq_true rfl) rfl d_r_strength_8 ?_
  refine nr_ifeq_b (tgt := 22) hx hb d_r_strength_11 (by decide) (fun q9 => absurd (show (iv ev (nI x)) = true from iv_t hx0 hev) (by rw [q9]; decide)) (fun q9 => ?_)
  refine lv_aload_n hx hb d_r_strength_14 rfl (lv_at hl 0 rfl) ?_
  refine lv_iload_n hx hb d_r_strength_15 rfl (lv_at hl 2 rfl) ?_
  refine PM.callV (rest := [.ref (ad 0)]) S (c_r_isEvent l D cI cJ cZ ad (nI 0) n ev r (by omega) (nI y)) k_2_126 k_2_128 k_s_21 k_1_2 k_2_129 h_r_isEvent ⟨Nat.le_of_ble_eq_true rfl, Nat.le_of_ble_eq_true rfl⟩ ⟨Nat.le_of_ble_eq_true rfl, Nat.le_of_ble_eq_true rfl⟩ hP hK 0 1 rfl rfl rfl hl.1 (Nat.le_of_ble_eq_true rfl) rfl d_r_strength_16 ?_
  refine nr_ifne_b (tgt := 26) hx hb d_r_strength_19 (by decide) (fun q9 => ?_) (fun q9 => absurd (show (iv ev (nI y)) = true from iv_t hy0 hev) (by rw [q9]; decide))
  refine lv_iconst (v := (nI 0)) hx hb d_r_strength_26 (by decide) ?_
  refine nr_top (w := .int (bI false)) rfl ?_
  refine lv_iconst (v := (nI 1)) hx hb d_r_strength_27 (by decide) ?_
  refine WI.callV (wr := []) (rest := []) S (c_r_fails l D cI cJ cZ ad n ev r false 1 (by decide) (by decide)) k_2_118 k_2_120 k_s_20 k_1_2 k_2_121 h_r_fails ⟨Nat.le_of_ble_eq_true rfl, Nat.le_of_ble_eq_true rfl⟩ ⟨Nat.le_of_ble_eq_true rfl, Nat.le_of_ble_eq_true rfl⟩ hP hK hD hS hA [0, 1, 2, 3, 4, 5, 6, 7] [] rfl rfl (by decide) (by decide) (by decide) 0 1 rfl rfl rfl hl.1 (Nat.le_of_ble_eq_true rfl) rfl d_r_strength_28 (fun v9 u9 H locs hv9 hP hD hS => ?_)
  obtain rfl := hv9
  have hP : va_P D cls (rL cI cZ ad 0 n ev r) H := hP
  have hD : va_D A (rL cI cZ ad 0 n ev r) := hD
  refine nr_ifeq_b (tgt := 38) hx hb d_r_strength_31 (by decide) (fun q9 => ?_) (fun q9 => nomatch q9)
  refine lv_aload_n hx hb d_r_strength_38 rfl (lv_at hl 0 rfl) ?_
  refine lv_iload_n hx hb d_r_strength_39 rfl (lv_at hl 1 rfl) ?_
  refine lv_iload_n hx hb d_r_strength_40 rfl (lv_at hl 2 rfl) ?_
  refine PM.callV (rest := []) S (c_r_strengthOf l D cI cJ cZ ad 0 n ev r K hKb c hc an ha fk hf hc8 hn x y (by omega) (by omega)) k_2_155 k_2_157 k_s_28 k_1_2 k_2_158 h_r_strengthOf ⟨Nat.le_of_ble_eq_true rfl, Nat.le_of_ble_eq_true rfl⟩ ⟨Nat.le_of_ble_eq_true rfl, Nat.le_of_ble_eq_true rfl⟩ hP hK 0 1 rfl rfl rfl hl.1 (Nat.le_of_ble_eq_true rfl) rfl d_r_strength_41 ?_
  exact WI.iret hx hb hr hlocks hK hS d_r_strength_44 () rfl hP hD
set_option maxHeartbeats 4000000 in
set_option maxRecDepth 100000 in
theorem c_r_strength_x (l : Launch) (D : va_G) (cI cJ cZ : ClassId) (ad : Nat → Nat) (er : Int32) (n ev : Nat) (r : RA) (hev : ev ≤ 120) (x y : Int32) (hy1 : iv ev x = true → iv ev y = false) : WI (S := Unit) l D (tys cI cJ cZ) (rL cI cZ ad er n ev r) (fun _ => rL cI cZ ad (nI 1) n ev r) (fun _ _ => True) y_r_strength b_r_strength 3 (some .int) 2 50 [.ref (ad 0), .int x, .int y] := by
  refine WI.of (by decide) (Nat.le_of_ble_eq_true rfl) ?_
  intro p9 e9 s9 m args below meth c9 ls A S hr hlocks hA hP hK hD hl
  obtain ⟨hx, hb, hml, hown, htc⟩ := id S
  have hS : va_S A s9.heap s9.heap [] := va_S.rf
  have hl : lv_has ls 3 [(0, .ref (ad 0)), (1, .int x), (2, .int y)] := hl
  refine lv_aload_n hx hb d_r_strength_0 rfl (lv_at hl 0 rfl) ?_
  refine lv_iconst (v := (nI 0)) hx hb d_r_strength_1 (by decide) ?_
  refine va_put (D := D) (ci := 1) (v := .int (nI 0)) (ty := .int) (C := "SightGraphModel") (T := T_r) (N := 10) hx hb htc in_r t_r ft_r fn_r hown hK hP hD hS 0 rfl rfl 0 (by decide) (htc _ k_2_73) (fun _ h9 => h9) rfl (by decide +kernel) rfl rfl (Nat.le_of_ble_eq_true rfl) d_r_strength_2 (fun H locs hP hD hS => ?_)
  have hP : va_P D cls (rL cI cZ ad (nI 0) n ev r) H := hP
  have hD : va_D A (rL cI cZ ad (nI 0) n ev r) := hD
  refine lv_aload_n hx hb d_r_strength_5 rfl (lv_at hl 0 rfl) ?_
  refine lv_aload_n hx hb d_r_strength_6 rfl (lv_at hl 0 rfl) ?_
  refine lv_iload_n hx hb d_r_strength_7 rfl (lv_at hl 1 rfl) ?_
  refine PM.callV (rest := [.ref (ad 0)]) S (c_r_isEvent l D cI cJ cZ ad (nI 0) n ev r (by omega) (x)) k_2_126 k_2_128 k_s_21 k_1_2 k_2_129 h_r_isEvent ⟨Nat.le_of_ble_eq_true rfl, Nat.le_of_ble_eq_true rfl⟩ ⟨Nat.le_of_ble_eq_true rfl, Nat.le_of_ble_eq_true rfl⟩ hP hK 0 1 rfl rfl rfl hl.1 (Nat.le_of_ble_eq_true rfl) rfl d_r_strength_8 ?_
  refine nr_ifeq_b (tgt := 22) hx hb d_r_strength_11 (by decide) (fun c_11 => ?_) (fun c_11 => ?_)
  · refine lv_iconst (v := (nI 1)) hx hb d_r_strength_22 (by decide) ?_
    refine lv_goto (tgt := 27) hx hb d_r_strength_23 (by decide) ?_
    refine nr_top (w := .int (bI true)) rfl ?_
    refine lv_iconst (v := (nI 1)) hx hb d_r_strength_27 (by decide) ?_
    refine WI.callV (wr := []) (rest := []) S (c_r_fails l D cI cJ cZ ad n ev r true 1 (by decide) (by decide)) k_2_118 k_2_120 k_s_20 k_1_2 k_2_121 h_r_fails ⟨Nat.le_of_ble_eq_true rfl, Nat.le_of_ble_eq_true rfl⟩ ⟨Nat.le_of_ble_eq_true rfl, Nat.le_of_ble_eq_true rfl⟩ hP hK hD hS hA [0, 1, 2, 3, 4, 5, 6, 7] [] rfl rfl (by decide) (by decide) (by decide) 0 1 rfl rfl rfl hl.1 (Nat.le_of_ble_eq_true rfl) rfl d_r_strength_28 (fun v9 u9 H locs hv9 hP hD hS => ?_)
    obtain rfl := hv9
    have hP : va_P D cls (rL cI cZ ad (nI 1) n ev r) H := hP
    have hD : va_D A (rL cI cZ ad (nI 1) n ev r) := hD
    refine nr_ifeq_b (tgt := 38) hx hb d_r_strength_31 (by decide) (fun q9 => nomatch q9) (fun q9 => ?_)
    refine lv_iconst (v := (nI 0)) hx hb d_r_strength_34 (by decide) ?_
    refine lv_goto (tgt := 44) hx hb d_r_strength_35 (by decide) ?_
    exact WI.iret hx hb hr hlocks hK hS d_r_strength_44 () trivial hP hD
  · refine lv_aload_n hx hb d_r_strength_14 rfl (lv_at hl 0 rfl) ?_
    refine lv_iload_n hx hb d_r_strength_15 rfl (lv_at hl 2 rfl) ?_
    refine PM.callV (rest := [.ref (ad 0)]) S (c_r_isEvent l D cI cJ cZ ad (nI 0) n ev r (by omega) (y)) k_2_126 k_2_128 k_s_21 k_1_2 k_2_129 h_r_isEvent ⟨Nat.le_of_ble_eq_true rfl, Nat.le_of_ble_eq_true rfl⟩ ⟨Nat.le_of_ble_eq_true rfl, Nat.le_of_ble_eq_true rfl⟩ hP hK 0 1 rfl rfl rfl hl.1 (Nat.le_of_ble_eq_true rfl) rfl d_r_strength_16 ?_
    refine nr_ifne_b (tgt := 26) hx hb d_r_strength_19 (by decide) (fun q9 => absurd (show (iv ev (y)) = false from hy1 c_11) (by rw [q9]; decide)) (fun q9 => ?_)
    refine lv_iconst (v := (nI 1)) hx hb d_r_strength_22 (by decide) ?_
    refine lv_goto (tgt := 27) hx hb d_r_strength_23 (by decide) ?_
    refine nr_top (w := .int (bI true)) rfl ?_
    refine lv_iconst (v := (nI 1)) hx hb d_r_strength_27 (by decide) ?_
    refine WI.callV (wr := []) (rest := []) S (c_r_fails l D cI cJ cZ ad n ev r true 1 (by decide) (by decide)) k_2_118 k_2_120 k_s_20 k_1_2 k_2_121 h_r_fails ⟨Nat.le_of_ble_eq_true rfl, Nat.le_of_ble_eq_true rfl⟩ ⟨Nat.le_of_ble_eq_true rfl, Nat.le_of_ble_eq_true rfl⟩ hP hK hD hS hA [0, 1, 2, 3, 4, 5, 6, 7] [] rfl rfl (by decide) (by decide) (by decide) 0 1 rfl rfl rfl hl.1 (Nat.le_of_ble_eq_true rfl) rfl d_r_strength_28 (fun v9 u9 H locs hv9 hP hD hS => ?_)
    obtain rfl := hv9
    have hP : va_P D cls (rL cI cZ ad (nI 1) n ev r) H := hP
    have hD : va_D A (rL cI cZ ad (nI 1) n ev r) := hD
    refine nr_ifeq_b (tgt := 38) hx hb d_r_strength_31 (by decide) (fun q9 => nomatch q9) (fun q9 => ?_)
    refine lv_iconst (v := (nI 0)) hx hb d_r_strength_34 (by decide) ?_
    refine lv_goto (tgt := 44) hx hb d_r_strength_35 (by decide) ?_
    exact WI.iret hx hb hr hlocks hK hS d_r_strength_44 () trivial hP hD
set_option maxHeartbeats 4000000 in
set_option maxRecDepth 100000 in
theorem c_r_strongly_ok (l : Launch) (D : va_G) (cI cJ cZ : ClassId) (ad : Nat → Nat) (er : Int32) (n ev : Nat) (r : RA) (hev : ev ≤ 120) (K : Nat) (hKb : K ≤ 120) (c : Nat → Nat) (hc : ∀ j, j < K → r.1 j = nI (c j)) (an : Nat → Nat → Bool) (ha : ∀ j, j < K → ∀ y, y < 120 → r.2.2.2.2.2.1 (120 * j + y) = bI (an j y)) (fk : Nat → Nat → Bool) (hf : ∀ j, j < K → ∀ m, m < 8 → r.2.2.2.2.2.2 (8 * j + m) = bI (fk j m)) (hc8 : ∀ j, j < K → c j < 8) (hn : n ≤ 8) (hevK : ev ≤ K) (x y : Nat) (hx0 : x < ev) (hy0 : y < ev) : WI (S := Unit) l D (tys cI cJ cZ) (rL cI cZ ad er n ev r) (fun _ => rL cI cZ ad 0 n ev r) (fun v _ => v = bI (mn n (sn n an fk c x y))) y_r_strongly b_r_strongly 3 (some .boolean) 4 92 [.ref (ad 0), .int (nI x), .int (nI y)] := by
  refine WI.of (by decide) (Nat.le_of_ble_eq_true rfl) ?_
  intro p9 e9 s9 m args below meth c9 ls A S hr hlocks hA hP hK hD hl
  obtain ⟨hx, hb, hml, hown, htc⟩ := id S
  have hS : va_S A s9.heap s9.heap [] := va_S.rf
  have hl : lv_has ls 3 [(0, .ref (ad 0)), (1, .int (nI x)), (2, .int (nI y))] := hl
  refine lv_aload_n hx hb d_r_strongly_0 rfl (lv_at hl 0 rfl) ?_
  refine lv_iconst (v := (nI 0)) hx hb d_r_strongly_1 (by decide) ?_
  refine va_put (D := D) (ci := 1) (v := .int (nI 0)) (ty := .int) (C := "SightGraphModel") (T := T_r) (N := 10) hx hb htc in_r t_r ft_r fn_r hown hK hP hD hS 0 rfl rfl 0 (by decide) (htc _ k_2_73) (fun _ h9 => h9) rfl (by decide +kernel) rfl rfl (Nat.le_of_ble_eq_true rfl) d_r_strongly_2 (fun H locs hP hD hS => ?_)
  have hP : va_P D cls (rL cI cZ ad (nI 0) n ev r) H := hP
  have hD : va_D A (rL cI cZ ad (nI 0) n ev r) := hD
  refine lv_aload_n hx hb d_r_strongly_5 rfl (lv_at hl 0 rfl) ?_
  refine lv_aload_n hx hb d_r_strongly_6 rfl (lv_at hl 0 rfl) ?_
  refine lv_iload_n hx hb d_r_strongly_7 rfl (lv_at hl 1 rfl) ?_
  refine PM.callV (rest := [.ref (ad 0)]) S (c_r_isEvent l D cI cJ cZ ad (nI 0) n ev r (by omega) (nI x)) k_2_126 k_2_128 k_s_21 k_1_2 k_2_129 h_r_isEvent ⟨Nat.le_of_ble_eq_true rfl, Nat.le_of_ble_eq_true rfl⟩ ⟨Nat.le_of_ble_eq_true rfl, Nat.le_of_ble_eq_true rfl⟩ hP hK 0 1 rfl rfl rfl hl.1 (Nat.le_of_ble_eq_true rfl) rfl d_r_strongly_8 ?_
  refine nr_ifeq_b (tgt := 22) hx hb d_r_strongly_11 (by decide) (fun q9 => absurd (show (iv ev (nI x)) = true from iv_t hx0 hev) (by rw [q9]; decide)) (fun q9 => ?_)
  refine lv_aload_n hx hb d_r_strongly_14 rfl (lv_at hl 0 rfl) ?_
  refine lv_iload_n hx hb d_r_strongly_15 rfl (lv_at hl 2 rfl) ?_
  refine PM.callV (rest := [.ref (ad 0)]) S (c_r_isEvent l D cI cJ cZ ad (nI 0) n ev r (by omega) (nI y)) k_2_126 k_2_128 k_s_21 k_1_2 k_2_129 h_r_isEvent ⟨Nat.le_of_ble_eq_true rfl, Nat.le_of_ble_eq_true rfl⟩ ⟨Nat.le_of_ble_eq_true rfl, Nat.le_of_ble_eq_true rfl⟩ hP hK 0 1 rfl rfl rfl hl.1 (Nat.le_of_ble_eq_true rfl) rfl d_r_strongly_16 ?_
  refine nr_ifne_b (tgt := 26) hx hb d_r_strongly_19 (by decide) (fun q9 => ?_) (fun q9 => absurd (show (iv ev (nI y)) = true from iv_t hy0 hev) (by rw [q9]; decide))
  refine lv_iconst (v := (nI 0)) hx hb d_r_strongly_26 (by decide) ?_
  refine nr_top (w := .int (bI false)) rfl ?_
  refine lv_iconst (v := (nI 1)) hx hb d_r_strongly_27 (by decide) ?_
  refine WI.callV (wr := []) (rest := []) S (c_r_fails l D cI cJ cZ ad n ev r false 1 (by decide) (by decide)) k_2_118 k_2_120 k_s_20 k_1_2 k_2_121 h_r_fails ⟨Nat.le_of_ble_eq_true rfl, Nat.le_of_ble_eq_true rfl⟩ ⟨Nat.le_of_ble_eq_true rfl, Nat.le_of_ble_eq_true rfl⟩ hP hK hD hS hA [0, 1, 2, 3, 4, 5, 6, 7] [] rfl rfl (by decide) (by decide) (by decide) 0 1 rfl rfl rfl hl.1 (Nat.le_of_ble_eq_true rfl) rfl d_r_strongly_28 (fun v9 u9 H locs hv9 hP hD hS => ?_)
  obtain rfl := hv9
  have hP : va_P D cls (rL cI cZ ad 0 n ev r) H := hP
  have hD : va_D A (rL cI cZ ad 0 n ev r) := hD
  refine nr_ifne_b (tgt := 47) hx hb d_r_strongly_31 (by decide) (fun q9 => nomatch q9) (fun q9 => ?_)
  refine lv_aload_n hx hb d_r_strongly_34 rfl (lv_at hl 0 rfl) ?_
  refine lv_iload_n hx hb d_r_strongly_35 rfl (lv_at hl 1 rfl) ?_
  refine lv_iload_n hx hb d_r_strongly_36 rfl (lv_at hl 2 rfl) ?_
  refine PM.callV (rest := []) S (c_r_isStrong l D cI cJ cZ ad 0 n ev r K hKb c hc an ha fk hf hc8 hn x y (by omega) (by omega)) k_2_151 k_2_153 k_s_27 k_1_2 k_2_154 h_r_isStrong ⟨Nat.le_of_ble_eq_true rfl, Nat.le_of_ble_eq_true rfl⟩ ⟨Nat.le_of_ble_eq_true rfl, Nat.le_of_ble_eq_true rfl⟩ hP hK 0 1 rfl rfl rfl hl.1 (Nat.le_of_ble_eq_true rfl) rfl d_r_strongly_37 ?_
  refine nr_ifeq_b (tgt := 47) hx hb d_r_strongly_40 (by decide) (fun c_40 => ?_) (fun c_40 => ?_)
  · refine lv_iconst (v := (nI 0)) hx hb d_r_strongly_47 (by decide) ?_
    refine nr_top (w := .int (bI false)) rfl ?_
    exact WI.zret hx hb hr hlocks hK hS d_r_strongly_48 () (by rw [c_40]) hP hD
  · refine lv_iconst (v := (nI 1)) hx hb d_r_strongly_43 (by decide) ?_
    refine lv_goto (tgt := 48) hx hb d_r_strongly_44 (by decide) ?_
    refine nr_top (w := .int (bI true)) rfl ?_
    exact WI.zret hx hb hr hlocks hK hS d_r_strongly_48 () (by rw [c_40]) hP hD
set_option maxHeartbeats 4000000 in
set_option maxRecDepth 100000 in
theorem c_r_strongly_x (l : Launch) (D : va_G) (cI cJ cZ : ClassId) (ad : Nat → Nat) (er : Int32) (n ev : Nat) (r : RA) (hev : ev ≤ 120) (x y : Int32) (hy1 : iv ev x = true → iv ev y = false) : WI (S := Unit) l D (tys cI cJ cZ) (rL cI cZ ad er n ev r) (fun _ => rL cI cZ ad (nI 1) n ev r) (fun _ _ => True) y_r_strongly b_r_strongly 3 (some .boolean) 2 50 [.ref (ad 0), .int x, .int y] := by
  refine WI.of (by decide) (Nat.le_of_ble_eq_true rfl) ?_
  intro p9 e9 s9 m args below meth c9 ls A S hr hlocks hA hP hK hD hl
  obtain ⟨hx, hb, hml, hown, htc⟩ := id S
  have hS : va_S A s9.heap s9.heap [] := va_S.rf
  have hl : lv_has ls 3 [(0, .ref (ad 0)), (1, .int x), (2, .int y)] := hl
  refine lv_aload_n hx hb d_r_strongly_0 rfl (lv_at hl 0 rfl) ?_
  refine lv_iconst (v := (nI 0)) hx hb d_r_strongly_1 (by decide) ?_
  refine va_put (D := D) (ci := 1) (v := .int (nI 0)) (ty := .int) (C := "SightGraphModel") (T := T_r) (N := 10) hx hb htc in_r t_r ft_r fn_r hown hK hP hD hS 0 rfl rfl 0 (by decide) (htc _ k_2_73) (fun _ h9 => h9) rfl (by decide +kernel) rfl rfl (Nat.le_of_ble_eq_true rfl) d_r_strongly_2 (fun H locs hP hD hS => ?_)
  have hP : va_P D cls (rL cI cZ ad (nI 0) n ev r) H := hP
  have hD : va_D A (rL cI cZ ad (nI 0) n ev r) := hD
  refine lv_aload_n hx hb d_r_strongly_5 rfl (lv_at hl 0 rfl) ?_
  refine lv_aload_n hx hb d_r_strongly_6 rfl (lv_at hl 0 rfl) ?_
  refine lv_iload_n hx hb d_r_strongly_7 rfl (lv_at hl 1 rfl) ?_
  refine PM.callV (rest := [.ref (ad 0)]) S (c_r_isEvent l D cI cJ cZ ad (nI 0) n ev r (by omega) (x)) k_2_126 k_2_128 k_s_21 k_1_2 k_2_129 h_r_isEvent ⟨Nat.le_of_ble_eq_true rfl, Nat.le_of_ble_eq_true rfl⟩ ⟨Nat.le_of_ble_eq_true rfl, Nat.le_of_ble_eq_true rfl⟩ hP hK 0 1 rfl rfl rfl hl.1 (Nat.le_of_ble_eq_true rfl) rfl d_r_strongly_8 ?_
  refine nr_ifeq_b (tgt := 22) hx hb d_r_strongly_11 (by decide) (fun c_11 => ?_) (fun c_11 => ?_)
  · refine lv_iconst (v := (nI 1)) hx hb d_r_strongly_22 (by decide) ?_
    refine lv_goto (tgt := 27) hx hb d_r_strongly_23 (by decide) ?_
    refine nr_top (w := .int (bI true)) rfl ?_
    refine lv_iconst (v := (nI 1)) hx hb d_r_strongly_27 (by decide) ?_
    refine WI.callV (wr := []) (rest := []) S (c_r_fails l D cI cJ cZ ad n ev r true 1 (by decide) (by decide)) k_2_118 k_2_120 k_s_20 k_1_2 k_2_121 h_r_fails ⟨Nat.le_of_ble_eq_true rfl, Nat.le_of_ble_eq_true rfl⟩ ⟨Nat.le_of_ble_eq_true rfl, Nat.le_of_ble_eq_true rfl⟩ hP hK hD hS hA [0, 1, 2, 3, 4, 5, 6, 7] [] rfl rfl (by decide) (by decide) (by decide) 0 1 rfl rfl rfl hl.1 (Nat.le_of_ble_eq_true rfl) rfl d_r_strongly_28 (fun v9 u9 H locs hv9 hP hD hS => ?_)
    obtain rfl := hv9
    have hP : va_P D cls (rL cI cZ ad (nI 1) n ev r) H := hP
    have hD : va_D A (rL cI cZ ad (nI 1) n ev r) := hD
    refine nr_ifne_b (tgt := 47) hx hb d_r_strongly_31 (by decide) (fun q9 => ?_) (fun q9 => nomatch q9)
    refine lv_iconst (v := (nI 0)) hx hb d_r_strongly_47 (by decide) ?_
    refine nr_top (w := .int (bI false)) rfl ?_
    exact WI.zret hx hb hr hlocks hK hS d_r_strongly_48 () trivial hP hD
  · refine lv_aload_n hx hb d_r_strongly_14 rfl (lv_at hl 0 rfl) ?_
    refine lv_iload_n hx hb d_r_strongly_15 rfl (lv_at hl 2 rfl) ?_
    refine PM.callV (rest := [.ref (ad 0)]) S (c_r_isEvent l D cI cJ cZ ad (nI 0) n ev r (by omega) (y)) k_2_126 k_2_128 k_s_21 k_1_2 k_2_129 h_r_isEvent ⟨Nat.le_of_ble_eq_true rfl, Nat.le_of_ble_eq_true rfl⟩ ⟨Nat.le_of_ble_eq_true rfl, Nat.le_of_ble_eq_true rfl⟩ hP hK 0 1 rfl rfl rfl hl.1 (Nat.le_of_ble_eq_true rfl) rfl d_r_strongly_16 ?_
    refine nr_ifne_b (tgt := 26) hx hb d_r_strongly_19 (by decide) (fun q9 => absurd (show (iv ev (y)) = false from hy1 c_11) (by rw [q9]; decide)) (fun q9 => ?_)
    refine lv_iconst (v := (nI 1)) hx hb d_r_strongly_22 (by decide) ?_
    refine lv_goto (tgt := 27) hx hb d_r_strongly_23 (by decide) ?_
    refine nr_top (w := .int (bI true)) rfl ?_
    refine lv_iconst (v := (nI 1)) hx hb d_r_strongly_27 (by decide) ?_
    refine WI.callV (wr := []) (rest := []) S (c_r_fails l D cI cJ cZ ad n ev r true 1 (by decide) (by decide)) k_2_118 k_2_120 k_s_20 k_1_2 k_2_121 h_r_fails ⟨Nat.le_of_ble_eq_true rfl, Nat.le_of_ble_eq_true rfl⟩ ⟨Nat.le_of_ble_eq_true rfl, Nat.le_of_ble_eq_true rfl⟩ hP hK hD hS hA [0, 1, 2, 3, 4, 5, 6, 7] [] rfl rfl (by decide) (by decide) (by decide) 0 1 rfl rfl rfl hl.1 (Nat.le_of_ble_eq_true rfl) rfl d_r_strongly_28 (fun v9 u9 H locs hv9 hP hD hS => ?_)
    obtain rfl := hv9
    have hP : va_P D cls (rL cI cZ ad (nI 1) n ev r) H := hP
    have hD : va_D A (rL cI cZ ad (nI 1) n ev r) := hD
    refine nr_ifne_b (tgt := 47) hx hb d_r_strongly_31 (by decide) (fun q9 => ?_) (fun q9 => nomatch q9)
    refine lv_iconst (v := (nI 0)) hx hb d_r_strongly_47 (by decide) ?_
    refine nr_top (w := .int (bI false)) rfl ?_
    exact WI.zret hx hb hr hlocks hK hS d_r_strongly_48 () trivial hP hD
set_option maxHeartbeats 4000000 in
set_option maxRecDepth 100000 in
theorem c_r_round_ok (l : Launch) (D : va_G) (cI cJ cZ : ClassId) (ad : Nat → Nat) (er : Int32) (n ev : Nat) (r : RA) (hev : ev ≤ 120) (rd : Nat → Nat) (KR : Nat) (hKR : KR ≤ 120) (hR : ∀ j, j < KR → r.2.2.2.1 j = nI (rd j) ∧ rd j ≤ j + 1) (hevR : ev ≤ KR) (x : Nat) (hx0 : x < ev) : WI (S := Unit) l D (tys cI cJ cZ) (rL cI cZ ad er n ev r) (fun _ => rL cI cZ ad 0 n ev r) (fun v _ => v = nI (rd x)) y_r_round b_r_round 2 (some .int) 2 50 [.ref (ad 0), .int (nI x)] := by
  refine WI.of (by decide) (Nat.le_of_ble_eq_true rfl) ?_
  intro p9 e9 s9 m args below meth c9 ls A S hr hlocks hA hP hK hD hl
  obtain ⟨hx, hb, hml, hown, htc⟩ := id S
  have hS : va_S A s9.heap s9.heap [] := va_S.rf
  have hl : lv_has ls 2 [(0, .ref (ad 0)), (1, .int (nI x))] := hl
  refine lv_aload_n hx hb d_r_round_0 rfl (lv_at hl 0 rfl) ?_
  refine lv_iconst (v := (nI 0)) hx hb d_r_round_1 (by decide) ?_
  refine va_put (D := D) (ci := 1) (v := .int (nI 0)) (ty := .int) (C := "SightGraphModel") (T := T_r) (N := 10) hx hb htc in_r t_r ft_r fn_r hown hK hP hD hS 0 rfl rfl 0 (by decide) (htc _ k_2_73) (fun _ h9 => h9) rfl (by decide +kernel) rfl rfl (Nat.le_of_ble_eq_true rfl) d_r_round_2 (fun H locs hP hD hS => ?_)
  have hP : va_P D cls (rL cI cZ ad (nI 0) n ev r) H := hP
  have hD : va_D A (rL cI cZ ad (nI 0) n ev r) := hD
  refine lv_aload_n hx hb d_r_round_5 rfl (lv_at hl 0 rfl) ?_
  refine lv_aload_n hx hb d_r_round_6 rfl (lv_at hl 0 rfl) ?_
  refine lv_iload_n hx hb d_r_round_7 rfl (lv_at hl 1 rfl) ?_
  refine PM.callV (rest := [.ref (ad 0)]) S (c_r_isEvent l D cI cJ cZ ad (nI 0) n ev r (by omega) (nI x)) k_2_126 k_2_128 k_s_21 k_1_2 k_2_129 h_r_isEvent ⟨Nat.le_of_ble_eq_true rfl, Nat.le_of_ble_eq_true rfl⟩ ⟨Nat.le_of_ble_eq_true rfl, Nat.le_of_ble_eq_true rfl⟩ hP hK 0 1 rfl rfl rfl hl.1 (Nat.le_of_ble_eq_true rfl) rfl d_r_round_8 ?_
  refine nr_ifne_b (tgt := 18) hx hb d_r_round_11 (by decide) (fun q9 => ?_) (fun q9 => absurd (show (iv ev (nI x)) = true from iv_t hx0 hev) (by rw [q9]; decide))
  refine lv_iconst (v := (nI 0)) hx hb d_r_round_18 (by decide) ?_
  refine nr_top (w := .int (bI false)) rfl ?_
  refine lv_iconst (v := (nI 1)) hx hb d_r_round_19 (by decide) ?_
  refine WI.callV (wr := []) (rest := []) S (c_r_fails l D cI cJ cZ ad n ev r false 1 (by decide) (by decide)) k_2_118 k_2_120 k_s_20 k_1_2 k_2_121 h_r_fails ⟨Nat.le_of_ble_eq_true rfl, Nat.le_of_ble_eq_true rfl⟩ ⟨Nat.le_of_ble_eq_true rfl, Nat.le_of_ble_eq_true rfl⟩ hP hK hD hS hA [0, 1, 2, 3, 4, 5, 6, 7] [] rfl rfl (by decide) (by decide) (by decide) 0 1 rfl rfl rfl hl.1 (Nat.le_of_ble_eq_true rfl) rfl d_r_round_20 (fun v9 u9 H locs hv9 hP hD hS => ?_)
  obtain rfl := hv9
  have hP : va_P D cls (rL cI cZ ad 0 n ev r) H := hP
  have hD : va_D A (rL cI cZ ad 0 n ev r) := hD
  refine nr_ifeq_b (tgt := 30) hx hb d_r_round_23 (by decide) (fun q9 => ?_) (fun q9 => nomatch q9)
  refine lv_aload_n hx hb d_r_round_30 rfl (lv_at hl 0 rfl) ?_
  refine va_get (D := D) (ci := 1) (v := .ref (ad 4)) (C := "SightGraphModel") (T := T_r) (N := 10) hx hb htc in_r hown hK hP 0 rfl rfl 6 (by decide) (htc _ k_2_79) (fun _ h9 => h9) rfl d_r_round_31 ?_
  refine lv_iload_n hx hb d_r_round_34 rfl (lv_at hl 1 rfl) ?_
  refine nr_iald hx hb hK hP 4 0 rfl rfl (by omega) (by decide) (v := (nI (rd x))) (hR x (by omega)).1 d_r_round_35 ?_
  exact WI.iret hx hb hr hlocks hK hS d_r_round_36 () rfl hP hD
set_option maxHeartbeats 4000000 in
set_option maxRecDepth 100000 in
theorem c_r_round_x (l : Launch) (D : va_G) (cI cJ cZ : ClassId) (ad : Nat → Nat) (er : Int32) (n ev : Nat) (r : RA) (hev : ev ≤ 120) (x : Int32) (hx1 : iv ev x = false) : WI (S := Unit) l D (tys cI cJ cZ) (rL cI cZ ad er n ev r) (fun _ => rL cI cZ ad (nI 1) n ev r) (fun _ _ => True) y_r_round b_r_round 2 (some .int) 2 50 [.ref (ad 0), .int x] := by
  refine WI.of (by decide) (Nat.le_of_ble_eq_true rfl) ?_
  intro p9 e9 s9 m args below meth c9 ls A S hr hlocks hA hP hK hD hl
  obtain ⟨hx, hb, hml, hown, htc⟩ := id S
  have hS : va_S A s9.heap s9.heap [] := va_S.rf
  have hl : lv_has ls 2 [(0, .ref (ad 0)), (1, .int x)] := hl
  refine lv_aload_n hx hb d_r_round_0 rfl (lv_at hl 0 rfl) ?_
  refine lv_iconst (v := (nI 0)) hx hb d_r_round_1 (by decide) ?_
  refine va_put (D := D) (ci := 1) (v := .int (nI 0)) (ty := .int) (C := "SightGraphModel") (T := T_r) (N := 10) hx hb htc in_r t_r ft_r fn_r hown hK hP hD hS 0 rfl rfl 0 (by decide) (htc _ k_2_73) (fun _ h9 => h9) rfl (by decide +kernel) rfl rfl (Nat.le_of_ble_eq_true rfl) d_r_round_2 (fun H locs hP hD hS => ?_)
  have hP : va_P D cls (rL cI cZ ad (nI 0) n ev r) H := hP
  have hD : va_D A (rL cI cZ ad (nI 0) n ev r) := hD
  refine lv_aload_n hx hb d_r_round_5 rfl (lv_at hl 0 rfl) ?_
  refine lv_aload_n hx hb d_r_round_6 rfl (lv_at hl 0 rfl) ?_
  refine lv_iload_n hx hb d_r_round_7 rfl (lv_at hl 1 rfl) ?_
  refine PM.callV (rest := [.ref (ad 0)]) S (c_r_isEvent l D cI cJ cZ ad (nI 0) n ev r (by omega) (x)) k_2_126 k_2_128 k_s_21 k_1_2 k_2_129 h_r_isEvent ⟨Nat.le_of_ble_eq_true rfl, Nat.le_of_ble_eq_true rfl⟩ ⟨Nat.le_of_ble_eq_true rfl, Nat.le_of_ble_eq_true rfl⟩ hP hK 0 1 rfl rfl rfl hl.1 (Nat.le_of_ble_eq_true rfl) rfl d_r_round_8 ?_
  refine nr_ifne_b (tgt := 18) hx hb d_r_round_11 (by decide) (fun q9 => absurd (show (iv ev (x)) = false from hx1) (by rw [q9]; decide)) (fun q9 => ?_)
  refine lv_iconst (v := (nI 1)) hx hb d_r_round_14 (by decide) ?_
  refine lv_goto (tgt := 19) hx hb d_r_round_15 (by decide) ?_
  refine nr_top (w := .int (bI true)) rfl ?_
  refine lv_iconst (v := (nI 1)) hx hb d_r_round_19 (by decide) ?_
  refine WI.callV (wr := []) (rest := []) S (c_r_fails l D cI cJ cZ ad n ev r true 1 (by decide) (by decide)) k_2_118 k_2_120 k_s_20 k_1_2 k_2_121 h_r_fails ⟨Nat.le_of_ble_eq_true rfl, Nat.le_of_ble_eq_true rfl⟩ ⟨Nat.le_of_ble_eq_true rfl, Nat.le_of_ble_eq_true rfl⟩ hP hK hD hS hA [0, 1, 2, 3, 4, 5, 6, 7] [] rfl rfl (by decide) (by decide) (by decide) 0 1 rfl rfl rfl hl.1 (Nat.le_of_ble_eq_true rfl) rfl d_r_round_20 (fun v9 u9 H locs hv9 hP hD hS => ?_)
  obtain rfl := hv9
  have hP : va_P D cls (rL cI cZ ad (nI 1) n ev r) H := hP
  have hD : va_D A (rL cI cZ ad (nI 1) n ev r) := hD
  refine nr_ifeq_b (tgt := 30) hx hb d_r_round_23 (by decide) (fun q9 => nomatch q9) (fun q9 => ?_)
  refine lv_iconst (v := (nI 0)) hx hb d_r_round_26 (by decide) ?_
  refine lv_goto (tgt := 36) hx hb d_r_round_27 (by decide) ?_
  exact WI.iret hx hb hr hlocks hK hS d_r_round_36 () trivial hP hD
set_option maxHeartbeats 4000000 in
set_option maxRecDepth 100000 in
theorem c_r_witness_ok (l : Launch) (D : va_G) (cI cJ cZ : ClassId) (ad : Nat → Nat) (er : Int32) (n ev : Nat) (r : RA) (hev : ev ≤ 120) (K : Nat) (hKb : K ≤ 120) (s : Nat → Nat) (hs : ∀ j, j < K → r.2.1 j = mI (s j)) (rd : Nat → Nat) (KR : Nat) (hKR : KR ≤ 120) (hR : ∀ j, j < KR → r.2.2.2.1 j = nI (rd j) ∧ rd j ≤ j + 1) (hevK : ev ≤ K) (hevR : ev ≤ KR) (hsx : ∀ i, i < K → s i ≤ i) (x : Nat) (hx0 : x < ev) : WI (S := Unit) l D (tys cI cJ cZ) (rL cI cZ ad er n ev r) (fun _ => rL cI cZ ad 0 n ev r) (fun v _ => v = bI (wi s rd x)) y_r_witness b_r_witness 2 (some .boolean) 2 50 [.ref (ad 0), .int (nI x)] := by
  refine WI.of (by decide) (Nat.le_of_ble_eq_true rfl) ?_
  intro p9 e9 s9 m args below meth c9 ls A S hr hlocks hA hP hK hD hl
  obtain ⟨hx, hb, hml, hown, htc⟩ := id S
  have hS : va_S A s9.heap s9.heap [] := va_S.rf
  have hl : lv_has ls 2 [(0, .ref (ad 0)), (1, .int (nI x))] := hl
  refine lv_aload_n hx hb d_r_witness_0 rfl (lv_at hl 0 rfl) ?_
  refine lv_iconst (v := (nI 0)) hx hb d_r_witness_1 (by decide) ?_
  refine va_put (D := D) (ci := 1) (v := .int (nI 0)) (ty := .int) (C := "SightGraphModel") (T := T_r) (N := 10) hx hb htc in_r t_r ft_r fn_r hown hK hP hD hS 0 rfl rfl 0 (by decide) (htc _ k_2_73) (fun _ h9 => h9) rfl (by decide +kernel) rfl rfl (Nat.le_of_ble_eq_true rfl) d_r_witness_2 (fun H locs hP hD hS => ?_)
  have hP : va_P D cls (rL cI cZ ad (nI 0) n ev r) H := hP
  have hD : va_D A (rL cI cZ ad (nI 0) n ev r) := hD
  refine lv_aload_n hx hb d_r_witness_5 rfl (lv_at hl 0 rfl) ?_
  refine lv_aload_n hx hb d_r_witness_6 rfl (lv_at hl 0 rfl) ?_
  refine lv_iload_n hx hb d_r_witness_7 rfl (lv_at hl 1 rfl) ?_
  refine PM.callV (rest := [.ref (ad 0)]) S (c_r_isEvent l D cI cJ cZ ad (nI 0) n ev r (by omega) (nI x)) k_2_126 k_2_128 k_s_21 k_1_2 k_2_129 h_r_isEvent ⟨Nat.le_of_ble_eq_true rfl, Nat.le_of_ble_eq_true rfl⟩ ⟨Nat.le_of_ble_eq_true rfl, Nat.le_of_ble_eq_true rfl⟩ hP hK 0 1 rfl rfl rfl hl.1 (Nat.le_of_ble_eq_true rfl) rfl d_r_witness_8 ?_
  refine nr_ifne_b (tgt := 18) hx hb d_r_witness_11 (by decide) (fun q9 => ?_) (fun q9 => absurd (show (iv ev (nI x)) = true from iv_t hx0 hev) (by rw [q9]; decide))
  refine lv_iconst (v := (nI 0)) hx hb d_r_witness_18 (by decide) ?_
  refine nr_top (w := .int (bI false)) rfl ?_
  refine lv_iconst (v := (nI 1)) hx hb d_r_witness_19 (by decide) ?_
  refine WI.callV (wr := []) (rest := []) S (c_r_fails l D cI cJ cZ ad n ev r false 1 (by decide) (by decide)) k_2_118 k_2_120 k_s_20 k_1_2 k_2_121 h_r_fails ⟨Nat.le_of_ble_eq_true rfl, Nat.le_of_ble_eq_true rfl⟩ ⟨Nat.le_of_ble_eq_true rfl, Nat.le_of_ble_eq_true rfl⟩ hP hK hD hS hA [0, 1, 2, 3, 4, 5, 6, 7] [] rfl rfl (by decide) (by decide) (by decide) 0 1 rfl rfl rfl hl.1 (Nat.le_of_ble_eq_true rfl) rfl d_r_witness_20 (fun v9 u9 H locs hv9 hP hD hS => ?_)
  obtain rfl := hv9
  have hP : va_P D cls (rL cI cZ ad 0 n ev r) H := hP
  have hD : va_D A (rL cI cZ ad 0 n ev r) := hD
  refine nr_ifne_b (tgt := 38) hx hb d_r_witness_23 (by decide) (fun q9 => nomatch q9) (fun q9 => ?_)
  refine lv_aload_n hx hb d_r_witness_26 rfl (lv_at hl 0 rfl) ?_
  refine lv_iload_n hx hb d_r_witness_27 rfl (lv_at hl 1 rfl) ?_
  refine PM.callV (rest := []) S (c_r_isWitness l D cI cJ cZ ad 0 n ev r K hKb s hs rd KR hKR hR x (by omega) (by omega) (hsx x (by omega))) k_2_147 k_2_149 k_s_26 k_1_2 k_2_150 h_r_isWitness ⟨Nat.le_of_ble_eq_true rfl, Nat.le_of_ble_eq_true rfl⟩ ⟨Nat.le_of_ble_eq_true rfl, Nat.le_of_ble_eq_true rfl⟩ hP hK 0 1 rfl rfl rfl hl.1 (Nat.le_of_ble_eq_true rfl) rfl d_r_witness_28 ?_
  refine nr_ifeq_b (tgt := 38) hx hb d_r_witness_31 (by decide) (fun c_31 => ?_) (fun c_31 => ?_)
  · refine lv_iconst (v := (nI 0)) hx hb d_r_witness_38 (by decide) ?_
    refine nr_top (w := .int (bI false)) rfl ?_
    exact WI.zret hx hb hr hlocks hK hS d_r_witness_39 () (by rw [c_31]) hP hD
  · refine lv_iconst (v := (nI 1)) hx hb d_r_witness_34 (by decide) ?_
    refine lv_goto (tgt := 39) hx hb d_r_witness_35 (by decide) ?_
    refine nr_top (w := .int (bI true)) rfl ?_
    exact WI.zret hx hb hr hlocks hK hS d_r_witness_39 () (by rw [c_31]) hP hD
set_option maxHeartbeats 4000000 in
set_option maxRecDepth 100000 in
theorem c_r_witness_x (l : Launch) (D : va_G) (cI cJ cZ : ClassId) (ad : Nat → Nat) (er : Int32) (n ev : Nat) (r : RA) (hev : ev ≤ 120) (x : Int32) (hx1 : iv ev x = false) : WI (S := Unit) l D (tys cI cJ cZ) (rL cI cZ ad er n ev r) (fun _ => rL cI cZ ad (nI 1) n ev r) (fun _ _ => True) y_r_witness b_r_witness 2 (some .boolean) 2 50 [.ref (ad 0), .int x] := by
  refine WI.of (by decide) (Nat.le_of_ble_eq_true rfl) ?_
  intro p9 e9 s9 m args below meth c9 ls A S hr hlocks hA hP hK hD hl
  obtain ⟨hx, hb, hml, hown, htc⟩ := id S
  have hS : va_S A s9.heap s9.heap [] := va_S.rf
  have hl : lv_has ls 2 [(0, .ref (ad 0)), (1, .int x)] := hl
  refine lv_aload_n hx hb d_r_witness_0 rfl (lv_at hl 0 rfl) ?_
  refine lv_iconst (v := (nI 0)) hx hb d_r_witness_1 (by decide) ?_
  refine va_put (D := D) (ci := 1) (v := .int (nI 0)) (ty := .int) (C := "SightGraphModel") (T := T_r) (N := 10) hx hb htc in_r t_r ft_r fn_r hown hK hP hD hS 0 rfl rfl 0 (by decide) (htc _ k_2_73) (fun _ h9 => h9) rfl (by decide +kernel) rfl rfl (Nat.le_of_ble_eq_true rfl) d_r_witness_2 (fun H locs hP hD hS => ?_)
  have hP : va_P D cls (rL cI cZ ad (nI 0) n ev r) H := hP
  have hD : va_D A (rL cI cZ ad (nI 0) n ev r) := hD
  refine lv_aload_n hx hb d_r_witness_5 rfl (lv_at hl 0 rfl) ?_
  refine lv_aload_n hx hb d_r_witness_6 rfl (lv_at hl 0 rfl) ?_
  refine lv_iload_n hx hb d_r_witness_7 rfl (lv_at hl 1 rfl) ?_
  refine PM.callV (rest := [.ref (ad 0)]) S (c_r_isEvent l D cI cJ cZ ad (nI 0) n ev r (by omega) (x)) k_2_126 k_2_128 k_s_21 k_1_2 k_2_129 h_r_isEvent ⟨Nat.le_of_ble_eq_true rfl, Nat.le_of_ble_eq_true rfl⟩ ⟨Nat.le_of_ble_eq_true rfl, Nat.le_of_ble_eq_true rfl⟩ hP hK 0 1 rfl rfl rfl hl.1 (Nat.le_of_ble_eq_true rfl) rfl d_r_witness_8 ?_
  refine nr_ifne_b (tgt := 18) hx hb d_r_witness_11 (by decide) (fun q9 => absurd (show (iv ev (x)) = false from hx1) (by rw [q9]; decide)) (fun q9 => ?_)
  refine lv_iconst (v := (nI 1)) hx hb d_r_witness_14 (by decide) ?_
  refine lv_goto (tgt := 19) hx hb d_r_witness_15 (by decide) ?_
  refine nr_top (w := .int (bI true)) rfl ?_
  refine lv_iconst (v := (nI 1)) hx hb d_r_witness_19 (by decide) ?_
  refine WI.callV (wr := []) (rest := []) S (c_r_fails l D cI cJ cZ ad n ev r true 1 (by decide) (by decide)) k_2_118 k_2_120 k_s_20 k_1_2 k_2_121 h_r_fails ⟨Nat.le_of_ble_eq_true rfl, Nat.le_of_ble_eq_true rfl⟩ ⟨Nat.le_of_ble_eq_true rfl, Nat.le_of_ble_eq_true rfl⟩ hP hK hD hS hA [0, 1, 2, 3, 4, 5, 6, 7] [] rfl rfl (by decide) (by decide) (by decide) 0 1 rfl rfl rfl hl.1 (Nat.le_of_ble_eq_true rfl) rfl d_r_witness_20 (fun v9 u9 H locs hv9 hP hD hS => ?_)
  obtain rfl := hv9
  have hP : va_P D cls (rL cI cZ ad (nI 1) n ev r) H := hP
  have hD : va_D A (rL cI cZ ad (nI 1) n ev r) := hD
  refine nr_ifne_b (tgt := 38) hx hb d_r_witness_23 (by decide) (fun q9 => ?_) (fun q9 => nomatch q9)
  refine lv_iconst (v := (nI 0)) hx hb d_r_witness_38 (by decide) ?_
  refine nr_top (w := .int (bI false)) rfl ?_
  exact WI.zret hx hb hr hlocks hK hS d_r_witness_39 () trivial hP hD
end
section
theorem in28 (x : Int32) : decide ((2 : Int64) ≤ x.toInt64 ∧ x.toInt64 ≤ 8) = decide (nI 2 ≤ x ∧ x ≤ nI 8) := by
  rw [decide_eq_decide, Int64.le_iff_toInt_le, Int64.le_iff_toInt_le, t64, Int32.le_iff_toInt_le, Int32.le_iff_toInt_le, nI_toInt (by decide), nI_toInt (by decide), show (2 : Int64).toInt = 2 from by decide, show (8 : Int64).toInt = 8 from by decide]
  exact Iff.rfl
theorem in03 (x : Int32) : decide ((0 : Int64) ≤ x.toInt64 ∧ x.toInt64 ≤ 3) = iv 4 x := by
  unfold iv
  rw [decide_eq_decide, Int64.le_iff_toInt_le, Int64.le_iff_toInt_le, t64, Int32.le_iff_toInt_le, Int32.lt_iff_toInt_lt, nI_toInt (by decide), show (0 : Int64).toInt = 0 from by decide, show (3 : Int64).toInt = 3 from by decide, Int32.toInt_zero]
  omega
/-- a fork of m among the first N, as the reference counts it -/
def fm (ow : Nat → Nat → Bool) (c : Nat → Nat) (N m : Nat) : Bool := ex N (fun y => ex y (fun z => c y == m && (c y == c z && (!ow y z && !ow z y))))
set_option maxHeartbeats 4000000 in
set_option maxRecDepth 100000 in
theorem c_r_begin_ok (l : Launch) (D : va_G) (cI cJ cZ : ClassId) (ad : Nat → Nat) (er : Int32) (n ev : Nat) (r : RA) (v : Nat) (h1 : 2 ≤ v) (h2 : v ≤ 8) : WV (S := Unit) l D (tys cI cJ cZ) (rL cI cZ ad er n ev r) (fun _ => rL cI cZ ad 0 v 0 r) (fun _ => True) y_r_begin b_r_begin 2 1 25 [.ref (ad 0), .int (nI v)] := by
  refine WV.of (by decide) (Nat.le_of_ble_eq_true rfl) ?_
  intro p9 e9 s9 m args below meth c9 ls A S hr hlocks hA hP hK hD hl
  obtain ⟨hx, hb, hml, hown, htc⟩ := id S
  have hS : va_S A s9.heap s9.heap [] := va_S.rf
  have hl : lv_has ls 2 [(0, .ref (ad 0)), (1, .int (nI v))] := hl
  refine lv_aload_n hx hb d_r_begin_0 rfl (lv_at hl 0 rfl) ?_
  refine lv_iconst (v := (nI 0)) hx hb d_r_begin_1 (by decide) ?_
  refine va_put (D := D) (ci := 1) (v := .int (nI 0)) (ty := .int) (C := "SightGraphModel") (T := T_r) (N := 10) hx hb htc in_r t_r ft_r fn_r hown hK hP hD hS 0 rfl rfl 0 (by decide) (htc _ k_2_73) (fun _ h9 => h9) rfl (by decide +kernel) rfl rfl (Nat.le_of_ble_eq_true rfl) d_r_begin_2 (fun H locs hP hD hS => ?_)
  have hP : va_P D cls (rL cI cZ ad (nI 0) n ev r) H := hP
  have hD : va_D A (rL cI cZ ad (nI 0) n ev r) := hD
  refine lv_aload_n hx hb d_r_begin_5 rfl (lv_at hl 0 rfl) ?_
  refine lv_iload_n hx hb d_r_begin_6 rfl (lv_at hl 1 rfl) ?_
  refine lv_i2l hx hb d_r_begin_7 rfl ?_
  refine lv_ldc2 hx hb hown (htc _ k_2_113) d_r_begin_8 ?_
  refine lv_ldc2 hx hb hown (htc _ k_2_114) d_r_begin_11 ?_
  refine PM.callS (rest := [.ref (ad 0)]) S (c_r_in l D cI cJ cZ ad (nI 0) n ev r ((nI v).toInt64) (2) (8)) k_2_115 k_2_116 k_1_2 k_2_117 h_r_in ⟨Nat.le_of_ble_eq_true rfl, Nat.le_of_ble_eq_true rfl⟩ ⟨Nat.le_of_ble_eq_true rfl, Nat.le_of_ble_eq_true rfl⟩ hP hK hl.1 (Nat.le_of_ble_eq_true rfl) rfl d_r_begin_14 ?_
  refine nr_ifne_b (tgt := 24) hx hb d_r_begin_17 (by decide) (fun q9 => ?_) (fun q9 => absurd (show (decide ((2 : Int64) ≤ (nI v).toInt64 ∧ (nI v).toInt64 ≤ 8)) = true from by rw [in28]; exact decide_eq_true ⟨nI_le h1 (by omega), nI_le h2 (by decide)⟩) (by rw [q9]; decide))
  refine lv_iconst (v := (nI 0)) hx hb d_r_begin_24 (by decide) ?_
  refine nr_top (w := .int (bI false)) rfl ?_
  refine lv_iconst (v := (nI 1)) hx hb d_r_begin_25 (by decide) ?_
  refine WI.callV (wr := []) (rest := []) S (c_r_fails l D cI cJ cZ ad n ev r false 1 (by decide) (by decide)) k_2_118 k_2_120 k_s_20 k_1_2 k_2_121 h_r_fails ⟨Nat.le_of_ble_eq_true rfl, Nat.le_of_ble_eq_true rfl⟩ ⟨Nat.le_of_ble_eq_true rfl, Nat.le_of_ble_eq_true rfl⟩ hP hK hD hS hA [0, 1, 2, 3, 4, 5, 6, 7] [] rfl rfl (by decide) (by decide) (by decide) 0 1 rfl rfl rfl hl.1 (Nat.le_of_ble_eq_true rfl) rfl d_r_begin_26 (fun v9 u9 H locs hv9 hP hD hS => ?_)
  obtain rfl := hv9
  have hP : va_P D cls (rL cI cZ ad 0 n ev r) H := hP
  have hD : va_D A (rL cI cZ ad 0 n ev r) := hD
  refine nr_ifeq_b (tgt := 33) hx hb d_r_begin_29 (by decide) (fun q9 => ?_) (fun q9 => nomatch q9)
  refine lv_aload_n hx hb d_r_begin_33 rfl (lv_at hl 0 rfl) ?_
  refine lv_iload_n hx hb d_r_begin_34 rfl (lv_at hl 1 rfl) ?_
  refine va_put (D := D) (ci := 1) (v := .int (nI v)) (ty := .int) (C := "SightGraphModel") (T := T_r) (N := 10) hx hb htc in_r t_r ft_r fn_r hown hK hP hD hS 0 rfl rfl 1 (by decide) (htc _ k_2_74) (fun _ h9 => h9) rfl (by decide +kernel) rfl rfl (Nat.le_of_ble_eq_true rfl) d_r_begin_35 (fun H locs hP hD hS => ?_)
  have hP : va_P D cls (rL cI cZ ad 0 v ev r) H := hP
  have hD : va_D A (rL cI cZ ad 0 v ev r) := hD
  refine lv_aload_n hx hb d_r_begin_38 rfl (lv_at hl 0 rfl) ?_
  refine lv_iconst (v := (nI 0)) hx hb d_r_begin_39 (by decide) ?_
  refine va_put (D := D) (ci := 1) (v := .int (nI 0)) (ty := .int) (C := "SightGraphModel") (T := T_r) (N := 10) hx hb htc in_r t_r ft_r fn_r hown hK hP hD hS 0 rfl rfl 2 (by decide) (htc _ k_2_75) (fun _ h9 => h9) rfl (by decide +kernel) rfl rfl (Nat.le_of_ble_eq_true rfl) d_r_begin_40 (fun H locs hP hD hS => ?_)
  have hP : va_P D cls (rL cI cZ ad 0 v 0 r) H := hP
  have hD : va_D A (rL cI cZ ad 0 v 0 r) := hD
  exact WV.ret hx hb hr hlocks hK hS d_r_begin_43 () trivial hP hD
set_option maxHeartbeats 4000000 in
set_option maxRecDepth 100000 in
theorem c_r_begin_x (l : Launch) (D : va_G) (cI cJ cZ : ClassId) (ad : Nat → Nat) (er : Int32) (n ev : Nat) (r : RA) (x : Int32) (hv : ¬ (2 ≤ x ∧ x ≤ 8)) : WV (S := Unit) l D (tys cI cJ cZ) (rL cI cZ ad er n ev r) (fun _ => rL cI cZ ad (nI 1) n ev r) (fun _ => True) y_r_begin b_r_begin 2 1 25 [.ref (ad 0), .int x] := by
  refine WV.of (by decide) (Nat.le_of_ble_eq_true rfl) ?_
  intro p9 e9 s9 m args below meth c9 ls A S hr hlocks hA hP hK hD hl
  obtain ⟨hx, hb, hml, hown, htc⟩ := id S
  have hS : va_S A s9.heap s9.heap [] := va_S.rf
  have hl : lv_has ls 2 [(0, .ref (ad 0)), (1, .int x)] := hl
  refine lv_aload_n hx hb d_r_begin_0 rfl (lv_at hl 0 rfl) ?_
  refine lv_iconst (v := (nI 0)) hx hb d_r_begin_1 (by decide) ?_
  refine va_put (D := D) (ci := 1) (v := .int (nI 0)) (ty := .int) (C := "SightGraphModel") (T := T_r) (N := 10) hx hb htc in_r t_r ft_r fn_r hown hK hP hD hS 0 rfl rfl 0 (by decide) (htc _ k_2_73) (fun _ h9 => h9) rfl (by decide +kernel) rfl rfl (Nat.le_of_ble_eq_true rfl) d_r_begin_2 (fun H locs hP hD hS => ?_)
  have hP : va_P D cls (rL cI cZ ad (nI 0) n ev r) H := hP
  have hD : va_D A (rL cI cZ ad (nI 0) n ev r) := hD
  refine lv_aload_n hx hb d_r_begin_5 rfl (lv_at hl 0 rfl) ?_
  refine lv_iload_n hx hb d_r_begin_6 rfl (lv_at hl 1 rfl) ?_
  refine lv_i2l hx hb d_r_begin_7 rfl ?_
  refine lv_ldc2 hx hb hown (htc _ k_2_113) d_r_begin_8 ?_
  refine lv_ldc2 hx hb hown (htc _ k_2_114) d_r_begin_11 ?_
  refine PM.callS (rest := [.ref (ad 0)]) S (c_r_in l D cI cJ cZ ad (nI 0) n ev r (x.toInt64) (2) (8)) k_2_115 k_2_116 k_1_2 k_2_117 h_r_in ⟨Nat.le_of_ble_eq_true rfl, Nat.le_of_ble_eq_true rfl⟩ ⟨Nat.le_of_ble_eq_true rfl, Nat.le_of_ble_eq_true rfl⟩ hP hK hl.1 (Nat.le_of_ble_eq_true rfl) rfl d_r_begin_14 ?_
  refine nr_ifne_b (tgt := 24) hx hb d_r_begin_17 (by decide) (fun q9 => absurd (show (decide ((2 : Int64) ≤ x.toInt64 ∧ x.toInt64 ≤ 8)) = false from by rw [in28]; exact decide_eq_false hv) (by rw [q9]; decide)) (fun q9 => ?_)
  refine lv_iconst (v := (nI 1)) hx hb d_r_begin_20 (by decide) ?_
  refine lv_goto (tgt := 25) hx hb d_r_begin_21 (by decide) ?_
  refine nr_top (w := .int (bI true)) rfl ?_
  refine lv_iconst (v := (nI 1)) hx hb d_r_begin_25 (by decide) ?_
  refine WI.callV (wr := []) (rest := []) S (c_r_fails l D cI cJ cZ ad n ev r true 1 (by decide) (by decide)) k_2_118 k_2_120 k_s_20 k_1_2 k_2_121 h_r_fails ⟨Nat.le_of_ble_eq_true rfl, Nat.le_of_ble_eq_true rfl⟩ ⟨Nat.le_of_ble_eq_true rfl, Nat.le_of_ble_eq_true rfl⟩ hP hK hD hS hA [0, 1, 2, 3, 4, 5, 6, 7] [] rfl rfl (by decide) (by decide) (by decide) 0 1 rfl rfl rfl hl.1 (Nat.le_of_ble_eq_true rfl) rfl d_r_begin_26 (fun v9 u9 H locs hv9 hP hD hS => ?_)
  obtain rfl := hv9
  have hP : va_P D cls (rL cI cZ ad (nI 1) n ev r) H := hP
  have hD : va_D A (rL cI cZ ad (nI 1) n ev r) := hD
  refine nr_ifeq_b (tgt := 33) hx hb d_r_begin_29 (by decide) (fun q9 => nomatch q9) (fun q9 => ?_)
  exact WV.ret hx hb hr hlocks hK hS d_r_begin_32 () trivial hP hD
set_option maxHeartbeats 4000000 in
set_option maxRecDepth 100000 in
theorem c_r_forked_ok (l : Launch) (D : va_G) (cI cJ cZ : ClassId) (ad : Nat → Nat) (er : Int32) (n ev : Nat) (r : RA) (hev : ev ≤ 120) (K : Nat) (hKb : K ≤ 120) (fk : Nat → Nat → Bool) (hf : ∀ j, j < K → ∀ m, m < 8 → r.2.2.2.2.2.2 (8 * j + m) = bI (fk j m)) (hevK : ev ≤ K) (hn : n ≤ 8) (x v : Nat) (hx0 : x < ev) (hv : v < n) : WI (S := Unit) l D (tys cI cJ cZ) (rL cI cZ ad er n ev r) (fun _ => rL cI cZ ad 0 n ev r) (fun q _ => q = bI (fk x v)) y_r_forked b_r_forked 3 (some .boolean) 2 50 [.ref (ad 0), .int (nI x), .int (nI v)] := by
  refine WI.of (by decide) (Nat.le_of_ble_eq_true rfl) ?_
  intro p9 e9 s9 m args below meth c9 ls A S hr hlocks hA hP hK hD hl
  obtain ⟨hx, hb, hml, hown, htc⟩ := id S
  have hS : va_S A s9.heap s9.heap [] := va_S.rf
  have hl : lv_has ls 3 [(0, .ref (ad 0)), (1, .int (nI x)), (2, .int (nI v))] := hl
  refine lv_aload_n hx hb d_r_forked_0 rfl (lv_at hl 0 rfl) ?_
  refine lv_iconst (v := (nI 0)) hx hb d_r_forked_1 (by decide) ?_
  refine va_put (D := D) (ci := 1) (v := .int (nI 0)) (ty := .int) (C := "SightGraphModel") (T := T_r) (N := 10) hx hb htc in_r t_r ft_r fn_r hown hK hP hD hS 0 rfl rfl 0 (by decide) (htc _ k_2_73) (fun _ h9 => h9) rfl (by decide +kernel) rfl rfl (Nat.le_of_ble_eq_true rfl) d_r_forked_2 (fun H locs hP hD hS => ?_)
  have hP : va_P D cls (rL cI cZ ad (nI 0) n ev r) H := hP
  have hD : va_D A (rL cI cZ ad (nI 0) n ev r) := hD
  refine lv_aload_n hx hb d_r_forked_5 rfl (lv_at hl 0 rfl) ?_
  refine lv_iload_n hx hb d_r_forked_6 rfl (lv_at hl 2 rfl) ?_
  refine lv_i2l hx hb d_r_forked_7 rfl ?_
  refine lv_lconst (v := 0) hx hb d_r_forked_8 (by decide) ?_
  refine lv_aload_n hx hb d_r_forked_9 rfl (lv_at hl 0 rfl) ?_
  refine va_get (D := D) (ci := 1) (v := .int (nI n)) (C := "SightGraphModel") (T := T_r) (N := 10) hx hb htc in_r hown hK hP 0 rfl rfl 1 (by decide) (htc _ k_2_74) (fun _ h9 => h9) rfl d_r_forked_10 ?_
  refine lv_iconst (v := (nI 1)) hx hb d_r_forked_13 (by decide) ?_
  refine lv_isub hx hb d_r_forked_14 ?_
  refine lv_i2l hx hb d_r_forked_15 rfl ?_
  refine PM.callS (rest := [.ref (ad 0)]) S (c_r_in l D cI cJ cZ ad (nI 0) n ev r ((nI v).toInt64) (0) ((nI n - nI 1).toInt64)) k_2_115 k_2_116 k_1_2 k_2_117 h_r_in ⟨Nat.le_of_ble_eq_true rfl, Nat.le_of_ble_eq_true rfl⟩ ⟨Nat.le_of_ble_eq_true rfl, Nat.le_of_ble_eq_true rfl⟩ hP hK hl.1 (Nat.le_of_ble_eq_true rfl) rfl d_r_forked_16 ?_
  refine nr_ifne_b (tgt := 26) hx hb d_r_forked_19 (by decide) (fun q9 => ?_) (fun q9 => absurd (show (decide ((0 : Int64) ≤ (nI v).toInt64 ∧ (nI v).toInt64 ≤ (nI n - nI 1).toInt64)) = true from by rw [iv_l (by omega)]; exact iv_t hv (by omega)) (by rw [q9]; decide))
  refine lv_iconst (v := (nI 0)) hx hb d_r_forked_26 (by decide) ?_
  refine nr_top (w := .int (bI false)) rfl ?_
  refine lv_iconst (v := (nI 1)) hx hb d_r_forked_27 (by decide) ?_
  refine WI.callV (wr := []) (rest := []) S (c_r_fails l D cI cJ cZ ad n ev r false 1 (by decide) (by decide)) k_2_118 k_2_120 k_s_20 k_1_2 k_2_121 h_r_fails ⟨Nat.le_of_ble_eq_true rfl, Nat.le_of_ble_eq_true rfl⟩ ⟨Nat.le_of_ble_eq_true rfl, Nat.le_of_ble_eq_true rfl⟩ hP hK hD hS hA [0, 1, 2, 3, 4, 5, 6, 7] [] rfl rfl (by decide) (by decide) (by decide) 0 1 rfl rfl rfl hl.1 (Nat.le_of_ble_eq_true rfl) rfl d_r_forked_28 (fun v9 u9 H locs hv9 hP hD hS => ?_)
  obtain rfl := hv9
  have hP : va_P D cls (rL cI cZ ad 0 n ev r) H := hP
  have hD : va_D A (rL cI cZ ad 0 n ev r) := hD
  refine nr_ifne_b (tgt := 73) hx hb d_r_forked_31 (by decide) (fun q9 => nomatch q9) (fun q9 => ?_)
  refine lv_aload_n hx hb d_r_forked_34 rfl (lv_at hl 0 rfl) ?_
  refine lv_aload_n hx hb d_r_forked_35 rfl (lv_at hl 0 rfl) ?_
  refine lv_iload_n hx hb d_r_forked_36 rfl (lv_at hl 1 rfl) ?_
  refine PM.callV (rest := [.ref (ad 0)]) S (c_r_isEvent l D cI cJ cZ ad 0 n ev r (by omega) (nI x)) k_2_126 k_2_128 k_s_21 k_1_2 k_2_129 h_r_isEvent ⟨Nat.le_of_ble_eq_true rfl, Nat.le_of_ble_eq_true rfl⟩ ⟨Nat.le_of_ble_eq_true rfl, Nat.le_of_ble_eq_true rfl⟩ hP hK 0 1 rfl rfl rfl hl.1 (Nat.le_of_ble_eq_true rfl) rfl d_r_forked_37 ?_
  refine nr_ifne_b (tgt := 47) hx hb d_r_forked_40 (by decide) (fun q9 => ?_) (fun q9 => absurd (show (iv ev (nI x)) = true from iv_t hx0 hev) (by rw [q9]; decide))
  refine lv_iconst (v := (nI 0)) hx hb d_r_forked_47 (by decide) ?_
  refine nr_top (w := .int (bI false)) rfl ?_
  refine lv_iconst (v := (nI 2)) hx hb d_r_forked_48 (by decide) ?_
  refine WI.callV (wr := []) (rest := []) S (c_r_fails l D cI cJ cZ ad n ev r false 2 (by decide) (by decide)) k_2_118 k_2_120 k_s_20 k_1_2 k_2_121 h_r_fails ⟨Nat.le_of_ble_eq_true rfl, Nat.le_of_ble_eq_true rfl⟩ ⟨Nat.le_of_ble_eq_true rfl, Nat.le_of_ble_eq_true rfl⟩ hP hK hD hS hA [0, 1, 2, 3, 4, 5, 6, 7] [] rfl rfl (by decide) (by decide) (by decide) 0 1 rfl rfl rfl hl.1 (Nat.le_of_ble_eq_true rfl) rfl d_r_forked_49 (fun v9 u9 H locs hv9 hP hD hS => ?_)
  obtain rfl := hv9
  have hP : va_P D cls (rL cI cZ ad 0 n ev r) H := hP
  have hD : va_D A (rL cI cZ ad 0 n ev r) := hD
  refine nr_ifne_b (tgt := 73) hx hb d_r_forked_52 (by decide) (fun q9 => nomatch q9) (fun q9 => ?_)
  refine lv_aload_n hx hb d_r_forked_55 rfl (lv_at hl 0 rfl) ?_
  refine va_get (D := D) (ci := 1) (v := .ref (ad 7)) (C := "SightGraphModel") (T := T_r) (N := 10) hx hb htc in_r hown hK hP 0 rfl rfl 9 (by decide) (htc _ k_2_82) (fun _ h9 => h9) rfl d_r_forked_56 ?_
  refine lv_bipush (v := (nI 8)) hx hb d_r_forked_59 (by decide) ?_
  refine lv_iload_n hx hb d_r_forked_61 rfl (lv_at hl 1 rfl) ?_
  refine nr_imul hx hb d_r_forked_62 ?_
  refine lv_iload_n hx hb d_r_forked_63 rfl (lv_at hl 2 rfl) ?_
  refine nr_iadd hx hb d_r_forked_64 ?_
  refine nr_zald hx hb hK hP 7 2 rfl rfl (by omega) (by decide) (v := (bI (fk x v))) (hf x (by omega) v (by omega)) d_r_forked_65 ?_
  refine nr_ifeq_b (tgt := 73) hx hb d_r_forked_66 (by decide) (fun c_66 => ?_) (fun c_66 => ?_)
  · refine lv_iconst (v := (nI 0)) hx hb d_r_forked_73 (by decide) ?_
    refine nr_top (w := .int (bI false)) rfl ?_
    exact WI.zret hx hb hr hlocks hK hS d_r_forked_74 () (by rw [c_66]) hP hD
  · refine lv_iconst (v := (nI 1)) hx hb d_r_forked_69 (by decide) ?_
    refine lv_goto (tgt := 74) hx hb d_r_forked_70 (by decide) ?_
    refine nr_top (w := .int (bI true)) rfl ?_
    exact WI.zret hx hb hr hlocks hK hS d_r_forked_74 () (by rw [c_66]) hP hD
set_option maxHeartbeats 4000000 in
set_option maxRecDepth 100000 in
theorem c_r_forked_x1 (l : Launch) (D : va_G) (cI cJ cZ : ClassId) (ad : Nat → Nat) (er : Int32) (n ev : Nat) (r : RA) (hev : ev ≤ 120) (hn : n ≤ 8) (x v : Int32) (hv1 : iv n v = false) : WI (S := Unit) l D (tys cI cJ cZ) (rL cI cZ ad er n ev r) (fun _ => rL cI cZ ad (nI 1) n ev r) (fun _ _ => True) y_r_forked b_r_forked 3 (some .boolean) 2 50 [.ref (ad 0), .int x, .int v] := by
  refine WI.of (by decide) (Nat.le_of_ble_eq_true rfl) ?_
  intro p9 e9 s9 m args below meth c9 ls A S hr hlocks hA hP hK hD hl
  obtain ⟨hx, hb, hml, hown, htc⟩ := id S
  have hS : va_S A s9.heap s9.heap [] := va_S.rf
  have hl : lv_has ls 3 [(0, .ref (ad 0)), (1, .int x), (2, .int v)] := hl
  refine lv_aload_n hx hb d_r_forked_0 rfl (lv_at hl 0 rfl) ?_
  refine lv_iconst (v := (nI 0)) hx hb d_r_forked_1 (by decide) ?_
  refine va_put (D := D) (ci := 1) (v := .int (nI 0)) (ty := .int) (C := "SightGraphModel") (T := T_r) (N := 10) hx hb htc in_r t_r ft_r fn_r hown hK hP hD hS 0 rfl rfl 0 (by decide) (htc _ k_2_73) (fun _ h9 => h9) rfl (by decide +kernel) rfl rfl (Nat.le_of_ble_eq_true rfl) d_r_forked_2 (fun H locs hP hD hS => ?_)
  have hP : va_P D cls (rL cI cZ ad (nI 0) n ev r) H := hP
  have hD : va_D A (rL cI cZ ad (nI 0) n ev r) := hD
  refine lv_aload_n hx hb d_r_forked_5 rfl (lv_at hl 0 rfl) ?_
  refine lv_iload_n hx hb d_r_forked_6 rfl (lv_at hl 2 rfl) ?_
  refine lv_i2l hx hb d_r_forked_7 rfl ?_
  refine lv_lconst (v := 0) hx hb d_r_forked_8 (by decide) ?_
  refine lv_aload_n hx hb d_r_forked_9 rfl (lv_at hl 0 rfl) ?_
  refine va_get (D := D) (ci := 1) (v := .int (nI n)) (C := "SightGraphModel") (T := T_r) (N := 10) hx hb htc in_r hown hK hP 0 rfl rfl 1 (by decide) (htc _ k_2_74) (fun _ h9 => h9) rfl d_r_forked_10 ?_
  refine lv_iconst (v := (nI 1)) hx hb d_r_forked_13 (by decide) ?_
  refine lv_isub hx hb d_r_forked_14 ?_
  refine lv_i2l hx hb d_r_forked_15 rfl ?_
  refine PM.callS (rest := [.ref (ad 0)]) S (c_r_in l D cI cJ cZ ad (nI 0) n ev r (v.toInt64) (0) ((nI n - nI 1).toInt64)) k_2_115 k_2_116 k_1_2 k_2_117 h_r_in ⟨Nat.le_of_ble_eq_true rfl, Nat.le_of_ble_eq_true rfl⟩ ⟨Nat.le_of_ble_eq_true rfl, Nat.le_of_ble_eq_true rfl⟩ hP hK hl.1 (Nat.le_of_ble_eq_true rfl) rfl d_r_forked_16 ?_
  refine nr_ifne_b (tgt := 26) hx hb d_r_forked_19 (by decide) (fun q9 => absurd (show (decide ((0 : Int64) ≤ v.toInt64 ∧ v.toInt64 ≤ (nI n - nI 1).toInt64)) = false from by rw [iv_l (by omega)]; exact hv1) (by rw [q9]; decide)) (fun q9 => ?_)
  refine lv_iconst (v := (nI 1)) hx hb d_r_forked_22 (by decide) ?_
  refine lv_goto (tgt := 27) hx hb d_r_forked_23 (by decide) ?_
  refine nr_top (w := .int (bI true)) rfl ?_
  refine lv_iconst (v := (nI 1)) hx hb d_r_forked_27 (by decide) ?_
  refine WI.callV (wr := []) (rest := []) S (c_r_fails l D cI cJ cZ ad n ev r true 1 (by decide) (by decide)) k_2_118 k_2_120 k_s_20 k_1_2 k_2_121 h_r_fails ⟨Nat.le_of_ble_eq_true rfl, Nat.le_of_ble_eq_true rfl⟩ ⟨Nat.le_of_ble_eq_true rfl, Nat.le_of_ble_eq_true rfl⟩ hP hK hD hS hA [0, 1, 2, 3, 4, 5, 6, 7] [] rfl rfl (by decide) (by decide) (by decide) 0 1 rfl rfl rfl hl.1 (Nat.le_of_ble_eq_true rfl) rfl d_r_forked_28 (fun v9 u9 H locs hv9 hP hD hS => ?_)
  obtain rfl := hv9
  have hP : va_P D cls (rL cI cZ ad (nI 1) n ev r) H := hP
  have hD : va_D A (rL cI cZ ad (nI 1) n ev r) := hD
  refine nr_ifne_b (tgt := 73) hx hb d_r_forked_31 (by decide) (fun q9 => ?_) (fun q9 => nomatch q9)
  refine lv_iconst (v := (nI 0)) hx hb d_r_forked_73 (by decide) ?_
  refine nr_top (w := .int (bI false)) rfl ?_
  exact WI.zret hx hb hr hlocks hK hS d_r_forked_74 () trivial hP hD
set_option maxHeartbeats 4000000 in
set_option maxRecDepth 100000 in
theorem c_r_forked_x2 (l : Launch) (D : va_G) (cI cJ cZ : ClassId) (ad : Nat → Nat) (er : Int32) (n ev : Nat) (r : RA) (hev : ev ≤ 120) (hn : n ≤ 8) (x : Int32) (v : Nat) (hv : v < n) (hx1 : iv ev x = false) : WI (S := Unit) l D (tys cI cJ cZ) (rL cI cZ ad er n ev r) (fun _ => rL cI cZ ad (nI 2) n ev r) (fun _ _ => True) y_r_forked b_r_forked 3 (some .boolean) 2 50 [.ref (ad 0), .int x, .int (nI v)] := by
  refine WI.of (by decide) (Nat.le_of_ble_eq_true rfl) ?_
  intro p9 e9 s9 m args below meth c9 ls A S hr hlocks hA hP hK hD hl
  obtain ⟨hx, hb, hml, hown, htc⟩ := id S
  have hS : va_S A s9.heap s9.heap [] := va_S.rf
  have hl : lv_has ls 3 [(0, .ref (ad 0)), (1, .int x), (2, .int (nI v))] := hl
  refine lv_aload_n hx hb d_r_forked_0 rfl (lv_at hl 0 rfl) ?_
  refine lv_iconst (v := (nI 0)) hx hb d_r_forked_1 (by decide) ?_
  refine va_put (D := D) (ci := 1) (v := .int (nI 0)) (ty := .int) (C := "SightGraphModel") (T := T_r) (N := 10) hx hb htc in_r t_r ft_r fn_r hown hK hP hD hS 0 rfl rfl 0 (by decide) (htc _ k_2_73) (fun _ h9 => h9) rfl (by decide +kernel) rfl rfl (Nat.le_of_ble_eq_true rfl) d_r_forked_2 (fun H locs hP hD hS => ?_)
  have hP : va_P D cls (rL cI cZ ad (nI 0) n ev r) H := hP
  have hD : va_D A (rL cI cZ ad (nI 0) n ev r) := hD
  refine lv_aload_n hx hb d_r_forked_5 rfl (lv_at hl 0 rfl) ?_
  refine lv_iload_n hx hb d_r_forked_6 rfl (lv_at hl 2 rfl) ?_
  refine lv_i2l hx hb d_r_forked_7 rfl ?_
  refine lv_lconst (v := 0) hx hb d_r_forked_8 (by decide) ?_
  refine lv_aload_n hx hb d_r_forked_9 rfl (lv_at hl 0 rfl) ?_
  refine va_get (D := D) (ci := 1) (v := .int (nI n)) (C := "SightGraphModel") (T := T_r) (N := 10) hx hb htc in_r hown hK hP 0 rfl rfl 1 (by decide) (htc _ k_2_74) (fun _ h9 => h9) rfl d_r_forked_10 ?_
  refine lv_iconst (v := (nI 1)) hx hb d_r_forked_13 (by decide) ?_
  refine lv_isub hx hb d_r_forked_14 ?_
  refine lv_i2l hx hb d_r_forked_15 rfl ?_
  refine PM.callS (rest := [.ref (ad 0)]) S (c_r_in l D cI cJ cZ ad (nI 0) n ev r ((nI v).toInt64) (0) ((nI n - nI 1).toInt64)) k_2_115 k_2_116 k_1_2 k_2_117 h_r_in ⟨Nat.le_of_ble_eq_true rfl, Nat.le_of_ble_eq_true rfl⟩ ⟨Nat.le_of_ble_eq_true rfl, Nat.le_of_ble_eq_true rfl⟩ hP hK hl.1 (Nat.le_of_ble_eq_true rfl) rfl d_r_forked_16 ?_
  refine nr_ifne_b (tgt := 26) hx hb d_r_forked_19 (by decide) (fun q9 => ?_) (fun q9 => absurd (show (decide ((0 : Int64) ≤ (nI v).toInt64 ∧ (nI v).toInt64 ≤ (nI n - nI 1).toInt64)) = true from by rw [iv_l (by omega)]; exact iv_t hv (by omega)) (by rw [q9]; decide))
  refine lv_iconst (v := (nI 0)) hx hb d_r_forked_26 (by decide) ?_
  refine nr_top (w := .int (bI false)) rfl ?_
  refine lv_iconst (v := (nI 1)) hx hb d_r_forked_27 (by decide) ?_
  refine WI.callV (wr := []) (rest := []) S (c_r_fails l D cI cJ cZ ad n ev r false 1 (by decide) (by decide)) k_2_118 k_2_120 k_s_20 k_1_2 k_2_121 h_r_fails ⟨Nat.le_of_ble_eq_true rfl, Nat.le_of_ble_eq_true rfl⟩ ⟨Nat.le_of_ble_eq_true rfl, Nat.le_of_ble_eq_true rfl⟩ hP hK hD hS hA [0, 1, 2, 3, 4, 5, 6, 7] [] rfl rfl (by decide) (by decide) (by decide) 0 1 rfl rfl rfl hl.1 (Nat.le_of_ble_eq_true rfl) rfl d_r_forked_28 (fun v9 u9 H locs hv9 hP hD hS => ?_)
  obtain rfl := hv9
  have hP : va_P D cls (rL cI cZ ad 0 n ev r) H := hP
  have hD : va_D A (rL cI cZ ad 0 n ev r) := hD
  refine nr_ifne_b (tgt := 73) hx hb d_r_forked_31 (by decide) (fun q9 => nomatch q9) (fun q9 => ?_)
  refine lv_aload_n hx hb d_r_forked_34 rfl (lv_at hl 0 rfl) ?_
  refine lv_aload_n hx hb d_r_forked_35 rfl (lv_at hl 0 rfl) ?_
  refine lv_iload_n hx hb d_r_forked_36 rfl (lv_at hl 1 rfl) ?_
  refine PM.callV (rest := [.ref (ad 0)]) S (c_r_isEvent l D cI cJ cZ ad 0 n ev r (by omega) (x)) k_2_126 k_2_128 k_s_21 k_1_2 k_2_129 h_r_isEvent ⟨Nat.le_of_ble_eq_true rfl, Nat.le_of_ble_eq_true rfl⟩ ⟨Nat.le_of_ble_eq_true rfl, Nat.le_of_ble_eq_true rfl⟩ hP hK 0 1 rfl rfl rfl hl.1 (Nat.le_of_ble_eq_true rfl) rfl d_r_forked_37 ?_
  refine nr_ifne_b (tgt := 47) hx hb d_r_forked_40 (by decide) (fun q9 => absurd (show (iv ev (x)) = false from hx1) (by rw [q9]; decide)) (fun q9 => ?_)
  refine lv_iconst (v := (nI 1)) hx hb d_r_forked_43 (by decide) ?_
  refine lv_goto (tgt := 48) hx hb d_r_forked_44 (by decide) ?_
  refine nr_top (w := .int (bI true)) rfl ?_
  refine lv_iconst (v := (nI 2)) hx hb d_r_forked_48 (by decide) ?_
  refine WI.callV (wr := []) (rest := []) S (c_r_fails l D cI cJ cZ ad n ev r true 2 (by decide) (by decide)) k_2_118 k_2_120 k_s_20 k_1_2 k_2_121 h_r_fails ⟨Nat.le_of_ble_eq_true rfl, Nat.le_of_ble_eq_true rfl⟩ ⟨Nat.le_of_ble_eq_true rfl, Nat.le_of_ble_eq_true rfl⟩ hP hK hD hS hA [0, 1, 2, 3, 4, 5, 6, 7] [] rfl rfl (by decide) (by decide) (by decide) 0 1 rfl rfl rfl hl.1 (Nat.le_of_ble_eq_true rfl) rfl d_r_forked_49 (fun v9 u9 H locs hv9 hP hD hS => ?_)
  obtain rfl := hv9
  have hP : va_P D cls (rL cI cZ ad (nI 2) n ev r) H := hP
  have hD : va_D A (rL cI cZ ad (nI 2) n ev r) := hD
  refine nr_ifne_b (tgt := 73) hx hb d_r_forked_52 (by decide) (fun q9 => ?_) (fun q9 => nomatch q9)
  refine lv_iconst (v := (nI 0)) hx hb d_r_forked_73 (by decide) ?_
  refine nr_top (w := .int (bI false)) rfl ?_
  exact WI.zret hx hb hr hlocks hK hS d_r_forked_74 () trivial hP hD
set_option maxHeartbeats 4000000 in
set_option maxRecDepth 100000 in
theorem c_r_count_0 (l : Launch) (D : va_G) (cI cJ cZ : ClassId) (ad : Nat → Nat) (er : Int32) (n ev : Nat) (r : RA)  : WI (S := Unit) l D (tys cI cJ cZ) (rL cI cZ ad er n ev r) (fun _ => rL cI cZ ad 0 n ev r) (fun q _ => q = nI ev) y_r_count b_r_count 7 (some .int) 1 25 [.ref (ad 0), .int (nI 0)] := by
  refine WI.of (by decide) (Nat.le_of_ble_eq_true rfl) ?_
  intro p9 e9 s9 m args below meth c9 ls A S hr hlocks hA hP hK hD hl
  obtain ⟨hx, hb, hml, hown, htc⟩ := id S
  have hS : va_S A s9.heap s9.heap [] := va_S.rf
  have hl : lv_has ls 7 [(0, .ref (ad 0)), (1, .int (nI 0))] := hl
  refine lv_aload_n hx hb d_r_count_0 rfl (lv_at hl 0 rfl) ?_
  refine lv_iconst (v := (nI 0)) hx hb d_r_count_1 (by decide) ?_
  refine va_put (D := D) (ci := 1) (v := .int (nI 0)) (ty := .int) (C := "SightGraphModel") (T := T_r) (N := 10) hx hb htc in_r t_r ft_r fn_r hown hK hP hD hS 0 rfl rfl 0 (by decide) (htc _ k_2_73) (fun _ h9 => h9) rfl (by decide +kernel) rfl rfl (Nat.le_of_ble_eq_true rfl) d_r_count_2 (fun H locs hP hD hS => ?_)
  have hP : va_P D cls (rL cI cZ ad (nI 0) n ev r) H := hP
  have hD : va_D A (rL cI cZ ad (nI 0) n ev r) := hD
  refine lv_aload_n hx hb d_r_count_5 rfl (lv_at hl 0 rfl) ?_
  refine lv_iload_n hx hb d_r_count_6 rfl (lv_at hl 1 rfl) ?_
  refine lv_i2l hx hb d_r_count_7 rfl ?_
  refine lv_lconst (v := 0) hx hb d_r_count_8 (by decide) ?_
  refine lv_ldc2 hx hb hown (htc _ k_2_199) d_r_count_9 ?_
  refine PM.callS (rest := [.ref (ad 0)]) S (c_r_in l D cI cJ cZ ad (nI 0) n ev r ((nI 0).toInt64) (0) (3)) k_2_115 k_2_116 k_1_2 k_2_117 h_r_in ⟨Nat.le_of_ble_eq_true rfl, Nat.le_of_ble_eq_true rfl⟩ ⟨Nat.le_of_ble_eq_true rfl, Nat.le_of_ble_eq_true rfl⟩ hP hK hl.1 (Nat.le_of_ble_eq_true rfl) rfl d_r_count_12 ?_
  refine nr_ifne_b (tgt := 22) hx hb d_r_count_15 (by decide) (fun q9 => ?_) (fun q9 => absurd (show (decide ((0 : Int64) ≤ (nI 0).toInt64 ∧ (nI 0).toInt64 ≤ 3)) = true from by rw [in03]; decide) (by rw [q9]; decide))
  refine lv_iconst (v := (nI 0)) hx hb d_r_count_22 (by decide) ?_
  refine nr_top (w := .int (bI false)) rfl ?_
  refine lv_iconst (v := (nI 1)) hx hb d_r_count_23 (by decide) ?_
  refine WI.callV (wr := []) (rest := []) S (c_r_fails l D cI cJ cZ ad n ev r false 1 (by decide) (by decide)) k_2_118 k_2_120 k_s_20 k_1_2 k_2_121 h_r_fails ⟨Nat.le_of_ble_eq_true rfl, Nat.le_of_ble_eq_true rfl⟩ ⟨Nat.le_of_ble_eq_true rfl, Nat.le_of_ble_eq_true rfl⟩ hP hK hD hS hA [0, 1, 2, 3, 4, 5, 6, 7] [] rfl rfl (by decide) (by decide) (by decide) 0 1 rfl rfl rfl hl.1 (Nat.le_of_ble_eq_true rfl) rfl d_r_count_24 (fun v9 u9 H locs hv9 hP hD hS => ?_)
  obtain rfl := hv9
  have hP : va_P D cls (rL cI cZ ad 0 n ev r) H := hP
  have hD : va_D A (rL cI cZ ad 0 n ev r) := hD
  refine nr_ifeq_b (tgt := 32) hx hb d_r_count_27 (by decide) (fun q9 => ?_) (fun q9 => nomatch q9)
  refine lv_iload_n hx hb d_r_count_32 rfl (lv_at hl 1 rfl) ?_
  refine lv_iconst (v := (nI 2)) hx hb d_r_count_33 (by decide) ?_
  refine nr_icmp_ge (tgt := 53) hx hb (by decide) (by decide) d_r_count_34 (by decide) (fun q9 => absurd q9 (by decide)) (fun q9 => ?_)
  refine lv_iload_n hx hb d_r_count_37 rfl (lv_at hl 1 rfl) ?_
  refine lv_if_ne (tgt := 48) hx hb d_r_count_38 (by decide) (fun q9 => absurd rfl q9) (fun _ => ?_)
  refine lv_aload_n hx hb d_r_count_41 rfl (lv_at hl 0 rfl) ?_
  refine va_get (D := D) (ci := 1) (v := .int (nI ev)) (C := "SightGraphModel") (T := T_r) (N := 10) hx hb htc in_r hown hK hP 0 rfl rfl 2 (by decide) (htc _ k_2_75) (fun _ h9 => h9) rfl d_r_count_42 ?_
  refine lv_goto (tgt := 52) hx hb d_r_count_45 (by decide) ?_
  exact WI.iret hx hb hr hlocks hK hS d_r_count_52 () rfl hP hD
set_option maxHeartbeats 4000000 in
set_option maxRecDepth 100000 in
theorem c_r_count_1 (l : Launch) (D : va_G) (cI cJ cZ : ClassId) (ad : Nat → Nat) (er : Int32) (n ev : Nat) (r : RA)  : WI (S := Unit) l D (tys cI cJ cZ) (rL cI cZ ad er n ev r) (fun _ => rL cI cZ ad 0 n ev r) (fun q _ => q = nI n) y_r_count b_r_count 7 (some .int) 1 25 [.ref (ad 0), .int (nI 1)] := by
  refine WI.of (by decide) (Nat.le_of_ble_eq_true rfl) ?_
  intro p9 e9 s9 m args below meth c9 ls A S hr hlocks hA hP hK hD hl
  obtain ⟨hx, hb, hml, hown, htc⟩ := id S
  have hS : va_S A s9.heap s9.heap [] := va_S.rf
  have hl : lv_has ls 7 [(0, .ref (ad 0)), (1, .int (nI 1))] := hl
  refine lv_aload_n hx hb d_r_count_0 rfl (lv_at hl 0 rfl) ?_
  refine lv_iconst (v := (nI 0)) hx hb d_r_count_1 (by decide) ?_
  refine va_put (D := D) (ci := 1) (v := .int (nI 0)) (ty := .int) (C := "SightGraphModel") (T := T_r) (N := 10) hx hb htc in_r t_r ft_r fn_r hown hK hP hD hS 0 rfl rfl 0 (by decide) (htc _ k_2_73) (fun _ h9 => h9) rfl (by decide +kernel) rfl rfl (Nat.le_of_ble_eq_true rfl) d_r_count_2 (fun H locs hP hD hS => ?_)
  have hP : va_P D cls (rL cI cZ ad (nI 0) n ev r) H := hP
  have hD : va_D A (rL cI cZ ad (nI 0) n ev r) := hD
  refine lv_aload_n hx hb d_r_count_5 rfl (lv_at hl 0 rfl) ?_
  refine lv_iload_n hx hb d_r_count_6 rfl (lv_at hl 1 rfl) ?_
  refine lv_i2l hx hb d_r_count_7 rfl ?_
  refine lv_lconst (v := 0) hx hb d_r_count_8 (by decide) ?_
  refine lv_ldc2 hx hb hown (htc _ k_2_199) d_r_count_9 ?_
  refine PM.callS (rest := [.ref (ad 0)]) S (c_r_in l D cI cJ cZ ad (nI 0) n ev r ((nI 1).toInt64) (0) (3)) k_2_115 k_2_116 k_1_2 k_2_117 h_r_in ⟨Nat.le_of_ble_eq_true rfl, Nat.le_of_ble_eq_true rfl⟩ ⟨Nat.le_of_ble_eq_true rfl, Nat.le_of_ble_eq_true rfl⟩ hP hK hl.1 (Nat.le_of_ble_eq_true rfl) rfl d_r_count_12 ?_
  refine nr_ifne_b (tgt := 22) hx hb d_r_count_15 (by decide) (fun q9 => ?_) (fun q9 => absurd (show (decide ((0 : Int64) ≤ (nI 1).toInt64 ∧ (nI 1).toInt64 ≤ 3)) = true from by rw [in03]; decide) (by rw [q9]; decide))
  refine lv_iconst (v := (nI 0)) hx hb d_r_count_22 (by decide) ?_
  refine nr_top (w := .int (bI false)) rfl ?_
  refine lv_iconst (v := (nI 1)) hx hb d_r_count_23 (by decide) ?_
  refine WI.callV (wr := []) (rest := []) S (c_r_fails l D cI cJ cZ ad n ev r false 1 (by decide) (by decide)) k_2_118 k_2_120 k_s_20 k_1_2 k_2_121 h_r_fails ⟨Nat.le_of_ble_eq_true rfl, Nat.le_of_ble_eq_true rfl⟩ ⟨Nat.le_of_ble_eq_true rfl, Nat.le_of_ble_eq_true rfl⟩ hP hK hD hS hA [0, 1, 2, 3, 4, 5, 6, 7] [] rfl rfl (by decide) (by decide) (by decide) 0 1 rfl rfl rfl hl.1 (Nat.le_of_ble_eq_true rfl) rfl d_r_count_24 (fun v9 u9 H locs hv9 hP hD hS => ?_)
  obtain rfl := hv9
  have hP : va_P D cls (rL cI cZ ad 0 n ev r) H := hP
  have hD : va_D A (rL cI cZ ad 0 n ev r) := hD
  refine nr_ifeq_b (tgt := 32) hx hb d_r_count_27 (by decide) (fun q9 => ?_) (fun q9 => nomatch q9)
  refine lv_iload_n hx hb d_r_count_32 rfl (lv_at hl 1 rfl) ?_
  refine lv_iconst (v := (nI 2)) hx hb d_r_count_33 (by decide) ?_
  refine nr_icmp_ge (tgt := 53) hx hb (by decide) (by decide) d_r_count_34 (by decide) (fun q9 => absurd q9 (by decide)) (fun q9 => ?_)
  refine lv_iload_n hx hb d_r_count_37 rfl (lv_at hl 1 rfl) ?_
  refine lv_if_ne (tgt := 48) hx hb d_r_count_38 (by decide) (fun _ => ?_) (fun q9 => absurd q9 (by decide))
  refine lv_aload_n hx hb d_r_count_48 rfl (lv_at hl 0 rfl) ?_
  refine va_get (D := D) (ci := 1) (v := .int (nI n)) (C := "SightGraphModel") (T := T_r) (N := 10) hx hb htc in_r hown hK hP 0 rfl rfl 1 (by decide) (htc _ k_2_74) (fun _ h9 => h9) rfl d_r_count_49 ?_
  exact WI.iret hx hb hr hlocks hK hS d_r_count_52 () rfl hP hD
set_option maxHeartbeats 4000000 in
set_option maxRecDepth 100000 in
theorem c_r_count_3 (l : Launch) (D : va_G) (cI cJ cZ : ClassId) (ad : Nat → Nat) (er : Int32) (n ev : Nat) (r : RA) (rd : Nat → Nat) (KR : Nat) (hKR : KR ≤ 120) (hR : ∀ j, j < KR → r.2.2.2.1 j = nI (rd j) ∧ rd j ≤ j + 1) (hevR : ev ≤ KR) : WI (S := Unit) l D (tys cI cJ cZ) (rL cI cZ ad er n ev r) (fun _ => rL cI cZ ad 0 n ev r) (fun q _ => q = nI (gr rd ev)) y_r_count b_r_count 7 (some .int) 1 25 [.ref (ad 0), .int (nI 3)] := by
  refine WI.of (by decide) (Nat.le_of_ble_eq_true rfl) ?_
  intro p9 e9 s9 m args below meth c9 ls A S hr hlocks hA hP hK hD hl
  obtain ⟨hx, hb, hml, hown, htc⟩ := id S
  have hS : va_S A s9.heap s9.heap [] := va_S.rf
  have hl : lv_has ls 7 [(0, .ref (ad 0)), (1, .int (nI 3))] := hl
  refine lv_aload_n hx hb d_r_count_0 rfl (lv_at hl 0 rfl) ?_
  refine lv_iconst (v := (nI 0)) hx hb d_r_count_1 (by decide) ?_
  refine va_put (D := D) (ci := 1) (v := .int (nI 0)) (ty := .int) (C := "SightGraphModel") (T := T_r) (N := 10) hx hb htc in_r t_r ft_r fn_r hown hK hP hD hS 0 rfl rfl 0 (by decide) (htc _ k_2_73) (fun _ h9 => h9) rfl (by decide +kernel) rfl rfl (Nat.le_of_ble_eq_true rfl) d_r_count_2 (fun H locs hP hD hS => ?_)
  have hP : va_P D cls (rL cI cZ ad (nI 0) n ev r) H := hP
  have hD : va_D A (rL cI cZ ad (nI 0) n ev r) := hD
  refine lv_aload_n hx hb d_r_count_5 rfl (lv_at hl 0 rfl) ?_
  refine lv_iload_n hx hb d_r_count_6 rfl (lv_at hl 1 rfl) ?_
  refine lv_i2l hx hb d_r_count_7 rfl ?_
  refine lv_lconst (v := 0) hx hb d_r_count_8 (by decide) ?_
  refine lv_ldc2 hx hb hown (htc _ k_2_199) d_r_count_9 ?_
  refine PM.callS (rest := [.ref (ad 0)]) S (c_r_in l D cI cJ cZ ad (nI 0) n ev r ((nI 3).toInt64) (0) (3)) k_2_115 k_2_116 k_1_2 k_2_117 h_r_in ⟨Nat.le_of_ble_eq_true rfl, Nat.le_of_ble_eq_true rfl⟩ ⟨Nat.le_of_ble_eq_true rfl, Nat.le_of_ble_eq_true rfl⟩ hP hK hl.1 (Nat.le_of_ble_eq_true rfl) rfl d_r_count_12 ?_
  refine nr_ifne_b (tgt := 22) hx hb d_r_count_15 (by decide) (fun q9 => ?_) (fun q9 => absurd (show (decide ((0 : Int64) ≤ (nI 3).toInt64 ∧ (nI 3).toInt64 ≤ 3)) = true from by rw [in03]; decide) (by rw [q9]; decide))
  refine lv_iconst (v := (nI 0)) hx hb d_r_count_22 (by decide) ?_
  refine nr_top (w := .int (bI false)) rfl ?_
  refine lv_iconst (v := (nI 1)) hx hb d_r_count_23 (by decide) ?_
  refine WI.callV (wr := []) (rest := []) S (c_r_fails l D cI cJ cZ ad n ev r false 1 (by decide) (by decide)) k_2_118 k_2_120 k_s_20 k_1_2 k_2_121 h_r_fails ⟨Nat.le_of_ble_eq_true rfl, Nat.le_of_ble_eq_true rfl⟩ ⟨Nat.le_of_ble_eq_true rfl, Nat.le_of_ble_eq_true rfl⟩ hP hK hD hS hA [0, 1, 2, 3, 4, 5, 6, 7] [] rfl rfl (by decide) (by decide) (by decide) 0 1 rfl rfl rfl hl.1 (Nat.le_of_ble_eq_true rfl) rfl d_r_count_24 (fun v9 u9 H locs hv9 hP hD hS => ?_)
  obtain rfl := hv9
  have hP : va_P D cls (rL cI cZ ad 0 n ev r) H := hP
  have hD : va_D A (rL cI cZ ad 0 n ev r) := hD
  refine nr_ifeq_b (tgt := 32) hx hb d_r_count_27 (by decide) (fun q9 => ?_) (fun q9 => nomatch q9)
  refine lv_iload_n hx hb d_r_count_32 rfl (lv_at hl 1 rfl) ?_
  refine lv_iconst (v := (nI 2)) hx hb d_r_count_33 (by decide) ?_
  refine nr_icmp_ge (tgt := 53) hx hb (by decide) (by decide) d_r_count_34 (by decide) (fun q9 => ?_) (fun q9 => absurd q9 (by decide))
  refine lv_iconst (v := (nI 0)) hx hb d_r_count_53 (by decide) ?_
  refine lv_istore_n (lv' := [(2, .int (nI 0)), (0, .ref (ad 0)), (1, .int (nI 3))]) hx hb d_r_count_54 rfl hl (by decide) rfl (fun ls hl => ?_)
  refine lv_iload_n hx hb d_r_count_55 rfl (lv_at hl 2 rfl) ?_
  refine lv_iconst (v := (nI 3)) hx hb d_r_count_56 (by decide) ?_
  refine nr_icmp_ne (tgt := 89) hx hb (by decide) (by decide) d_r_count_57 (by decide) (fun q9 => absurd q9 (by decide)) (fun q9 => ?_)
  refine lv_iconst (v := (nI 0)) hx hb d_r_count_60 (by decide) ?_
  refine lv_istore_n (lv' := [(3, .int (nI 0)), (2, .int (nI 0)), (0, .ref (ad 0)), (1, .int (nI 3))]) hx hb d_r_count_61 rfl hl (by decide) rfl (fun ls hl => ?_)
  have loop1 : ∀ (d1 : Nat) (k : Nat) (ls : Array Slot), ev - k < d1 → k ≤ ev → lv_has ls 7 [(3, .int (nI k)), (2, .int (nI (gr rd k))), (1, .int (nI 3)), (0, .ref (ad 0))] → W p9 l e9 ({ frames := 1, cells := 0, slots := 0, locals := 25 }) s9 m args below meth c9 H locs 0 0 (MQ below (va_Qi (S := Unit) (fun q _ => q = nI (gr rd ev)) (wB D (tys cI cJ cZ) (fun _ => rL cI cZ ad 0 n ev r) A) A) args s9 0 0 A) (F0 m 62 ls []) := by
    intro d1
    induction d1 with
    | zero =>
      intro k ls hd1 hk hl
      exact absurd hd1 (by omega)
    | succ d1 ih1 =>
      intro k ls hd1 hk hl
      refine lv_iload_n hx hb d_r_count_62 rfl (lv_at hl 0 rfl) ?_
      refine lv_aload_n hx hb d_r_count_63 rfl (lv_at hl 3 rfl) ?_
      refine va_get (D := D) (ci := 1) (v := .int (nI ev)) (C := "SightGraphModel") (T := T_r) (N := 10) hx hb htc in_r hown hK hP 0 rfl rfl 2 (by decide) (htc _ k_2_75) (fun _ h9 => h9) rfl d_r_count_64 ?_
      refine nr_icmp_ge (tgt := 87) hx hb (by omega) (by omega) d_r_count_67 (by decide) (fun c_67 => ?_) (fun c_67 => ?_)
      · refine lv_iload_n hx hb d_r_count_87 rfl (lv_at hl 1 rfl) ?_
        exact WI.iret hx hb hr hlocks hK hS d_r_count_88 () (by rw [show k = ev by omega]) hP hD
      · have hb9 := (hR k (by omega)).2
        have hb8 : gr rd k ≤ 121 := gr_le (fun j hj => by have := (hR j (by omega)).2; omega)
        refine lv_iload_n hx hb d_r_count_70 rfl (lv_at hl 1 rfl) ?_
        refine lv_aload_n hx hb d_r_count_71 rfl (lv_at hl 3 rfl) ?_
        refine va_get (D := D) (ci := 1) (v := .ref (ad 4)) (C := "SightGraphModel") (T := T_r) (N := 10) hx hb htc in_r hown hK hP 0 rfl rfl 6 (by decide) (htc _ k_2_79) (fun _ h9 => h9) rfl d_r_count_72 ?_
        refine lv_iload_n hx hb d_r_count_75 rfl (lv_at hl 0 rfl) ?_
        refine nr_iald hx hb hK hP 4 0 rfl rfl (by omega) (by decide) (v := (nI (rd k))) (hR k (by omega)).1 d_r_count_76 ?_
        refine va_mmax hx hb (hml.trans hl.1.symm) hown (htc _ k_2_146) (htc _ k_1_191) (htc _ k_1_8) (htc _ k_1_192) (Nat.le_of_ble_eq_true rfl) (Nat.le_of_ble_eq_true rfl) (Nat.le_of_ble_eq_true rfl) (Nat.le_of_ble_eq_true rfl) d_r_count_77 ?_
        refine nr_top (w := .int (nI (max (gr rd k) (rd k)))) (congrArg Value.int (mx_I (by omega) (by omega))) ?_
        refine lv_istore_n (lv' := [(2, .int (nI (max (gr rd k) (rd k)))), (3, .int (nI k)), (1, .int (nI 3)), (0, .ref (ad 0))]) hx hb d_r_count_80 rfl hl (by decide) rfl (fun ls hl => ?_)
        refine lv_iinc (v := (nI (k + 1))) (lv' := [(3, .int (nI (k + 1))), (2, .int (nI (max (gr rd k) (rd k)))), (1, .int (nI 3)), (0, .ref (ad 0))]) hx hb d_r_count_81 hl (k := 1) rfl (nI_add k 1) (by decide) rfl (fun ls hl => ?_)
        refine lv_goto (tgt := 62) hx hb d_r_count_84 (by decide) ?_
        exact ih1 (k + 1) ls (by omega) (by omega) (lv_sub hl [0, 1, 2, 3] rfl)
  exact loop1 (ev + 1) 0 ls (by omega) (by omega) (lv_sub hl [0, 1, 3, 2] rfl)
set_option maxHeartbeats 4000000 in
set_option maxRecDepth 100000 in
theorem c_r_count_2 (l : Launch) (D : va_G) (cI cJ cZ : ClassId) (ad : Nat → Nat) (er : Int32) (n ev : Nat) (r : RA) (K : Nat) (hKb : K ≤ 120) (c : Nat → Nat) (hc : ∀ j, j < K → r.1 j = nI (c j)) (s : Nat → Nat) (hs : ∀ j, j < K → r.2.1 j = mI (s j)) (ow : Nat → Nat → Bool) (hLw : ∀ x, x < K → s x ≤ x ∧ ∀ y, ow x y = (x == y || pa ow (s x) y)) (hc8 : ∀ j, j < K → c j < 8) (hevK : ev ≤ K) (hn : n ≤ 8) : WI (S := Unit) l D (tys cI cJ cZ) (rL cI cZ ad er n ev r) (fun _ => rL cI cZ ad 0 n ev r) (fun q _ => q = nI (cn n (fm ow c ev))) y_r_count b_r_count 7 (some .int) 2 50 [.ref (ad 0), .int (nI 2)] := by
  refine WI.of (by decide) (Nat.le_of_ble_eq_true rfl) ?_
  intro p9 e9 s9 m args below meth c9 ls A S hr hlocks hA hP hK hD hl
  obtain ⟨hx, hb, hml, hown, htc⟩ := id S
  have hS : va_S A s9.heap s9.heap [] := va_S.rf
  have hl : lv_has ls 7 [(0, .ref (ad 0)), (1, .int (nI 2))] := hl
  refine lv_aload_n hx hb d_r_count_0 rfl (lv_at hl 0 rfl) ?_
  refine lv_iconst (v := (nI 0)) hx hb d_r_count_1 (by decide) ?_
  refine va_put (D := D) (ci := 1) (v := .int (nI 0)) (ty := .int) (C := "SightGraphModel") (T := T_r) (N := 10) hx hb htc in_r t_r ft_r fn_r hown hK hP hD hS 0 rfl rfl 0 (by decide) (htc _ k_2_73) (fun _ h9 => h9) rfl (by decide +kernel) rfl rfl (Nat.le_of_ble_eq_true rfl) d_r_count_2 (fun H locs hP hD hS => ?_)
  have hP : va_P D cls (rL cI cZ ad (nI 0) n ev r) H := hP
  have hD : va_D A (rL cI cZ ad (nI 0) n ev r) := hD
  refine lv_aload_n hx hb d_r_count_5 rfl (lv_at hl 0 rfl) ?_
  refine lv_iload_n hx hb d_r_count_6 rfl (lv_at hl 1 rfl) ?_
  refine lv_i2l hx hb d_r_count_7 rfl ?_
  refine lv_lconst (v := 0) hx hb d_r_count_8 (by decide) ?_
  refine lv_ldc2 hx hb hown (htc _ k_2_199) d_r_count_9 ?_
  refine PM.callS (rest := [.ref (ad 0)]) S (c_r_in l D cI cJ cZ ad (nI 0) n ev r ((nI 2).toInt64) (0) (3)) k_2_115 k_2_116 k_1_2 k_2_117 h_r_in ⟨Nat.le_of_ble_eq_true rfl, Nat.le_of_ble_eq_true rfl⟩ ⟨Nat.le_of_ble_eq_true rfl, Nat.le_of_ble_eq_true rfl⟩ hP hK hl.1 (Nat.le_of_ble_eq_true rfl) rfl d_r_count_12 ?_
  refine nr_ifne_b (tgt := 22) hx hb d_r_count_15 (by decide) (fun q9 => ?_) (fun q9 => absurd (show (decide ((0 : Int64) ≤ (nI 2).toInt64 ∧ (nI 2).toInt64 ≤ 3)) = true from by rw [in03]; decide) (by rw [q9]; decide))
  refine lv_iconst (v := (nI 0)) hx hb d_r_count_22 (by decide) ?_
  refine nr_top (w := .int (bI false)) rfl ?_
  refine lv_iconst (v := (nI 1)) hx hb d_r_count_23 (by decide) ?_
  refine WI.callV (wr := []) (rest := []) S (c_r_fails l D cI cJ cZ ad n ev r false 1 (by decide) (by decide)) k_2_118 k_2_120 k_s_20 k_1_2 k_2_121 h_r_fails ⟨Nat.le_of_ble_eq_true rfl, Nat.le_of_ble_eq_true rfl⟩ ⟨Nat.le_of_ble_eq_true rfl, Nat.le_of_ble_eq_true rfl⟩ hP hK hD hS hA [0, 1, 2, 3, 4, 5, 6, 7] [] rfl rfl (by decide) (by decide) (by decide) 0 1 rfl rfl rfl hl.1 (Nat.le_of_ble_eq_true rfl) rfl d_r_count_24 (fun v9 u9 H locs hv9 hP hD hS => ?_)
  obtain rfl := hv9
  have hP : va_P D cls (rL cI cZ ad 0 n ev r) H := hP
  have hD : va_D A (rL cI cZ ad 0 n ev r) := hD
  refine nr_ifeq_b (tgt := 32) hx hb d_r_count_27 (by decide) (fun q9 => ?_) (fun q9 => nomatch q9)
  refine lv_iload_n hx hb d_r_count_32 rfl (lv_at hl 1 rfl) ?_
  refine lv_iconst (v := (nI 2)) hx hb d_r_count_33 (by decide) ?_
  refine nr_icmp_ge (tgt := 53) hx hb (by decide) (by decide) d_r_count_34 (by decide) (fun q9 => ?_) (fun q9 => absurd q9 (by decide))
  refine lv_iconst (v := (nI 0)) hx hb d_r_count_53 (by decide) ?_
  refine lv_istore_n (lv' := [(2, .int (nI 0)), (0, .ref (ad 0)), (1, .int (nI 2))]) hx hb d_r_count_54 rfl hl (by decide) rfl (fun ls hl => ?_)
  refine lv_iload_n hx hb d_r_count_55 rfl (lv_at hl 2 rfl) ?_
  refine lv_iconst (v := (nI 3)) hx hb d_r_count_56 (by decide) ?_
  refine nr_icmp_ne (tgt := 89) hx hb (by decide) (by decide) d_r_count_57 (by decide) (fun q9 => ?_) (fun q9 => absurd q9 (by decide))
  refine lv_iconst (v := (nI 0)) hx hb d_r_count_89 (by decide) ?_
  refine lv_istore_n (lv' := [(3, .int (nI 0)), (2, .int (nI 0)), (0, .ref (ad 0)), (1, .int (nI 2))]) hx hb d_r_count_90 rfl hl (by decide) rfl (fun ls hl => ?_)
  have loop1 : ∀ (d1 : Nat) (m9 : Nat) (ls : Array Slot), n - m9 < d1 → m9 ≤ n → lv_has ls 7 [(3, .int (nI m9)), (2, .int (nI (cn m9 (fm ow c ev)))), (1, .int (nI 2)), (0, .ref (ad 0))] → W p9 l e9 ({ frames := 2, cells := 0, slots := 0, locals := 50 }) s9 m args below meth c9 H locs 0 0 (MQ below (va_Qi (S := Unit) (fun q _ => q = nI (cn n (fm ow c ev))) (wB D (tys cI cJ cZ) (fun _ => rL cI cZ ad 0 n ev r) A) A) args s9 0 0 A) (F0 m 91 ls []) := by
    intro d1
    induction d1 with
    | zero =>
      intro m9 ls hd1 hm9 hl
      exact absurd hd1 (by omega)
    | succ d1 ih1 =>
      intro m9 ls hd1 hm9 hl
      have hcb := cn_le m9 (fm ow c ev)
      refine lv_iload_n hx hb d_r_count_91 rfl (lv_at hl 0 rfl) ?_
      refine lv_aload_n hx hb d_r_count_92 rfl (lv_at hl 3 rfl) ?_
      refine va_get (D := D) (ci := 1) (v := .int (nI n)) (C := "SightGraphModel") (T := T_r) (N := 10) hx hb htc in_r hown hK hP 0 rfl rfl 1 (by decide) (htc _ k_2_74) (fun _ h9 => h9) rfl d_r_count_93 ?_
      refine nr_icmp_ge (tgt := 189) hx hb (by omega) (by omega) d_r_count_96 (by decide) (fun c_96 => ?_) (fun c_96 => ?_)
      · refine lv_iload_n hx hb d_r_count_189 rfl (lv_at hl 1 rfl) ?_
        exact WI.iret hx hb hr hlocks hK hS d_r_count_190 () (by rw [show m9 = n by omega]) hP hD
      · refine lv_iconst (v := (nI 0)) hx hb d_r_count_99 (by decide) ?_
        refine nr_top (w := .int (bI false)) rfl ?_
        refine lv_istore (lv' := [(4, .int (bI false)), (3, .int (nI m9)), (2, .int (nI (cn m9 (fm ow c ev)))), (1, .int (nI 2)), (0, .ref (ad 0))]) hx hb d_r_count_100 hl (by decide) rfl (fun ls hl => ?_)
        refine lv_iconst (v := (nI 0)) hx hb d_r_count_102 (by decide) ?_
        refine lv_istore (lv' := [(5, .int (nI 0)), (4, .int (bI false)), (3, .int (nI m9)), (2, .int (nI (cn m9 (fm ow c ev)))), (1, .int (nI 2)), (0, .ref (ad 0))]) hx hb d_r_count_103 hl (by decide) rfl (fun ls hl => ?_)
        have loop2 : ∀ (d2 : Nat) (y : Nat) (has : Bool) (ls : Array Slot), ev - y < d2 → y ≤ ev → has = ex y (fun y => ex y (fun z => c y == m9 && (c y == c z && (!ow y z && !ow z y)))) → lv_has ls 7 [(5, .int (nI y)), (4, .int (bI has)), (3, .int (nI m9)), (2, .int (nI (cn m9 (fm ow c ev)))), (1, .int (nI 2)), (0, .ref (ad 0))] → W p9 l e9 ({ frames := 2, cells := 0, slots := 0, locals := 50 }) s9 m args below meth c9 H locs 0 0 (MQ below (va_Qi (S := Unit) (fun q _ => q = nI (cn n (fm ow c ev))) (wB D (tys cI cJ cZ) (fun _ => rL cI cZ ad 0 n ev r) A) A) args s9 0 0 A) (F0 m 105 ls []) := by
          intro d2
          induction d2 with
          | zero =>
            intro y has ls hd2 hy hhs hl
            exact absurd hd2 (by omega)
          | succ d2 ih2 =>
            intro y has ls hd2 hy hhs hl
            refine lv_iload hx hb d_r_count_105 (lv_at hl 0 rfl) ?_
            refine lv_aload_n hx hb d_r_count_107 rfl (lv_at hl 5 rfl) ?_
            refine va_get (D := D) (ci := 1) (v := .int (nI ev)) (C := "SightGraphModel") (T := T_r) (N := 10) hx hb htc in_r hown hK hP 0 rfl rfl 2 (by decide) (htc _ k_2_75) (fun _ h9 => h9) rfl d_r_count_108 ?_
            refine nr_icmp_ge (tgt := 175) hx hb (by omega) (by omega) d_r_count_111 (by decide) (fun c_111 => ?_) (fun c_111 => ?_)
            · have hhas : has = fm ow c ev m9 := sn_step (p := (fun y => ex y (fun z => c y == m9 && (c y == c z && (!ow y z && !ow z y))))) hhs (by omega) (Or.inl (by omega))
              refine lv_iload hx hb d_r_count_175 (lv_at hl 1 rfl) ?_
              refine nr_ifeq_b (tgt := 183) hx hb d_r_count_177 (by decide) (fun c_177 => ?_) (fun c_177 => ?_)
              · refine lv_iinc (v := (nI (m9 + 1))) (lv' := [(3, .int (nI (m9 + 1))), (5, .int (nI y)), (4, .int (bI has)), (2, .int (nI (cn m9 (fm ow c ev)))), (1, .int (nI 2)), (0, .ref (ad 0))]) hx hb d_r_count_183 hl (k := 2) rfl (nI_add m9 1) (by decide) rfl (fun ls hl => ?_)
                refine lv_goto (tgt := 91) hx hb d_r_count_186 (by decide) ?_
                exact ih1 (m9 + 1) ls (by omega) (by omega) (by rw [← cn_n (p := fm ow c ev) (show fm ow c ev m9 = false from hhas.symm.trans c_177)]; exact (lv_sub hl [0, 3, 4, 5] rfl))
              · refine lv_iinc (v := (nI ((cn m9 (fm ow c ev)) + 1))) (lv' := [(2, .int (nI ((cn m9 (fm ow c ev)) + 1))), (5, .int (nI y)), (4, .int (bI has)), (3, .int (nI m9)), (1, .int (nI 2)), (0, .ref (ad 0))]) hx hb d_r_count_180 hl (k := 3) rfl (nI_add (cn m9 (fm ow c ev)) 1) (by decide) rfl (fun ls hl => ?_)
                refine lv_iinc (v := (nI (m9 + 1))) (lv' := [(3, .int (nI (m9 + 1))), (2, .int (nI ((cn m9 (fm ow c ev)) + 1))), (5, .int (nI y)), (4, .int (bI has)), (1, .int (nI 2)), (0, .ref (ad 0))]) hx hb d_r_count_183 hl (k := 3) rfl (nI_add m9 1) (by decide) rfl (fun ls hl => ?_)
                refine lv_goto (tgt := 91) hx hb d_r_count_186 (by decide) ?_
                exact ih1 (m9 + 1) ls (by omega) (by omega) (by rw [← cn_y (p := fm ow c ev) (show fm ow c ev m9 = true from hhas.symm.trans c_177)]; exact (lv_sub hl [0, 1, 4, 5] rfl))
            · refine lv_iload hx hb d_r_count_114 (lv_at hl 1 rfl) ?_
              refine nr_ifne_b (tgt := 175) hx hb d_r_count_116 (by decide) (fun c_116 => ?_) (fun c_116 => ?_)
              · have hhas : has = fm ow c ev m9 := sn_step (p := (fun y => ex y (fun z => c y == m9 && (c y == c z && (!ow y z && !ow z y))))) hhs (by omega) (Or.inr c_116)
                refine lv_iload hx hb d_r_count_175 (lv_at hl 1 rfl) ?_
                refine nr_ifeq_b (tgt := 183) hx hb d_r_count_177 (by decide) (fun c_177 => ?_) (fun c_177 => ?_)
                · refine lv_iinc (v := (nI (m9 + 1))) (lv' := [(3, .int (nI (m9 + 1))), (5, .int (nI y)), (4, .int (bI has)), (2, .int (nI (cn m9 (fm ow c ev)))), (1, .int (nI 2)), (0, .ref (ad 0))]) hx hb d_r_count_183 hl (k := 2) rfl (nI_add m9 1) (by decide) rfl (fun ls hl => ?_)
                  refine lv_goto (tgt := 91) hx hb d_r_count_186 (by decide) ?_
                  exact ih1 (m9 + 1) ls (by omega) (by omega) (by rw [← cn_n (p := fm ow c ev) (show fm ow c ev m9 = false from hhas.symm.trans c_177)]; exact (lv_sub hl [0, 3, 4, 5] rfl))
                · refine lv_iinc (v := (nI ((cn m9 (fm ow c ev)) + 1))) (lv' := [(2, .int (nI ((cn m9 (fm ow c ev)) + 1))), (5, .int (nI y)), (4, .int (bI has)), (3, .int (nI m9)), (1, .int (nI 2)), (0, .ref (ad 0))]) hx hb d_r_count_180 hl (k := 3) rfl (nI_add (cn m9 (fm ow c ev)) 1) (by decide) rfl (fun ls hl => ?_)
                  refine lv_iinc (v := (nI (m9 + 1))) (lv' := [(3, .int (nI (m9 + 1))), (2, .int (nI ((cn m9 (fm ow c ev)) + 1))), (5, .int (nI y)), (4, .int (bI has)), (1, .int (nI 2)), (0, .ref (ad 0))]) hx hb d_r_count_183 hl (k := 3) rfl (nI_add m9 1) (by decide) rfl (fun ls hl => ?_)
                  refine lv_goto (tgt := 91) hx hb d_r_count_186 (by decide) ?_
                  exact ih1 (m9 + 1) ls (by omega) (by omega) (by rw [← cn_y (p := fm ow c ev) (show fm ow c ev m9 = true from hhas.symm.trans c_177)]; exact (lv_sub hl [0, 1, 4, 5] rfl))
              · refine lv_iconst (v := (nI 0)) hx hb d_r_count_119 (by decide) ?_
                refine lv_istore (lv' := [(6, .int (nI 0)), (5, .int (nI y)), (4, .int (bI has)), (3, .int (nI m9)), (2, .int (nI (cn m9 (fm ow c ev)))), (1, .int (nI 2)), (0, .ref (ad 0))]) hx hb d_r_count_120 hl (by decide) rfl (fun ls hl => ?_)
                have loop3 : ∀ (d3 : Nat) (z : Nat) (hs2 : Bool) (ls : Array Slot), y - z < d3 → z ≤ y → hs2 = ex z (fun z => c y == m9 && (c y == c z && (!ow y z && !ow z y))) → lv_has ls 7 [(6, .int (nI z)), (5, .int (nI y)), (4, .int (bI hs2)), (3, .int (nI m9)), (2, .int (nI (cn m9 (fm ow c ev)))), (1, .int (nI 2)), (0, .ref (ad 0))] → W p9 l e9 ({ frames := 2, cells := 0, slots := 0, locals := 50 }) s9 m args below meth c9 H locs 0 0 (MQ below (va_Qi (S := Unit) (fun q _ => q = nI (cn n (fm ow c ev))) (wB D (tys cI cJ cZ) (fun _ => rL cI cZ ad 0 n ev r) A) A) args s9 0 0 A) (F0 m 122 ls []) := by
                  intro d3
                  induction d3 with
                  | zero =>
                    intro z hs2 ls hd3 hz hh2 hl
                    exact absurd hd3 (by omega)
                  | succ d3 ih3 =>
                    intro z hs2 ls hd3 hz hh2 hl
                    refine lv_iload hx hb d_r_count_122 (lv_at hl 0 rfl) ?_
                    refine lv_iload hx hb d_r_count_124 (lv_at hl 1 rfl) ?_
                    refine nr_icmp_ge (tgt := 169) hx hb (by omega) (by omega) d_r_count_126 (by decide) (fun c_126 => ?_) (fun c_126 => ?_)
                    · have hfin : hs2 = ex y (fun z => c y == m9 && (c y == c z && (!ow y z && !ow z y))) := sn_step hh2 (by omega) (Or.inl (by omega))
                      refine lv_iinc (v := (nI (y + 1))) (lv' := [(5, .int (nI (y + 1))), (6, .int (nI z)), (4, .int (bI hs2)), (3, .int (nI m9)), (2, .int (nI (cn m9 (fm ow c ev)))), (1, .int (nI 2)), (0, .ref (ad 0))]) hx hb d_r_count_169 hl (k := 1) rfl (nI_add y 1) (by decide) rfl (fun ls hl => ?_)
                      refine lv_goto (tgt := 105) hx hb d_r_count_172 (by decide) ?_
                      exact ih2 (y + 1) hs2 ls (by omega) (by omega) (ex_hs (p := (fun y => ex y (fun z => c y == m9 && (c y == c z && (!ow y z && !ow z y))))) (hhs.symm.trans c_116) hfin.symm) (lv_sub hl [0, 2, 3, 4, 5, 6] rfl)
                    · refine lv_iload hx hb d_r_count_129 (lv_at hl 2 rfl) ?_
                      refine nr_ifne_b (tgt := 169) hx hb d_r_count_131 (by decide) (fun c_131 => ?_) (fun c_131 => ?_)
                      · have hfin : hs2 = ex y (fun z => c y == m9 && (c y == c z && (!ow y z && !ow z y))) := sn_step hh2 (by omega) (Or.inr c_131)
                        refine lv_iinc (v := (nI (y + 1))) (lv' := [(5, .int (nI (y + 1))), (6, .int (nI z)), (4, .int (bI hs2)), (3, .int (nI m9)), (2, .int (nI (cn m9 (fm ow c ev)))), (1, .int (nI 2)), (0, .ref (ad 0))]) hx hb d_r_count_169 hl (k := 1) rfl (nI_add y 1) (by decide) rfl (fun ls hl => ?_)
                        refine lv_goto (tgt := 105) hx hb d_r_count_172 (by decide) ?_
                        exact ih2 (y + 1) hs2 ls (by omega) (by omega) (ex_hs (p := (fun y => ex y (fun z => c y == m9 && (c y == c z && (!ow y z && !ow z y))))) (hhs.symm.trans c_116) hfin.symm) (lv_sub hl [0, 2, 3, 4, 5, 6] rfl)
                      · have hcy := hc8 y (by omega)
                        refine lv_aload_n hx hb d_r_count_134 rfl (lv_at hl 6 rfl) ?_
                        refine va_get (D := D) (ci := 1) (v := .ref (ad 1)) (C := "SightGraphModel") (T := T_r) (N := 10) hx hb htc in_r hown hK hP 0 rfl rfl 3 (by decide) (htc _ k_2_76) (fun _ h9 => h9) rfl d_r_count_135 ?_
                        refine lv_iload hx hb d_r_count_138 (lv_at hl 1 rfl) ?_
                        refine nr_iald hx hb hK hP 1 0 rfl rfl (by omega) (by decide) (v := (nI (c y))) (hc y (by omega)) d_r_count_140 ?_
                        refine lv_iload_n hx hb d_r_count_141 rfl (lv_at hl 3 rfl) ?_
                        refine nr_icmp_ne (tgt := 160) hx hb (by omega) (by omega) d_r_count_142 (by decide) (fun c_142 => ?_) (fun c_142 => ?_)
                        · refine lv_iconst (v := (nI 0)) hx hb d_r_count_160 (by decide) ?_
                          refine nr_top (w := .int (bI false)) rfl ?_
                          refine lv_istore (lv' := [(4, .int (bI false)), (6, .int (nI z)), (5, .int (nI y)), (3, .int (nI m9)), (2, .int (nI (cn m9 (fm ow c ev)))), (1, .int (nI 2)), (0, .ref (ad 0))]) hx hb d_r_count_161 hl (by decide) rfl (fun ls hl => ?_)
                          refine lv_iinc (v := (nI (z + 1))) (lv' := [(6, .int (nI (z + 1))), (4, .int (bI false)), (5, .int (nI y)), (3, .int (nI m9)), (2, .int (nI (cn m9 (fm ow c ev)))), (1, .int (nI 2)), (0, .ref (ad 0))]) hx hb d_r_count_163 hl (k := 1) rfl (nI_add z 1) (by decide) rfl (fun ls hl => ?_)
                          refine lv_goto (tgt := 122) hx hb d_r_count_166 (by decide) ?_
                          exact ih3 (z + 1) false ls (by omega) (by omega) (ex_hs (p := (fun z => c y == m9 && (c y == c z && (!ow y z && !ow z y)))) (hh2.symm.trans c_131) (by rw [show (c y == m9) = false from by simpa using c_142]; rfl)) (lv_sub hl [0, 2, 1, 3, 4, 5, 6] rfl)
                        · refine lv_aload_n hx hb d_r_count_145 rfl (lv_at hl 6 rfl) ?_
                          refine lv_iload hx hb d_r_count_146 (lv_at hl 1 rfl) ?_
                          refine lv_iload hx hb d_r_count_148 (lv_at hl 0 rfl) ?_
                          refine PM.callV (rest := []) S (c_r_isFork l D cI cJ cZ ad 0 n ev r K hKb c hc s hs ow hLw hc8 y z (by omega) (by omega)) k_2_138 k_2_140 k_s_24 k_1_2 k_2_141 h_r_isFork ⟨Nat.le_of_ble_eq_true rfl, Nat.le_of_ble_eq_true rfl⟩ ⟨Nat.le_of_ble_eq_true rfl, Nat.le_of_ble_eq_true rfl⟩ hP hK 0 1 rfl rfl rfl hl.1 (Nat.le_of_ble_eq_true rfl) rfl d_r_count_150 ?_
                          refine nr_ifeq_b (tgt := 160) hx hb d_r_count_153 (by decide) (fun c_153 => ?_) (fun c_153 => ?_)
                          · refine lv_iconst (v := (nI 0)) hx hb d_r_count_160 (by decide) ?_
                            refine nr_top (w := .int (bI false)) rfl ?_
                            refine lv_istore (lv' := [(4, .int (bI false)), (6, .int (nI z)), (5, .int (nI y)), (3, .int (nI m9)), (2, .int (nI (cn m9 (fm ow c ev)))), (1, .int (nI 2)), (0, .ref (ad 0))]) hx hb d_r_count_161 hl (by decide) rfl (fun ls hl => ?_)
                            refine lv_iinc (v := (nI (z + 1))) (lv' := [(6, .int (nI (z + 1))), (4, .int (bI false)), (5, .int (nI y)), (3, .int (nI m9)), (2, .int (nI (cn m9 (fm ow c ev)))), (1, .int (nI 2)), (0, .ref (ad 0))]) hx hb d_r_count_163 hl (k := 1) rfl (nI_add z 1) (by decide) rfl (fun ls hl => ?_)
                            refine lv_goto (tgt := 122) hx hb d_r_count_166 (by decide) ?_
                            exact ih3 (z + 1) false ls (by omega) (by omega) (ex_hs (p := (fun z => c y == m9 && (c y == c z && (!ow y z && !ow z y)))) (hh2.symm.trans c_131) (by rw [c_153, Bool.and_false])) (lv_sub hl [0, 2, 1, 3, 4, 5, 6] rfl)
                          · refine lv_iconst (v := (nI 1)) hx hb d_r_count_156 (by decide) ?_
                            refine lv_goto (tgt := 161) hx hb d_r_count_157 (by decide) ?_
                            refine nr_top (w := .int (bI true)) rfl ?_
                            refine lv_istore (lv' := [(4, .int (bI true)), (6, .int (nI z)), (5, .int (nI y)), (3, .int (nI m9)), (2, .int (nI (cn m9 (fm ow c ev)))), (1, .int (nI 2)), (0, .ref (ad 0))]) hx hb d_r_count_161 hl (by decide) rfl (fun ls hl => ?_)
                            refine lv_iinc (v := (nI (z + 1))) (lv' := [(6, .int (nI (z + 1))), (4, .int (bI true)), (5, .int (nI y)), (3, .int (nI m9)), (2, .int (nI (cn m9 (fm ow c ev)))), (1, .int (nI 2)), (0, .ref (ad 0))]) hx hb d_r_count_163 hl (k := 1) rfl (nI_add z 1) (by decide) rfl (fun ls hl => ?_)
                            refine lv_goto (tgt := 122) hx hb d_r_count_166 (by decide) ?_
                            exact ih3 (z + 1) true ls (by omega) (by omega) (ex_hs (p := (fun z => c y == m9 && (c y == c z && (!ow y z && !ow z y)))) (hh2.symm.trans c_131) (by rw [show (c y == m9) = true from by simpa using c_142]; rw [Bool.true_and]; exact c_153)) (lv_sub hl [0, 2, 1, 3, 4, 5, 6] rfl)
                exact loop3 (y + 1) 0 has ls (by omega) (by omega) c_116 (lv_sub hl [0, 1, 2, 3, 4, 5, 6] rfl)
        exact loop2 (ev + 1) 0 false ls (by omega) (by omega) rfl (lv_sub hl [0, 1, 2, 3, 4, 5] rfl)
  exact loop1 (n + 1) 0 ls (by omega) (by omega) (lv_sub hl [0, 1, 3, 2] rfl)
set_option maxHeartbeats 4000000 in
set_option maxRecDepth 100000 in
theorem c_r_count_x (l : Launch) (D : va_G) (cI cJ cZ : ClassId) (ad : Nat → Nat) (er : Int32) (n ev : Nat) (r : RA) (x : Int32) (hx1 : iv 4 x = false) : WI (S := Unit) l D (tys cI cJ cZ) (rL cI cZ ad er n ev r) (fun _ => rL cI cZ ad (nI 1) n ev r) (fun _ _ => True) y_r_count b_r_count 7 (some .int) 1 25 [.ref (ad 0), .int x] := by
  refine WI.of (by decide) (Nat.le_of_ble_eq_true rfl) ?_
  intro p9 e9 s9 m args below meth c9 ls A S hr hlocks hA hP hK hD hl
  obtain ⟨hx, hb, hml, hown, htc⟩ := id S
  have hS : va_S A s9.heap s9.heap [] := va_S.rf
  have hl : lv_has ls 7 [(0, .ref (ad 0)), (1, .int x)] := hl
  refine lv_aload_n hx hb d_r_count_0 rfl (lv_at hl 0 rfl) ?_
  refine lv_iconst (v := (nI 0)) hx hb d_r_count_1 (by decide) ?_
  refine va_put (D := D) (ci := 1) (v := .int (nI 0)) (ty := .int) (C := "SightGraphModel") (T := T_r) (N := 10) hx hb htc in_r t_r ft_r fn_r hown hK hP hD hS 0 rfl rfl 0 (by decide) (htc _ k_2_73) (fun _ h9 => h9) rfl (by decide +kernel) rfl rfl (Nat.le_of_ble_eq_true rfl) d_r_count_2 (fun H locs hP hD hS => ?_)
  have hP : va_P D cls (rL cI cZ ad (nI 0) n ev r) H := hP
  have hD : va_D A (rL cI cZ ad (nI 0) n ev r) := hD
  refine lv_aload_n hx hb d_r_count_5 rfl (lv_at hl 0 rfl) ?_
  refine lv_iload_n hx hb d_r_count_6 rfl (lv_at hl 1 rfl) ?_
  refine lv_i2l hx hb d_r_count_7 rfl ?_
  refine lv_lconst (v := 0) hx hb d_r_count_8 (by decide) ?_
  refine lv_ldc2 hx hb hown (htc _ k_2_199) d_r_count_9 ?_
  refine PM.callS (rest := [.ref (ad 0)]) S (c_r_in l D cI cJ cZ ad (nI 0) n ev r (x.toInt64) (0) (3)) k_2_115 k_2_116 k_1_2 k_2_117 h_r_in ⟨Nat.le_of_ble_eq_true rfl, Nat.le_of_ble_eq_true rfl⟩ ⟨Nat.le_of_ble_eq_true rfl, Nat.le_of_ble_eq_true rfl⟩ hP hK hl.1 (Nat.le_of_ble_eq_true rfl) rfl d_r_count_12 ?_
  refine nr_ifne_b (tgt := 22) hx hb d_r_count_15 (by decide) (fun q9 => absurd (show (decide ((0 : Int64) ≤ x.toInt64 ∧ x.toInt64 ≤ 3)) = false from by rw [in03]; exact hx1) (by rw [q9]; decide)) (fun q9 => ?_)
  refine lv_iconst (v := (nI 1)) hx hb d_r_count_18 (by decide) ?_
  refine lv_goto (tgt := 23) hx hb d_r_count_19 (by decide) ?_
  refine nr_top (w := .int (bI true)) rfl ?_
  refine lv_iconst (v := (nI 1)) hx hb d_r_count_23 (by decide) ?_
  refine WI.callV (wr := []) (rest := []) S (c_r_fails l D cI cJ cZ ad n ev r true 1 (by decide) (by decide)) k_2_118 k_2_120 k_s_20 k_1_2 k_2_121 h_r_fails ⟨Nat.le_of_ble_eq_true rfl, Nat.le_of_ble_eq_true rfl⟩ ⟨Nat.le_of_ble_eq_true rfl, Nat.le_of_ble_eq_true rfl⟩ hP hK hD hS hA [0, 1, 2, 3, 4, 5, 6, 7] [] rfl rfl (by decide) (by decide) (by decide) 0 1 rfl rfl rfl hl.1 (Nat.le_of_ble_eq_true rfl) rfl d_r_count_24 (fun v9 u9 H locs hv9 hP hD hS => ?_)
  obtain rfl := hv9
  have hP : va_P D cls (rL cI cZ ad (nI 1) n ev r) H := hP
  have hD : va_D A (rL cI cZ ad (nI 1) n ev r) := hD
  refine nr_ifeq_b (tgt := 32) hx hb d_r_count_27 (by decide) (fun q9 => nomatch q9) (fun q9 => ?_)
  refine lv_iconst (v := (nI 0)) hx hb d_r_count_30 (by decide) ?_
  exact WI.iret hx hb hr hlocks hK hS d_r_count_31 () trivial hP hD
end
section
theorem cn_up {M : Nat → Bool} {y N : Nat} (hy : y < N) (h : M y = false) : cn N (va_up M y true) = cn N M + 1 := by
  induction N with
  | zero => omega
  | succ N ih =>
    show cn N (va_up M y true) + (if va_up M y true N = true then 1 else 0) = cn N M + (if M N = true then 1 else 0) + 1
    by_cases e : y = N
    · subst e
      rw [va_up_self, h, cn_congr (q := M) (fun i hi => va_up_ne M true (by omega))]; rfl
    · rw [ih (by omega), va_up_ne M true (by omega)]; omega
theorem cn_lt {M : Nat → Bool} {y N : Nat} (hy : y < N) (h : M y = false) : cn N M < N := by
  have h1 := cn_up hy h
  have h2 := cn_le N (va_up M y true)
  omega
/-- the search for ancestors: top places of the stack (q: 0 for none), M what is marked -/
def DF (x : Nat) (s o : Nat → Nat) (an : Nat → Nat → Bool) (top : Nat) (q : Nat → Nat) (M : Nat → Bool) : Prop :=
  (∀ y, M y = true → an x y = true) ∧ (∀ i, i < top → q i ≠ 0 → an x (q i - 1) = true) ∧ (∀ y, M y = true → (s y ≠ 0 → M (s y - 1) = true ∨ ∃ i, i < top ∧ q i = s y) ∧ (o y ≠ 0 → M (o y - 1) = true ∨ ∃ i, i < top ∧ q i = o y)) ∧ (M x = true ∨ ∃ i, i < top ∧ q i = x + 1) ∧ top ≤ 2 * cn 120 M + 1
theorem DF.start {K n x : Nat} {c s o : Nat → Nat} {an ow : Nat → Nat → Bool} (h : Lw K n c s o an ow) (hx : x < K) : DF x s o an 1 (fun _ => x + 1) (fun _ => false) :=
  ⟨(fun y h => by cases h), fun i _ _ => by show an x x = true; rw [(h x hx).2.2.2.2.2.1 x]; simp, (fun y h => by cases h), Or.inr ⟨0, by omega, rfl⟩, by omega⟩
theorem DF.pop {x tp : Nat} {s o q : Nat → Nat} {an : Nat → Nat → Bool} {M : Nat → Bool} (h : DF x s o an (tp + 1) q M) (hq : q tp = 0 ∨ M (q tp - 1) = true) : DF x s o an tp q M := by
  obtain ⟨h1, h2, h3, h4, h5⟩ := h
  have key : ∀ t, t ≠ 0 → (M (t - 1) = true ∨ ∃ i, i < tp + 1 ∧ q i = t) → (M (t - 1) = true ∨ ∃ i, i < tp ∧ q i = t) := by
    rintro t ht (z | ⟨i, hi, e⟩)
    · exact Or.inl z
    · by_cases ei : i = tp
      · subst ei
        rcases hq with hq | hq
        · omega
        · rw [e] at hq; exact Or.inl hq
      · exact Or.inr ⟨i, by omega, e⟩
  refine ⟨h1, fun i hi => h2 i (by omega), fun y hy => ⟨fun q1 => key _ q1 ((h3 y hy).1 q1), fun q1 => key _ q1 ((h3 y hy).2 q1)⟩, ?_, by omega⟩
  exact key (x + 1) (by omega) h4
theorem DF.mark {K n x tp y : Nat} {c s o q : Nat → Nat} {an ow : Nat → Nat → Bool} {M : Nat → Bool} (hL : Lw K n c s o an ow) (hx : x < K) (hK : K ≤ 120) (h : DF x s o an (tp + 1) q M) (hq : q tp = y + 1) (hM : M y = false) : DF x s o an (tp + 2) (va_up (va_up q tp (s y)) (tp + 1) (o y)) (va_up M y true) ∧ y ≤ x := by
  obtain ⟨h1, h2, h3, h4, h5⟩ := h
  have hay : an x y = true := by have := h2 tp (by omega) (by omega); rw [hq] at this; exact this
  have hyx := hL.an_le x hx y hay
  have qa : ∀ i, i < tp → va_up (va_up q tp (s y)) (tp + 1) (o y) i = q i := fun i hi => by rw [va_up_ne _ _ (by omega), va_up_ne _ _ (by omega)]
  have q0 : va_up (va_up q tp (s y)) (tp + 1) (o y) tp = s y := by rw [va_up_ne _ _ (by omega), va_up_self]
  have q1 : va_up (va_up q tp (s y)) (tp + 1) (o y) (tp + 1) = o y := va_up_self _ _ _
  have mk : ∀ z, M z = true → va_up M y true z = true := fun z hz => by
    by_cases e : z = y
    · subst e; exact va_up_self _ _ _
    · rw [va_up_ne M true e]; exact hz
  have key : ∀ t, t ≠ 0 → (M (t - 1) = true ∨ ∃ i, i < tp + 1 ∧ q i = t) → (va_up M y true (t - 1) = true ∨ ∃ i, i < tp + 2 ∧ va_up (va_up q tp (s y)) (tp + 1) (o y) i = t) := by
    rintro t ht (z | ⟨i, hi, e⟩)
    · exact Or.inl (mk _ z)
    · by_cases ei : i = tp
      · subst ei
        rw [hq] at e
        exact Or.inl (by rw [← e]; exact va_up_self _ _ _)
      · exact Or.inr ⟨i, by omega, by rw [qa i (by omega)]; exact e⟩
  refine ⟨⟨?_, ?_, ?_, ?_, ?_⟩, hyx⟩
  · intro z hz
    by_cases e : z = y
    · subst e; exact hay
    · rw [va_up_ne M true e] at hz; exact h1 z hz
  · intro i hi hne
    by_cases e1 : i = tp + 1
    · subst e1; rw [q1] at hne ⊢; exact (hL.an_self x hx y hay).2 hne
    · by_cases e2 : i = tp
      · subst e2; rw [q0] at hne ⊢; exact (hL.an_self x hx y hay).1 hne
      · rw [qa i (by omega)] at hne ⊢; exact h2 i (by omega) hne
  · intro z hz
    by_cases e : z = y
    · subst e
      exact ⟨fun _ => Or.inr ⟨tp, by omega, q0⟩, fun _ => Or.inr ⟨tp + 1, by omega, q1⟩⟩
    · rw [va_up_ne M true e] at hz
      exact ⟨fun w => key _ w ((h3 z hz).1 w), fun w => key _ w ((h3 z hz).2 w)⟩
  · exact key (x + 1) (by omega) h4
  · rw [cn_up (show y < 120 by omega) hM]; omega
theorem DF.done {K n x : Nat} {c s o q : Nat → Nat} {an ow : Nat → Nat → Bool} {M : Nat → Bool} (hL : Lw K n c s o an ow) (hx : x < K) (h : DF x s o an 0 q M) : ∀ y, M y = an x y := by
  obtain ⟨h1, -, h3, h4, -⟩ := h
  have hMx : M x = true := h4.elim id (fun ⟨i, hi, _⟩ => by omega)
  have key : ∀ z, z < K → M z = true → ∀ y, an z y = true → M y = true := by
    intro z
    induction z using Nat.strongRecOn with
    | _ z ih =>
      intro hz hM y hy
      obtain ⟨-, g2, g3, -, -, g6, -⟩ := hL z hz
      rw [g6 y, Bool.or_eq_true, Bool.or_eq_true] at hy
      rcases hy with hy | hy | hy
      · have e := of_decide_eq_true (show decide (z = y) = true from hy)
        subst e; exact hM
      · simp only [pa, Bool.and_eq_true, Bool.not_eq_true', beq_eq_false_iff_ne, ne_eq] at hy
        have := ((h3 z hM).1 hy.1).elim id (fun ⟨i, hi, _⟩ => by omega)
        exact ih (s z - 1) (by omega) (by omega) this y hy.2
      · simp only [pa, Bool.and_eq_true, Bool.not_eq_true', beq_eq_false_iff_ne, ne_eq] at hy
        have := ((h3 z hM).2 hy.1).elim id (fun ⟨i, hi, _⟩ => by omega)
        exact ih (o z - 1) (by omega) (by omega) this y hy.2
  intro y
  rw [Bool.eq_iff_iff]
  exact ⟨h1 y, key x hx hMx y⟩
/-- the row x of 'above' holds M, the other rows are as in f0 -/
def aR (x : Nat) (f0 f : Nat → Int32) (M : Nat → Bool) (N : Nat) : Prop := (∀ j y, j ≠ x → y < 120 → f (120 * j + y) = f0 (120 * j + y)) ∧ ∀ y, y < N → f (120 * x + y) = bI (M y)
theorem aR.put {x y N : Nat} {f0 f : Nat → Int32} {M : Nat → Bool} {b : Bool} (h : aR x f0 f M N) (hy : y < 120) : aR x f0 (upd f (120 * x + y) (bI b)) (va_up M y b) N := by
  refine ⟨fun j z hj hz => (pk_un (by omega)).trans (h.1 j z hj hz), fun z hz => ?_⟩
  by_cases e : z = y
  · subst e; rw [va_up_self]; exact pk_us
  · rw [va_up_ne M b e]; exact (pk_un (by omega)).trans (h.2 z hz)
theorem aR.clr {x y : Nat} {f0 f : Nat → Int32} (h : aR x f0 f (fun _ => false) y) (hy : y < 120) : aR x f0 (upd f (120 * x + y) (bI false)) (fun _ => false) (y + 1) := by
  refine ⟨fun j z hj hz => (pk_un (by omega)).trans (h.1 j z hj hz), fun z hz => ?_⟩
  by_cases e : z = y
  · subst e; exact pk_us
  · exact (pk_un (by omega)).trans (h.2 z (by omega))
def tq (top : Nat) (td : Nat → Int32) (q : Nat → Nat) : Prop := ∀ i, i < top → td i = mI (q i) ∧ q i ≤ 120
theorem tq.push {top t : Nat} {td : Nat → Int32} {q : Nat → Nat} (h : tq top td q) (ht : t ≤ 120) : tq (top + 1) (upd td top (mI t)) (va_up q top t) := by
  intro i hi
  by_cases e : i = top
  · subst e; rw [va_up_self]; exact ⟨pk_us, ht⟩
  · rw [va_up_ne q t e]; exact ⟨(pk_un e).trans (h i (by omega)).1, (h i (by omega)).2⟩
theorem ntop {t : Nat} (ht : t < 1000) : nI t ≤ 0 ↔ t = 0 := by
  constructor
  · intro h
    by_cases e : t = 0
    · exact e
    · exact absurd h (nI_nle (by omega) (by omega))
  · intro e; subst e; decide
set_option maxHeartbeats 4000000 in
set_option maxRecDepth 100000 in
theorem c_r_isAboveX (l : Launch) (D : va_G) (cI cJ cZ : ClassId) (ad : Nat → Nat) (er : Int32) (n ev : Nat) (r : RA) (x : Nat) (hx0 : x < 120) (M : Nat → Bool) (hM : ∀ y, y < 120 → r.2.2.2.2.2.1 (120 * x + y) = bI (M y)) (y : Nat) (hy0 : y < 120) : PM l D (tys cI cJ cZ) (rL cI cZ ad er n ev r) y_r_isAbove b_r_isAbove 3 (some .boolean) 0 0 [.ref (ad 0), .int (nI y), .int (nI x)] (bI (M y)) := by
  refine PM.of (by decide) (Nat.le_of_ble_eq_true rfl) ?_
  intro p9 e9 s9 m args below meth c9 ls S hr hlocks hP hK hl
  obtain ⟨hx, hb, hml, hown, htc⟩ := id S
  have hl : lv_has ls 3 [(0, .ref (ad 0)), (1, .int (nI y)), (2, .int (nI x))] := hl
  refine lv_aload_n hx hb d_r_isAbove_0 rfl (lv_at hl 0 rfl) ?_
  refine va_get (D := D) (ci := 1) (v := .ref (ad 6)) (C := "SightGraphModel") (T := T_r) (N := 10) hx hb htc in_r hown hK hP 0 rfl rfl 8 (by decide) (htc _ k_2_81) (fun _ h9 => h9) rfl d_r_isAbove_1 ?_
  refine lv_bipush (v := (nI 120)) hx hb d_r_isAbove_4 (by decide) ?_
  refine lv_iload_n hx hb d_r_isAbove_6 rfl (lv_at hl 2 rfl) ?_
  refine nr_imul hx hb d_r_isAbove_7 ?_
  refine lv_iload_n hx hb d_r_isAbove_8 rfl (lv_at hl 1 rfl) ?_
  refine nr_iadd hx hb d_r_isAbove_9 ?_
  refine nr_zald hx hb hK hP 6 2 rfl rfl (by omega) (by decide) (v := (bI (M y))) (hM y (by omega)) d_r_isAbove_10 ?_
  exact PM.zret hx hb hr hlocks d_r_isAbove_11 rfl
set_option maxHeartbeats 4000000 in
set_option maxRecDepth 100000 in
theorem c_r_ways (l : Launch) (D : va_G) (cI cJ cZ : ClassId) (ad : Nat → Nat) (er : Int32) (n ev : Nat) (r : RA) (K : Nat) (hKb : K ≤ 120) (c s o : Nat → Nat) (an ow : Nat → Nat → Bool) (hLw : Lw K n c s o an ow) (hs : ∀ j, j < K → r.2.1 j = mI (s j)) (ho : ∀ j, j < K → r.2.2.1 j = mI (o j)) (x : Nat) (hxK : x < K) : WV (S := RA) l D (tys cI cJ cZ) (rL cI cZ ad er n ev r) (fun u => rL cI cZ ad er n ev u) (fun u => u.1 = r.1 ∧ u.2.1 = r.2.1 ∧ u.2.2.1 = r.2.2.1 ∧ u.2.2.2.1 = r.2.2.2.1 ∧ u.2.2.2.2.2.2 = r.2.2.2.2.2.2 ∧ aR x r.2.2.2.2.2.1 u.2.2.2.2.2.1 (an x) 120) y_r_ways b_r_ways 4 1 22 [.ref (ad 0), .int (nI x)] := by
  refine WV.of (by decide) (Nat.le_of_ble_eq_true rfl) ?_
  intro p9 e9 s9 m args below meth c9 ls A S hr hlocks hA hP hK hD hl
  obtain ⟨hx, hb, hml, hown, htc⟩ := id S
  have hS : va_S A s9.heap s9.heap [] := va_S.rf
  have hl : lv_has ls 4 [(0, .ref (ad 0)), (1, .int (nI x))] := hl
  refine lv_iconst (v := (nI 0)) hx hb d_r_ways_0 (by decide) ?_
  refine lv_istore_n (lv' := [(2, .int (nI 0)), (0, .ref (ad 0)), (1, .int (nI x))]) hx hb d_r_ways_1 rfl hl (by decide) rfl (fun ls hl => ?_)
  have loop1 : ∀ (d1 : Nat) (y : Nat) (f : Nat → Int32) (H : Heap) (locs : List Loc) (ls : Array Slot), 120 - y < d1 → va_P D cls (rL cI cZ ad er n ev (r.1, r.2.1, r.2.2.1, r.2.2.2.1, r.2.2.2.2.1, f, r.2.2.2.2.2.2)) H → va_D A (rL cI cZ ad er n ev (r.1, r.2.1, r.2.2.1, r.2.2.2.1, r.2.2.2.2.1, f, r.2.2.2.2.2.2)) → va_S A s9.heap H locs → y ≤ 120 → aR x r.2.2.2.2.2.1 f (fun _ => false) y → lv_has ls 4 [(2, .int (nI y)), (1, .int (nI x)), (0, .ref (ad 0))] → W p9 l e9 ({ frames := 1, cells := 0, slots := 0, locals := 22 }) s9 m args below meth c9 H locs 0 0 (MQ below (va_Qv (S := RA) (fun u => u.1 = r.1 ∧ u.2.1 = r.2.1 ∧ u.2.2.1 = r.2.2.1 ∧ u.2.2.2.1 = r.2.2.2.1 ∧ u.2.2.2.2.2.2 = r.2.2.2.2.2.2 ∧ aR x r.2.2.2.2.2.1 u.2.2.2.2.2.1 (an x) 120) (wB D (tys cI cJ cZ) (fun u => rL cI cZ ad er n ev u) A) A) args s9 0 0 A) (F0 m 2 ls []) := by
    intro d1
    induction d1 with
    | zero =>
      intro y f H locs ls hd1 hP hD hS hy haR hl
      exact absurd hd1 (by omega)
    | succ d1 ih1 =>
      intro y f H locs ls hd1 hP hD hS hy haR hl
      refine lv_iload_n hx hb d_r_ways_2 rfl (lv_at hl 0 rfl) ?_
      refine lv_bipush (v := (nI 120)) hx hb d_r_ways_3 (by decide) ?_
      refine nr_icmp_ge (tgt := 26) hx hb (by omega) (by omega) d_r_ways_5 (by decide) (fun c_5 => ?_) (fun c_5 => ?_)
      · refine lv_iconst (v := (nI 0)) hx hb d_r_ways_26 (by decide) ?_
        refine lv_istore_n (lv' := [(2, .int (nI 0)), (1, .int (nI x)), (0, .ref (ad 0))]) hx hb d_r_ways_27 rfl hl (by decide) rfl (fun ls hl => ?_)
        refine lv_aload_n hx hb d_r_ways_28 rfl (lv_at hl 2 rfl) ?_
        refine va_get (D := D) (ci := 1) (v := .ref (ad 5)) (C := "SightGraphModel") (T := T_r) (N := 10) hx hb htc in_r hown hK hP 0 rfl rfl 7 (by decide) (htc _ k_2_80) (fun _ h9 => h9) rfl d_r_ways_29 ?_
        refine lv_iload_n hx hb d_r_ways_32 rfl (lv_at hl 0 rfl) ?_
        refine lv_iinc (v := (nI (0 + 1))) (lv' := [(2, .int (nI (0 + 1))), (1, .int (nI x)), (0, .ref (ad 0))]) hx hb d_r_ways_33 hl (k := 0) rfl (nI_add 0 1) (by decide) rfl (fun ls hl => ?_)
        refine lv_iload_n hx hb d_r_ways_36 rfl (lv_at hl 1 rfl) ?_
        refine nr_top (w := .int (mI (x + 1))) rfl ?_
        refine nr_iast hx hb hK hP hD hS 5 0 rfl rfl (by omega) (by decide) d_r_ways_37 (fun H locs hP hD hS => ?_)
        have hP : va_P D cls (rL cI cZ ad er n ev (r.1, r.2.1, r.2.2.1, r.2.2.2.1, upd r.2.2.2.2.1 0 (mI (x + 1)), f, r.2.2.2.2.2.2)) H := hP
        have hD : va_D A (rL cI cZ ad er n ev (r.1, r.2.1, r.2.2.1, r.2.2.2.1, upd r.2.2.2.2.1 0 (mI (x + 1)), f, r.2.2.2.2.2.2)) := hD
        have loop2 : ∀ (d2 : Nat) (top : Nat) (q : Nat → Nat) (M : Nat → Bool) (td f : Nat → Int32) (H : Heap) (locs : List Loc) (ls : Array Slot), 3 * (120 - cn 120 M) + top < d2 → va_P D cls (rL cI cZ ad er n ev (r.1, r.2.1, r.2.2.1, r.2.2.2.1, td, f, r.2.2.2.2.2.2)) H → va_D A (rL cI cZ ad er n ev (r.1, r.2.1, r.2.2.1, r.2.2.2.1, td, f, r.2.2.2.2.2.2)) → va_S A s9.heap H locs → aR x r.2.2.2.2.2.1 f M 120 → DF x s o an top q M → tq top td q → lv_has ls 4 [(2, .int (nI top)), (1, .int (nI x)), (0, .ref (ad 0))] → W p9 l e9 ({ frames := 1, cells := 0, slots := 0, locals := 22 }) s9 m args below meth c9 H locs 0 0 (MQ below (va_Qv (S := RA) (fun u => u.1 = r.1 ∧ u.2.1 = r.2.1 ∧ u.2.2.1 = r.2.2.1 ∧ u.2.2.2.1 = r.2.2.2.1 ∧ u.2.2.2.2.2.2 = r.2.2.2.2.2.2 ∧ aR x r.2.2.2.2.2.1 u.2.2.2.2.2.1 (an x) 120) (wB D (tys cI cJ cZ) (fun u => rL cI cZ ad er n ev u) A) A) args s9 0 0 A) (F0 m 38 ls []) := by
          intro d2
          induction d2 with
          | zero =>
            intro top q M td f H locs ls hd2 hP hD hS haR hdf htq hl
            exact absurd hd2 (by omega)
          | succ d2 ih2 =>
            intro top q M td f H locs ls hd2 hP hD hS haR hdf htq hl
            have htp9 := hdf.2.2.2.2
            have hcn9 := cn_le 120 M
            refine lv_iload_n hx hb d_r_ways_38 rfl (lv_at hl 0 rfl) ?_
            refine lv_if_le (tgt := 113) hx hb d_r_ways_39 (by decide) (fun c_39 => ?_) (fun c_39 => ?_)
            · exact WV.ret hx hb hr hlocks hK hS d_r_ways_113 (r.1, r.2.1, r.2.2.1, r.2.2.2.1, td, f, r.2.2.2.2.2.2) (by have e0 : top = 0 := (ntop (by omega)).mp c_39; subst e0; exact ⟨rfl, rfl, rfl, rfl, rfl, haR.1, fun y hy => by rw [← hdf.done hLw hxK y]; exact haR.2 y hy⟩) hP hD
            · obtain ⟨tp, rfl⟩ : ∃ tp, top = tp + 1 := ⟨top - 1, by have q : ¬ top = 0 := (fun z => c_39 ((ntop (by omega)).mpr z)); omega⟩
              obtain ⟨hq1, hq2⟩ := htq tp (by omega)
              refine lv_aload_n hx hb d_r_ways_42 rfl (lv_at hl 2 rfl) ?_
              refine va_get (D := D) (ci := 1) (v := .ref (ad 5)) (C := "SightGraphModel") (T := T_r) (N := 10) hx hb htc in_r hown hK hP 0 rfl rfl 7 (by decide) (htc _ k_2_80) (fun _ h9 => h9) rfl d_r_ways_43 ?_
              refine lv_iinc (v := (nI tp)) (lv' := [(2, .int (nI tp)), (1, .int (nI x)), (0, .ref (ad 0))]) hx hb d_r_ways_46 hl (k := 0) rfl (pk_m1 tp) (by decide) rfl (fun ls hl => ?_)
              refine lv_iload_n hx hb d_r_ways_49 rfl (lv_at hl 0 rfl) ?_
              refine nr_iald hx hb hK hP 5 0 rfl rfl (by omega) (by decide) (v := (mI (q tp))) hq1 d_r_ways_50 ?_
              refine lv_istore_n (lv' := [(3, .int (mI (q tp))), (2, .int (nI tp)), (1, .int (nI x)), (0, .ref (ad 0))]) hx hb d_r_ways_51 rfl hl (by decide) rfl (fun ls hl => ?_)
              refine lv_iload_n hx hb d_r_ways_52 rfl (lv_at hl 0 rfl) ?_
              refine nr_iflt_m (tgt := 38) hx hb (by omega) d_r_ways_53 (by decide) (fun c_53 => ?_) (fun c_53 => ?_)
              · exact ih2 tp q M td f H locs ls (by omega) hP hD hS haR (hdf.pop (Or.inl c_53)) (fun i hi => htq i (by omega)) (lv_sub hl [1, 2, 3] rfl)
              · obtain ⟨y0, hy0⟩ : ∃ y0, q tp = y0 + 1 := ⟨q tp - 1, by omega⟩
                have hl : lv_has ls 4 [(3, .int (nI y0)), (2, .int (nI tp)), (1, .int (nI x)), (0, .ref (ad 0))] := by rw [hy0] at hl; exact hl
                have hay := hdf.2.1 tp (by omega) (by omega)
                have hyx := hLw.an_le x hxK (q tp - 1) hay
                refine lv_aload_n hx hb d_r_ways_56 rfl (lv_at hl 3 rfl) ?_
                refine lv_iload_n hx hb d_r_ways_57 rfl (lv_at hl 0 rfl) ?_
                refine lv_iload_n hx hb d_r_ways_58 rfl (lv_at hl 2 rfl) ?_
                refine PM.callV (rest := []) S (c_r_isAboveX l D cI cJ cZ ad er n ev (r.1, r.2.1, r.2.2.1, r.2.2.2.1, td, f, r.2.2.2.2.2.2) x (by omega) M haR.2 y0 (by omega)) k_2_134 k_2_136 k_s_23 k_1_2 k_2_137 h_r_isAbove ⟨Nat.le_of_ble_eq_true rfl, Nat.le_of_ble_eq_true rfl⟩ ⟨Nat.le_of_ble_eq_true rfl, Nat.le_of_ble_eq_true rfl⟩ hP hK 0 1 rfl rfl rfl hl.1 (Nat.le_of_ble_eq_true rfl) rfl d_r_ways_59 ?_
                refine nr_ifeq_b (tgt := 68) hx hb d_r_ways_62 (by decide) (fun c_62 => ?_) (fun c_62 => ?_)
                · obtain ⟨hdf2, hyx2⟩ := hdf.mark hLw hxK hKb hy0 c_62
                  have hcl := cn_lt (show y0 < 120 by omega) c_62
                  have hcu := cn_up (show y0 < 120 by omega) c_62
                  have htop := hdf.2.2.2.2
                  obtain ⟨-, hs0, ho0, -⟩ := hLw y0 (by omega)
                  refine lv_aload_n hx hb d_r_ways_68 rfl (lv_at hl 3 rfl) ?_
                  refine va_get (D := D) (ci := 1) (v := .ref (ad 6)) (C := "SightGraphModel") (T := T_r) (N := 10) hx hb htc in_r hown hK hP 0 rfl rfl 8 (by decide) (htc _ k_2_81) (fun _ h9 => h9) rfl d_r_ways_69 ?_
                  refine lv_bipush (v := (nI 120)) hx hb d_r_ways_72 (by decide) ?_
                  refine lv_iload_n hx hb d_r_ways_74 rfl (lv_at hl 2 rfl) ?_
                  refine nr_imul hx hb d_r_ways_75 ?_
                  refine lv_iload_n hx hb d_r_ways_76 rfl (lv_at hl 0 rfl) ?_
                  refine nr_iadd hx hb d_r_ways_77 ?_
                  refine lv_iconst (v := (nI 1)) hx hb d_r_ways_78 (by decide) ?_
                  refine nr_top (w := .int (bI true)) rfl ?_
                  refine nr_zast hx hb hK hP hD hS 6 2 rfl rfl (by omega) (by decide) d_r_ways_79 (fun H locs hP hD hS => ?_)
                  have hP : va_P D cls (rL cI cZ ad er n ev (r.1, r.2.1, r.2.2.1, r.2.2.2.1, td, upd f ((120 * x) + y0) (bI true), r.2.2.2.2.2.2)) H := hP
                  have hD : va_D A (rL cI cZ ad er n ev (r.1, r.2.1, r.2.2.1, r.2.2.2.1, td, upd f ((120 * x) + y0) (bI true), r.2.2.2.2.2.2)) := hD
                  refine lv_aload_n hx hb d_r_ways_80 rfl (lv_at hl 3 rfl) ?_
                  refine va_get (D := D) (ci := 1) (v := .ref (ad 5)) (C := "SightGraphModel") (T := T_r) (N := 10) hx hb htc in_r hown hK hP 0 rfl rfl 7 (by decide) (htc _ k_2_80) (fun _ h9 => h9) rfl d_r_ways_81 ?_
                  refine lv_iload_n hx hb d_r_ways_84 rfl (lv_at hl 1 rfl) ?_
                  refine lv_iinc (v := (nI (tp + 1))) (lv' := [(2, .int (nI (tp + 1))), (3, .int (nI y0)), (1, .int (nI x)), (0, .ref (ad 0))]) hx hb d_r_ways_85 hl (k := 1) rfl (nI_add tp 1) (by decide) rfl (fun ls hl => ?_)
                  refine lv_aload_n hx hb d_r_ways_88 rfl (lv_at hl 3 rfl) ?_
                  refine va_get (D := D) (ci := 1) (v := .ref (ad 2)) (C := "SightGraphModel") (T := T_r) (N := 10) hx hb htc in_r hown hK hP 0 rfl rfl 4 (by decide) (htc _ k_2_77) (fun _ h9 => h9) rfl d_r_ways_89 ?_
                  refine lv_iload_n hx hb d_r_ways_92 rfl (lv_at hl 1 rfl) ?_
                  refine nr_iald hx hb hK hP 2 0 rfl rfl (by omega) (by decide) (v := (mI (s y0))) (hs y0 (by omega)) d_r_ways_93 ?_
                  refine nr_iast hx hb hK hP hD hS 5 0 rfl rfl (by omega) (by decide) d_r_ways_94 (fun H locs hP hD hS => ?_)
                  have hP : va_P D cls (rL cI cZ ad er n ev (r.1, r.2.1, r.2.2.1, r.2.2.2.1, upd td tp (mI (s y0)), upd f ((120 * x) + y0) (bI true), r.2.2.2.2.2.2)) H := hP
                  have hD : va_D A (rL cI cZ ad er n ev (r.1, r.2.1, r.2.2.1, r.2.2.2.1, upd td tp (mI (s y0)), upd f ((120 * x) + y0) (bI true), r.2.2.2.2.2.2)) := hD
                  refine lv_aload_n hx hb d_r_ways_95 rfl (lv_at hl 3 rfl) ?_
                  refine va_get (D := D) (ci := 1) (v := .ref (ad 5)) (C := "SightGraphModel") (T := T_r) (N := 10) hx hb htc in_r hown hK hP 0 rfl rfl 7 (by decide) (htc _ k_2_80) (fun _ h9 => h9) rfl d_r_ways_96 ?_
                  refine lv_iload_n hx hb d_r_ways_99 rfl (lv_at hl 0 rfl) ?_
                  refine lv_iinc (v := (nI ((tp + 1) + 1))) (lv' := [(2, .int (nI ((tp + 1) + 1))), (3, .int (nI y0)), (1, .int (nI x)), (0, .ref (ad 0))]) hx hb d_r_ways_100 hl (k := 0) rfl (nI_add (tp + 1) 1) (by decide) rfl (fun ls hl => ?_)
                  refine lv_aload_n hx hb d_r_ways_103 rfl (lv_at hl 3 rfl) ?_
                  refine va_get (D := D) (ci := 1) (v := .ref (ad 3)) (C := "SightGraphModel") (T := T_r) (N := 10) hx hb htc in_r hown hK hP 0 rfl rfl 5 (by decide) (htc _ k_2_78) (fun _ h9 => h9) rfl d_r_ways_104 ?_
                  refine lv_iload_n hx hb d_r_ways_107 rfl (lv_at hl 1 rfl) ?_
                  refine nr_iald hx hb hK hP 3 0 rfl rfl (by omega) (by decide) (v := (mI (o y0))) (ho y0 (by omega)) d_r_ways_108 ?_
                  refine nr_iast hx hb hK hP hD hS 5 0 rfl rfl (by omega) (by decide) d_r_ways_109 (fun H locs hP hD hS => ?_)
                  have hP : va_P D cls (rL cI cZ ad er n ev (r.1, r.2.1, r.2.2.1, r.2.2.2.1, upd (upd td tp (mI (s y0))) (tp + 1) (mI (o y0)), upd f ((120 * x) + y0) (bI true), r.2.2.2.2.2.2)) H := hP
                  have hD : va_D A (rL cI cZ ad er n ev (r.1, r.2.1, r.2.2.1, r.2.2.2.1, upd (upd td tp (mI (s y0))) (tp + 1) (mI (o y0)), upd f ((120 * x) + y0) (bI true), r.2.2.2.2.2.2)) := hD
                  refine lv_goto (tgt := 38) hx hb d_r_ways_110 (by decide) ?_
                  exact ih2 (tp + 2) _ (va_up M y0 true) (upd (upd td tp (mI (s y0))) (tp + 1) (mI (o y0))) (upd f ((120 * x) + y0) (bI true)) H locs ls (by omega) hP hD hS (haR.put (by omega)) hdf2 ((tq.push (tq.push (fun i hi => htq i (by omega)) (by omega)) (by omega))) (lv_sub hl [0, 2, 3] rfl)
                · refine lv_goto (tgt := 38) hx hb d_r_ways_65 (by decide) ?_
                  exact ih2 tp q M td f H locs ls (by omega) hP hD hS haR (hdf.pop (Or.inr (by rw [hy0]; exact c_62))) (fun i hi => htq i (by omega)) (lv_sub hl [1, 2, 3] rfl)
        exact loop2 1000 1 (fun _ => x + 1) (fun _ => false) (upd r.2.2.2.2.1 0 (mI (x + 1))) f _ _ ls (by have := cn_le 120 (fun _ => false); omega) hP hD hS (by rw [show y = 120 by omega] at haR; exact haR) (DF.start hLw hxK) (fun i hi => by rw [show i = 0 by omega]; exact ⟨pk_us, (show x + 1 ≤ 120 by omega)⟩) (lv_sub hl [0, 1, 2] rfl)
      · refine lv_aload_n hx hb d_r_ways_8 rfl (lv_at hl 2 rfl) ?_
        refine va_get (D := D) (ci := 1) (v := .ref (ad 6)) (C := "SightGraphModel") (T := T_r) (N := 10) hx hb htc in_r hown hK hP 0 rfl rfl 8 (by decide) (htc _ k_2_81) (fun _ h9 => h9) rfl d_r_ways_9 ?_
        refine lv_bipush (v := (nI 120)) hx hb d_r_ways_12 (by decide) ?_
        refine lv_iload_n hx hb d_r_ways_14 rfl (lv_at hl 1 rfl) ?_
        refine nr_imul hx hb d_r_ways_15 ?_
        refine lv_iload_n hx hb d_r_ways_16 rfl (lv_at hl 0 rfl) ?_
        refine nr_iadd hx hb d_r_ways_17 ?_
        refine lv_iconst (v := (nI 0)) hx hb d_r_ways_18 (by decide) ?_
        refine nr_top (w := .int (bI false)) rfl ?_
        refine nr_zast hx hb hK hP hD hS 6 2 rfl rfl (by omega) (by decide) d_r_ways_19 (fun H locs hP hD hS => ?_)
        have hP : va_P D cls (rL cI cZ ad er n ev (r.1, r.2.1, r.2.2.1, r.2.2.2.1, r.2.2.2.2.1, upd f ((120 * x) + y) (bI false), r.2.2.2.2.2.2)) H := hP
        have hD : va_D A (rL cI cZ ad er n ev (r.1, r.2.1, r.2.2.1, r.2.2.2.1, r.2.2.2.2.1, upd f ((120 * x) + y) (bI false), r.2.2.2.2.2.2)) := hD
        refine lv_iinc (v := (nI (y + 1))) (lv' := [(2, .int (nI (y + 1))), (1, .int (nI x)), (0, .ref (ad 0))]) hx hb d_r_ways_20 hl (k := 0) rfl (nI_add y 1) (by decide) rfl (fun ls hl => ?_)
        refine lv_goto (tgt := 2) hx hb d_r_ways_23 (by decide) ?_
        exact ih1 (y + 1) _ H locs ls (by omega) hP hD hS (by omega) (haR.clr (by omega)) (lv_sub hl [0, 1, 2] rfl)
  exact loop1 121 0 r.2.2.2.2.2.1 _ _ ls (by omega) hP hD hS (by omega) ⟨fun _ _ _ _ => rfl, fun _ h => by omega⟩ (lv_sub hl [0, 2, 1] rfl)
end
