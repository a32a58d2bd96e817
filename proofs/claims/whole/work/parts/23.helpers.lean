/-! the law's helpers: a call of the class between try and catch -/
theorem cw_SW {own : String} {idx : Nat} {y : MethodName} {bs : ByteArray} {mL : Nat} {ret : Option FieldType} {hh : List (Nat × Nat × Nat × Nat)} (k1 : Cond.methodLink own idx y ∈ Cw) (k2 : Cond.static y ∈ Cw) (k4 : Cond.initialized y.cls ∈ Cw) (k5 : Cond.codeWith y bs mL ret hh ∈ Cw) : GoodIn Cw (va_wsS own idx y (Cond.codeWith y bs mL ret hh :: Cw)) := by
  have g : ∀ w ∈ Cw, w ∈ Cw ∧ ((w.onTables && w.keeps) = true ∨ ∃ ty, w = .arrayClass ty) := fun w h => ⟨h, good_of_word (List.mem_filter.mp h).2⟩
  intro w hw
  simp only [va_wsS, List.cons_append, List.nil_append, List.mem_cons] at hw
  rcases hw with rfl | rfl | rfl | rfl | hw
  · exact g _ k1
  · exact g _ k2
  · exact g _ k4
  · exact g _ k5
  · exact g _ hw
/-- a helper that writes -/
def HI {S : Type} (l : Launch) (D : va_G) (tys : List (ClassId × FieldType)) (ws : va_W) (w' : S → va_W) (post : Int32 → S → Prop) (y : MethodName) (bs : ByteArray) (mL : Nat) (hh : List (Nat × Nat × Nat × Nat)) (f lo : Nat) (av : List Value) : Prop :=
  ∀ sz : Nat, Met l y (Cond.codeWith y bs mL (some .int) hh :: Cw) ({ frames := f, cells := 0, slots := 0, locals := lo }) (va_Pc av (wS D tys ws sz)) (va_Qi post (wB D tys w' (va_A ws sz)) (va_A ws sz)) 0 0 (va_A ws sz)
theorem HI.of {S : Type} {l : Launch} {D : va_G} {tys : List (ClassId × FieldType)} {ws : va_W} {w' : S → va_W} {post : Int32 → S → Prop} {y : MethodName} {bs : ByteArray} {mL : Nat} {hh : List (Nat × Nat × Nat × Nat)} {f lo : Nat} {av : List Value} (hy : plainName y.cls = true) (hn : (lg_sl av).length ≤ mL)
    (body : ∀ (p : Program) (e : Env) (s : State) (m : MethodId) (args : Array Value) (below : List Frame) (meth : Method) (c : Code) (ls : Array Slot) (A : Nat → Prop), CallFix p m c bs mL s args Cw y.cls → meth.sig.returnType = some .int → meth.locks = false → (∀ q : Nat, s.heap.size ≤ q → A q) → va_P D cls ws s.heap → va_K D cls tys s → va_D A ws → lv_has ls mL (lv_args 0 av) →
      W p l e ({ frames := f, cells := 0, slots := 0, locals := lo }) s m args below meth c s.heap [] 0 0 (MQ below (va_Qi post (wB D tys w' A) A) args s 0 0 A) (F0 m 0 ls [])) : HI l D tys ws w' post y bs mL hh f lo av := by
  intro sz
  refine va_MetW (cc := bs) (maxL := mL) (ret := some .int) (hh := hh) hy rfl ?_
  intro p e s m args below meth c s₁ B hml hv
  obtain ⟨rfl, hsz, ⟨hP, hK⟩, hD0⟩ := hv
  subst hsz
  have hD := hD0.self (sz := s.heap.size)
  have hts := atoms_spec (ws := Cond.codeWith y bs mL (some .int) hh :: Cw) B.pre
  have hl := lv_entry av (n := mL) hn
  rw [lg_entry_eq]
  exact body p e s m _ below meth c _ (va_A ws s.heap.size) ⟨B.exec, B.bytes, hml, findClass_of_methodNamed B.named, fun w hw => hts w (List.mem_cons_of_mem _ hw)⟩ B.returns B.notSynchronized (fun q h => Or.inr h) hP hK hD hl
/-- old cells as they were, one more, the answer v -/
def QX (v : Int32) : Array Value → State → Outcome → State → Prop := fun _ st o t => o = .returned (some (.int v)) ∧ st.heap.size ≤ t.heap.size ∧ ∀ q : Nat, q < st.heap.size → t.heap[q]? = st.heap[q]?
def wx9 (D : va_G) (tys : List (ClassId × FieldType)) (ws : va_W) (sa : Nat → Nat) (U : State) : Prop := wt9 D tys ws sa U ∧ va_Nc "java/lang/IndexOutOfBoundsException" "java/lang/IllegalArgumentException" U
theorem wx9_blind {D : va_G} {tys : List (ClassId × FieldType)} {ws : va_W} {sa : Nat → Nat} {av : List Value} : FrameBlind (va_Pc av (wx9 D tys ws sa)) := fun a U g mk q => ⟨q.1, (wt9_blind (av := av) a U g mk ⟨q.1, q.2.1⟩).2, va_Nc.moved (u := U) (U := U.calling g mk a) (Vm.Alike.refl U.vm) q.2.2⟩
/-- a helper that catches: it answers v -/
def HX (l : Launch) (D : va_G) (tys : List (ClassId × FieldType)) (ws : va_W) (sa : Nat → Nat) (y : MethodName) (bs : ByteArray) (mL : Nat) (hh : List (Nat × Nat × Nat × Nat)) (f lo : Nat) (av : List Value) (v : Int32) : Prop :=
  Met l y (Cond.codeWith y bs mL (some .int) hh :: Cw) ({ frames := f, cells := 1, slots := 6, locals := lo }) (va_Pc av (wx9 D tys ws sa)) (QX v) 1 6 nofree
theorem HX.of {l : Launch} {D : va_G} {tys : List (ClassId × FieldType)} {ws : va_W} {sa : Nat → Nat} {y : MethodName} {bs : ByteArray} {mL : Nat} {hh : List (Nat × Nat × Nat × Nat)} {f lo : Nat} {av : List Value} {v : Int32} (hy : plainName y.cls = true) (hn : (lg_sl av).length ≤ mL)
    (body : ∀ (p : Program) (e : Env) (s : State) (m : MethodId) (args : Array Value) (below : List Frame) (meth : Method) (c : Code) (ls : Array Slot), CallFix p m c bs mL s args Cw y.cls → meth.sig.returnType = some .int → meth.locks = false → c.exceptionTable.toList = tableOf hh → va_P D cls ws s.heap → va_K D cls tys s → TE noA sa s s.heap → va_Nc "java/lang/IndexOutOfBoundsException" "java/lang/IllegalArgumentException" s → lv_has ls mL (lv_args 0 av) →
      W p l e ({ frames := f, cells := 1, slots := 6, locals := lo }) s m args below meth c s.heap [] 0 0 (MQ below (QX v) args s 1 6 nofree) (F0 m 0 ls [])) : HX l D tys ws sa y bs mL hh f lo av v := by
  refine va_MetW (cc := bs) (maxL := mL) (ret := some .int) (hh := hh) hy rfl ?_
  intro p e s m args below meth c s₁ B hml hv
  obtain ⟨rfl, ⟨⟨hP, hK⟩, hTE⟩, hNc⟩ := hv
  have hts := atoms_spec (ws := Cond.codeWith y bs mL (some .int) hh :: Cw) B.pre
  have hl := lv_entry av (n := mL) hn
  rw [lg_entry_eq]
  exact body p e s m _ below meth c _ ⟨B.exec, B.bytes, hml, findClass_of_methodNamed B.named, fun w hw => hts w (List.mem_cons_of_mem _ hw)⟩ B.returns B.notSynchronized (vx_table (x := y) B (hts _ List.mem_cons_self)) hP hK hTE hNc hl
section HXR
variable {p : Program} {l : Launch} {e : Env} {R : Room} {s : State} {m : MethodId} {args : Array Value} {below : List Frame} {meth : Method} {c : Code} {H : Heap} {locs : List Loc} {cells slots : Nat} {Q : State → Prop}
variable {cc : ByteArray} {pc : Nat} {ls : Array Slot} {rest st : List Value}
/-- the class throws, the table's row takes it -/
theorem HX.catch {D : va_G} {tys : List (ClassId × FieldType)} {wc : va_W} {sa : Nat → Nat} {nL : Nat} {y : MethodName} {bs : ByteArray} {mL : Nat} {ret : Option FieldType} {f lo b idx : Nat} {As : List Value} {E : String} (S : CallFix p m c cc nL s args Cw "SightGraphLaw") (hM : XT l D tys wc sa y bs mL ret f lo (.ref b :: As) E)
    (k1 : Cond.methodLink "SightGraphLaw" idx y ∈ Cw) (k2 : Cond.instanceMethod y ∈ Cw) (k3 : Cond.selects y.cls y y ∈ Cw) (k4 : Cond.initialized y.cls ∈ Cw) (k5 : Cond.code y bs mL ret ∈ Cw) (hd : y.cls ≠ "java/lang/invoke/MethodHandle" ∧ y.cls ≠ "java/lang/invoke/VarHandle" ∧ (parseMethodDescriptor y.desc).map (fun d => d.parameters.length) = some As.length)
    (hR : f + 1 ≤ R.frames ∧ 8 + (mL + 11) + lo ≤ R.locals) (hf : 1 ≤ R.cells ∧ 6 ≤ R.slots) (hP : va_P D cls wc s.heap) (hK : va_K D cls tys s) (hTE : TE noA sa s s.heap) (q0 ci : Nat) {q : vw_C} {fs : List Value} (hc : cls[ci]? = some q) (hq : q.1 = y.cls) (he : wc[q0]? = some (b, .inr (ci, fs)))
    (hl : ls.size = nL) (hrest : (rest.map fun v => v.category).sum ≤ 8) (hst : st = As.reverse ++ .ref b :: rest) (d : decode cc pc = .ok (.invokevirtual idx, 3))
    (pre : List ExceptionTableEntry) (x : ExceptionTableEntry) (suf : List ExceptionTableEntry) (hsplit : c.exceptionTable.toList = pre ++ x :: suf) (hpass : ∀ z ∈ pre, covers z pc = false ∨ (z.catchType ≠ 0 ∧ ∃ nm : String, (Cond.classLink "SightGraphLaw" z.catchType nm).before args s = true ∧ va_Nc E nm s)) (hx : covers x pc = true) (h0 : x.catchType ≠ 0) (hlink : Cond.classLink "SightGraphLaw" x.catchType E ∈ Cw) (hcast : Cond.castable E E ∈ BW)
    (k : ∀ (q9 : Nat) (H1 : Heap) (locs1 : List Loc), s.heap.size ≤ H1.size → (∀ j : Nat, j < s.heap.size → H1[j]? = s.heap[j]?) → (∀ z ∈ locs1, nofree z.base) → W p l e R s m args below meth c H1 locs1 (0 + 1) (0 + 6) Q (F0 m x.handlerPc ls [.ref q9])) : W p l e R s m args below meth c s.heap [] 0 0 Q (F0 m pc ls st) := by
  intro T hT X
  have hr := vx_runV (p := p) (l := l) (e := e) (R := R) (below := below) (meth := meth) (H := s.heap) (locs := []) (cells := 0) (slots := 0) (g := F0 m pc ls st) (As := As) (rest := rest) (b := b) S hM (cwV As.length S.2.2.2.2 (cw_V k1 k2 k3 k4 k5) rfl rfl rfl ⟨rfl, hd⟩ hR) ⟨wt9_blind, by rw [← hq]; exact va_recv hK hP hc he, fun U hU hW => ⟨rfl, ⟨by rw [hU]; exact hP, va_K.moved hW.alike hK⟩, by rw [hU]; exact TE.warm hW hTE⟩⟩ rfl rfl hl hst (lv_room hrest) d (by simpa using hf)
  rcases hr T hT X with ⟨v, st₀, t, T', L, h0', X', hL, e1, e2, hq9, stp⟩ | ⟨q9, st₀, t, T', L, E', ce, h0', X', hL, e1, e2, ⟨hE, hz, hk⟩, hce, hcv, hcl, stp⟩
  · exact hq9.elim
  · subst hE
    have ho := vx_catch (p := p) (l := l) (e := e) (R := R) (s := s) (m := m) (args := args) (below := below) (meth := meth) (c := c) (H := T'.heap) (locs := [] ++ L) (cells := 0 + 1) (slots := 0 + 6) (Q := Q) (ls := ls) (rest := rest) (pc := pc) (ce := ce) (q := q9) S.2.2.2.1 pre x suf hsplit hpass hx h0 (S.2.2.2.2 _ hlink) (BW_use hTE.2.1 _ hcast) (by rw [e1]; exact hce) hcv hcl
      (k q9 T'.heap ([] ++ L) (by rw [e1, ← h0']; exact hz) (fun j hj => by rw [e1, ← h0']; exact hk j (by rw [h0']; exact hj)) (fun z hz9 => hL z (by simpa using hz9)))
    obtain ⟨t2, a1, b1⟩ := ho T' rfl X'
    exact ⟨t2, stp.trans a1, b1⟩
theorem HX.ret {v v' : Int32} (hx : p.tables.exec = Jvm.exec) (hb : c.code = cc) (hr : meth.sig.returnType = some .int) (hlocks : meth.locks = false) (hz : s.heap.size ≤ H.size) (hk : ∀ j : Nat, j < s.heap.size → H[j]? = s.heap[j]?) (hL : ∀ z ∈ locs, nofree z.base) (d : decode cc pc = .ok (.ireturn, 1)) (hv : v' = v) : W p l e R s m args below meth c H locs (0 + 1) (0 + 6) (MQ below (QX v) args s 1 6 nofree) (F0 m pc ls [.int v']) :=
  W.iret (v := v') hx hb hr (fun t ht _ => ⟨by rw [hv], by rw [ht]; exact hz, fun j hj => by rw [ht]; exact hk j hj⟩) hL d hlocks
end HXR
def gO (cI cJ : ClassId) (ad : Nat → Nat) (oa n ev : Nat) (g : GA) (w : Nat → Int64) : va_W := gL cI cJ ad n ev g ++ [(oa, .inl (cJ, 1, .inr (.inl w)))]
def bL (b : Bool) : Int64 := if b then 1 else 0
set_option maxHeartbeats 4000000 in
set_option maxRecDepth 100000 in
theorem c_l_begin_x (l : Launch) (D : va_G) (cI cJ cZ : ClassId) (ad : Nat → Nat) (n ev : Nat) (g : GA) (sa : Nat → Nat) (x : Int32) (hM : XT l D (tys cI cJ cZ) (gL cI cJ ad n ev g) sa y_g_begin b_g_begin 2 none 6 82 [.ref (ad 0), .int x] "java/lang/IllegalArgumentException") : HX l D (tys cI cJ cZ) (gL cI cJ ad n ev g) sa y_l_begin b_l_begin 3 [(0, 5, 8, 13)] 7 103 [.ref (ad 0), .int x] (nI 1) := by
  refine HX.of (by decide) (Nat.le_of_ble_eq_true rfl) ?_
  intro p9 e9 s9 m args below meth c9 ls S hr hlocks ht hP hK hTE hNc hl
  obtain ⟨hx, hb, hml, hown, htc⟩ := id S
  have hl : lv_has ls 3 [(0, .ref (ad 0)), (1, .int x)] := hl
  refine lv_aload_n hx hb d_l_begin_0 rfl (lv_at hl 0 rfl) ?_
  refine lv_iload_n hx hb d_l_begin_1 rfl (lv_at hl 1 rfl) ?_
  refine HX.catch (rest := []) S hM k_1_49 k_1_50 k_1_51 k_1_1 k_1_52 h_g_begin ⟨Nat.le_of_ble_eq_true rfl, Nat.le_of_ble_eq_true rfl⟩ ⟨Nat.le_of_ble_eq_true rfl, Nat.le_of_ble_eq_true rfl⟩ hP hK hTE 0 0 rfl rfl rfl hl.1 (Nat.le_of_ble_eq_true rfl) rfl d_l_begin_2 [] ⟨0, 5, 8, 13⟩ [] ht (fun z hz => absurd hz List.not_mem_nil) (by decide) (by decide) k_1_48 (by decide +kernel) (fun q9 H locs hz9 hk9 hL9 => ?_)
  refine lv_astore_n (lv' := [(2, .ref q9), (0, .ref (ad 0)), (1, .int x)]) hx hb d_l_begin_8 rfl hl (by decide) rfl (fun ls hl => ?_)
  refine lv_iconst (v := (nI 1)) hx hb d_l_begin_9 (by decide) ?_
  exact HX.ret hx hb hr hlocks hz9 hk9 hL9 d_l_begin_10 rfl
set_option maxHeartbeats 4000000 in
set_option maxRecDepth 100000 in
theorem c_l_event_x1 (l : Launch) (D : va_G) (cI cJ cZ : ClassId) (ad : Nat → Nat) (n ev : Nat) (g : GA) (oa : Nat) (w : Nat → Int64) (sa : Nat → Nat) (x y z : Int32) (hM : XT l D (tys cI cJ cZ) (gL cI cJ ad n ev g) sa y_g_event b_g_event 5 (some .int) 7 103 [.ref (ad 0), .int x, .int y, .int z] "java/lang/IllegalArgumentException") : HX l D (tys cI cJ cZ) (gO cI cJ ad oa n ev g w) sa y_l_event b_l_event 6 [(0, 12, 15, 13), (0, 12, 19, 19)] 8 127 [.ref (ad 0), .int x, .int y, .int z, .ref oa] (nI 1) := by
  refine HX.of (by decide) (Nat.le_of_ble_eq_true rfl) ?_
  intro p9 e9 s9 m args below meth c9 ls S hr hlocks ht hP hK hTE hNc hl
  obtain ⟨hx, hb, hml, hown, htc⟩ := id S
  have hl : lv_has ls 6 [(0, .ref (ad 0)), (1, .int x), (2, .int y), (3, .int z), (4, .ref oa)] := hl
  refine lv_aload hx hb d_l_event_0 (lv_at hl 4 rfl) ?_
  refine lv_iconst (v := (nI 0)) hx hb d_l_event_2 (by decide) ?_
  refine lv_aload_n hx hb d_l_event_3 rfl (lv_at hl 0 rfl) ?_
  refine lv_iload_n hx hb d_l_event_4 rfl (lv_at hl 1 rfl) ?_
  refine lv_iload_n hx hb d_l_event_5 rfl (lv_at hl 2 rfl) ?_
  refine lv_iload_n hx hb d_l_event_6 rfl (lv_at hl 3 rfl) ?_
  refine HX.catch (rest := [.int (nI 0), .ref oa]) S hM k_1_124 k_1_125 k_1_126 k_1_1 k_1_127 h_g_event ⟨Nat.le_of_ble_eq_true rfl, Nat.le_of_ble_eq_true rfl⟩ ⟨Nat.le_of_ble_eq_true rfl, Nat.le_of_ble_eq_true rfl⟩ (hP.sub (ws' := gL cI cJ ad n ev g) [0, 1, 2, 3, 4, 5, 6] rfl) hK hTE 0 0 rfl rfl rfl hl.1 (Nat.le_of_ble_eq_true rfl) rfl d_l_event_7 [] ⟨0, 12, 15, 13⟩ [⟨0, 12, 19, 19⟩] ht (fun z hz => absurd hz List.not_mem_nil) (by decide) (by decide) k_1_48 (by decide +kernel) (fun q9 H locs hz9 hk9 hL9 => ?_)
  refine lv_astore (lv' := [(5, .ref q9), (0, .ref (ad 0)), (1, .int x), (2, .int y), (3, .int z), (4, .ref oa)]) hx hb d_l_event_15 hl (by decide) rfl (fun ls hl => ?_)
  refine lv_iconst (v := (nI 1)) hx hb d_l_event_17 (by decide) ?_
  exact HX.ret hx hb hr hlocks hz9 hk9 hL9 d_l_event_18 rfl
set_option maxHeartbeats 4000000 in
set_option maxRecDepth 100000 in
theorem c_l_event_x2 (l : Launch) (D : va_G) (cI cJ cZ : ClassId) (ad : Nat → Nat) (n ev : Nat) (g : GA) (oa : Nat) (w : Nat → Int64) (sa : Nat → Nat) (x y z : Int32) (hM : XT l D (tys cI cJ cZ) (gL cI cJ ad n ev g) sa y_g_event b_g_event 5 (some .int) 7 103 [.ref (ad 0), .int x, .int y, .int z] "java/lang/IndexOutOfBoundsException") : HX l D (tys cI cJ cZ) (gO cI cJ ad oa n ev g w) sa y_l_event b_l_event 6 [(0, 12, 15, 13), (0, 12, 19, 19)] 8 127 [.ref (ad 0), .int x, .int y, .int z, .ref oa] (nI 2) := by
  refine HX.of (by decide) (Nat.le_of_ble_eq_true rfl) ?_
  intro p9 e9 s9 m args below meth c9 ls S hr hlocks ht hP hK hTE hNc hl
  obtain ⟨hx, hb, hml, hown, htc⟩ := id S
  have hl : lv_has ls 6 [(0, .ref (ad 0)), (1, .int x), (2, .int y), (3, .int z), (4, .ref oa)] := hl
  refine lv_aload hx hb d_l_event_0 (lv_at hl 4 rfl) ?_
  refine lv_iconst (v := (nI 0)) hx hb d_l_event_2 (by decide) ?_
  refine lv_aload_n hx hb d_l_event_3 rfl (lv_at hl 0 rfl) ?_
  refine lv_iload_n hx hb d_l_event_4 rfl (lv_at hl 1 rfl) ?_
  refine lv_iload_n hx hb d_l_event_5 rfl (lv_at hl 2 rfl) ?_
  refine lv_iload_n hx hb d_l_event_6 rfl (lv_at hl 3 rfl) ?_
  refine HX.catch (rest := [.int (nI 0), .ref oa]) S hM k_1_124 k_1_125 k_1_126 k_1_1 k_1_127 h_g_event ⟨Nat.le_of_ble_eq_true rfl, Nat.le_of_ble_eq_true rfl⟩ ⟨Nat.le_of_ble_eq_true rfl, Nat.le_of_ble_eq_true rfl⟩ (hP.sub (ws' := gL cI cJ ad n ev g) [0, 1, 2, 3, 4, 5, 6] rfl) hK hTE 0 0 rfl rfl rfl hl.1 (Nat.le_of_ble_eq_true rfl) rfl d_l_event_7 [⟨0, 12, 15, 13⟩] ⟨0, 12, 19, 19⟩ [] ht (fun z hz => by rw [List.mem_singleton.mp hz]; exact Or.inr ⟨by decide, "java/lang/IllegalArgumentException", htc _ k_1_48, hNc⟩) (by decide) (by decide) k_1_123 (by decide +kernel) (fun q9 H locs hz9 hk9 hL9 => ?_)
  refine lv_astore (lv' := [(5, .ref q9), (0, .ref (ad 0)), (1, .int x), (2, .int y), (3, .int z), (4, .ref oa)]) hx hb d_l_event_19 hl (by decide) rfl (fun ls hl => ?_)
  refine lv_iconst (v := (nI 2)) hx hb d_l_event_21 (by decide) ?_
  exact HX.ret hx hb hr hlocks hz9 hk9 hL9 d_l_event_22 rfl
set_option maxHeartbeats 4000000 in
set_option maxRecDepth 100000 in
theorem c_l_ancestor_x (l : Launch) (D : va_G) (cI cJ cZ : ClassId) (ad : Nat → Nat) (n ev : Nat) (g : GA) (oa : Nat) (w : Nat → Int64) (sa : Nat → Nat) (x y : Int32) (hM : XT l D (tys cI cJ cZ) (gL cI cJ ad n ev g) sa y_g_ancestor b_g_ancestor 3 (some .boolean) 7 103 [.ref (ad 0), .int x, .int y] "java/lang/IndexOutOfBoundsException") : HX l D (tys cI cJ cZ) (gO cI cJ ad oa n ev g w) sa y_l_ancestor b_l_ancestor 5 [(0, 17, 20, 19)] 8 127 [.ref (ad 0), .int x, .int y, .ref oa] (nI 1) := by
  refine HX.of (by decide) (Nat.le_of_ble_eq_true rfl) ?_
  intro p9 e9 s9 m args below meth c9 ls S hr hlocks ht hP hK hTE hNc hl
  obtain ⟨hx, hb, hml, hown, htc⟩ := id S
  have hl : lv_has ls 5 [(0, .ref (ad 0)), (1, .int x), (2, .int y), (3, .ref oa)] := hl
  refine lv_aload_n hx hb d_l_ancestor_0 rfl (lv_at hl 3 rfl) ?_
  refine lv_iconst (v := (nI 0)) hx hb d_l_ancestor_1 (by decide) ?_
  refine lv_aload_n hx hb d_l_ancestor_2 rfl (lv_at hl 0 rfl) ?_
  refine lv_iload_n hx hb d_l_ancestor_3 rfl (lv_at hl 1 rfl) ?_
  refine lv_iload_n hx hb d_l_ancestor_4 rfl (lv_at hl 2 rfl) ?_
  refine HX.catch (rest := [.int (nI 0), .ref oa]) S hM k_1_229 k_1_230 k_1_231 k_1_1 k_1_232 h_g_ancestor ⟨Nat.le_of_ble_eq_true rfl, Nat.le_of_ble_eq_true rfl⟩ ⟨Nat.le_of_ble_eq_true rfl, Nat.le_of_ble_eq_true rfl⟩ (hP.sub (ws' := gL cI cJ ad n ev g) [0, 1, 2, 3, 4, 5, 6] rfl) hK hTE 0 0 rfl rfl rfl hl.1 (Nat.le_of_ble_eq_true rfl) rfl d_l_ancestor_5 [] ⟨0, 17, 20, 19⟩ [] ht (fun z hz => absurd hz List.not_mem_nil) (by decide) (by decide) k_1_123 (by decide +kernel) (fun q9 H locs hz9 hk9 hL9 => ?_)
  refine lv_astore (lv' := [(4, .ref q9), (0, .ref (ad 0)), (1, .int x), (2, .int y), (3, .ref oa)]) hx hb d_l_ancestor_20 hl (by decide) rfl (fun ls hl => ?_)
  refine lv_iconst (v := (nI 1)) hx hb d_l_ancestor_22 (by decide) ?_
  exact HX.ret hx hb hr hlocks hz9 hk9 hL9 d_l_ancestor_23 rfl
set_option maxHeartbeats 4000000 in
set_option maxRecDepth 100000 in
theorem c_l_own_x (l : Launch) (D : va_G) (cI cJ cZ : ClassId) (ad : Nat → Nat) (n ev : Nat) (g : GA) (oa : Nat) (w : Nat → Int64) (sa : Nat → Nat) (x y : Int32) (hM : XT l D (tys cI cJ cZ) (gL cI cJ ad n ev g) sa y_g_own b_g_own 5 (some .boolean) 7 103 [.ref (ad 0), .int x, .int y] "java/lang/IndexOutOfBoundsException") : HX l D (tys cI cJ cZ) (gO cI cJ ad oa n ev g w) sa y_l_own b_l_own 5 [(0, 17, 20, 19)] 8 127 [.ref (ad 0), .int x, .int y, .ref oa] (nI 1) := by
  refine HX.of (by decide) (Nat.le_of_ble_eq_true rfl) ?_
  intro p9 e9 s9 m args below meth c9 ls S hr hlocks ht hP hK hTE hNc hl
  obtain ⟨hx, hb, hml, hown, htc⟩ := id S
  have hl : lv_has ls 5 [(0, .ref (ad 0)), (1, .int x), (2, .int y), (3, .ref oa)] := hl
  refine lv_aload_n hx hb d_l_own_0 rfl (lv_at hl 3 rfl) ?_
  refine lv_iconst (v := (nI 0)) hx hb d_l_own_1 (by decide) ?_
  refine lv_aload_n hx hb d_l_own_2 rfl (lv_at hl 0 rfl) ?_
  refine lv_iload_n hx hb d_l_own_3 rfl (lv_at hl 1 rfl) ?_
  refine lv_iload_n hx hb d_l_own_4 rfl (lv_at hl 2 rfl) ?_
  refine HX.catch (rest := [.int (nI 0), .ref oa]) S hM k_2_1 k_2_2 k_2_3 k_1_1 k_2_4 h_g_own ⟨Nat.le_of_ble_eq_true rfl, Nat.le_of_ble_eq_true rfl⟩ ⟨Nat.le_of_ble_eq_true rfl, Nat.le_of_ble_eq_true rfl⟩ (hP.sub (ws' := gL cI cJ ad n ev g) [0, 1, 2, 3, 4, 5, 6] rfl) hK hTE 0 0 rfl rfl rfl hl.1 (Nat.le_of_ble_eq_true rfl) rfl d_l_own_5 [] ⟨0, 17, 20, 19⟩ [] ht (fun z hz => absurd hz List.not_mem_nil) (by decide) (by decide) k_1_123 (by decide +kernel) (fun q9 H locs hz9 hk9 hL9 => ?_)
  refine lv_astore (lv' := [(4, .ref q9), (0, .ref (ad 0)), (1, .int x), (2, .int y), (3, .ref oa)]) hx hb d_l_own_20 hl (by decide) rfl (fun ls hl => ?_)
  refine lv_iconst (v := (nI 1)) hx hb d_l_own_22 (by decide) ?_
  exact HX.ret hx hb hr hlocks hz9 hk9 hL9 d_l_own_23 rfl
set_option maxHeartbeats 4000000 in
set_option maxRecDepth 100000 in
theorem c_l_sees_x (l : Launch) (D : va_G) (cI cJ cZ : ClassId) (ad : Nat → Nat) (n ev : Nat) (g : GA) (oa : Nat) (w : Nat → Int64) (sa : Nat → Nat) (x y : Int32) (hM : XT l D (tys cI cJ cZ) (gL cI cJ ad n ev g) sa y_g_sees b_g_sees 3 (some .boolean) 7 103 [.ref (ad 0), .int x, .int y] "java/lang/IndexOutOfBoundsException") : HX l D (tys cI cJ cZ) (gO cI cJ ad oa n ev g w) sa y_l_sees b_l_sees 5 [(0, 17, 20, 19)] 8 127 [.ref (ad 0), .int x, .int y, .ref oa] (nI 1) := by
  refine HX.of (by decide) (Nat.le_of_ble_eq_true rfl) ?_
  intro p9 e9 s9 m args below meth c9 ls S hr hlocks ht hP hK hTE hNc hl
  obtain ⟨hx, hb, hml, hown, htc⟩ := id S
  have hl : lv_has ls 5 [(0, .ref (ad 0)), (1, .int x), (2, .int y), (3, .ref oa)] := hl
  refine lv_aload_n hx hb d_l_sees_0 rfl (lv_at hl 3 rfl) ?_
  refine lv_iconst (v := (nI 0)) hx hb d_l_sees_1 (by decide) ?_
  refine lv_aload_n hx hb d_l_sees_2 rfl (lv_at hl 0 rfl) ?_
  refine lv_iload_n hx hb d_l_sees_3 rfl (lv_at hl 1 rfl) ?_
  refine lv_iload_n hx hb d_l_sees_4 rfl (lv_at hl 2 rfl) ?_
  refine HX.catch (rest := [.int (nI 0), .ref oa]) S hM k_2_15 k_2_16 k_2_17 k_1_1 k_2_18 h_g_sees ⟨Nat.le_of_ble_eq_true rfl, Nat.le_of_ble_eq_true rfl⟩ ⟨Nat.le_of_ble_eq_true rfl, Nat.le_of_ble_eq_true rfl⟩ (hP.sub (ws' := gL cI cJ ad n ev g) [0, 1, 2, 3, 4, 5, 6] rfl) hK hTE 0 0 rfl rfl rfl hl.1 (Nat.le_of_ble_eq_true rfl) rfl d_l_sees_5 [] ⟨0, 17, 20, 19⟩ [] ht (fun z hz => absurd hz List.not_mem_nil) (by decide) (by decide) k_1_123 (by decide +kernel) (fun q9 H locs hz9 hk9 hL9 => ?_)
  refine lv_astore (lv' := [(4, .ref q9), (0, .ref (ad 0)), (1, .int x), (2, .int y), (3, .ref oa)]) hx hb d_l_sees_20 hl (by decide) rfl (fun ls hl => ?_)
  refine lv_iconst (v := (nI 1)) hx hb d_l_sees_22 (by decide) ?_
  exact HX.ret hx hb hr hlocks hz9 hk9 hL9 d_l_sees_23 rfl
set_option maxHeartbeats 4000000 in
set_option maxRecDepth 100000 in
theorem c_l_strength_x (l : Launch) (D : va_G) (cI cJ cZ : ClassId) (ad : Nat → Nat) (n ev : Nat) (g : GA) (oa : Nat) (w : Nat → Int64) (sa : Nat → Nat) (x y : Int32) (hM : XT l D (tys cI cJ cZ) (gL cI cJ ad n ev g) sa y_g_strength b_g_strength 3 (some .int) 7 103 [.ref (ad 0), .int x, .int y] "java/lang/IndexOutOfBoundsException") : HX l D (tys cI cJ cZ) (gO cI cJ ad oa n ev g w) sa y_l_strength b_l_strength 5 [(0, 10, 13, 19)] 8 127 [.ref (ad 0), .int x, .int y, .ref oa] (nI 1) := by
  refine HX.of (by decide) (Nat.le_of_ble_eq_true rfl) ?_
  intro p9 e9 s9 m args below meth c9 ls S hr hlocks ht hP hK hTE hNc hl
  obtain ⟨hx, hb, hml, hown, htc⟩ := id S
  have hl : lv_has ls 5 [(0, .ref (ad 0)), (1, .int x), (2, .int y), (3, .ref oa)] := hl
  refine lv_aload_n hx hb d_l_strength_0 rfl (lv_at hl 3 rfl) ?_
  refine lv_iconst (v := (nI 0)) hx hb d_l_strength_1 (by decide) ?_
  refine lv_aload_n hx hb d_l_strength_2 rfl (lv_at hl 0 rfl) ?_
  refine lv_iload_n hx hb d_l_strength_3 rfl (lv_at hl 1 rfl) ?_
  refine lv_iload_n hx hb d_l_strength_4 rfl (lv_at hl 2 rfl) ?_
  refine HX.catch (rest := [.int (nI 0), .ref oa]) S hM k_2_22 k_2_23 k_2_24 k_1_1 k_2_25 h_g_strength ⟨Nat.le_of_ble_eq_true rfl, Nat.le_of_ble_eq_true rfl⟩ ⟨Nat.le_of_ble_eq_true rfl, Nat.le_of_ble_eq_true rfl⟩ (hP.sub (ws' := gL cI cJ ad n ev g) [0, 1, 2, 3, 4, 5, 6] rfl) hK hTE 0 0 rfl rfl rfl hl.1 (Nat.le_of_ble_eq_true rfl) rfl d_l_strength_5 [] ⟨0, 10, 13, 19⟩ [] ht (fun z hz => absurd hz List.not_mem_nil) (by decide) (by decide) k_1_123 (by decide +kernel) (fun q9 H locs hz9 hk9 hL9 => ?_)
  refine lv_astore (lv' := [(4, .ref q9), (0, .ref (ad 0)), (1, .int x), (2, .int y), (3, .ref oa)]) hx hb d_l_strength_13 hl (by decide) rfl (fun ls hl => ?_)
  refine lv_iconst (v := (nI 1)) hx hb d_l_strength_15 (by decide) ?_
  exact HX.ret hx hb hr hlocks hz9 hk9 hL9 d_l_strength_16 rfl
set_option maxHeartbeats 4000000 in
set_option maxRecDepth 100000 in
theorem c_l_strongly_x (l : Launch) (D : va_G) (cI cJ cZ : ClassId) (ad : Nat → Nat) (n ev : Nat) (g : GA) (oa : Nat) (w : Nat → Int64) (sa : Nat → Nat) (x y : Int32) (hM : XT l D (tys cI cJ cZ) (gL cI cJ ad n ev g) sa y_g_strongly b_g_strongly 3 (some .boolean) 7 103 [.ref (ad 0), .int x, .int y] "java/lang/IndexOutOfBoundsException") : HX l D (tys cI cJ cZ) (gO cI cJ ad oa n ev g w) sa y_l_strongly b_l_strongly 5 [(0, 17, 20, 19)] 8 127 [.ref (ad 0), .int x, .int y, .ref oa] (nI 1) := by
  refine HX.of (by decide) (Nat.le_of_ble_eq_true rfl) ?_
  intro p9 e9 s9 m args below meth c9 ls S hr hlocks ht hP hK hTE hNc hl
  obtain ⟨hx, hb, hml, hown, htc⟩ := id S
  have hl : lv_has ls 5 [(0, .ref (ad 0)), (1, .int x), (2, .int y), (3, .ref oa)] := hl
  refine lv_aload_n hx hb d_l_strongly_0 rfl (lv_at hl 3 rfl) ?_
  refine lv_iconst (v := (nI 0)) hx hb d_l_strongly_1 (by decide) ?_
  refine lv_aload_n hx hb d_l_strongly_2 rfl (lv_at hl 0 rfl) ?_
  refine lv_iload_n hx hb d_l_strongly_3 rfl (lv_at hl 1 rfl) ?_
  refine lv_iload_n hx hb d_l_strongly_4 rfl (lv_at hl 2 rfl) ?_
  refine HX.catch (rest := [.int (nI 0), .ref oa]) S hM k_2_29 k_2_30 k_2_31 k_1_1 k_2_32 h_g_strongly ⟨Nat.le_of_ble_eq_true rfl, Nat.le_of_ble_eq_true rfl⟩ ⟨Nat.le_of_ble_eq_true rfl, Nat.le_of_ble_eq_true rfl⟩ (hP.sub (ws' := gL cI cJ ad n ev g) [0, 1, 2, 3, 4, 5, 6] rfl) hK hTE 0 0 rfl rfl rfl hl.1 (Nat.le_of_ble_eq_true rfl) rfl d_l_strongly_5 [] ⟨0, 17, 20, 19⟩ [] ht (fun z hz => absurd hz List.not_mem_nil) (by decide) (by decide) k_1_123 (by decide +kernel) (fun q9 H locs hz9 hk9 hL9 => ?_)
  refine lv_astore (lv' := [(4, .ref q9), (0, .ref (ad 0)), (1, .int x), (2, .int y), (3, .ref oa)]) hx hb d_l_strongly_20 hl (by decide) rfl (fun ls hl => ?_)
  refine lv_iconst (v := (nI 1)) hx hb d_l_strongly_22 (by decide) ?_
  exact HX.ret hx hb hr hlocks hz9 hk9 hL9 d_l_strongly_23 rfl
set_option maxHeartbeats 4000000 in
set_option maxRecDepth 100000 in
theorem c_l_forked_x1 (l : Launch) (D : va_G) (cI cJ cZ : ClassId) (ad : Nat → Nat) (n ev : Nat) (g : GA) (oa : Nat) (w : Nat → Int64) (sa : Nat → Nat) (x y : Int32) (hM : XT l D (tys cI cJ cZ) (gL cI cJ ad n ev g) sa y_g_forked b_g_forked 3 (some .boolean) 7 103 [.ref (ad 0), .int x, .int y] "java/lang/IllegalArgumentException") : HX l D (tys cI cJ cZ) (gO cI cJ ad oa n ev g w) sa y_l_forked b_l_forked 5 [(0, 17, 20, 13), (0, 17, 24, 19)] 8 127 [.ref (ad 0), .int x, .int y, .ref oa] (nI 1) := by
  refine HX.of (by decide) (Nat.le_of_ble_eq_true rfl) ?_
  intro p9 e9 s9 m args below meth c9 ls S hr hlocks ht hP hK hTE hNc hl
  obtain ⟨hx, hb, hml, hown, htc⟩ := id S
  have hl : lv_has ls 5 [(0, .ref (ad 0)), (1, .int x), (2, .int y), (3, .ref oa)] := hl
  refine lv_aload_n hx hb d_l_forked_0 rfl (lv_at hl 3 rfl) ?_
  refine lv_iconst (v := (nI 0)) hx hb d_l_forked_1 (by decide) ?_
  refine lv_aload_n hx hb d_l_forked_2 rfl (lv_at hl 0 rfl) ?_
  refine lv_iload_n hx hb d_l_forked_3 rfl (lv_at hl 1 rfl) ?_
  refine lv_iload_n hx hb d_l_forked_4 rfl (lv_at hl 2 rfl) ?_
  refine HX.catch (rest := [.int (nI 0), .ref oa]) S hM k_2_8 k_2_9 k_2_10 k_1_1 k_2_11 h_g_forked ⟨Nat.le_of_ble_eq_true rfl, Nat.le_of_ble_eq_true rfl⟩ ⟨Nat.le_of_ble_eq_true rfl, Nat.le_of_ble_eq_true rfl⟩ (hP.sub (ws' := gL cI cJ ad n ev g) [0, 1, 2, 3, 4, 5, 6] rfl) hK hTE 0 0 rfl rfl rfl hl.1 (Nat.le_of_ble_eq_true rfl) rfl d_l_forked_5 [] ⟨0, 17, 20, 13⟩ [⟨0, 17, 24, 19⟩] ht (fun z hz => absurd hz List.not_mem_nil) (by decide) (by decide) k_1_48 (by decide +kernel) (fun q9 H locs hz9 hk9 hL9 => ?_)
  refine lv_astore (lv' := [(4, .ref q9), (0, .ref (ad 0)), (1, .int x), (2, .int y), (3, .ref oa)]) hx hb d_l_forked_20 hl (by decide) rfl (fun ls hl => ?_)
  refine lv_iconst (v := (nI 1)) hx hb d_l_forked_22 (by decide) ?_
  exact HX.ret hx hb hr hlocks hz9 hk9 hL9 d_l_forked_23 rfl
set_option maxHeartbeats 4000000 in
set_option maxRecDepth 100000 in
theorem c_l_forked_x2 (l : Launch) (D : va_G) (cI cJ cZ : ClassId) (ad : Nat → Nat) (n ev : Nat) (g : GA) (oa : Nat) (w : Nat → Int64) (sa : Nat → Nat) (x y : Int32) (hM : XT l D (tys cI cJ cZ) (gL cI cJ ad n ev g) sa y_g_forked b_g_forked 3 (some .boolean) 7 103 [.ref (ad 0), .int x, .int y] "java/lang/IndexOutOfBoundsException") : HX l D (tys cI cJ cZ) (gO cI cJ ad oa n ev g w) sa y_l_forked b_l_forked 5 [(0, 17, 20, 13), (0, 17, 24, 19)] 8 127 [.ref (ad 0), .int x, .int y, .ref oa] (nI 2) := by
  refine HX.of (by decide) (Nat.le_of_ble_eq_true rfl) ?_
  intro p9 e9 s9 m args below meth c9 ls S hr hlocks ht hP hK hTE hNc hl
  obtain ⟨hx, hb, hml, hown, htc⟩ := id S
  have hl : lv_has ls 5 [(0, .ref (ad 0)), (1, .int x), (2, .int y), (3, .ref oa)] := hl
  refine lv_aload_n hx hb d_l_forked_0 rfl (lv_at hl 3 rfl) ?_
  refine lv_iconst (v := (nI 0)) hx hb d_l_forked_1 (by decide) ?_
  refine lv_aload_n hx hb d_l_forked_2 rfl (lv_at hl 0 rfl) ?_
  refine lv_iload_n hx hb d_l_forked_3 rfl (lv_at hl 1 rfl) ?_
  refine lv_iload_n hx hb d_l_forked_4 rfl (lv_at hl 2 rfl) ?_
  refine HX.catch (rest := [.int (nI 0), .ref oa]) S hM k_2_8 k_2_9 k_2_10 k_1_1 k_2_11 h_g_forked ⟨Nat.le_of_ble_eq_true rfl, Nat.le_of_ble_eq_true rfl⟩ ⟨Nat.le_of_ble_eq_true rfl, Nat.le_of_ble_eq_true rfl⟩ (hP.sub (ws' := gL cI cJ ad n ev g) [0, 1, 2, 3, 4, 5, 6] rfl) hK hTE 0 0 rfl rfl rfl hl.1 (Nat.le_of_ble_eq_true rfl) rfl d_l_forked_5 [⟨0, 17, 20, 13⟩] ⟨0, 17, 24, 19⟩ [] ht (fun z hz => by rw [List.mem_singleton.mp hz]; exact Or.inr ⟨by decide, "java/lang/IllegalArgumentException", htc _ k_1_48, hNc⟩) (by decide) (by decide) k_1_123 (by decide +kernel) (fun q9 H locs hz9 hk9 hL9 => ?_)
  refine lv_astore (lv' := [(4, .ref q9), (0, .ref (ad 0)), (1, .int x), (2, .int y), (3, .ref oa)]) hx hb d_l_forked_24 hl (by decide) rfl (fun ls hl => ?_)
  refine lv_iconst (v := (nI 2)) hx hb d_l_forked_26 (by decide) ?_
  exact HX.ret hx hb hr hlocks hz9 hk9 hL9 d_l_forked_27 rfl
set_option maxHeartbeats 4000000 in
set_option maxRecDepth 100000 in
theorem c_l_round_x (l : Launch) (D : va_G) (cI cJ cZ : ClassId) (ad : Nat → Nat) (n ev : Nat) (g : GA) (oa : Nat) (w : Nat → Int64) (sa : Nat → Nat) (x : Int32) (hM : XT l D (tys cI cJ cZ) (gL cI cJ ad n ev g) sa y_g_round b_g_round 2 (some .int) 7 103 [.ref (ad 0), .int x] "java/lang/IndexOutOfBoundsException") : HX l D (tys cI cJ cZ) (gO cI cJ ad oa n ev g w) sa y_l_round b_l_round 4 [(0, 9, 12, 19)] 8 127 [.ref (ad 0), .int x, .ref oa] (nI 1) := by
  refine HX.of (by decide) (Nat.le_of_ble_eq_true rfl) ?_
  intro p9 e9 s9 m args below meth c9 ls S hr hlocks ht hP hK hTE hNc hl
  obtain ⟨hx, hb, hml, hown, htc⟩ := id S
  have hl : lv_has ls 4 [(0, .ref (ad 0)), (1, .int x), (2, .ref oa)] := hl
  refine lv_aload_n hx hb d_l_round_0 rfl (lv_at hl 2 rfl) ?_
  refine lv_iconst (v := (nI 0)) hx hb d_l_round_1 (by decide) ?_
  refine lv_aload_n hx hb d_l_round_2 rfl (lv_at hl 0 rfl) ?_
  refine lv_iload_n hx hb d_l_round_3 rfl (lv_at hl 1 rfl) ?_
  refine HX.catch (rest := [.int (nI 0), .ref oa]) S hM k_2_36 k_2_37 k_2_38 k_1_1 k_2_39 h_g_round ⟨Nat.le_of_ble_eq_true rfl, Nat.le_of_ble_eq_true rfl⟩ ⟨Nat.le_of_ble_eq_true rfl, Nat.le_of_ble_eq_true rfl⟩ (hP.sub (ws' := gL cI cJ ad n ev g) [0, 1, 2, 3, 4, 5, 6] rfl) hK hTE 0 0 rfl rfl rfl hl.1 (Nat.le_of_ble_eq_true rfl) rfl d_l_round_4 [] ⟨0, 9, 12, 19⟩ [] ht (fun z hz => absurd hz List.not_mem_nil) (by decide) (by decide) k_1_123 (by decide +kernel) (fun q9 H locs hz9 hk9 hL9 => ?_)
  refine lv_astore_n (lv' := [(3, .ref q9), (0, .ref (ad 0)), (1, .int x), (2, .ref oa)]) hx hb d_l_round_12 rfl hl (by decide) rfl (fun ls hl => ?_)
  refine lv_iconst (v := (nI 1)) hx hb d_l_round_13 (by decide) ?_
  exact HX.ret hx hb hr hlocks hz9 hk9 hL9 d_l_round_14 rfl
set_option maxHeartbeats 4000000 in
set_option maxRecDepth 100000 in
theorem c_l_witness_x (l : Launch) (D : va_G) (cI cJ cZ : ClassId) (ad : Nat → Nat) (n ev : Nat) (g : GA) (oa : Nat) (w : Nat → Int64) (sa : Nat → Nat) (x : Int32) (hM : XT l D (tys cI cJ cZ) (gL cI cJ ad n ev g) sa y_g_witness b_g_witness 2 (some .boolean) 7 103 [.ref (ad 0), .int x] "java/lang/IndexOutOfBoundsException") : HX l D (tys cI cJ cZ) (gO cI cJ ad oa n ev g w) sa y_l_witness b_l_witness 4 [(0, 16, 19, 19)] 8 127 [.ref (ad 0), .int x, .ref oa] (nI 1) := by
  refine HX.of (by decide) (Nat.le_of_ble_eq_true rfl) ?_
  intro p9 e9 s9 m args below meth c9 ls S hr hlocks ht hP hK hTE hNc hl
  obtain ⟨hx, hb, hml, hown, htc⟩ := id S
  have hl : lv_has ls 4 [(0, .ref (ad 0)), (1, .int x), (2, .ref oa)] := hl
  refine lv_aload_n hx hb d_l_witness_0 rfl (lv_at hl 2 rfl) ?_
  refine lv_iconst (v := (nI 0)) hx hb d_l_witness_1 (by decide) ?_
  refine lv_aload_n hx hb d_l_witness_2 rfl (lv_at hl 0 rfl) ?_
  refine lv_iload_n hx hb d_l_witness_3 rfl (lv_at hl 1 rfl) ?_
  refine HX.catch (rest := [.int (nI 0), .ref oa]) S hM k_2_43 k_2_44 k_2_45 k_1_1 k_2_46 h_g_witness ⟨Nat.le_of_ble_eq_true rfl, Nat.le_of_ble_eq_true rfl⟩ ⟨Nat.le_of_ble_eq_true rfl, Nat.le_of_ble_eq_true rfl⟩ (hP.sub (ws' := gL cI cJ ad n ev g) [0, 1, 2, 3, 4, 5, 6] rfl) hK hTE 0 0 rfl rfl rfl hl.1 (Nat.le_of_ble_eq_true rfl) rfl d_l_witness_4 [] ⟨0, 16, 19, 19⟩ [] ht (fun z hz => absurd hz List.not_mem_nil) (by decide) (by decide) k_1_123 (by decide +kernel) (fun q9 H locs hz9 hk9 hL9 => ?_)
  refine lv_astore_n (lv' := [(3, .ref q9), (0, .ref (ad 0)), (1, .int x), (2, .ref oa)]) hx hb d_l_witness_19 rfl hl (by decide) rfl (fun ls hl => ?_)
  refine lv_iconst (v := (nI 1)) hx hb d_l_witness_20 (by decide) ?_
  exact HX.ret hx hb hr hlocks hz9 hk9 hL9 d_l_witness_21 rfl
set_option maxHeartbeats 4000000 in
set_option maxRecDepth 100000 in
theorem c_l_count_x (l : Launch) (D : va_G) (cI cJ cZ : ClassId) (ad : Nat → Nat) (n ev : Nat) (g : GA) (oa : Nat) (w : Nat → Int64) (sa : Nat → Nat) (x : Int32) (hM : XT l D (tys cI cJ cZ) (gL cI cJ ad n ev g) sa y_g_count b_g_count 2 (some .int) 6 82 [.ref (ad 0), .int x] "java/lang/IllegalArgumentException") : HX l D (tys cI cJ cZ) (gO cI cJ ad oa n ev g w) sa y_l_count b_l_count 4 [(0, 9, 12, 13)] 7 103 [.ref (ad 0), .int x, .ref oa] (nI 1) := by
  refine HX.of (by decide) (Nat.le_of_ble_eq_true rfl) ?_
  intro p9 e9 s9 m args below meth c9 ls S hr hlocks ht hP hK hTE hNc hl
  obtain ⟨hx, hb, hml, hown, htc⟩ := id S
  have hl : lv_has ls 4 [(0, .ref (ad 0)), (1, .int x), (2, .ref oa)] := hl
  refine lv_aload_n hx hb d_l_count_0 rfl (lv_at hl 2 rfl) ?_
  refine lv_iconst (v := (nI 0)) hx hb d_l_count_1 (by decide) ?_
  refine lv_aload_n hx hb d_l_count_2 rfl (lv_at hl 0 rfl) ?_
  refine lv_iload_n hx hb d_l_count_3 rfl (lv_at hl 1 rfl) ?_
  refine HX.catch (rest := [.int (nI 0), .ref oa]) S hM k_2_50 k_2_51 k_2_52 k_1_1 k_2_53 h_g_count ⟨Nat.le_of_ble_eq_true rfl, Nat.le_of_ble_eq_true rfl⟩ ⟨Nat.le_of_ble_eq_true rfl, Nat.le_of_ble_eq_true rfl⟩ (hP.sub (ws' := gL cI cJ ad n ev g) [0, 1, 2, 3, 4, 5, 6] rfl) hK hTE 0 0 rfl rfl rfl hl.1 (Nat.le_of_ble_eq_true rfl) rfl d_l_count_4 [] ⟨0, 9, 12, 13⟩ [] ht (fun z hz => absurd hz List.not_mem_nil) (by decide) (by decide) k_1_48 (by decide +kernel) (fun q9 H locs hz9 hk9 hL9 => ?_)
  refine lv_astore_n (lv' := [(3, .ref q9), (0, .ref (ad 0)), (1, .int x), (2, .ref oa)]) hx hb d_l_count_12 rfl hl (by decide) rfl (fun ls hl => ?_)
  refine lv_iconst (v := (nI 1)) hx hb d_l_count_13 (by decide) ?_
  exact HX.ret hx hb hr hlocks hz9 hk9 hL9 d_l_count_14 rfl
set_option maxHeartbeats 4000000 in
set_option maxRecDepth 100000 in
theorem c_l_ancestor_ok (l : Launch) (D : va_G) (cI cJ cZ : ClassId) (ad : Nat → Nat) (n ev : Nat) (g : GA) (oa : Nat) (w : Nat → Int64) (x y : Int32) (b : Bool) (hM : PM l D (tys cI cJ cZ) (gL cI cJ ad n ev g) y_g_ancestor b_g_ancestor 3 (some .boolean) 2 48 [.ref (ad 0), .int x, .int y] (bI b)) : HI (S := Unit) l D (tys cI cJ cZ) (gO cI cJ ad oa n ev g w) (fun _ => gO cI cJ ad oa n ev g (vp_updL w 0 (bL b))) (fun r _ => r = 0) y_l_ancestor b_l_ancestor 5 [(0, 17, 20, 19)] 3 70 [.ref (ad 0), .int x, .int y, .ref oa] := by
  refine HI.of (by decide) (Nat.le_of_ble_eq_true rfl) ?_
  intro p9 e9 s9 m args below meth c9 ls A S hr hlocks hA hP hK hD hl
  obtain ⟨hx, hb, hml, hown, htc⟩ := id S
  have hS : va_S A s9.heap s9.heap [] := va_S.rf
  have hl : lv_has ls 5 [(0, .ref (ad 0)), (1, .int x), (2, .int y), (3, .ref oa)] := hl
  refine lv_aload_n hx hb d_l_ancestor_0 rfl (lv_at hl 3 rfl) ?_
  refine lv_iconst (v := (nI 0)) hx hb d_l_ancestor_1 (by decide) ?_
  refine lv_aload_n hx hb d_l_ancestor_2 rfl (lv_at hl 0 rfl) ?_
  refine lv_iload_n hx hb d_l_ancestor_3 rfl (lv_at hl 1 rfl) ?_
  refine lv_iload_n hx hb d_l_ancestor_4 rfl (lv_at hl 2 rfl) ?_
  refine PM.callV (rest := [.int (nI 0), .ref oa]) S (hM) k_1_229 k_1_230 k_1_231 k_1_1 k_1_232 h_g_ancestor ⟨Nat.le_of_ble_eq_true rfl, Nat.le_of_ble_eq_true rfl⟩ ⟨Nat.le_of_ble_eq_true rfl, Nat.le_of_ble_eq_true rfl⟩ (hP.sub (ws' := gL cI cJ ad n ev g) [0, 1, 2, 3, 4, 5, 6] rfl) hK 0 0 rfl rfl rfl hl.1 (Nat.le_of_ble_eq_true rfl) rfl d_l_ancestor_5 ?_
  refine nr_ifeq_b (tgt := 15) hx hb d_l_ancestor_8 (by decide) (fun c_8 => ?_) (fun c_8 => ?_)
  · refine lv_lconst (v := 0) hx hb d_l_ancestor_15 (by decide) ?_
    refine nr_top (w := .long (bL b)) (congrArg Value.long (by rw [c_8]; rfl)) ?_
    refine nr_last hx hb hK hP hD hS 7 1 rfl rfl (by omega) (by decide) d_l_ancestor_16 (fun H locs hP hD hS => ?_)
    have hP : va_P D cls (gO cI cJ ad oa n ev g (vp_updL w 0 (bL b))) H := hP
    have hD : va_D A (gO cI cJ ad oa n ev g (vp_updL w 0 (bL b))) := hD
    refine lv_goto (tgt := 24) hx hb d_l_ancestor_17 (by decide) ?_
    refine lv_iconst (v := (nI 0)) hx hb d_l_ancestor_24 (by decide) ?_
    exact WI.iret hx hb hr hlocks hK hS d_l_ancestor_25 () rfl hP hD
  · refine lv_lconst (v := 1) hx hb d_l_ancestor_11 (by decide) ?_
    refine lv_goto (tgt := 16) hx hb d_l_ancestor_12 (by decide) ?_
    refine nr_top (w := .long (bL b)) (congrArg Value.long (by rw [c_8]; rfl)) ?_
    refine nr_last hx hb hK hP hD hS 7 1 rfl rfl (by omega) (by decide) d_l_ancestor_16 (fun H locs hP hD hS => ?_)
    have hP : va_P D cls (gO cI cJ ad oa n ev g (vp_updL w 0 (bL b))) H := hP
    have hD : va_D A (gO cI cJ ad oa n ev g (vp_updL w 0 (bL b))) := hD
    refine lv_goto (tgt := 24) hx hb d_l_ancestor_17 (by decide) ?_
    refine lv_iconst (v := (nI 0)) hx hb d_l_ancestor_24 (by decide) ?_
    exact WI.iret hx hb hr hlocks hK hS d_l_ancestor_25 () rfl hP hD
set_option maxHeartbeats 4000000 in
set_option maxRecDepth 100000 in
theorem c_l_own_ok (l : Launch) (D : va_G) (cI cJ cZ : ClassId) (ad : Nat → Nat) (n ev : Nat) (g : GA) (oa : Nat) (w : Nat → Int64) (x y : Int32) (b : Bool) (hM : PM l D (tys cI cJ cZ) (gL cI cJ ad n ev g) y_g_own b_g_own 5 (some .boolean) 2 42 [.ref (ad 0), .int x, .int y] (bI b)) : HI (S := Unit) l D (tys cI cJ cZ) (gO cI cJ ad oa n ev g w) (fun _ => gO cI cJ ad oa n ev g (vp_updL w 0 (bL b))) (fun r _ => r = 0) y_l_own b_l_own 5 [(0, 17, 20, 19)] 3 66 [.ref (ad 0), .int x, .int y, .ref oa] := by
  refine HI.of (by decide) (Nat.le_of_ble_eq_true rfl) ?_
  intro p9 e9 s9 m args below meth c9 ls A S hr hlocks hA hP hK hD hl
  obtain ⟨hx, hb, hml, hown, htc⟩ := id S
  have hS : va_S A s9.heap s9.heap [] := va_S.rf
  have hl : lv_has ls 5 [(0, .ref (ad 0)), (1, .int x), (2, .int y), (3, .ref oa)] := hl
  refine lv_aload_n hx hb d_l_own_0 rfl (lv_at hl 3 rfl) ?_
  refine lv_iconst (v := (nI 0)) hx hb d_l_own_1 (by decide) ?_
  refine lv_aload_n hx hb d_l_own_2 rfl (lv_at hl 0 rfl) ?_
  refine lv_iload_n hx hb d_l_own_3 rfl (lv_at hl 1 rfl) ?_
  refine lv_iload_n hx hb d_l_own_4 rfl (lv_at hl 2 rfl) ?_
  refine PM.callV (rest := [.int (nI 0), .ref oa]) S (hM) k_2_1 k_2_2 k_2_3 k_1_1 k_2_4 h_g_own ⟨Nat.le_of_ble_eq_true rfl, Nat.le_of_ble_eq_true rfl⟩ ⟨Nat.le_of_ble_eq_true rfl, Nat.le_of_ble_eq_true rfl⟩ (hP.sub (ws' := gL cI cJ ad n ev g) [0, 1, 2, 3, 4, 5, 6] rfl) hK 0 0 rfl rfl rfl hl.1 (Nat.le_of_ble_eq_true rfl) rfl d_l_own_5 ?_
  refine nr_ifeq_b (tgt := 15) hx hb d_l_own_8 (by decide) (fun c_8 => ?_) (fun c_8 => ?_)
  · refine lv_lconst (v := 0) hx hb d_l_own_15 (by decide) ?_
    refine nr_top (w := .long (bL b)) (congrArg Value.long (by rw [c_8]; rfl)) ?_
    refine nr_last hx hb hK hP hD hS 7 1 rfl rfl (by omega) (by decide) d_l_own_16 (fun H locs hP hD hS => ?_)
    have hP : va_P D cls (gO cI cJ ad oa n ev g (vp_updL w 0 (bL b))) H := hP
    have hD : va_D A (gO cI cJ ad oa n ev g (vp_updL w 0 (bL b))) := hD
    refine lv_goto (tgt := 24) hx hb d_l_own_17 (by decide) ?_
    refine lv_iconst (v := (nI 0)) hx hb d_l_own_24 (by decide) ?_
    exact WI.iret hx hb hr hlocks hK hS d_l_own_25 () rfl hP hD
  · refine lv_lconst (v := 1) hx hb d_l_own_11 (by decide) ?_
    refine lv_goto (tgt := 16) hx hb d_l_own_12 (by decide) ?_
    refine nr_top (w := .long (bL b)) (congrArg Value.long (by rw [c_8]; rfl)) ?_
    refine nr_last hx hb hK hP hD hS 7 1 rfl rfl (by omega) (by decide) d_l_own_16 (fun H locs hP hD hS => ?_)
    have hP : va_P D cls (gO cI cJ ad oa n ev g (vp_updL w 0 (bL b))) H := hP
    have hD : va_D A (gO cI cJ ad oa n ev g (vp_updL w 0 (bL b))) := hD
    refine lv_goto (tgt := 24) hx hb d_l_own_17 (by decide) ?_
    refine lv_iconst (v := (nI 0)) hx hb d_l_own_24 (by decide) ?_
    exact WI.iret hx hb hr hlocks hK hS d_l_own_25 () rfl hP hD
set_option maxHeartbeats 4000000 in
set_option maxRecDepth 100000 in
theorem c_l_forked_ok (l : Launch) (D : va_G) (cI cJ cZ : ClassId) (ad : Nat → Nat) (n ev : Nat) (g : GA) (oa : Nat) (w : Nat → Int64) (x y : Int32) (b : Bool) (hM : PM l D (tys cI cJ cZ) (gL cI cJ ad n ev g) y_g_forked b_g_forked 3 (some .boolean) 2 42 [.ref (ad 0), .int x, .int y] (bI b)) : HI (S := Unit) l D (tys cI cJ cZ) (gO cI cJ ad oa n ev g w) (fun _ => gO cI cJ ad oa n ev g (vp_updL w 0 (bL b))) (fun r _ => r = 0) y_l_forked b_l_forked 5 [(0, 17, 20, 13), (0, 17, 24, 19)] 3 64 [.ref (ad 0), .int x, .int y, .ref oa] := by
  refine HI.of (by decide) (Nat.le_of_ble_eq_true rfl) ?_
  intro p9 e9 s9 m args below meth c9 ls A S hr hlocks hA hP hK hD hl
  obtain ⟨hx, hb, hml, hown, htc⟩ := id S
  have hS : va_S A s9.heap s9.heap [] := va_S.rf
  have hl : lv_has ls 5 [(0, .ref (ad 0)), (1, .int x), (2, .int y), (3, .ref oa)] := hl
  refine lv_aload_n hx hb d_l_forked_0 rfl (lv_at hl 3 rfl) ?_
  refine lv_iconst (v := (nI 0)) hx hb d_l_forked_1 (by decide) ?_
  refine lv_aload_n hx hb d_l_forked_2 rfl (lv_at hl 0 rfl) ?_
  refine lv_iload_n hx hb d_l_forked_3 rfl (lv_at hl 1 rfl) ?_
  refine lv_iload_n hx hb d_l_forked_4 rfl (lv_at hl 2 rfl) ?_
  refine PM.callV (rest := [.int (nI 0), .ref oa]) S (hM) k_2_8 k_2_9 k_2_10 k_1_1 k_2_11 h_g_forked ⟨Nat.le_of_ble_eq_true rfl, Nat.le_of_ble_eq_true rfl⟩ ⟨Nat.le_of_ble_eq_true rfl, Nat.le_of_ble_eq_true rfl⟩ (hP.sub (ws' := gL cI cJ ad n ev g) [0, 1, 2, 3, 4, 5, 6] rfl) hK 0 0 rfl rfl rfl hl.1 (Nat.le_of_ble_eq_true rfl) rfl d_l_forked_5 ?_
  refine nr_ifeq_b (tgt := 15) hx hb d_l_forked_8 (by decide) (fun c_8 => ?_) (fun c_8 => ?_)
  · refine lv_lconst (v := 0) hx hb d_l_forked_15 (by decide) ?_
    refine nr_top (w := .long (bL b)) (congrArg Value.long (by rw [c_8]; rfl)) ?_
    refine nr_last hx hb hK hP hD hS 7 1 rfl rfl (by omega) (by decide) d_l_forked_16 (fun H locs hP hD hS => ?_)
    have hP : va_P D cls (gO cI cJ ad oa n ev g (vp_updL w 0 (bL b))) H := hP
    have hD : va_D A (gO cI cJ ad oa n ev g (vp_updL w 0 (bL b))) := hD
    refine lv_goto (tgt := 28) hx hb d_l_forked_17 (by decide) ?_
    refine lv_iconst (v := (nI 0)) hx hb d_l_forked_28 (by decide) ?_
    exact WI.iret hx hb hr hlocks hK hS d_l_forked_29 () rfl hP hD
  · refine lv_lconst (v := 1) hx hb d_l_forked_11 (by decide) ?_
    refine lv_goto (tgt := 16) hx hb d_l_forked_12 (by decide) ?_
    refine nr_top (w := .long (bL b)) (congrArg Value.long (by rw [c_8]; rfl)) ?_
    refine nr_last hx hb hK hP hD hS 7 1 rfl rfl (by omega) (by decide) d_l_forked_16 (fun H locs hP hD hS => ?_)
    have hP : va_P D cls (gO cI cJ ad oa n ev g (vp_updL w 0 (bL b))) H := hP
    have hD : va_D A (gO cI cJ ad oa n ev g (vp_updL w 0 (bL b))) := hD
    refine lv_goto (tgt := 28) hx hb d_l_forked_17 (by decide) ?_
    refine lv_iconst (v := (nI 0)) hx hb d_l_forked_28 (by decide) ?_
    exact WI.iret hx hb hr hlocks hK hS d_l_forked_29 () rfl hP hD
set_option maxHeartbeats 4000000 in
set_option maxRecDepth 100000 in
theorem c_l_sees_ok (l : Launch) (D : va_G) (cI cJ cZ : ClassId) (ad : Nat → Nat) (n ev : Nat) (g : GA) (oa : Nat) (w : Nat → Int64) (x y : Int32) (b : Bool) (hM : PM l D (tys cI cJ cZ) (gL cI cJ ad n ev g) y_g_sees b_g_sees 3 (some .boolean) 3 70 [.ref (ad 0), .int x, .int y] (bI b)) : HI (S := Unit) l D (tys cI cJ cZ) (gO cI cJ ad oa n ev g w) (fun _ => gO cI cJ ad oa n ev g (vp_updL w 0 (bL b))) (fun r _ => r = 0) y_l_sees b_l_sees 5 [(0, 17, 20, 19)] 4 92 [.ref (ad 0), .int x, .int y, .ref oa] := by
  refine HI.of (by decide) (Nat.le_of_ble_eq_true rfl) ?_
  intro p9 e9 s9 m args below meth c9 ls A S hr hlocks hA hP hK hD hl
  obtain ⟨hx, hb, hml, hown, htc⟩ := id S
  have hS : va_S A s9.heap s9.heap [] := va_S.rf
  have hl : lv_has ls 5 [(0, .ref (ad 0)), (1, .int x), (2, .int y), (3, .ref oa)] := hl
  refine lv_aload_n hx hb d_l_sees_0 rfl (lv_at hl 3 rfl) ?_
  refine lv_iconst (v := (nI 0)) hx hb d_l_sees_1 (by decide) ?_
  refine lv_aload_n hx hb d_l_sees_2 rfl (lv_at hl 0 rfl) ?_
  refine lv_iload_n hx hb d_l_sees_3 rfl (lv_at hl 1 rfl) ?_
  refine lv_iload_n hx hb d_l_sees_4 rfl (lv_at hl 2 rfl) ?_
  refine PM.callV (rest := [.int (nI 0), .ref oa]) S (hM) k_2_15 k_2_16 k_2_17 k_1_1 k_2_18 h_g_sees ⟨Nat.le_of_ble_eq_true rfl, Nat.le_of_ble_eq_true rfl⟩ ⟨Nat.le_of_ble_eq_true rfl, Nat.le_of_ble_eq_true rfl⟩ (hP.sub (ws' := gL cI cJ ad n ev g) [0, 1, 2, 3, 4, 5, 6] rfl) hK 0 0 rfl rfl rfl hl.1 (Nat.le_of_ble_eq_true rfl) rfl d_l_sees_5 ?_
  refine nr_ifeq_b (tgt := 15) hx hb d_l_sees_8 (by decide) (fun c_8 => ?_) (fun c_8 => ?_)
  · refine lv_lconst (v := 0) hx hb d_l_sees_15 (by decide) ?_
    refine nr_top (w := .long (bL b)) (congrArg Value.long (by rw [c_8]; rfl)) ?_
    refine nr_last hx hb hK hP hD hS 7 1 rfl rfl (by omega) (by decide) d_l_sees_16 (fun H locs hP hD hS => ?_)
    have hP : va_P D cls (gO cI cJ ad oa n ev g (vp_updL w 0 (bL b))) H := hP
    have hD : va_D A (gO cI cJ ad oa n ev g (vp_updL w 0 (bL b))) := hD
    refine lv_goto (tgt := 24) hx hb d_l_sees_17 (by decide) ?_
    refine lv_iconst (v := (nI 0)) hx hb d_l_sees_24 (by decide) ?_
    exact WI.iret hx hb hr hlocks hK hS d_l_sees_25 () rfl hP hD
  · refine lv_lconst (v := 1) hx hb d_l_sees_11 (by decide) ?_
    refine lv_goto (tgt := 16) hx hb d_l_sees_12 (by decide) ?_
    refine nr_top (w := .long (bL b)) (congrArg Value.long (by rw [c_8]; rfl)) ?_
    refine nr_last hx hb hK hP hD hS 7 1 rfl rfl (by omega) (by decide) d_l_sees_16 (fun H locs hP hD hS => ?_)
    have hP : va_P D cls (gO cI cJ ad oa n ev g (vp_updL w 0 (bL b))) H := hP
    have hD : va_D A (gO cI cJ ad oa n ev g (vp_updL w 0 (bL b))) := hD
    refine lv_goto (tgt := 24) hx hb d_l_sees_17 (by decide) ?_
    refine lv_iconst (v := (nI 0)) hx hb d_l_sees_24 (by decide) ?_
    exact WI.iret hx hb hr hlocks hK hS d_l_sees_25 () rfl hP hD
set_option maxHeartbeats 4000000 in
set_option maxRecDepth 100000 in
theorem c_l_strongly_ok (l : Launch) (D : va_G) (cI cJ cZ : ClassId) (ad : Nat → Nat) (n ev : Nat) (g : GA) (oa : Nat) (w : Nat → Int64) (x y : Int32) (b : Bool) (hM : PM l D (tys cI cJ cZ) (gL cI cJ ad n ev g) y_g_strongly b_g_strongly 3 (some .boolean) 4 94 [.ref (ad 0), .int x, .int y] (bI b)) : HI (S := Unit) l D (tys cI cJ cZ) (gO cI cJ ad oa n ev g w) (fun _ => gO cI cJ ad oa n ev g (vp_updL w 0 (bL b))) (fun r _ => r = 0) y_l_strongly b_l_strongly 5 [(0, 17, 20, 19)] 5 116 [.ref (ad 0), .int x, .int y, .ref oa] := by
  refine HI.of (by decide) (Nat.le_of_ble_eq_true rfl) ?_
  intro p9 e9 s9 m args below meth c9 ls A S hr hlocks hA hP hK hD hl
  obtain ⟨hx, hb, hml, hown, htc⟩ := id S
  have hS : va_S A s9.heap s9.heap [] := va_S.rf
  have hl : lv_has ls 5 [(0, .ref (ad 0)), (1, .int x), (2, .int y), (3, .ref oa)] := hl
  refine lv_aload_n hx hb d_l_strongly_0 rfl (lv_at hl 3 rfl) ?_
  refine lv_iconst (v := (nI 0)) hx hb d_l_strongly_1 (by decide) ?_
  refine lv_aload_n hx hb d_l_strongly_2 rfl (lv_at hl 0 rfl) ?_
  refine lv_iload_n hx hb d_l_strongly_3 rfl (lv_at hl 1 rfl) ?_
  refine lv_iload_n hx hb d_l_strongly_4 rfl (lv_at hl 2 rfl) ?_
  refine PM.callV (rest := [.int (nI 0), .ref oa]) S (hM) k_2_29 k_2_30 k_2_31 k_1_1 k_2_32 h_g_strongly ⟨Nat.le_of_ble_eq_true rfl, Nat.le_of_ble_eq_true rfl⟩ ⟨Nat.le_of_ble_eq_true rfl, Nat.le_of_ble_eq_true rfl⟩ (hP.sub (ws' := gL cI cJ ad n ev g) [0, 1, 2, 3, 4, 5, 6] rfl) hK 0 0 rfl rfl rfl hl.1 (Nat.le_of_ble_eq_true rfl) rfl d_l_strongly_5 ?_
  refine nr_ifeq_b (tgt := 15) hx hb d_l_strongly_8 (by decide) (fun c_8 => ?_) (fun c_8 => ?_)
  · refine lv_lconst (v := 0) hx hb d_l_strongly_15 (by decide) ?_
    refine nr_top (w := .long (bL b)) (congrArg Value.long (by rw [c_8]; rfl)) ?_
    refine nr_last hx hb hK hP hD hS 7 1 rfl rfl (by omega) (by decide) d_l_strongly_16 (fun H locs hP hD hS => ?_)
    have hP : va_P D cls (gO cI cJ ad oa n ev g (vp_updL w 0 (bL b))) H := hP
    have hD : va_D A (gO cI cJ ad oa n ev g (vp_updL w 0 (bL b))) := hD
    refine lv_goto (tgt := 24) hx hb d_l_strongly_17 (by decide) ?_
    refine lv_iconst (v := (nI 0)) hx hb d_l_strongly_24 (by decide) ?_
    exact WI.iret hx hb hr hlocks hK hS d_l_strongly_25 () rfl hP hD
  · refine lv_lconst (v := 1) hx hb d_l_strongly_11 (by decide) ?_
    refine lv_goto (tgt := 16) hx hb d_l_strongly_12 (by decide) ?_
    refine nr_top (w := .long (bL b)) (congrArg Value.long (by rw [c_8]; rfl)) ?_
    refine nr_last hx hb hK hP hD hS 7 1 rfl rfl (by omega) (by decide) d_l_strongly_16 (fun H locs hP hD hS => ?_)
    have hP : va_P D cls (gO cI cJ ad oa n ev g (vp_updL w 0 (bL b))) H := hP
    have hD : va_D A (gO cI cJ ad oa n ev g (vp_updL w 0 (bL b))) := hD
    refine lv_goto (tgt := 24) hx hb d_l_strongly_17 (by decide) ?_
    refine lv_iconst (v := (nI 0)) hx hb d_l_strongly_24 (by decide) ?_
    exact WI.iret hx hb hr hlocks hK hS d_l_strongly_25 () rfl hP hD
set_option maxHeartbeats 4000000 in
set_option maxRecDepth 100000 in
theorem c_l_strength_ok (l : Launch) (D : va_G) (cI cJ cZ : ClassId) (ad : Nat → Nat) (n ev : Nat) (g : GA) (oa : Nat) (w : Nat → Int64) (x y : Int32) (k : Int32) (hM : PM l D (tys cI cJ cZ) (gL cI cJ ad n ev g) y_g_strength b_g_strength 3 (some .int) 4 94 [.ref (ad 0), .int x, .int y] (k)) : HI (S := Unit) l D (tys cI cJ cZ) (gO cI cJ ad oa n ev g w) (fun _ => gO cI cJ ad oa n ev g (vp_updL w 0 (k.toInt64))) (fun r _ => r = 0) y_l_strength b_l_strength 5 [(0, 10, 13, 19)] 5 116 [.ref (ad 0), .int x, .int y, .ref oa] := by
  refine HI.of (by decide) (Nat.le_of_ble_eq_true rfl) ?_
  intro p9 e9 s9 m args below meth c9 ls A S hr hlocks hA hP hK hD hl
  obtain ⟨hx, hb, hml, hown, htc⟩ := id S
  have hS : va_S A s9.heap s9.heap [] := va_S.rf
  have hl : lv_has ls 5 [(0, .ref (ad 0)), (1, .int x), (2, .int y), (3, .ref oa)] := hl
  refine lv_aload_n hx hb d_l_strength_0 rfl (lv_at hl 3 rfl) ?_
  refine lv_iconst (v := (nI 0)) hx hb d_l_strength_1 (by decide) ?_
  refine lv_aload_n hx hb d_l_strength_2 rfl (lv_at hl 0 rfl) ?_
  refine lv_iload_n hx hb d_l_strength_3 rfl (lv_at hl 1 rfl) ?_
  refine lv_iload_n hx hb d_l_strength_4 rfl (lv_at hl 2 rfl) ?_
  refine PM.callV (rest := [.int (nI 0), .ref oa]) S (hM) k_2_22 k_2_23 k_2_24 k_1_1 k_2_25 h_g_strength ⟨Nat.le_of_ble_eq_true rfl, Nat.le_of_ble_eq_true rfl⟩ ⟨Nat.le_of_ble_eq_true rfl, Nat.le_of_ble_eq_true rfl⟩ (hP.sub (ws' := gL cI cJ ad n ev g) [0, 1, 2, 3, 4, 5, 6] rfl) hK 0 0 rfl rfl rfl hl.1 (Nat.le_of_ble_eq_true rfl) rfl d_l_strength_5 ?_
  refine lv_i2l hx hb d_l_strength_8 rfl ?_
  refine nr_last hx hb hK hP hD hS 7 1 rfl rfl (by omega) (by decide) d_l_strength_9 (fun H locs hP hD hS => ?_)
  have hP : va_P D cls (gO cI cJ ad oa n ev g (vp_updL w 0 (k.toInt64))) H := hP
  have hD : va_D A (gO cI cJ ad oa n ev g (vp_updL w 0 (k.toInt64))) := hD
  refine lv_goto (tgt := 17) hx hb d_l_strength_10 (by decide) ?_
  refine lv_iconst (v := (nI 0)) hx hb d_l_strength_17 (by decide) ?_
  exact WI.iret hx hb hr hlocks hK hS d_l_strength_18 () rfl hP hD
set_option maxHeartbeats 4000000 in
set_option maxRecDepth 100000 in
theorem c_l_round_ok (l : Launch) (D : va_G) (cI cJ cZ : ClassId) (ad : Nat → Nat) (n ev : Nat) (g : GA) (oa : Nat) (w : Nat → Int64) (x : Int32) (k : Int32) (hM : PM l D (tys cI cJ cZ) (gL cI cJ ad n ev g) y_g_round b_g_round 2 (some .int) 2 42 [.ref (ad 0), .int x] (k)) : HI (S := Unit) l D (tys cI cJ cZ) (gO cI cJ ad oa n ev g w) (fun _ => gO cI cJ ad oa n ev g (vp_updL w 0 (k.toInt64))) (fun r _ => r = 0) y_l_round b_l_round 4 [(0, 9, 12, 19)] 3 63 [.ref (ad 0), .int x, .ref oa] := by
  refine HI.of (by decide) (Nat.le_of_ble_eq_true rfl) ?_
  intro p9 e9 s9 m args below meth c9 ls A S hr hlocks hA hP hK hD hl
  obtain ⟨hx, hb, hml, hown, htc⟩ := id S
  have hS : va_S A s9.heap s9.heap [] := va_S.rf
  have hl : lv_has ls 4 [(0, .ref (ad 0)), (1, .int x), (2, .ref oa)] := hl
  refine lv_aload_n hx hb d_l_round_0 rfl (lv_at hl 2 rfl) ?_
  refine lv_iconst (v := (nI 0)) hx hb d_l_round_1 (by decide) ?_
  refine lv_aload_n hx hb d_l_round_2 rfl (lv_at hl 0 rfl) ?_
  refine lv_iload_n hx hb d_l_round_3 rfl (lv_at hl 1 rfl) ?_
  refine PM.callV (rest := [.int (nI 0), .ref oa]) S (hM) k_2_36 k_2_37 k_2_38 k_1_1 k_2_39 h_g_round ⟨Nat.le_of_ble_eq_true rfl, Nat.le_of_ble_eq_true rfl⟩ ⟨Nat.le_of_ble_eq_true rfl, Nat.le_of_ble_eq_true rfl⟩ (hP.sub (ws' := gL cI cJ ad n ev g) [0, 1, 2, 3, 4, 5, 6] rfl) hK 0 0 rfl rfl rfl hl.1 (Nat.le_of_ble_eq_true rfl) rfl d_l_round_4 ?_
  refine lv_i2l hx hb d_l_round_7 rfl ?_
  refine nr_last hx hb hK hP hD hS 7 1 rfl rfl (by omega) (by decide) d_l_round_8 (fun H locs hP hD hS => ?_)
  have hP : va_P D cls (gO cI cJ ad oa n ev g (vp_updL w 0 (k.toInt64))) H := hP
  have hD : va_D A (gO cI cJ ad oa n ev g (vp_updL w 0 (k.toInt64))) := hD
  refine lv_goto (tgt := 15) hx hb d_l_round_9 (by decide) ?_
  refine lv_iconst (v := (nI 0)) hx hb d_l_round_15 (by decide) ?_
  exact WI.iret hx hb hr hlocks hK hS d_l_round_16 () rfl hP hD
set_option maxHeartbeats 4000000 in
set_option maxRecDepth 100000 in
theorem c_l_witness_ok (l : Launch) (D : va_G) (cI cJ cZ : ClassId) (ad : Nat → Nat) (n ev : Nat) (g : GA) (oa : Nat) (w : Nat → Int64) (x : Int32) (b : Bool) (hM : PM l D (tys cI cJ cZ) (gL cI cJ ad n ev g) y_g_witness b_g_witness 2 (some .boolean) 2 42 [.ref (ad 0), .int x] (bI b)) : HI (S := Unit) l D (tys cI cJ cZ) (gO cI cJ ad oa n ev g w) (fun _ => gO cI cJ ad oa n ev g (vp_updL w 0 (bL b))) (fun r _ => r = 0) y_l_witness b_l_witness 4 [(0, 16, 19, 19)] 3 63 [.ref (ad 0), .int x, .ref oa] := by
  refine HI.of (by decide) (Nat.le_of_ble_eq_true rfl) ?_
  intro p9 e9 s9 m args below meth c9 ls A S hr hlocks hA hP hK hD hl
  obtain ⟨hx, hb, hml, hown, htc⟩ := id S
  have hS : va_S A s9.heap s9.heap [] := va_S.rf
  have hl : lv_has ls 4 [(0, .ref (ad 0)), (1, .int x), (2, .ref oa)] := hl
  refine lv_aload_n hx hb d_l_witness_0 rfl (lv_at hl 2 rfl) ?_
  refine lv_iconst (v := (nI 0)) hx hb d_l_witness_1 (by decide) ?_
  refine lv_aload_n hx hb d_l_witness_2 rfl (lv_at hl 0 rfl) ?_
  refine lv_iload_n hx hb d_l_witness_3 rfl (lv_at hl 1 rfl) ?_
  refine PM.callV (rest := [.int (nI 0), .ref oa]) S (hM) k_2_43 k_2_44 k_2_45 k_1_1 k_2_46 h_g_witness ⟨Nat.le_of_ble_eq_true rfl, Nat.le_of_ble_eq_true rfl⟩ ⟨Nat.le_of_ble_eq_true rfl, Nat.le_of_ble_eq_true rfl⟩ (hP.sub (ws' := gL cI cJ ad n ev g) [0, 1, 2, 3, 4, 5, 6] rfl) hK 0 0 rfl rfl rfl hl.1 (Nat.le_of_ble_eq_true rfl) rfl d_l_witness_4 ?_
  refine nr_ifeq_b (tgt := 14) hx hb d_l_witness_7 (by decide) (fun c_7 => ?_) (fun c_7 => ?_)
  · refine lv_lconst (v := 0) hx hb d_l_witness_14 (by decide) ?_
    refine nr_top (w := .long (bL b)) (congrArg Value.long (by rw [c_7]; rfl)) ?_
    refine nr_last hx hb hK hP hD hS 7 1 rfl rfl (by omega) (by decide) d_l_witness_15 (fun H locs hP hD hS => ?_)
    have hP : va_P D cls (gO cI cJ ad oa n ev g (vp_updL w 0 (bL b))) H := hP
    have hD : va_D A (gO cI cJ ad oa n ev g (vp_updL w 0 (bL b))) := hD
    refine lv_goto (tgt := 22) hx hb d_l_witness_16 (by decide) ?_
    refine lv_iconst (v := (nI 0)) hx hb d_l_witness_22 (by decide) ?_
    exact WI.iret hx hb hr hlocks hK hS d_l_witness_23 () rfl hP hD
  · refine lv_lconst (v := 1) hx hb d_l_witness_10 (by decide) ?_
    refine lv_goto (tgt := 15) hx hb d_l_witness_11 (by decide) ?_
    refine nr_top (w := .long (bL b)) (congrArg Value.long (by rw [c_7]; rfl)) ?_
    refine nr_last hx hb hK hP hD hS 7 1 rfl rfl (by omega) (by decide) d_l_witness_15 (fun H locs hP hD hS => ?_)
    have hP : va_P D cls (gO cI cJ ad oa n ev g (vp_updL w 0 (bL b))) H := hP
    have hD : va_D A (gO cI cJ ad oa n ev g (vp_updL w 0 (bL b))) := hD
    refine lv_goto (tgt := 22) hx hb d_l_witness_16 (by decide) ?_
    refine lv_iconst (v := (nI 0)) hx hb d_l_witness_22 (by decide) ?_
    exact WI.iret hx hb hr hlocks hK hS d_l_witness_23 () rfl hP hD
set_option maxHeartbeats 4000000 in
set_option maxRecDepth 100000 in
theorem c_l_count_0 (l : Launch) (D : va_G) (cI cJ cZ : ClassId) (ad : Nat → Nat) (n ev : Nat) (g : GA) (oa : Nat) (w : Nat → Int64) (x : Int32) (k : Int32) (hM : PM l D (tys cI cJ cZ) (gL cI cJ ad n ev g) y_g_count b_g_count 2 (some .int) 0 0 [.ref (ad 0), .int x] (k)) : HI (S := Unit) l D (tys cI cJ cZ) (gO cI cJ ad oa n ev g w) (fun _ => gO cI cJ ad oa n ev g (vp_updL w 0 (k.toInt64))) (fun r _ => r = 0) y_l_count b_l_count 4 [(0, 9, 12, 13)] 5 121 [.ref (ad 0), .int x, .ref oa] := by
  refine HI.of (by decide) (Nat.le_of_ble_eq_true rfl) ?_
  intro p9 e9 s9 m args below meth c9 ls A S hr hlocks hA hP hK hD hl
  obtain ⟨hx, hb, hml, hown, htc⟩ := id S
  have hS : va_S A s9.heap s9.heap [] := va_S.rf
  have hl : lv_has ls 4 [(0, .ref (ad 0)), (1, .int x), (2, .ref oa)] := hl
  refine lv_aload_n hx hb d_l_count_0 rfl (lv_at hl 2 rfl) ?_
  refine lv_iconst (v := (nI 0)) hx hb d_l_count_1 (by decide) ?_
  refine lv_aload_n hx hb d_l_count_2 rfl (lv_at hl 0 rfl) ?_
  refine lv_iload_n hx hb d_l_count_3 rfl (lv_at hl 1 rfl) ?_
  refine PM.callV (rest := [.int (nI 0), .ref oa]) S (hM) k_2_50 k_2_51 k_2_52 k_1_1 k_2_53 h_g_count ⟨Nat.le_of_ble_eq_true rfl, Nat.le_of_ble_eq_true rfl⟩ ⟨Nat.le_of_ble_eq_true rfl, Nat.le_of_ble_eq_true rfl⟩ (hP.sub (ws' := gL cI cJ ad n ev g) [0, 1, 2, 3, 4, 5, 6] rfl) hK 0 0 rfl rfl rfl hl.1 (Nat.le_of_ble_eq_true rfl) rfl d_l_count_4 ?_
  refine lv_i2l hx hb d_l_count_7 rfl ?_
  refine nr_last hx hb hK hP hD hS 7 1 rfl rfl (by omega) (by decide) d_l_count_8 (fun H locs hP hD hS => ?_)
  have hP : va_P D cls (gO cI cJ ad oa n ev g (vp_updL w 0 (k.toInt64))) H := hP
  have hD : va_D A (gO cI cJ ad oa n ev g (vp_updL w 0 (k.toInt64))) := hD
  refine lv_goto (tgt := 15) hx hb d_l_count_9 (by decide) ?_
  refine lv_iconst (v := (nI 0)) hx hb d_l_count_15 (by decide) ?_
  exact WI.iret hx hb hr hlocks hK hS d_l_count_16 () rfl hP hD
set_option maxHeartbeats 4000000 in
set_option maxRecDepth 100000 in
theorem c_l_count_1 (l : Launch) (D : va_G) (cI cJ cZ : ClassId) (ad : Nat → Nat) (n ev : Nat) (g : GA) (oa : Nat) (w : Nat → Int64) (x : Int32) (k : Int32) (hM : PM l D (tys cI cJ cZ) (gL cI cJ ad n ev g) y_g_count b_g_count 2 (some .int) 0 0 [.ref (ad 0), .int x] (k)) : HI (S := Unit) l D (tys cI cJ cZ) (gO cI cJ ad oa n ev g w) (fun _ => gO cI cJ ad oa n ev g (vp_updL w 0 (k.toInt64))) (fun r _ => r = 0) y_l_count b_l_count 4 [(0, 9, 12, 13)] 5 121 [.ref (ad 0), .int x, .ref oa] := by
  refine HI.of (by decide) (Nat.le_of_ble_eq_true rfl) ?_
  intro p9 e9 s9 m args below meth c9 ls A S hr hlocks hA hP hK hD hl
  obtain ⟨hx, hb, hml, hown, htc⟩ := id S
  have hS : va_S A s9.heap s9.heap [] := va_S.rf
  have hl : lv_has ls 4 [(0, .ref (ad 0)), (1, .int x), (2, .ref oa)] := hl
  refine lv_aload_n hx hb d_l_count_0 rfl (lv_at hl 2 rfl) ?_
  refine lv_iconst (v := (nI 0)) hx hb d_l_count_1 (by decide) ?_
  refine lv_aload_n hx hb d_l_count_2 rfl (lv_at hl 0 rfl) ?_
  refine lv_iload_n hx hb d_l_count_3 rfl (lv_at hl 1 rfl) ?_
  refine PM.callV (rest := [.int (nI 0), .ref oa]) S (hM) k_2_50 k_2_51 k_2_52 k_1_1 k_2_53 h_g_count ⟨Nat.le_of_ble_eq_true rfl, Nat.le_of_ble_eq_true rfl⟩ ⟨Nat.le_of_ble_eq_true rfl, Nat.le_of_ble_eq_true rfl⟩ (hP.sub (ws' := gL cI cJ ad n ev g) [0, 1, 2, 3, 4, 5, 6] rfl) hK 0 0 rfl rfl rfl hl.1 (Nat.le_of_ble_eq_true rfl) rfl d_l_count_4 ?_
  refine lv_i2l hx hb d_l_count_7 rfl ?_
  refine nr_last hx hb hK hP hD hS 7 1 rfl rfl (by omega) (by decide) d_l_count_8 (fun H locs hP hD hS => ?_)
  have hP : va_P D cls (gO cI cJ ad oa n ev g (vp_updL w 0 (k.toInt64))) H := hP
  have hD : va_D A (gO cI cJ ad oa n ev g (vp_updL w 0 (k.toInt64))) := hD
  refine lv_goto (tgt := 15) hx hb d_l_count_9 (by decide) ?_
  refine lv_iconst (v := (nI 0)) hx hb d_l_count_15 (by decide) ?_
  exact WI.iret hx hb hr hlocks hK hS d_l_count_16 () rfl hP hD
set_option maxHeartbeats 4000000 in
set_option maxRecDepth 100000 in
theorem c_l_count_2 (l : Launch) (D : va_G) (cI cJ cZ : ClassId) (ad : Nat → Nat) (n ev : Nat) (g : GA) (oa : Nat) (w : Nat → Int64) (x : Int32) (k : Int32) (hM : PM l D (tys cI cJ cZ) (gL cI cJ ad n ev g) y_g_count b_g_count 2 (some .int) 4 100 [.ref (ad 0), .int x] (k)) : HI (S := Unit) l D (tys cI cJ cZ) (gO cI cJ ad oa n ev g w) (fun _ => gO cI cJ ad oa n ev g (vp_updL w 0 (k.toInt64))) (fun r _ => r = 0) y_l_count b_l_count 4 [(0, 9, 12, 13)] 5 121 [.ref (ad 0), .int x, .ref oa] := by
  refine HI.of (by decide) (Nat.le_of_ble_eq_true rfl) ?_
  intro p9 e9 s9 m args below meth c9 ls A S hr hlocks hA hP hK hD hl
  obtain ⟨hx, hb, hml, hown, htc⟩ := id S
  have hS : va_S A s9.heap s9.heap [] := va_S.rf
  have hl : lv_has ls 4 [(0, .ref (ad 0)), (1, .int x), (2, .ref oa)] := hl
  refine lv_aload_n hx hb d_l_count_0 rfl (lv_at hl 2 rfl) ?_
  refine lv_iconst (v := (nI 0)) hx hb d_l_count_1 (by decide) ?_
  refine lv_aload_n hx hb d_l_count_2 rfl (lv_at hl 0 rfl) ?_
  refine lv_iload_n hx hb d_l_count_3 rfl (lv_at hl 1 rfl) ?_
  refine PM.callV (rest := [.int (nI 0), .ref oa]) S (hM) k_2_50 k_2_51 k_2_52 k_1_1 k_2_53 h_g_count ⟨Nat.le_of_ble_eq_true rfl, Nat.le_of_ble_eq_true rfl⟩ ⟨Nat.le_of_ble_eq_true rfl, Nat.le_of_ble_eq_true rfl⟩ (hP.sub (ws' := gL cI cJ ad n ev g) [0, 1, 2, 3, 4, 5, 6] rfl) hK 0 0 rfl rfl rfl hl.1 (Nat.le_of_ble_eq_true rfl) rfl d_l_count_4 ?_
  refine lv_i2l hx hb d_l_count_7 rfl ?_
  refine nr_last hx hb hK hP hD hS 7 1 rfl rfl (by omega) (by decide) d_l_count_8 (fun H locs hP hD hS => ?_)
  have hP : va_P D cls (gO cI cJ ad oa n ev g (vp_updL w 0 (k.toInt64))) H := hP
  have hD : va_D A (gO cI cJ ad oa n ev g (vp_updL w 0 (k.toInt64))) := hD
  refine lv_goto (tgt := 15) hx hb d_l_count_9 (by decide) ?_
  refine lv_iconst (v := (nI 0)) hx hb d_l_count_15 (by decide) ?_
  exact WI.iret hx hb hr hlocks hK hS d_l_count_16 () rfl hP hD
set_option maxHeartbeats 4000000 in
set_option maxRecDepth 100000 in
theorem c_l_count_3 (l : Launch) (D : va_G) (cI cJ cZ : ClassId) (ad : Nat → Nat) (n ev : Nat) (g : GA) (oa : Nat) (w : Nat → Int64) (x : Int32) (k : Int32) (hM : PM l D (tys cI cJ cZ) (gL cI cJ ad n ev g) y_g_count b_g_count 2 (some .int) 2 42 [.ref (ad 0), .int x] (k)) : HI (S := Unit) l D (tys cI cJ cZ) (gO cI cJ ad oa n ev g w) (fun _ => gO cI cJ ad oa n ev g (vp_updL w 0 (k.toInt64))) (fun r _ => r = 0) y_l_count b_l_count 4 [(0, 9, 12, 13)] 5 121 [.ref (ad 0), .int x, .ref oa] := by
  refine HI.of (by decide) (Nat.le_of_ble_eq_true rfl) ?_
  intro p9 e9 s9 m args below meth c9 ls A S hr hlocks hA hP hK hD hl
  obtain ⟨hx, hb, hml, hown, htc⟩ := id S
  have hS : va_S A s9.heap s9.heap [] := va_S.rf
  have hl : lv_has ls 4 [(0, .ref (ad 0)), (1, .int x), (2, .ref oa)] := hl
  refine lv_aload_n hx hb d_l_count_0 rfl (lv_at hl 2 rfl) ?_
  refine lv_iconst (v := (nI 0)) hx hb d_l_count_1 (by decide) ?_
  refine lv_aload_n hx hb d_l_count_2 rfl (lv_at hl 0 rfl) ?_
  refine lv_iload_n hx hb d_l_count_3 rfl (lv_at hl 1 rfl) ?_
  refine PM.callV (rest := [.int (nI 0), .ref oa]) S (hM) k_2_50 k_2_51 k_2_52 k_1_1 k_2_53 h_g_count ⟨Nat.le_of_ble_eq_true rfl, Nat.le_of_ble_eq_true rfl⟩ ⟨Nat.le_of_ble_eq_true rfl, Nat.le_of_ble_eq_true rfl⟩ (hP.sub (ws' := gL cI cJ ad n ev g) [0, 1, 2, 3, 4, 5, 6] rfl) hK 0 0 rfl rfl rfl hl.1 (Nat.le_of_ble_eq_true rfl) rfl d_l_count_4 ?_
  refine lv_i2l hx hb d_l_count_7 rfl ?_
  refine nr_last hx hb hK hP hD hS 7 1 rfl rfl (by omega) (by decide) d_l_count_8 (fun H locs hP hD hS => ?_)
  have hP : va_P D cls (gO cI cJ ad oa n ev g (vp_updL w 0 (k.toInt64))) H := hP
  have hD : va_D A (gO cI cJ ad oa n ev g (vp_updL w 0 (k.toInt64))) := hD
  refine lv_goto (tgt := 15) hx hb d_l_count_9 (by decide) ?_
  refine lv_iconst (v := (nI 0)) hx hb d_l_count_15 (by decide) ?_
  exact WI.iret hx hb hr hlocks hK hS d_l_count_16 () rfl hP hD
set_option maxHeartbeats 4000000 in
set_option maxRecDepth 100000 in
theorem c_l_begin_ok (l : Launch) (D : va_G) (cI cJ cZ : ClassId) (ad : Nat → Nat) (n ev : Nat) (g : GA) (v : Nat) (h1 : 2 ≤ v) (h2 : v ≤ 8) : HI (S := Unit) l D (tys cI cJ cZ) (gL cI cJ ad n ev g) (fun _ => gL cI cJ ad v 0 g) (fun r _ => r = 0) y_l_begin b_l_begin 3 [(0, 5, 8, 13)] 1 21 [.ref (ad 0), .int (nI v)] := by
  refine HI.of (by decide) (Nat.le_of_ble_eq_true rfl) ?_
  intro p9 e9 s9 m args below meth c9 ls A S hr hlocks hA hP hK hD hl
  obtain ⟨hx, hb, hml, hown, htc⟩ := id S
  have hS : va_S A s9.heap s9.heap [] := va_S.rf
  have hl : lv_has ls 3 [(0, .ref (ad 0)), (1, .int (nI v))] := hl
  refine lv_aload_n hx hb d_l_begin_0 rfl (lv_at hl 0 rfl) ?_
  refine lv_iload_n hx hb d_l_begin_1 rfl (lv_at hl 1 rfl) ?_
  refine WV.callV (wr := []) (rest := []) S (c_g_begin_ok l D cI cJ cZ ad n ev g v h1 h2) k_1_49 k_1_50 k_1_51 k_1_1 k_1_52 h_g_begin ⟨Nat.le_of_ble_eq_true rfl, Nat.le_of_ble_eq_true rfl⟩ ⟨Nat.le_of_ble_eq_true rfl, Nat.le_of_ble_eq_true rfl⟩ hP hK hD hS hA [0, 1, 2, 3, 4, 5, 6] [] rfl rfl (by decide) (by decide) (by decide) 0 0 rfl rfl rfl hl.1 (Nat.le_of_ble_eq_true rfl) rfl d_l_begin_2 (fun u9 H locs hu9 hP hD hS => ?_)
  refine lv_goto (tgt := 11) hx hb d_l_begin_5 (by decide) ?_
  refine lv_iconst (v := (nI 0)) hx hb d_l_begin_11 (by decide) ?_
  exact WI.iret hx hb hr hlocks hK hS d_l_begin_12 () rfl hP hD
set_option maxHeartbeats 4000000 in
set_option maxRecDepth 100000 in
theorem c_l_event_ok (l : Launch) (D : va_G) (cI cJ cZ : ClassId) (ad : Nat → Nat) (n ev : Nat) (g : GA) (oa : Nat) (w : Nat → Int64) (c s o rd : Nat → Nat) (an ow fk : Nat → Nat → Bool) (hLw : Lw (ev + 1) n c s o an ow) (hC : gC ev g c s an fk) (hR : gR ev g rd) (hfk : ∀ m, fk ev m = fo (an ev) ow c (ev + 1) m) (hrd : rd ev = ro n an fk c s o rd ev) (hrb : rd ev ≤ ev + 1) (hn : n ≤ 8) (hev : ev < 120) (hS1 : okS ev c (c ev) (mI (s ev)) = true) (hO1 : okO ev c (c ev) (mI (o ev)) = true) : HI (S := GA) l D (tys cI cJ cZ) (gO cI cJ ad oa n ev g w) (fun u => gO cI cJ ad oa n (ev + 1) u (vp_updL w 0 (nI ev).toInt64)) (fun r u => r = 0 ∧ gC (ev + 1) u c s an fk ∧ gR (ev + 1) u rd) y_l_event b_l_event 6 [(0, 12, 15, 13), (0, 12, 19, 19)] 7 166 [.ref (ad 0), .int (nI (c ev)), .int (mI (s ev)), .int (mI (o ev)), .ref oa] := by
  refine HI.of (by decide) (Nat.le_of_ble_eq_true rfl) ?_
  intro p9 e9 s9 m args below meth c9 ls A S hr hlocks hA hP hK hD hl
  obtain ⟨hx, hb, hml, hown, htc⟩ := id S
  have hS : va_S A s9.heap s9.heap [] := va_S.rf
  have hl : lv_has ls 6 [(0, .ref (ad 0)), (1, .int (nI (c ev))), (2, .int (mI (s ev))), (3, .int (mI (o ev))), (4, .ref oa)] := hl
  refine lv_aload hx hb d_l_event_0 (lv_at hl 4 rfl) ?_
  refine lv_iconst (v := (nI 0)) hx hb d_l_event_2 (by decide) ?_
  refine lv_aload_n hx hb d_l_event_3 rfl (lv_at hl 0 rfl) ?_
  refine lv_iload_n hx hb d_l_event_4 rfl (lv_at hl 1 rfl) ?_
  refine lv_iload_n hx hb d_l_event_5 rfl (lv_at hl 2 rfl) ?_
  refine lv_iload_n hx hb d_l_event_6 rfl (lv_at hl 3 rfl) ?_
  refine WI.callV (wr := [(oa, .inl (cJ, 1, .inr (.inl w)))]) (rest := [.int (nI 0), .ref oa]) S (c_g_event_ok l D cI cJ cZ ad n ev g c s o rd an ow fk hLw hC hR hfk hrd hrb hn hev hS1 hO1) k_1_124 k_1_125 k_1_126 k_1_1 k_1_127 h_g_event ⟨Nat.le_of_ble_eq_true rfl, Nat.le_of_ble_eq_true rfl⟩ ⟨Nat.le_of_ble_eq_true rfl, Nat.le_of_ble_eq_true rfl⟩ hP hK hD hS hA [0, 1, 2, 3, 4, 5, 6] [7] rfl rfl (by decide) (by decide) (by decide) 0 0 rfl rfl rfl hl.1 (Nat.le_of_ble_eq_true rfl) rfl d_l_event_7 (fun v9 u9 H locs hv9 hP hD hS => ?_)
  obtain ⟨rfl, hC9, hR9⟩ := hv9
  refine lv_i2l hx hb d_l_event_10 rfl ?_
  refine nr_last hx hb hK hP hD hS 0 1 rfl rfl (by decide) (by decide) d_l_event_11 (fun H locs hP hD hS => ?_)
  have hP : va_P D cls (gO cI cJ ad oa n (ev + 1) u9 (vp_updL w 0 (nI ev).toInt64)) H := hP.sub [1, 2, 3, 4, 5, 6, 7, 0] rfl
  have hD : va_D A (gO cI cJ ad oa n (ev + 1) u9 (vp_updL w 0 (nI ev).toInt64)) := hD.sub [1, 2, 3, 4, 5, 6, 7, 0] (by decide) rfl
  refine lv_goto (tgt := 23) hx hb d_l_event_12 (by decide) ?_
  refine lv_iconst (v := (nI 0)) hx hb d_l_event_23 (by decide) ?_
  exact WI.iret hx hb hr hlocks hK hS d_l_event_24 u9 ⟨rfl, hC9, hR9⟩ hP hD
