/-! the law: its calls -/
section LAWR
variable {p : Program} {l : Launch} {e : Env} {R : Room} {s : State} {m : MethodId} {args : Array Value} {below : List Frame} {meth : Method} {c : Code} {H : Heap} {locs : List Loc} {cells slots : Nat} {Q : State → Prop}
variable {cc : ByteArray} {pc : Nat} {ls : Array Slot} {rest st : List Value}
theorem HI.callS {S : Type} {D : va_G} {tys : List (ClassId × FieldType)} {ws wc wr : va_W} {w' : S → va_W} {post : Int32 → S → Prop} {A : Nat → Prop} {H0 : Heap} {nL : Nat} {own : String} {y : MethodName} {bs : ByteArray} {mL : Nat} {hh : List (Nat × Nat × Nat × Nat)} {f lo idx : Nat} {As : List Value} (S0 : CallFix p m c cc nL s args Cw own) (hM : HI l D tys wc w' post y bs mL hh f lo As)
    (k1 : Cond.methodLink own idx y ∈ Cw) (k2 : Cond.static y ∈ Cw) (k4 : Cond.initialized y.cls ∈ Cw) (k5 : Cond.codeWith y bs mL (some .int) hh ∈ Cw) (hd : y.cls ≠ "java/lang/invoke/MethodHandle" ∧ y.cls ≠ "java/lang/invoke/VarHandle" ∧ (parseMethodDescriptor y.desc).map (fun d => d.parameters.length) = some As.length)
    (hR : f + 1 ≤ R.frames ∧ 8 + (mL + 11) + lo ≤ R.locals) (hf : cells ≤ R.cells ∧ slots ≤ R.slots) (hP : va_P D cls ws H) (hK : va_K D cls tys s) (hD : va_D A ws) (hS : va_S A H0 H locs) (hA : ∀ q : Nat, H0.size ≤ q → A q) (isC isR : List Nat) (hC : isC.map (fun i => ws[i]?) = wc.map some) (hRr : isR.map (fun i => ws[i]?) = wr.map some) (hnC : va_nd isC = true) (hnR : va_nd isR = true) (hdis : ∀ i ∈ isR, i ∉ isC)
    (hl : ls.size = nL) (hrest : (rest.map fun v => v.category).sum ≤ 8) (hst : st = As.reverse ++ rest) (d : decode cc pc = .ok (.invokestatic idx, 3))
    (k : ∀ (r : Int32) (u : S) (H1 : Heap) (locs1 : List Loc), post r u → va_P D cls (wr ++ w' u) H1 → va_D A (wr ++ w' u) → va_S A H0 H1 locs1 → W p l e R s m args below meth c H1 locs1 cells slots Q (F0 m (pc + 3) ls (.int r :: rest))) : W p l e R s m args below meth c H locs cells slots Q (F0 m pc ls st) := by
  have hPc := hP.sub (ws' := wc) isC (fm_of hC)
  have hDc := hD.sub (ws' := wc) isC hnC hC
  have hFc := va_free (wc := wc) hD hS hA isC hC
  refine va_calli (vx_runSW (g := F0 m pc ls st) (As := As) (rest := rest) S0 (hM H.size) (vx_cwSW As.length S0.2.2.2.2 (cw_SW k1 k2 k4 k5) rfl rfl rfl hd hR) ⟨wS_blind, fun U hU hW => ⟨rfl, by rw [hU], ⟨by rw [hU]; exact hPc, va_K.moved hW.alike hK⟩, hDc.weaken (fun _ _ _ _ => trivial)⟩⟩ rfl rfl hl hst (lv_room hrest) d hf) hS (fun q9 _ h => hFc q9 h) hFc (fun r u t H1 locs1 ht hvm hw hB hz1 hk1 hS1 => ?_)
  obtain ⟨hP1, -, hD1⟩ := hB
  rw [ht] at hP1
  obtain ⟨hP2, hD2⟩ := va_join (wr := wr) (w1 := w' u) hP hD isC isR hC hRr hnR hdis hk1 hFc hP1 hD1
  exact k r u H1 locs1 hw hP2 hD2 hS1
/-- a helper that catches: one cell more -/
theorem HX.callS {D : va_G} {tys : List (ClassId × FieldType)} {ws wc : va_W} {A : Nat → Prop} {H0 : Heap} {sa : Nat → Nat} {nL : Nat} {own : String} {y : MethodName} {bs : ByteArray} {mL : Nat} {hh : List (Nat × Nat × Nat × Nat)} {f lo idx : Nat} {As : List Value} {v : Int32} (S0 : CallFix p m c cc nL s args Cw own) (hM : HX l D tys wc sa y bs mL hh f lo As v)
    (k1 : Cond.methodLink own idx y ∈ Cw) (k2 : Cond.static y ∈ Cw) (k4 : Cond.initialized y.cls ∈ Cw) (k5 : Cond.codeWith y bs mL (some .int) hh ∈ Cw) (hd : y.cls ≠ "java/lang/invoke/MethodHandle" ∧ y.cls ≠ "java/lang/invoke/VarHandle" ∧ (parseMethodDescriptor y.desc).map (fun d => d.parameters.length) = some As.length)
    (hR : f + 1 ≤ R.frames ∧ 8 + (mL + 11) + lo ≤ R.locals) (hf : cells + 1 ≤ R.cells ∧ slots + 6 ≤ R.slots) (hP : va_P D cls ws H) (hK : va_K D cls tys s) (hS : va_S A H0 H locs) (hTE : TE noA sa s H) (hNc : va_Nc "java/lang/IndexOutOfBoundsException" "java/lang/IllegalArgumentException" s) (isC : List Nat) (hC : isC.map (fun i => ws[i]?) = wc.map some)
    (hl : ls.size = nL) (hrest : (rest.map fun v => v.category).sum ≤ 8) (hst : st = As.reverse ++ rest) (d : decode cc pc = .ok (.invokestatic idx, 3))
    (k : ∀ (H1 : Heap) (locs1 : List Loc), va_P D cls ws H1 → va_S A H0 H1 locs1 → W p l e R s m args below meth c H1 locs1 (cells + 1) (slots + 6) Q (F0 m (pc + 3) ls (.int v :: rest))) : W p l e R s m args below meth c H locs cells slots Q (F0 m pc ls st) := by
  have hPc := hP.sub (ws' := wc) isC (fm_of hC)
  have hr := vx_runSW (p := p) (l := l) (e := e) (R := R) (below := below) (meth := meth) (H := H) (locs := locs) (cells := cells) (slots := slots) (g := F0 m pc ls st) (As := As) (rest := rest) S0 hM (vx_cwSW As.length S0.2.2.2.2 (cw_SW k1 k2 k4 k5) rfl rfl rfl hd hR) ⟨wx9_blind, fun U hU hW => ⟨rfl, ⟨⟨by rw [hU]; exact hPc, va_K.moved hW.alike hK⟩, by rw [hU]; exact TE.warm hW hTE⟩, va_Nc.moved hW.alike hNc⟩⟩ rfl rfl hl hst (lv_room hrest) d hf
  intro T hT X
  obtain ⟨v9, st₀, t, T', L, h0, X', hL, e1, e2, ⟨ho, hz, hk⟩, stp⟩ := hr T hT X
  cases ho
  rw [h0] at hz hk
  obtain ⟨t2, a1, b1⟩ := k T'.heap (locs ++ L) (hP.kept (fun i q hi => by rw [e1]; exact hk q.1 (vx_lt hP hi))) ⟨by rw [e1]; exact Nat.le_trans hS.1 hz, fun q h1 h2 => by rw [e1, hk q (Nat.lt_of_lt_of_le h1 hS.1)]; exact hS.2.1 q h1 h2, fun q hq => (List.mem_append.mp hq).elim (hS.2.2 q) (fun z => (hL q z).elim)⟩ T' rfl X'
  exact ⟨t2, stp t2 a1, b1⟩
/-- a constructor is called -/
theorem WN.callI {S : Type} {D : va_G} {tys : List (ClassId × FieldType)} {ws wc wr : va_W} {w' : S → va_W} {post : S → Prop} {A : Nat → Prop} {H0 : Heap} {nL : Nat} {own : String} {y : MethodName} {bs : ByteArray} {mL : Nat} {f lo mc ms b idx : Nat} {As : List Value} (S0 : CallFix p m c cc nL s args Cw own) (hM : WN l D tys wc w' post y bs mL f lo mc ms (.ref b :: As))
    (k1 : Cond.methodLink own idx y ∈ Cw) (k2 : Cond.instanceMethod y ∈ Cw) (k4 : Cond.initialized y.cls ∈ Cw) (k5 : Cond.code y bs mL none ∈ Cw) (hy1 : y.name = "<init>") (hd : y.cls ≠ "java/lang/invoke/MethodHandle" ∧ y.cls ≠ "java/lang/invoke/VarHandle" ∧ (parseMethodDescriptor y.desc).map (fun d => d.parameters.length) = some As.length)
    (hR : f + 1 ≤ R.frames ∧ 8 + (mL + 11) + lo ≤ R.locals) (hf : cells + mc ≤ R.cells ∧ slots + ms ≤ R.slots) (hP : va_P D cls ws H) (hK : va_K D cls tys s) (hD : va_D A ws) (hS : va_S A H0 H locs) (hA : ∀ q : Nat, H0.size ≤ q → A q) (isC isR : List Nat) (hC : isC.map (fun i => ws[i]?) = wc.map some) (hRr : isR.map (fun i => ws[i]?) = wr.map some) (hnC : va_nd isC = true) (hnR : va_nd isR = true) (hdis : ∀ i ∈ isR, i ∉ isC)
    (hl : ls.size = nL) (hrest : (rest.map fun v => v.category).sum ≤ 8) (hst : st = As.reverse ++ .ref b :: rest) (d : decode cc pc = .ok (.invokespecial idx, 3))
    (k : ∀ (u : S) (H1 : Heap) (locs1 : List Loc), post u → va_P D cls (wr ++ w' u) H1 → va_D A (wr ++ w' u) → va_S A H0 H1 locs1 → W p l e R s m args below meth c H1 locs1 (cells + mc) (slots + ms) Q (F0 m (pc + 3) ls rest)) : W p l e R s m args below meth c H locs cells slots Q (F0 m pc ls st) := by
  have hPc := hP.sub (ws' := wc) isC (fm_of hC)
  have hDc := hD.sub (ws' := wc) isC hnC hC
  have hFc := va_free (wc := wc) hD hS hA isC hC
  have hG : GoodIn Cw (Cond.code y bs mL none :: Cw) := by
    intro w hw
    rcases List.mem_cons.mp hw with rfl | hw
    · exact ⟨k5, good_of_word (List.mem_filter.mp k5).2⟩
    · exact ⟨hw, good_of_word (List.mem_filter.mp hw).2⟩
  refine va_callv (va_runI (g := F0 m pc ls st) (As := As) (rest := rest) (b := b) S0 (hM H.size) (cwI As.length S0.2.2.2.2 hG rfl rfl rfl (S0.2.2.2.2 _ k4) (S0.2.2.2.2 _ k1) (S0.2.2.2.2 _ k2) hy1 hd hR) ⟨wS_blind, fun U hU hW => ⟨rfl, by rw [hU], ⟨by rw [hU]; exact hPc, va_K.moved hW.alike hK⟩, hDc.weaken (fun _ _ _ _ => trivial)⟩⟩ rfl rfl hl hst (lv_room hrest) d hf) hS (fun q9 _ h => hFc q9 h) hFc (fun u t H1 locs1 ht hvm hw hB hz1 hk1 hS1 => ?_)
  obtain ⟨hP1, -, hD1⟩ := hB
  rw [ht] at hP1
  obtain ⟨hP2, hD2⟩ := va_join (wr := wr) (w1 := w' u) hP hD isC isR hC hRr hnR hdis hk1 hFc hP1 hD1
  exact k u H1 locs1 hw hP2 hD2 hS1
/-- the script -/
theorem nr_sld (hx : p.tables.exec = Jvm.exec) (hb : c.code = cc) {b L : Nat} {xs : Nat → Int32} {A : Nat → Prop} {H0 : Heap} (hX : va_X b L xs s H0) (hbl : b < H0.size) (hbA : ¬ A b) (hS : va_S A H0 H locs) {j : Nat} (hj : j < L) (hL : L < 2 ^ 31) (d : decode cc pc = .ok (.iaload, 1)) (k : W p l e R s m args below meth c H locs cells slots Q (F0 m (pc + 1) ls (.int (xs j) :: rest))) : W p l e R s m args below meth c H locs cells slots Q (F0 m pc ls (.int (nI j) :: .ref b :: rest)) :=
  va_sld hx hb hX hbl hbA hS (vp_in_nI hj hL) d (nr_top (congrArg Value.int (by rw [nI_clamp (by omega)])) k)
end LAWR
/-- the law's world: the class's cells, the reference's, out -/
def LW (cI cJ cZ : ClassId) (ad bd : Nat → Nat) (oa : Nat) (er : Int32) (n ev : Nat) (g : GA) (r : RA) (w : Nat → Int64) : va_W := gL cI cJ ad n ev g ++ (rL cI cZ bd er n ev r ++ [(oa, .inl (cJ, 1, .inr (.inl w)))])
/-- what the law stands on -/
def LC (p : Program) (l : Launch) (s : State) (m : MethodId) (c : Code) (b L : Nat) (xs : Nat → Int32) (D : va_G) (cI cJ cZ : ClassId) (sa : Nat → Nat) : Prop :=
  CallFix p m c code 7 s #[Value.ref b] Cw "SightGraphLaw" ∧ va_X b L xs s s.heap ∧ b < s.heap.size ∧ va_K D cls (tys cI cJ cZ) s ∧ TE (fun q => s.heap.size ≤ q) sa s s.heap ∧ va_Nc "java/lang/IndexOutOfBoundsException" "java/lang/IllegalArgumentException" s ∧ L ≤ 2048 ∧ l.stackTraces = false
def nA (s : State) : Nat → Prop := fun q => s.heap.size ≤ q
theorem LC.te {s : State} {sa : Nat → Nat} {H : Heap} {locs : List Loc} (h : TE (fun q => s.heap.size ≤ q) sa s s.heap) (hS : va_S (nA s) s.heap H locs) : TE noA sa s H := (h.kept (fun a h1 h2 => hS.2.1 a h1 h2)).narrow (fun _ z => z.elim)
theorem lg_same (x : Int64) : lg_cmp x x = 0 := by
  unfold lg_cmp
  rw [if_neg (by simp), if_pos rfl]
theorem nI_sub4 {i L : Nat} (hi : i < 2 ^ 30) (hL : L < 2 ^ 30) : nI L - nI 4 < nI i ↔ L < i + 4 := by
  rw [Int32.lt_iff_toInt_lt, pk_sub_toInt hL (by decide), nI_toInt (by omega)]
  omega
def LV (b : Nat) (ad bd : Nat → Nat) (oa i : Nat) : List (Nat × Value) := [(4, .int (nI i)), (3, .ref oa), (2, .ref (bd 0)), (1, .ref (ad 0)), (0, .ref b)]
