/-- a method that reads: the answer is v, the heap is as it was -/
def PL (l : Launch) (D : va_G) (tys : List (ClassId × FieldType)) (ws : va_W) (y : MethodName) (bs : ByteArray) (mL : Nat) (ret : Option FieldType) (f lo : Nat) (av : List Value) (v : Int64) : Prop :=
  Met l y (Cond.code y bs mL ret :: Cw) ({ frames := f, cells := 0, slots := 0, locals := lo }) (va_Pc av (wd D tys ws)) (vp_Sl (fun r => r = v)) 0 0 (fun _ => False)
theorem PL.of {l : Launch} {D : va_G} {tys : List (ClassId × FieldType)} {ws : va_W} {y : MethodName} {bs : ByteArray} {mL : Nat} {ret : Option FieldType} {f lo : Nat} {av : List Value} {v : Int64} (hy : plainName y.cls = true) (hn : (lg_sl av).length ≤ mL)
    (body : ∀ (p : Program) (e : Env) (s : State) (m : MethodId) (args : Array Value) (below : List Frame) (meth : Method) (c : Code) (ls : Array Slot), CallFix p m c bs mL s args Cw y.cls → meth.sig.returnType = ret → meth.locks = false → va_P D cls ws s.heap → va_K D cls tys s → lv_has ls mL (lv_args 0 av) →
      W p l e ({ frames := f, cells := 0, slots := 0, locals := lo }) s m args below meth c s.heap [] 0 0 (MQ below (vp_Sl (fun r => r = v)) args s 0 0 (fun _ => False)) (F0 m 0 ls [])) : PL l D tys ws y bs mL ret f lo av v := by
  refine Met.ofW (cc := bs) (maxL := mL) (ret := ret) hy rfl ?_
  intro p e s m args below meth c s₁ B hml hv
  obtain ⟨rfl, hP, hK⟩ := hv
  have hts := atoms_spec (ws := Cond.code y bs mL ret :: Cw) B.pre
  have hl := lv_entry av (n := mL) hn
  rw [lg_entry_eq]
  exact body p e s m _ below meth c _ ⟨B.exec, B.bytes, hml, findClass_of_methodNamed B.named, fun w hw => hts w (List.mem_cons_of_mem _ hw)⟩ B.returns B.notSynchronized hP hK hl
section PLR
variable {p : Program} {l : Launch} {e : Env} {R : Room} {s : State} {m : MethodId} {args : Array Value} {below : List Frame} {meth : Method} {c : Code} {H : Heap} {locs : List Loc} {cells slots : Nat} {Q : State → Prop}
variable {cc : ByteArray} {pc : Nat} {ls : Array Slot} {rest st : List Value}
theorem PL.lret {v v' : Int64} (hx : p.tables.exec = Jvm.exec) (hb : c.code = cc) (hr : meth.sig.returnType = some .long) (hlocks : meth.locks = false) (d : decode cc pc = .ok (.lreturn, 1)) (hv : v' = v) : W p l e R s m args below meth c s.heap [] 0 0 (MQ below (vp_Sl (fun r => r = v)) args s 0 0 (fun _ => False)) (F0 m pc ls [.long v']) :=
  W.lret (v := v') hx hb hr (fun t ht _ => ⟨v', rfl, hv, ht⟩) (fun _ h => nomatch h) d hlocks
theorem PL.callS {D : va_G} {tys : List (ClassId × FieldType)} {ws : va_W} {nL : Nat} {own : String} {y : MethodName} {bs : ByteArray} {mL : Nat} {ret : Option FieldType} {f lo idx : Nat} {As : List Value} {v : Int64} (S : CallFix p m c cc nL s args Cw own) (hM : PL l D tys ws y bs mL ret f lo As v)
    (k1 : Cond.methodLink own idx y ∈ Cw) (k2 : Cond.static y ∈ Cw) (k4 : Cond.initialized y.cls ∈ Cw) (k5 : Cond.code y bs mL ret ∈ Cw) (hd : y.cls ≠ "java/lang/invoke/MethodHandle" ∧ y.cls ≠ "java/lang/invoke/VarHandle" ∧ (parseMethodDescriptor y.desc).map (fun d => d.parameters.length) = some As.length)
    (hR : f + 1 ≤ R.frames ∧ 8 + (mL + 11) + lo ≤ R.locals) (hf : cells ≤ R.cells ∧ slots ≤ R.slots) (hP : va_P D cls ws H) (hK : va_K D cls tys s)
    (hl : ls.size = nL) (hrest : (rest.map fun v => v.category).sum ≤ 8) (hst : st = As.reverse ++ rest) (d : decode cc pc = .ok (.invokestatic idx, 3))
    (k : W p l e R s m args below meth c H locs cells slots Q (F0 m (pc + 3) ls (.long v :: rest))) : W p l e R s m args below meth c H locs cells slots Q (F0 m pc ls st) := by
  refine vp_callSl (post := fun r => r = v) (W.runS (g := F0 m pc ls st) (As := As) (rest := rest) S hM (va_cwS As.length S.2.2.2.2 (cw_S k1 k2 k4 k5) rfl rfl rfl hd hR) ⟨wd_blind, fun U hU hW => ⟨rfl, by rw [hU]; exact hP, va_K.moved hW.alike hK⟩⟩ rfl rfl hl hst (lv_room hrest) d hf) ?_
  intro r hr
  rw [hr]
  exact k
end PLR
theorem fw_no {p : Nat → Bool} {s : Nat → Nat} {i t : Nat} {met : Bool} (h : p i = false) : fw p s (i + 1) met t = fw p s i met t := by
  show (if p i = true then _ else fw p s i met t) = _
  rw [if_neg (by rw [h]; decide)]
theorem fw_hit {p : Nat → Bool} {s : Nat → Nat} {i t : Nat} (h : p i = true) (ht : t ≠ i + 1) : fw p s (i + 1) true t = true := by
  show (if p i = true then (if (true = true ∧ t ≠ i + 1) then true else _) else _) = true
  rw [if_pos h, if_pos ⟨rfl, ht⟩]
theorem fw_on {p : Nat → Bool} {s : Nat → Nat} {i t : Nat} {met : Bool} (h : p i = true) (ht : met = false ∨ t = i + 1) : fw p s (i + 1) met t = fw p s i true (s i) := by
  show (if p i = true then (if (met = true ∧ t ≠ i + 1) then true else fw p s i true (s i)) else _) = _
  rw [if_pos h, if_neg (by rintro ⟨q1, q2⟩; rcases ht with z | z; · rw [z] at q1; cases q1
                           · exact q2 z)]
/-- the k lowest bits of a word -/
def lb (k : Nat) : Nat := bs (fun i => decide (i < k)) 64
theorem lb_eq (k : Nat) : lb k = 2 ^ (min k 64) - 1 := by
  apply Nat.eq_of_testBit_eq
  intro i
  unfold lb
  rw [bs_tb, Nat.testBit_two_pow_sub_one]
  by_cases h1 : i < 64 <;> by_cases h2 : i < k <;> simp [h1, h2] <;> omega
theorem lb_0 : (0 : Int64) = lN (lb 0) := by decide +kernel
theorem lb_hi {k : Nat} (h : 64 ≤ k) : (-1 : Int64) = lN (lb k) := by
  rw [lb_eq, Nat.min_eq_right h]; decide +kernel
theorem lb_lo {k : Nat} (h : k < 64) : ((1 : Int64) <<< ((nI k).toInt64 &&& 63)) - 1 = lN (lb k) := by
  rw [lb_eq, Nat.min_eq_left (by omega)]
  have h1 : (1 : Int64) <<< ((nI k).toInt64 &&& 63) = lN (1 * 2 ^ k) := wb_shl 1 h
  rw [h1, Nat.one_mul]
  exact lN_sub (b := 1) (Nat.one_le_two_pow)
def lbA (x : Int32) (k : Nat) : Prop := (x ≤ 0 ∧ k = 0) ∨ (x = nI k ∧ k ≤ 120)
theorem lbA_no {x : Int32} {k : Nat} (h : lbA x k) (c : ¬ 0 < x) : k = 0 := by
  rcases h with h | ⟨h1, h2⟩
  · exact h.2
  · by_cases hk : k = 0
    · exact hk
    · exact absurd (by rw [h1, ← nI_0]; exact nI_lt (by omega) (by omega)) c
theorem lbA_yes {x : Int32} {k : Nat} (h : lbA x k) (c : 0 < x) : x = nI k ∧ k ≤ 120 := by
  rcases h with h | h
  · exact absurd c (Int32.not_lt.mpr h.1)
  · exact h
theorem lbA_sub {ev : Nat} (h : ev ≤ 120) : lbA (nI ev - nI 64) (ev - 64) := by
  by_cases h1 : 64 ≤ ev
  · exact Or.inr ⟨pk_sub h1, by omega⟩
  · refine Or.inl ⟨?_, by omega⟩
    exact Int32.le_of_lt (pk_sneg (by decide) (by omega))
def fF (A B : Nat) (c s : Nat → Nat) (u : Nat) : Nat → Bool := fun m => decide (m < u) && fa A B c s m
theorem fF_0 (A B : Nat) (c s : Nat → Nat) : bs (fF A B c s 0) 8 = 0 := (bs_congr (fun i _ => by simp [fF])).trans (bs_none 8)
theorem fF_yes {A B : Nat} {c s : Nat → Nat} {u : Nat} (h : fa A B c s u = true) : bs (fF A B c s (u + 1)) 8 = bs (fun m => fF A B c s u m || u == m) 8 := by
  refine bs_congr (fun i _ => ?_)
  unfold fF
  by_cases e : u = i
  · subst e; simp [h]
  · by_cases q : i < u
    · simp [q, show i < u + 1 by omega, e]
    · simp [q, show ¬ i < u + 1 by omega, e]
theorem fF_no {A B : Nat} {c s : Nat → Nat} {u : Nat} (h : fa A B c s u = false) : bs (fF A B c s (u + 1)) 8 = bs (fF A B c s u) 8 := by
  refine bs_congr (fun i _ => ?_)
  unfold fF
  by_cases e : u = i
  · subst e; simp [h]
  · by_cases q : i < u
    · simp [q, show i < u + 1 by omega]
    · simp [q, show ¬ i < u + 1 by omega]
theorem wt_lb {ev i : Nat} (h : i < 128) : wt (lb ev) (lb (ev - 64)) i = decide (i < ev) := by
  unfold wt lb
  by_cases q : i < 64
  · rw [if_pos q, bs_tb]; simp [q]
  · rw [if_neg q, bs_tb]; simp [show i - 64 < 64 by omega]; omega
set_option maxHeartbeats 4000000 in
set_option maxRecDepth 100000 in
theorem c_g_hasForkWithin (l : Launch) (D : va_G) (cI cJ cZ : ClassId) (ad : Nat → Nat) (n ev : Nat) (g : GA) (c s : Nat → Nat) (K : Nat) (hKb : K ≤ 120) (hC : gCs K g c s) (hs0 : ∀ i, i < K → s i ≤ i) (hc0 : ∀ i, i < K → c i < 8) (A B mm : Nat) (hA : A < 2 ^ 64) (hB : B < 2 ^ 64) (hin : ∀ i, i < 120 → wt A B i = true → i < K) (hm : mm < 8) : PM l D (tys cI cJ cZ) (gL cI cJ ad n ev g) y_g_hasForkWithin b_g_hasForkWithin 9 (some .boolean) 1 26 [.ref (ad 0), .long (lN A), .long (lN B), .int (nI mm)] (bI (fa A B c s mm)) := by
  refine PM.of (by decide) (Nat.le_of_ble_eq_true rfl) ?_
  intro p9 e9 s9 m args below meth c9 ls S hr hlocks hP hK hl
  obtain ⟨hx, hb, hml, hown, htc⟩ := id S
  have hl : lv_has ls 9 [(0, .ref (ad 0)), (1, .long (lN A)), (3, .long (lN B)), (5, .int (nI mm))] := hl
  refine lv_iconst (v := (nI 0)) hx hb d_g_hasForkWithin_0 (by decide) ?_
  refine nr_top (w := .int (bI false)) (congrArg Value.int rfl) ?_
  refine lv_istore (lv' := [(6, .int (bI false)), (0, .ref (ad 0)), (1, .long (lN A)), (3, .long (lN B)), (5, .int (nI mm))]) hx hb d_g_hasForkWithin_1 hl (by decide) rfl (fun ls hl => ?_)
  refine lv_iconst (v := (-1)) hx hb d_g_hasForkWithin_3 (by decide) ?_
  refine nr_top (w := .int (mI 0)) (congrArg Value.int rfl) ?_
  refine lv_istore (lv' := [(7, .int (mI 0)), (6, .int (bI false)), (0, .ref (ad 0)), (1, .long (lN A)), (3, .long (lN B)), (5, .int (nI mm))]) hx hb d_g_hasForkWithin_4 hl (by decide) rfl (fun ls hl => ?_)
  refine lv_bipush (v := (nI 119)) hx hb d_g_hasForkWithin_6 (by decide) ?_
  refine nr_top (w := .int (mI 120)) (congrArg Value.int rfl) ?_
  refine lv_istore (lv' := [(8, .int (mI 120)), (7, .int (mI 0)), (6, .int (bI false)), (0, .ref (ad 0)), (1, .long (lN A)), (3, .long (lN B)), (5, .int (nI mm))]) hx hb d_g_hasForkWithin_8 hl (by decide) rfl (fun ls hl => ?_)
  have loop : ∀ (d : Nat) (j t : Nat) (met : Bool) (ls : Array Slot), j < d → j ≤ 120 → t ≤ 120 → fw (fun i => wt A B i && c i == mm) s j met t = fa A B c s mm → lv_has ls 9 [(8, .int (mI j)), (7, .int (mI t)), (6, .int (bI met)), (5, .int (nI mm)), (3, .long (lN B)), (1, .long (lN A)), (0, .ref (ad 0))] → W p9 l e9 ({ frames := 1, cells := 0, slots := 0, locals := 26 }) s9 m args below meth c9 s9.heap [] 0 0 (MQ below (vp_Si (fun r9 => r9 = (bI (fa A B c s mm)))) args s9 0 0 (fun _ => False)) (F0 m 10 ls []) := by
    intro d
    induction d with
    | zero =>
      intro j t met ls hd hj ht hf hl
      exact absurd hd (by omega)
    | succ d ih =>
      intro j t met ls hd hj ht hf hl
      refine lv_iload hx hb d_g_hasForkWithin_10 (lv_at hl 0 rfl) ?_
      refine nr_iflt_m (tgt := 69) hx hb (by omega) d_g_hasForkWithin_12 (by decide) (fun c_12 => ?_) (fun c_12 => ?_)
      · refine lv_iconst (v := (nI 0)) hx hb d_g_hasForkWithin_69 (by decide) ?_
        refine nr_top (w := .int (bI false)) rfl ?_
        exact PM.zret hx hb hr hlocks d_g_hasForkWithin_70 (by rw [← hf, show j = 0 from c_12]; rfl)
      · obtain ⟨i, rfl⟩ : ∃ i, j = i + 1 := ⟨j - 1, by omega⟩
        have hl : lv_has ls 9 [(8, .int (nI i)), (7, .int (mI t)), (6, .int (bI met)), (5, .int (nI mm)), (3, .long (lN B)), (1, .long (lN A)), (0, .ref (ad 0))] := hl
        refine lv_lload_n hx hb d_g_hasForkWithin_15 rfl (lv_at hl 5 rfl) ?_
        refine lv_lload_n hx hb d_g_hasForkWithin_16 rfl (lv_at hl 4 rfl) ?_
        refine lv_iload hx hb d_g_hasForkWithin_17 (lv_at hl 0 rfl) ?_
        refine PM.callS (rest := []) S (c_g_isWithin l D cI cJ cZ ad n ev g A B i hA hB (by omega)) k_1_179 k_1_180 k_1_1 k_1_181 h_g_isWithin ⟨Nat.le_of_ble_eq_true rfl, Nat.le_of_ble_eq_true rfl⟩ ⟨Nat.le_of_ble_eq_true rfl, Nat.le_of_ble_eq_true rfl⟩ hP hK hl.1 (Nat.le_of_ble_eq_true rfl) rfl d_g_hasForkWithin_19 ?_
        refine nr_ifeq_b (tgt := 63) hx hb d_g_hasForkWithin_22 (by decide) (fun c_22 => ?_) (fun c_22 => ?_)
        · refine lv_iinc (v := (mI i)) (lv' := [(8, .int (mI i)), (7, .int (mI t)), (6, .int (bI met)), (5, .int (nI mm)), (3, .long (lN B)), (1, .long (lN A)), (0, .ref (ad 0))]) hx hb d_g_hasForkWithin_63 hl (k := 0) rfl (mI_d i) (by decide) rfl (fun ls hl => ?_)
          refine lv_goto (tgt := 10) hx hb d_g_hasForkWithin_66 (by decide) ?_
          exact ih i t met ls (by omega) (by omega) ht (by rw [← hf]; exact (fw_no (by simp [c_22])).symm) (lv_sub hl [0, 1, 2, 3, 4, 5, 6] rfl)
        · have hiK := hin i (by omega) c_22
          have hci := hc0 i hiK
          have hsi := hs0 i hiK
          refine lv_aload_n hx hb d_g_hasForkWithin_25 rfl (lv_at hl 6 rfl) ?_
          refine va_get (D := D) (ci := 0) (v := .ref (ad 1)) (C := "SightGraph") (T := T_g) (N := 8) hx hb htc in_g hown hK hP 0 rfl rfl 2 (by decide) (htc _ k_1_20) (fun _ h9 => h9) rfl d_g_hasForkWithin_26 ?_
          refine lv_iload hx hb d_g_hasForkWithin_29 (lv_at hl 0 rfl) ?_
          refine nr_iald hx hb hK hP 1 0 rfl rfl (by omega) (by decide) (v := (nI (c i))) (hC i (by omega)).1 d_g_hasForkWithin_31 ?_
          refine lv_iload hx hb d_g_hasForkWithin_32 (lv_at hl 3 rfl) ?_
          refine nr_icmp_ne (tgt := 63) hx hb (by omega) (by omega) d_g_hasForkWithin_34 (by decide) (fun c_34 => ?_) (fun c_34 => ?_)
          · refine lv_iinc (v := (mI i)) (lv' := [(8, .int (mI i)), (7, .int (mI t)), (6, .int (bI met)), (5, .int (nI mm)), (3, .long (lN B)), (1, .long (lN A)), (0, .ref (ad 0))]) hx hb d_g_hasForkWithin_63 hl (k := 0) rfl (mI_d i) (by decide) rfl (fun ls hl => ?_)
            refine lv_goto (tgt := 10) hx hb d_g_hasForkWithin_66 (by decide) ?_
            exact ih i t met ls (by omega) (by omega) ht (by rw [← hf]; exact (fw_no (by simp [c_34])).symm) (lv_sub hl [0, 1, 2, 3, 4, 5, 6] rfl)
          · refine lv_iload hx hb d_g_hasForkWithin_37 (lv_at hl 2 rfl) ?_
            refine nr_ifeq_b (tgt := 51) hx hb d_g_hasForkWithin_39 (by decide) (fun c_39 => ?_) (fun c_39 => ?_)
            · refine lv_iconst (v := (nI 1)) hx hb d_g_hasForkWithin_51 (by decide) ?_
              refine nr_top (w := .int (bI true)) (congrArg Value.int rfl) ?_
              refine lv_istore (lv' := [(6, .int (bI true)), (8, .int (nI i)), (7, .int (mI t)), (5, .int (nI mm)), (3, .long (lN B)), (1, .long (lN A)), (0, .ref (ad 0))]) hx hb d_g_hasForkWithin_52 hl (by decide) rfl (fun ls hl => ?_)
              refine lv_aload_n hx hb d_g_hasForkWithin_54 rfl (lv_at hl 6 rfl) ?_
              refine va_get (D := D) (ci := 0) (v := .ref (ad 2)) (C := "SightGraph") (T := T_g) (N := 8) hx hb htc in_g hown hK hP 0 rfl rfl 3 (by decide) (htc _ k_1_21) (fun _ h9 => h9) rfl d_g_hasForkWithin_55 ?_
              refine lv_iload hx hb d_g_hasForkWithin_58 (lv_at hl 1 rfl) ?_
              refine nr_iald hx hb hK hP 2 0 rfl rfl (by omega) (by decide) (v := (mI (s i))) (hC i (by omega)).2.1 d_g_hasForkWithin_60 ?_
              refine lv_istore (lv' := [(7, .int (mI (s i))), (6, .int (bI true)), (8, .int (nI i)), (5, .int (nI mm)), (3, .long (lN B)), (1, .long (lN A)), (0, .ref (ad 0))]) hx hb d_g_hasForkWithin_61 hl (by decide) rfl (fun ls hl => ?_)
              refine lv_iinc (v := (mI i)) (lv' := [(8, .int (mI i)), (7, .int (mI (s i))), (6, .int (bI true)), (5, .int (nI mm)), (3, .long (lN B)), (1, .long (lN A)), (0, .ref (ad 0))]) hx hb d_g_hasForkWithin_63 hl (k := 2) rfl (mI_d i) (by decide) rfl (fun ls hl => ?_)
              refine lv_goto (tgt := 10) hx hb d_g_hasForkWithin_66 (by decide) ?_
              exact ih i (s i) true ls (by omega) (by omega) (by omega) (by rw [← hf]; exact (fw_on (by simp [c_22, c_34]) (Or.inl c_39)).symm) (lv_sub hl [0, 1, 2, 3, 4, 5, 6] rfl)
            · refine lv_iload hx hb d_g_hasForkWithin_42 (lv_at hl 0 rfl) ?_
              refine lv_iload hx hb d_g_hasForkWithin_44 (lv_at hl 1 rfl) ?_
              refine lv_icmp_eq (tgt := 51) hx hb d_g_hasForkWithin_46 (by decide) (fun c_46 => ?_) (fun c_46 => ?_)
              · refine lv_iconst (v := (nI 1)) hx hb d_g_hasForkWithin_51 (by decide) ?_
                refine nr_top (w := .int (bI true)) (congrArg Value.int rfl) ?_
                refine lv_istore (lv' := [(6, .int (bI true)), (8, .int (nI i)), (7, .int (mI t)), (5, .int (nI mm)), (3, .long (lN B)), (1, .long (lN A)), (0, .ref (ad 0))]) hx hb d_g_hasForkWithin_52 hl (by decide) rfl (fun ls hl => ?_)
                refine lv_aload_n hx hb d_g_hasForkWithin_54 rfl (lv_at hl 6 rfl) ?_
                refine va_get (D := D) (ci := 0) (v := .ref (ad 2)) (C := "SightGraph") (T := T_g) (N := 8) hx hb htc in_g hown hK hP 0 rfl rfl 3 (by decide) (htc _ k_1_21) (fun _ h9 => h9) rfl d_g_hasForkWithin_55 ?_
                refine lv_iload hx hb d_g_hasForkWithin_58 (lv_at hl 1 rfl) ?_
                refine nr_iald hx hb hK hP 2 0 rfl rfl (by omega) (by decide) (v := (mI (s i))) (hC i (by omega)).2.1 d_g_hasForkWithin_60 ?_
                refine lv_istore (lv' := [(7, .int (mI (s i))), (6, .int (bI true)), (8, .int (nI i)), (5, .int (nI mm)), (3, .long (lN B)), (1, .long (lN A)), (0, .ref (ad 0))]) hx hb d_g_hasForkWithin_61 hl (by decide) rfl (fun ls hl => ?_)
                refine lv_iinc (v := (mI i)) (lv' := [(8, .int (mI i)), (7, .int (mI (s i))), (6, .int (bI true)), (5, .int (nI mm)), (3, .long (lN B)), (1, .long (lN A)), (0, .ref (ad 0))]) hx hb d_g_hasForkWithin_63 hl (k := 2) rfl (mI_d i) (by decide) rfl (fun ls hl => ?_)
                refine lv_goto (tgt := 10) hx hb d_g_hasForkWithin_66 (by decide) ?_
                exact ih i (s i) true ls (by omega) (by omega) (by omega) (by rw [← hf]; exact (fw_on (by simp [c_22, c_34]) (Or.inr ((mI_nI (by omega) (by omega)).mp c_46.symm))).symm) (lv_sub hl [0, 1, 2, 3, 4, 5, 6] rfl)
              · refine lv_iconst (v := (nI 1)) hx hb d_g_hasForkWithin_49 (by decide) ?_
                refine nr_top (w := .int (bI true)) rfl ?_
                exact PM.zret hx hb hr hlocks d_g_hasForkWithin_50 (by rw [← hf, c_39]; exact congrArg bI (fw_hit (by simp [c_22, c_34]) (fun q => c_46 ((mI_nI (by omega) (by omega)).mpr q).symm)).symm)
  exact loop 121 120 0 false ls (by omega) (by omega) (by omega) rfl (lv_sub hl [0, 1, 2, 6, 5, 4, 3] rfl)
set_option maxHeartbeats 4000000 in
set_option maxRecDepth 100000 in
theorem c_g_forkersWithin (l : Launch) (D : va_G) (cI cJ cZ : ClassId) (ad : Nat → Nat) (n ev : Nat) (g : GA) (c s : Nat → Nat) (K : Nat) (hKb : K ≤ 120) (hC : gCs K g c s) (hs0 : ∀ i, i < K → s i ≤ i) (hc0 : ∀ i, i < K → c i < 8) (A B : Nat) (hA : A < 2 ^ 64) (hB : B < 2 ^ 64) (hin : ∀ i, i < 120 → wt A B i = true → i < K) (hn : n ≤ 8) : PM l D (tys cI cJ cZ) (gL cI cJ ad n ev g) y_g_forkersWithin b_g_forkersWithin 7 (some .int) 2 54 [.ref (ad 0), .long (lN A), .long (lN B)] (nI (bs (fF A B c s n) 8)) := by
  refine PM.of (by decide) (Nat.le_of_ble_eq_true rfl) ?_
  intro p9 e9 s9 m args below meth c9 ls S hr hlocks hP hK hl
  obtain ⟨hx, hb, hml, hown, htc⟩ := id S
  have hl : lv_has ls 7 [(0, .ref (ad 0)), (1, .long (lN A)), (3, .long (lN B))] := hl
  refine lv_iconst (v := (nI 0)) hx hb d_g_forkersWithin_0 (by decide) ?_
  refine lv_istore (lv' := [(5, .int (nI 0)), (0, .ref (ad 0)), (1, .long (lN A)), (3, .long (lN B))]) hx hb d_g_forkersWithin_1 hl (by decide) rfl (fun ls hl => ?_)
  refine lv_iconst (v := (nI 0)) hx hb d_g_forkersWithin_3 (by decide) ?_
  refine lv_istore (lv' := [(6, .int (nI 0)), (5, .int (nI 0)), (0, .ref (ad 0)), (1, .long (lN A)), (3, .long (lN B))]) hx hb d_g_forkersWithin_4 hl (by decide) rfl (fun ls hl => ?_)
  have loop : ∀ (d : Nat) (u : Nat) (ls : Array Slot), n - u < d → u ≤ n → lv_has ls 7 [(6, .int (nI u)), (5, .int (nI (bs (fF A B c s u) 8))), (3, .long (lN B)), (1, .long (lN A)), (0, .ref (ad 0))] → W p9 l e9 ({ frames := 2, cells := 0, slots := 0, locals := 54 }) s9 m args below meth c9 s9.heap [] 0 0 (MQ below (vp_Si (fun r9 => r9 = (nI (bs (fF A B c s n) 8)))) args s9 0 0 (fun _ => False)) (F0 m 6 ls []) := by
    intro d
    induction d with
    | zero =>
      intro u ls hd hu hl
      exact absurd hd (by omega)
    | succ d ih =>
      intro u ls hd hu hl
      refine lv_iload hx hb d_g_forkersWithin_6 (lv_at hl 0 rfl) ?_
      refine lv_aload_n hx hb d_g_forkersWithin_8 rfl (lv_at hl 4 rfl) ?_
      refine va_get (D := D) (ci := 0) (v := .int (nI n)) (C := "SightGraph") (T := T_g) (N := 8) hx hb htc in_g hown hK hP 0 rfl rfl 0 (by decide) (htc _ k_1_18) (fun _ h9 => h9) rfl d_g_forkersWithin_9 ?_
      refine nr_icmp_ge (tgt := 41) hx hb (by omega) (by omega) d_g_forkersWithin_12 (by decide) (fun c_12 => ?_) (fun c_12 => ?_)
      · refine lv_iload hx hb d_g_forkersWithin_41 (lv_at hl 1 rfl) ?_
        exact PM.iret hx hb hr hlocks d_g_forkersWithin_43 (by rw [show u = n by omega])
      · refine lv_aload_n hx hb d_g_forkersWithin_15 rfl (lv_at hl 4 rfl) ?_
        refine lv_lload_n hx hb d_g_forkersWithin_16 rfl (lv_at hl 3 rfl) ?_
        refine lv_lload_n hx hb d_g_forkersWithin_17 rfl (lv_at hl 2 rfl) ?_
        refine lv_iload hx hb d_g_forkersWithin_18 (lv_at hl 0 rfl) ?_
        refine PM.callV (rest := []) S (c_g_hasForkWithin l D cI cJ cZ ad n ev g c s K hKb hC hs0 hc0 A B u hA hB hin (by omega)) k_1_175 k_1_177 k_s_8 k_1_1 k_1_178 h_g_hasForkWithin ⟨Nat.le_of_ble_eq_true rfl, Nat.le_of_ble_eq_true rfl⟩ ⟨Nat.le_of_ble_eq_true rfl, Nat.le_of_ble_eq_true rfl⟩ hP hK 0 0 rfl rfl rfl hl.1 (Nat.le_of_ble_eq_true rfl) rfl d_g_forkersWithin_20 ?_
        refine nr_ifeq_b (tgt := 35) hx hb d_g_forkersWithin_23 (by decide) (fun c_23 => ?_) (fun c_23 => ?_)
        · refine lv_iinc (v := (nI (u + 1))) (lv' := [(6, .int (nI (u + 1))), (5, .int (nI (bs (fF A B c s u) 8))), (3, .long (lN B)), (1, .long (lN A)), (0, .ref (ad 0))]) hx hb d_g_forkersWithin_35 hl (k := 0) rfl (nI_add u 1) (by decide) rfl (fun ls hl => ?_)
          refine lv_goto (tgt := 6) hx hb d_g_forkersWithin_38 (by decide) ?_
          exact ih (u + 1) ls (by omega) (by omega) (by rw [fF_no c_23]; exact (lv_sub hl [0, 1, 2, 3, 4] rfl))
        · refine lv_iload hx hb d_g_forkersWithin_26 (lv_at hl 1 rfl) ?_
          refine lv_iconst (v := (nI 1)) hx hb d_g_forkersWithin_28 (by decide) ?_
          refine lv_iload hx hb d_g_forkersWithin_29 (lv_at hl 0 rfl) ?_
          refine lv_ishl hx hb d_g_forkersWithin_31 ?_
          refine lv_ior hx hb d_g_forkersWithin_32 ?_
          refine nr_top (w := .int (nI (bs (fun m => fF A B c s u m || u == m) 8))) (congrArg Value.int (bs_add (by omega))) ?_
          refine lv_istore (lv' := [(5, .int (nI (bs (fun m => fF A B c s u m || u == m) 8))), (6, .int (nI u)), (3, .long (lN B)), (1, .long (lN A)), (0, .ref (ad 0))]) hx hb d_g_forkersWithin_33 hl (by decide) rfl (fun ls hl => ?_)
          refine lv_iinc (v := (nI (u + 1))) (lv' := [(6, .int (nI (u + 1))), (5, .int (nI (bs (fun m => fF A B c s u m || u == m) 8))), (3, .long (lN B)), (1, .long (lN A)), (0, .ref (ad 0))]) hx hb d_g_forkersWithin_35 hl (k := 1) rfl (nI_add u 1) (by decide) rfl (fun ls hl => ?_)
          refine lv_goto (tgt := 6) hx hb d_g_forkersWithin_38 (by decide) ?_
          exact ih (u + 1) ls (by omega) (by omega) (by rw [fF_yes c_23]; exact (lv_sub hl [0, 1, 2, 3, 4] rfl))
  exact loop (n + 1) 0 ls (by omega) (by omega) (by rw [fF_0]; exact (lv_sub hl [0, 1, 4, 3, 2] rfl))
set_option maxHeartbeats 4000000 in
set_option maxRecDepth 100000 in
theorem c_g_lowestBits (l : Launch) (D : va_G) (cI cJ cZ : ClassId) (ad : Nat → Nat) (n ev : Nat) (g : GA) (x : Int32) (k : Nat) (hk : lbA x k) : PL l D (tys cI cJ cZ) (gL cI cJ ad n ev g) y_g_lowestBits b_g_lowestBits 1 (some .long) 0 0 [.int x] (lN (lb k)) := by
  refine PL.of (by decide) (Nat.le_of_ble_eq_true rfl) ?_
  intro p9 e9 s9 m args below meth c9 ls S hr hlocks hP hK hl
  obtain ⟨hx, hb, hml, hown, htc⟩ := id S
  have hl : lv_has ls 1 [(0, .int x)] := hl
  refine lv_iload_n hx hb d_g_lowestBits_0 rfl (lv_at hl 0 rfl) ?_
  refine lv_if_gt (tgt := 6) hx hb d_g_lowestBits_1 (by decide) (fun c_1 => ?_) (fun c_1 => ?_)
  · refine lv_iload_n hx hb d_g_lowestBits_6 rfl (lv_at hl 0 rfl) ?_
    refine lv_bipush (v := (nI 64)) hx hb d_g_lowestBits_7 (by decide) ?_
    refine lv_icmp_lt (tgt := 18) hx hb d_g_lowestBits_9 (by decide) (fun c_9 => ?_) (fun c_9 => ?_)
    · refine lv_lconst (v := 1) hx hb d_g_lowestBits_18 (by decide) ?_
      refine lv_iload_n hx hb d_g_lowestBits_19 rfl (lv_at hl 0 rfl) ?_
      refine lv_lshl hx hb d_g_lowestBits_20 rfl ?_
      refine lv_lconst (v := 1) hx hb d_g_lowestBits_21 (by decide) ?_
      refine lv_lsub hx hb d_g_lowestBits_22 ?_
      exact PL.lret hx hb hr hlocks d_g_lowestBits_23 (by obtain ⟨e1, e2⟩ := lbA_yes hk c_1; have z : k < 64 := by { rw [e1] at c_9; exact (nI_ltI (by omega) (by omega)).mp c_9 }; rw [e1]; exact lb_lo z)
    · refine lv_ldc2 hx hb hown (htc _ k_2_61) d_g_lowestBits_12 ?_
      refine lv_goto (tgt := 23) hx hb d_g_lowestBits_15 (by decide) ?_
      exact PL.lret hx hb hr hlocks d_g_lowestBits_23 (by obtain ⟨e1, e2⟩ := lbA_yes hk c_1; have z : 64 ≤ k := by { rw [e1] at c_9; exact Nat.not_lt.mp (fun q => c_9 ((nI_ltI (by omega) (by omega)).mpr q)) }; exact lb_hi z)
  · refine lv_lconst (v := 0) hx hb d_g_lowestBits_4 (by decide) ?_
    exact PL.lret hx hb hr hlocks d_g_lowestBits_5 (by rw [lbA_no hk c_1]; exact lb_0)
set_option maxHeartbeats 4000000 in
set_option maxRecDepth 100000 in
theorem c_g_forkersOfAll (l : Launch) (D : va_G) (cI cJ cZ : ClassId) (ad : Nat → Nat) (n ev : Nat) (g : GA) (c s : Nat → Nat) (K : Nat) (hKb : K ≤ 120) (hC : gCs K g c s) (hs0 : ∀ i, i < K → s i ≤ i) (hc0 : ∀ i, i < K → c i < 8) (hn : n ≤ 8) (hev : ev ≤ K) : PM l D (tys cI cJ cZ) (gL cI cJ ad n ev g) y_g_forkersOfAll b_g_forkersOfAll 1 (some .int) 3 80 [.ref (ad 0)] (nI (bs (fF (lb ev) (lb (ev - 64)) c s n) 8)) := by
  refine PM.of (by decide) (Nat.le_of_ble_eq_true rfl) ?_
  intro p9 e9 s9 m args below meth c9 ls S hr hlocks hP hK hl
  obtain ⟨hx, hb, hml, hown, htc⟩ := id S
  have hl : lv_has ls 1 [(0, .ref (ad 0))] := hl
  refine lv_aload_n hx hb d_g_forkersOfAll_0 rfl (lv_at hl 0 rfl) ?_
  refine lv_aload_n hx hb d_g_forkersOfAll_1 rfl (lv_at hl 0 rfl) ?_
  refine va_get (D := D) (ci := 0) (v := .int (nI ev)) (C := "SightGraph") (T := T_g) (N := 8) hx hb htc in_g hown hK hP 0 rfl rfl 1 (by decide) (htc _ k_1_19) (fun _ h9 => h9) rfl d_g_forkersOfAll_2 ?_
  refine PL.callS (rest := [.ref (ad 0)]) S (c_g_lowestBits l D cI cJ cZ ad n ev g (nI ev) ev (Or.inr ⟨rfl, by omega⟩)) k_2_58 k_2_59 k_1_1 k_2_60 h_g_lowestBits ⟨Nat.le_of_ble_eq_true rfl, Nat.le_of_ble_eq_true rfl⟩ ⟨Nat.le_of_ble_eq_true rfl, Nat.le_of_ble_eq_true rfl⟩ hP hK hl.1 (Nat.le_of_ble_eq_true rfl) rfl d_g_forkersOfAll_5 ?_
  refine lv_aload_n hx hb d_g_forkersOfAll_8 rfl (lv_at hl 0 rfl) ?_
  refine va_get (D := D) (ci := 0) (v := .int (nI ev)) (C := "SightGraph") (T := T_g) (N := 8) hx hb htc in_g hown hK hP 0 rfl rfl 1 (by decide) (htc _ k_1_19) (fun _ h9 => h9) rfl d_g_forkersOfAll_9 ?_
  refine lv_bipush (v := (nI 64)) hx hb d_g_forkersOfAll_12 (by decide) ?_
  refine lv_isub hx hb d_g_forkersOfAll_14 ?_
  refine PL.callS (rest := [.long (lN (lb ev)), .ref (ad 0)]) S (c_g_lowestBits l D cI cJ cZ ad n ev g (nI ev - nI 64) (ev - 64) (lbA_sub (by omega))) k_2_58 k_2_59 k_1_1 k_2_60 h_g_lowestBits ⟨Nat.le_of_ble_eq_true rfl, Nat.le_of_ble_eq_true rfl⟩ ⟨Nat.le_of_ble_eq_true rfl, Nat.le_of_ble_eq_true rfl⟩ hP hK hl.1 (Nat.le_of_ble_eq_true rfl) rfl d_g_forkersOfAll_15 ?_
  refine PM.callV (rest := []) S (c_g_forkersWithin l D cI cJ cZ ad n ev g c s K hKb hC hs0 hc0 (lb ev) (lb (ev - 64)) (bs_lt _ 64) (bs_lt _ 64) (fun i h1 h2 => by rw [wt_lb (by omega)] at h2; have := of_decide_eq_true h2; omega) hn) k_1_171 k_1_173 k_s_7 k_1_1 k_1_174 h_g_forkersWithin ⟨Nat.le_of_ble_eq_true rfl, Nat.le_of_ble_eq_true rfl⟩ ⟨Nat.le_of_ble_eq_true rfl, Nat.le_of_ble_eq_true rfl⟩ hP hK 0 0 rfl rfl rfl hl.1 (Nat.le_of_ble_eq_true rfl) rfl d_g_forkersOfAll_18 ?_
  exact PM.iret hx hb hr hlocks d_g_forkersOfAll_21 rfl
set_option maxHeartbeats 4000000 in
set_option maxRecDepth 100000 in
theorem c_g_greatestRound (l : Launch) (D : va_G) (cI cJ cZ : ClassId) (ad : Nat → Nat) (n ev : Nat) (g : GA) (rd : Nat → Nat) (KR : Nat) (hKR : KR ≤ 120) (hR : gR KR g rd) (hev : ev ≤ KR) : PM l D (tys cI cJ cZ) (gL cI cJ ad n ev g) y_g_greatestRound b_g_greatestRound 3 (some .int) 1 20 [.ref (ad 0)] (nI (gr rd ev)) := by
  refine PM.of (by decide) (Nat.le_of_ble_eq_true rfl) ?_
  intro p9 e9 s9 m args below meth c9 ls S hr hlocks hP hK hl
  obtain ⟨hx, hb, hml, hown, htc⟩ := id S
  have hl : lv_has ls 3 [(0, .ref (ad 0))] := hl
  refine lv_iconst (v := (nI 0)) hx hb d_g_greatestRound_0 (by decide) ?_
  refine lv_istore_n (lv' := [(1, .int (nI 0)), (0, .ref (ad 0))]) hx hb d_g_greatestRound_1 rfl hl (by decide) rfl (fun ls hl => ?_)
  refine lv_iconst (v := (nI 0)) hx hb d_g_greatestRound_2 (by decide) ?_
  refine lv_istore_n (lv' := [(2, .int (nI 0)), (1, .int (nI 0)), (0, .ref (ad 0))]) hx hb d_g_greatestRound_3 rfl hl (by decide) rfl (fun ls hl => ?_)
  have loop : ∀ (d : Nat) (k : Nat) (ls : Array Slot), ev - k < d → k ≤ ev → lv_has ls 3 [(2, .int (nI k)), (1, .int (nI (gr rd k))), (0, .ref (ad 0))] → W p9 l e9 ({ frames := 1, cells := 0, slots := 0, locals := 20 }) s9 m args below meth c9 s9.heap [] 0 0 (MQ below (vp_Si (fun r9 => r9 = (nI (gr rd ev)))) args s9 0 0 (fun _ => False)) (F0 m 4 ls []) := by
    intro d
    induction d with
    | zero =>
      intro k ls hd hk hl
      exact absurd hd (by omega)
    | succ d ih =>
      intro k ls hd hk hl
      refine lv_iload_n hx hb d_g_greatestRound_4 rfl (lv_at hl 0 rfl) ?_
      refine lv_aload_n hx hb d_g_greatestRound_5 rfl (lv_at hl 2 rfl) ?_
      refine va_get (D := D) (ci := 0) (v := .int (nI ev)) (C := "SightGraph") (T := T_g) (N := 8) hx hb htc in_g hown hK hP 0 rfl rfl 1 (by decide) (htc _ k_1_19) (fun _ h9 => h9) rfl d_g_greatestRound_6 ?_
      refine nr_icmp_ge (tgt := 29) hx hb (by omega) (by omega) d_g_greatestRound_9 (by decide) (fun c_9 => ?_) (fun c_9 => ?_)
      · refine lv_iload_n hx hb d_g_greatestRound_29 rfl (lv_at hl 1 rfl) ?_
        exact PM.iret hx hb hr hlocks d_g_greatestRound_30 (by rw [show k = ev by omega])
      · have hb9 := (hR k (by omega)).2
        have hb8 : gr rd k ≤ 121 := gr_le (fun j hj => by have := (hR j (by omega)).2; omega)
        refine lv_iload_n hx hb d_g_greatestRound_12 rfl (lv_at hl 1 rfl) ?_
        refine lv_aload_n hx hb d_g_greatestRound_13 rfl (lv_at hl 2 rfl) ?_
        refine va_get (D := D) (ci := 0) (v := .ref (ad 3)) (C := "SightGraph") (T := T_g) (N := 8) hx hb htc in_g hown hK hP 0 rfl rfl 4 (by decide) (htc _ k_1_22) (fun _ h9 => h9) rfl d_g_greatestRound_14 ?_
        refine lv_iload_n hx hb d_g_greatestRound_17 rfl (lv_at hl 0 rfl) ?_
        refine nr_iald hx hb hK hP 3 0 rfl rfl (by omega) (by decide) (v := (nI (rd k))) (hR k (by omega)).1 d_g_greatestRound_18 ?_
        refine va_mmax hx hb (hml.trans hl.1.symm) hown (htc _ k_1_190) (htc _ k_1_191) (htc _ k_1_8) (htc _ k_1_192) (Nat.le_of_ble_eq_true rfl) (Nat.le_of_ble_eq_true rfl) (Nat.le_of_ble_eq_true rfl) (Nat.le_of_ble_eq_true rfl) d_g_greatestRound_19 ?_
        refine nr_top (w := .int (nI (max (gr rd k) (rd k)))) (congrArg Value.int (mx_I (by omega) (by omega))) ?_
        refine lv_istore_n (lv' := [(1, .int (nI (max (gr rd k) (rd k)))), (2, .int (nI k)), (0, .ref (ad 0))]) hx hb d_g_greatestRound_22 rfl hl (by decide) rfl (fun ls hl => ?_)
        refine lv_iinc (v := (nI (k + 1))) (lv' := [(2, .int (nI (k + 1))), (1, .int (nI (max (gr rd k) (rd k)))), (0, .ref (ad 0))]) hx hb d_g_greatestRound_23 hl (k := 1) rfl (nI_add k 1) (by decide) rfl (fun ls hl => ?_)
        refine lv_goto (tgt := 4) hx hb d_g_greatestRound_26 (by decide) ?_
        exact ih (k + 1) ls (by omega) (by omega) (lv_sub hl [0, 1, 2] rfl)
  exact loop (ev + 1) 0 ls (by omega) (by omega) (lv_sub hl [0, 1, 2] rfl)
