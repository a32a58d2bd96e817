theorem ra_i {s : State} {cA cB : ClassId} (h1 : va_RA s cA .int) (h2 : va_RA s cB .int) : cA = cB := Option.some.inj ((va_nm_int h1).symm.trans (va_nm_int h2))
theorem ra_l {s : State} {cA cB : ClassId} (h1 : va_RA s cA .long) (h2 : va_RA s cB .long) : cA = cB := Option.some.inj ((va_nm_long h1).symm.trans (va_nm_long h2))
theorem ra_z {s : State} {cA cB : ClassId} (h1 : va_RA s cA .boolean) (h2 : va_RA s cB .boolean) : cA = cB := Option.some.inj ((va_nm_boolean h1).symm.trans (va_nm_boolean h2))
/-- a new array: its class is the one that the tables name -/
theorem nr_newa {p : Program} {l : Launch} {e : Env} {R : Room} {s : State} {m : MethodId} {args : Array Value} {below : List Frame} {meth : Method} {c : Code} {H : Heap} {locs : List Loc} {cells slots : Nat} {Q : State → Prop} {cc : ByteArray} {pc : Nat} {ls : Array Slot} {rest : List Value} {D : va_G} {cl : List vw_C} {ws : va_W} {tys : List (ClassId × FieldType)} {A : Nat → Prop} {H0 : Heap}
    (hx : p.tables.exec = Jvm.exec) (hb : c.code = cc) {atype : ArrayType} {ty : FieldType} (harr : (Cond.arrayClass (newarray.typeOf atype)).before args s = true) (hty : newarray.typeOf atype = ty) (hK : va_K D cl tys s) (hP : va_P D cl ws H) (hD : va_D A ws) (hS : va_S A H0 H locs) (hA : ∀ q, H0.size ≤ q → A q) (t0 : Nat) {cT : ClassId} (ht : tys[t0]? = some (cT, ty)) (hu : ∀ cA, va_RA s cA ty → cA = cT)
    {N : Nat} {a0 : vp_A} (ha : ∀ cA : ClassId, vp_cell cA a0 = arrV cA N (fun _ => defaultValue ty)) (hN : N < 2 ^ 31) (hbytes : N * componentBytes ty ≤ 536870912) (hcells : cells + 1 ≤ R.cells) (hslots : slots + N ≤ R.slots) (d : decode cc pc = .ok (.newarray atype, 2))
    (k : ∀ (q : Nat) (H1 : Heap), va_P D cl (ws ++ [(q, .inl (cT, a0))]) H1 → va_D A (ws ++ [(q, .inl (cT, a0))]) → va_S A H0 H1 locs → W p l e R s m args below meth c H1 locs (cells + 1) (slots + N) Q (F0 m (pc + 2) ls (.ref q :: rest))) : W p l e R s m args below meth c H locs cells slots Q (F0 m pc ls (.int (nI N) :: rest)) := by
  refine va_newa hx hb harr hty hK hP hD hS hA ha (nI_pos hN) (nI_clamp hN) hbytes hcells hslots d (fun q cA H1 hK1 hP1 hD1 hS1 => ?_)
  have e1 : cA = cT := hu cA (hK1.2 tys.length (cA, ty) (by simp)).2
  subst e1
  exact k q H1 hP1 hD1 hS1
/-- a constructor: it makes mc cells of ms slots -/
def WN {S : Type} (l : Launch) (D : va_G) (tys : List (ClassId × FieldType)) (ws : va_W) (w' : S → va_W) (post : S → Prop) (y : MethodName) (bs : ByteArray) (mL : Nat) (f lo mc ms : Nat) (av : List Value) : Prop :=
  ∀ sz : Nat, Met l y (Cond.code y bs mL none :: Cw) ({ frames := f, cells := mc, slots := ms, locals := lo }) (va_Pc av (wS D tys ws sz)) (va_Qv post (wB D tys w' (va_A ws sz)) (va_A ws sz)) mc ms (va_A ws sz)
theorem WN.of {S : Type} {l : Launch} {D : va_G} {tys : List (ClassId × FieldType)} {ws : va_W} {w' : S → va_W} {post : S → Prop} {y : MethodName} {bs : ByteArray} {mL : Nat} {f lo mc ms : Nat} {av : List Value} (hy : plainName y.cls = true) (hi : y.name = "<init>") (hn : (lg_sl av).length ≤ mL)
    (body : ∀ (p : Program) (e : Env) (s : State) (m : MethodId) (args : Array Value) (below : List Frame) (meth : Method) (c : Code) (ls : Array Slot) (A : Nat → Prop), CallFix p m c bs mL s args Cw y.cls → meth.sig.returnType = none → meth.locks = false → meth.name = "<init>" → (∀ q : Nat, s.heap.size ≤ q → A q) → va_P D cls ws s.heap → va_K D cls tys s → va_D A ws → lv_has ls mL (lv_args 0 av) →
      W p l e ({ frames := f, cells := mc, slots := ms, locals := lo }) s m args below meth c s.heap [] 0 0 (MQ below (va_Qv post (wB D tys w' A) A) args s mc ms A) (F0 m 0 ls [])) : WN l D tys ws w' post y bs mL f lo mc ms av := by
  intro sz
  refine Met.ofW (cc := bs) (maxL := mL) (ret := none) hy rfl ?_
  intro p e s m args below meth c s₁ B hml hv
  obtain ⟨rfl, hsz, ⟨hP, hK⟩, hD0⟩ := hv
  subst hsz
  have hD := hD0.self (sz := s.heap.size)
  have hts := atoms_spec (ws := Cond.code y bs mL none :: Cw) B.pre
  have hl := lv_entry av (n := mL) hn
  rw [lg_entry_eq]
  exact body p e s m _ below meth c _ (va_A ws s.heap.size) ⟨B.exec, B.bytes, hml, findClass_of_methodNamed B.named, fun w hw => hts w (List.mem_cons_of_mem _ hw)⟩ B.returns B.notSynchronized (by rw [← hi]; exact (name_of_methodNamed B.named B.method).1) (fun q h => Or.inr h) hP hK hD hl
/-! the reference's cells: creator, self, other, rounds, todo, above, forks -/
abbrev RA : Type := (Nat → Int32) × (Nat → Int32) × (Nat → Int32) × (Nat → Int32) × (Nat → Int32) × (Nat → Int32) × (Nat → Int32)
def rL (cI cZ : ClassId) (ad : Nat → Nat) (er : Int32) (n ev : Nat) (r : RA) : va_W := [(ad 0, .inr (1, [.int er, .int (nI n), .int (nI ev), .ref (ad 1), .ref (ad 2), .ref (ad 3), .ref (ad 4), .ref (ad 5), .ref (ad 6), .ref (ad 7)])), (ad 1, .inl (cI, 120, .inl r.1)), (ad 2, .inl (cI, 120, .inl r.2.1)), (ad 3, .inl (cI, 120, .inl r.2.2.1)), (ad 4, .inl (cI, 120, .inl r.2.2.2.1)), (ad 5, .inl (cI, 242, .inl r.2.2.2.2.1)), (ad 6, .inl (cZ, 14400, .inl r.2.2.2.2.2.1)), (ad 7, .inl (cZ, 960, .inl r.2.2.2.2.2.2))]
def zg : GA := (fun _ => 0, fun _ => 0, fun _ => 0, fun _ => 0, fun _ => 0, fun _ => 0)
def zr : RA := (fun _ => 0, fun _ => 0, fun _ => 0, fun _ => 0, fun _ => 0, fun _ => 0, fun _ => 0)
set_option maxHeartbeats 4000000 in
set_option maxRecDepth 100000 in
theorem c_g_init (l : Launch) (D : va_G) (cI cJ cZ : ClassId) (h0 : Nat) : WN (S := Nat → Nat) l D (tys cI cJ cZ) [(h0, .inr (0, [.int 0, .int 0, .null, .null, .null, .null, .null, .null]))] (fun ad => gL cI cJ ad 4 0 zg) (fun ad => ad 0 = h0) y_g_init b_g_init 1 1 12 6 720 [.ref h0] := by
  refine WN.of (by decide) rfl (Nat.le_of_ble_eq_true rfl) ?_
  intro p9 e9 s9 m args below meth c9 ls A S hr hlocks hin hA hP hK hD hl
  obtain ⟨hx, hb, hml, hown, htc⟩ := id S
  have hS : va_S A s9.heap s9.heap [] := va_S.rf
  have hl : lv_has ls 1 [(0, .ref h0)] := hl
  refine lv_aload_n hx hb d_g_init_0 rfl (lv_at hl 0 rfl) ?_
  refine W.objInit hx hb hown (htc _ k_1_15) (htc _ k_1_16) (htc _ k_1_17) rfl (by rw [hml]; exact hl.1) rfl d_g_init_1 (Nat.le_of_ble_eq_true rfl) (Nat.le_of_ble_eq_true rfl) ?_
  refine W.eq (g2 := F0 m 4 ls []) rfl ?_
  refine lv_aload_n hx hb d_g_init_4 rfl (lv_at hl 0 rfl) ?_
  refine lv_iconst (v := nI 4) hx hb d_g_init_5 (by decide) ?_
  refine va_put (D := D) (ci := 0) (v := .int (nI 4)) (ty := .int) (C := "SightGraph") (T := T_g) (N := 8) hx hb htc in_g t_g ft_g fn_g hown hK hP hD hS 0 rfl rfl 0 (by decide) (htc _ k_1_18) (fun _ h9 => h9) rfl (by decide +kernel) rfl rfl (Nat.le_of_ble_eq_true rfl) d_g_init_6 (fun H locs hP hD hS => ?_)
  have hP : va_P D cls [(h0, .inr (0, [.int (nI 4), .int 0, .null, .null, .null, .null, .null, .null]))] H := hP
  have hD : va_D A [(h0, .inr (0, [.int (nI 4), .int 0, .null, .null, .null, .null, .null, .null]))] := hD
  refine lv_aload_n hx hb d_g_init_9 rfl (lv_at hl 0 rfl) ?_
  refine lv_iconst (v := nI 0) hx hb d_g_init_10 (by decide) ?_
  refine va_put (D := D) (ci := 0) (v := .int (nI 0)) (ty := .int) (C := "SightGraph") (T := T_g) (N := 8) hx hb htc in_g t_g ft_g fn_g hown hK hP hD hS 0 rfl rfl 1 (by decide) (htc _ k_1_19) (fun _ h9 => h9) rfl (by decide +kernel) rfl rfl (Nat.le_of_ble_eq_true rfl) d_g_init_11 (fun H locs hP hD hS => ?_)
  have hP : va_P D cls [(h0, .inr (0, [.int (nI 4), .int (nI 0), .null, .null, .null, .null, .null, .null]))] H := hP
  have hD : va_D A [(h0, .inr (0, [.int (nI 4), .int (nI 0), .null, .null, .null, .null, .null, .null]))] := hD
  refine lv_aload_n hx hb d_g_init_14 rfl (lv_at hl 0 rfl) ?_
  refine lv_bipush (v := nI 120) hx hb d_g_init_15 (by decide) ?_
  refine nr_newa hx hb (atype := .int) (htc _ k_1_43) rfl hK hP hD hS hA 0 rfl (fun cA h => ra_i h (hK.2 0 _ rfl).2) (N := 120) (a0 := (120, .inl (fun _ => 0))) (fun _ => rfl) (by decide) (by decide) (Nat.le_of_ble_eq_true rfl) (Nat.le_of_ble_eq_true rfl) d_g_init_17 (fun q1 H hP hD hS => ?_)
  have hP : va_P D cls [(h0, .inr (0, [.int (nI 4), .int (nI 0), .null, .null, .null, .null, .null, .null])), (q1, .inl (cI, 120, .inl (fun _ => 0)))] H := hP
  have hD : va_D A [(h0, .inr (0, [.int (nI 4), .int (nI 0), .null, .null, .null, .null, .null, .null])), (q1, .inl (cI, 120, .inl (fun _ => 0)))] := hD
  refine va_putF (D := D) (ci := 0) (v := .ref q1) (ty := .array .int) (C := "SightGraph") (T := T_g) (N := 8) hx hb htc in_g t_g ft_g fn_g hown hK hP hD hS 0 rfl rfl 2 (by decide) (htc _ k_1_20) (fun _ h9 => h9) rfl hin rfl (by decide +kernel) rfl rfl (Nat.le_of_ble_eq_true rfl) d_g_init_19 (fun H locs hP hD hS => ?_)
  have hP : va_P D cls [(h0, .inr (0, [.int (nI 4), .int (nI 0), .ref q1, .null, .null, .null, .null, .null])), (q1, .inl (cI, 120, .inl (fun _ => 0)))] H := hP
  have hD : va_D A [(h0, .inr (0, [.int (nI 4), .int (nI 0), .ref q1, .null, .null, .null, .null, .null])), (q1, .inl (cI, 120, .inl (fun _ => 0)))] := hD
  refine lv_aload_n hx hb d_g_init_22 rfl (lv_at hl 0 rfl) ?_
  refine lv_bipush (v := nI 120) hx hb d_g_init_23 (by decide) ?_
  refine nr_newa hx hb (atype := .int) (htc _ k_1_43) rfl hK hP hD hS hA 0 rfl (fun cA h => ra_i h (hK.2 0 _ rfl).2) (N := 120) (a0 := (120, .inl (fun _ => 0))) (fun _ => rfl) (by decide) (by decide) (Nat.le_of_ble_eq_true rfl) (Nat.le_of_ble_eq_true rfl) d_g_init_25 (fun q2 H hP hD hS => ?_)
  have hP : va_P D cls [(h0, .inr (0, [.int (nI 4), .int (nI 0), .ref q1, .null, .null, .null, .null, .null])), (q1, .inl (cI, 120, .inl (fun _ => 0))), (q2, .inl (cI, 120, .inl (fun _ => 0)))] H := hP
  have hD : va_D A [(h0, .inr (0, [.int (nI 4), .int (nI 0), .ref q1, .null, .null, .null, .null, .null])), (q1, .inl (cI, 120, .inl (fun _ => 0))), (q2, .inl (cI, 120, .inl (fun _ => 0)))] := hD
  refine va_putF (D := D) (ci := 0) (v := .ref q2) (ty := .array .int) (C := "SightGraph") (T := T_g) (N := 8) hx hb htc in_g t_g ft_g fn_g hown hK hP hD hS 0 rfl rfl 3 (by decide) (htc _ k_1_21) (fun _ h9 => h9) rfl hin rfl (by decide +kernel) rfl rfl (Nat.le_of_ble_eq_true rfl) d_g_init_27 (fun H locs hP hD hS => ?_)
  have hP : va_P D cls [(h0, .inr (0, [.int (nI 4), .int (nI 0), .ref q1, .ref q2, .null, .null, .null, .null])), (q1, .inl (cI, 120, .inl (fun _ => 0))), (q2, .inl (cI, 120, .inl (fun _ => 0)))] H := hP
  have hD : va_D A [(h0, .inr (0, [.int (nI 4), .int (nI 0), .ref q1, .ref q2, .null, .null, .null, .null])), (q1, .inl (cI, 120, .inl (fun _ => 0))), (q2, .inl (cI, 120, .inl (fun _ => 0)))] := hD
  refine lv_aload_n hx hb d_g_init_30 rfl (lv_at hl 0 rfl) ?_
  refine lv_bipush (v := nI 120) hx hb d_g_init_31 (by decide) ?_
  refine nr_newa hx hb (atype := .int) (htc _ k_1_43) rfl hK hP hD hS hA 0 rfl (fun cA h => ra_i h (hK.2 0 _ rfl).2) (N := 120) (a0 := (120, .inl (fun _ => 0))) (fun _ => rfl) (by decide) (by decide) (Nat.le_of_ble_eq_true rfl) (Nat.le_of_ble_eq_true rfl) d_g_init_33 (fun q3 H hP hD hS => ?_)
  have hP : va_P D cls [(h0, .inr (0, [.int (nI 4), .int (nI 0), .ref q1, .ref q2, .null, .null, .null, .null])), (q1, .inl (cI, 120, .inl (fun _ => 0))), (q2, .inl (cI, 120, .inl (fun _ => 0))), (q3, .inl (cI, 120, .inl (fun _ => 0)))] H := hP
  have hD : va_D A [(h0, .inr (0, [.int (nI 4), .int (nI 0), .ref q1, .ref q2, .null, .null, .null, .null])), (q1, .inl (cI, 120, .inl (fun _ => 0))), (q2, .inl (cI, 120, .inl (fun _ => 0))), (q3, .inl (cI, 120, .inl (fun _ => 0)))] := hD
  refine va_putF (D := D) (ci := 0) (v := .ref q3) (ty := .array .int) (C := "SightGraph") (T := T_g) (N := 8) hx hb htc in_g t_g ft_g fn_g hown hK hP hD hS 0 rfl rfl 4 (by decide) (htc _ k_1_22) (fun _ h9 => h9) rfl hin rfl (by decide +kernel) rfl rfl (Nat.le_of_ble_eq_true rfl) d_g_init_35 (fun H locs hP hD hS => ?_)
  have hP : va_P D cls [(h0, .inr (0, [.int (nI 4), .int (nI 0), .ref q1, .ref q2, .ref q3, .null, .null, .null])), (q1, .inl (cI, 120, .inl (fun _ => 0))), (q2, .inl (cI, 120, .inl (fun _ => 0))), (q3, .inl (cI, 120, .inl (fun _ => 0)))] H := hP
  have hD : va_D A [(h0, .inr (0, [.int (nI 4), .int (nI 0), .ref q1, .ref q2, .ref q3, .null, .null, .null])), (q1, .inl (cI, 120, .inl (fun _ => 0))), (q2, .inl (cI, 120, .inl (fun _ => 0))), (q3, .inl (cI, 120, .inl (fun _ => 0)))] := hD
  refine lv_aload_n hx hb d_g_init_38 rfl (lv_at hl 0 rfl) ?_
  refine lv_bipush (v := nI 120) hx hb d_g_init_39 (by decide) ?_
  refine nr_newa hx hb (atype := .int) (htc _ k_1_43) rfl hK hP hD hS hA 0 rfl (fun cA h => ra_i h (hK.2 0 _ rfl).2) (N := 120) (a0 := (120, .inl (fun _ => 0))) (fun _ => rfl) (by decide) (by decide) (Nat.le_of_ble_eq_true rfl) (Nat.le_of_ble_eq_true rfl) d_g_init_41 (fun q4 H hP hD hS => ?_)
  have hP : va_P D cls [(h0, .inr (0, [.int (nI 4), .int (nI 0), .ref q1, .ref q2, .ref q3, .null, .null, .null])), (q1, .inl (cI, 120, .inl (fun _ => 0))), (q2, .inl (cI, 120, .inl (fun _ => 0))), (q3, .inl (cI, 120, .inl (fun _ => 0))), (q4, .inl (cI, 120, .inl (fun _ => 0)))] H := hP
  have hD : va_D A [(h0, .inr (0, [.int (nI 4), .int (nI 0), .ref q1, .ref q2, .ref q3, .null, .null, .null])), (q1, .inl (cI, 120, .inl (fun _ => 0))), (q2, .inl (cI, 120, .inl (fun _ => 0))), (q3, .inl (cI, 120, .inl (fun _ => 0))), (q4, .inl (cI, 120, .inl (fun _ => 0)))] := hD
  refine va_putF (D := D) (ci := 0) (v := .ref q4) (ty := .array .int) (C := "SightGraph") (T := T_g) (N := 8) hx hb htc in_g t_g ft_g fn_g hown hK hP hD hS 0 rfl rfl 5 (by decide) (htc _ k_1_23) (fun _ h9 => h9) rfl hin rfl (by decide +kernel) rfl rfl (Nat.le_of_ble_eq_true rfl) d_g_init_43 (fun H locs hP hD hS => ?_)
  have hP : va_P D cls [(h0, .inr (0, [.int (nI 4), .int (nI 0), .ref q1, .ref q2, .ref q3, .ref q4, .null, .null])), (q1, .inl (cI, 120, .inl (fun _ => 0))), (q2, .inl (cI, 120, .inl (fun _ => 0))), (q3, .inl (cI, 120, .inl (fun _ => 0))), (q4, .inl (cI, 120, .inl (fun _ => 0)))] H := hP
  have hD : va_D A [(h0, .inr (0, [.int (nI 4), .int (nI 0), .ref q1, .ref q2, .ref q3, .ref q4, .null, .null])), (q1, .inl (cI, 120, .inl (fun _ => 0))), (q2, .inl (cI, 120, .inl (fun _ => 0))), (q3, .inl (cI, 120, .inl (fun _ => 0))), (q4, .inl (cI, 120, .inl (fun _ => 0)))] := hD
  refine lv_aload_n hx hb d_g_init_46 rfl (lv_at hl 0 rfl) ?_
  refine lv_bipush (v := nI 120) hx hb d_g_init_47 (by decide) ?_
  refine nr_newa hx hb (atype := .long) (htc _ k_1_44) rfl hK hP hD hS hA 1 rfl (fun cA h => ra_l h (hK.2 1 _ rfl).2) (N := 120) (a0 := (120, .inr (.inl (fun _ => 0)))) (fun _ => rfl) (by decide) (by decide) (Nat.le_of_ble_eq_true rfl) (Nat.le_of_ble_eq_true rfl) d_g_init_49 (fun q5 H hP hD hS => ?_)
  have hP : va_P D cls [(h0, .inr (0, [.int (nI 4), .int (nI 0), .ref q1, .ref q2, .ref q3, .ref q4, .null, .null])), (q1, .inl (cI, 120, .inl (fun _ => 0))), (q2, .inl (cI, 120, .inl (fun _ => 0))), (q3, .inl (cI, 120, .inl (fun _ => 0))), (q4, .inl (cI, 120, .inl (fun _ => 0))), (q5, .inl (cJ, 120, .inr (.inl (fun _ => 0))))] H := hP
  have hD : va_D A [(h0, .inr (0, [.int (nI 4), .int (nI 0), .ref q1, .ref q2, .ref q3, .ref q4, .null, .null])), (q1, .inl (cI, 120, .inl (fun _ => 0))), (q2, .inl (cI, 120, .inl (fun _ => 0))), (q3, .inl (cI, 120, .inl (fun _ => 0))), (q4, .inl (cI, 120, .inl (fun _ => 0))), (q5, .inl (cJ, 120, .inr (.inl (fun _ => 0))))] := hD
  refine va_putF (D := D) (ci := 0) (v := .ref q5) (ty := .array .long) (C := "SightGraph") (T := T_g) (N := 8) hx hb htc in_g t_g ft_g fn_g hown hK hP hD hS 0 rfl rfl 6 (by decide) (htc _ k_1_24) (fun _ h9 => h9) rfl hin rfl (by decide +kernel) rfl rfl (Nat.le_of_ble_eq_true rfl) d_g_init_51 (fun H locs hP hD hS => ?_)
  have hP : va_P D cls [(h0, .inr (0, [.int (nI 4), .int (nI 0), .ref q1, .ref q2, .ref q3, .ref q4, .ref q5, .null])), (q1, .inl (cI, 120, .inl (fun _ => 0))), (q2, .inl (cI, 120, .inl (fun _ => 0))), (q3, .inl (cI, 120, .inl (fun _ => 0))), (q4, .inl (cI, 120, .inl (fun _ => 0))), (q5, .inl (cJ, 120, .inr (.inl (fun _ => 0))))] H := hP
  have hD : va_D A [(h0, .inr (0, [.int (nI 4), .int (nI 0), .ref q1, .ref q2, .ref q3, .ref q4, .ref q5, .null])), (q1, .inl (cI, 120, .inl (fun _ => 0))), (q2, .inl (cI, 120, .inl (fun _ => 0))), (q3, .inl (cI, 120, .inl (fun _ => 0))), (q4, .inl (cI, 120, .inl (fun _ => 0))), (q5, .inl (cJ, 120, .inr (.inl (fun _ => 0))))] := hD
  refine lv_aload_n hx hb d_g_init_54 rfl (lv_at hl 0 rfl) ?_
  refine lv_bipush (v := nI 120) hx hb d_g_init_55 (by decide) ?_
  refine nr_newa hx hb (atype := .long) (htc _ k_1_44) rfl hK hP hD hS hA 1 rfl (fun cA h => ra_l h (hK.2 1 _ rfl).2) (N := 120) (a0 := (120, .inr (.inl (fun _ => 0)))) (fun _ => rfl) (by decide) (by decide) (Nat.le_of_ble_eq_true rfl) (Nat.le_of_ble_eq_true rfl) d_g_init_57 (fun q6 H hP hD hS => ?_)
  have hP : va_P D cls [(h0, .inr (0, [.int (nI 4), .int (nI 0), .ref q1, .ref q2, .ref q3, .ref q4, .ref q5, .null])), (q1, .inl (cI, 120, .inl (fun _ => 0))), (q2, .inl (cI, 120, .inl (fun _ => 0))), (q3, .inl (cI, 120, .inl (fun _ => 0))), (q4, .inl (cI, 120, .inl (fun _ => 0))), (q5, .inl (cJ, 120, .inr (.inl (fun _ => 0)))), (q6, .inl (cJ, 120, .inr (.inl (fun _ => 0))))] H := hP
  have hD : va_D A [(h0, .inr (0, [.int (nI 4), .int (nI 0), .ref q1, .ref q2, .ref q3, .ref q4, .ref q5, .null])), (q1, .inl (cI, 120, .inl (fun _ => 0))), (q2, .inl (cI, 120, .inl (fun _ => 0))), (q3, .inl (cI, 120, .inl (fun _ => 0))), (q4, .inl (cI, 120, .inl (fun _ => 0))), (q5, .inl (cJ, 120, .inr (.inl (fun _ => 0)))), (q6, .inl (cJ, 120, .inr (.inl (fun _ => 0))))] := hD
  refine va_putF (D := D) (ci := 0) (v := .ref q6) (ty := .array .long) (C := "SightGraph") (T := T_g) (N := 8) hx hb htc in_g t_g ft_g fn_g hown hK hP hD hS 0 rfl rfl 7 (by decide) (htc _ k_1_25) (fun _ h9 => h9) rfl hin rfl (by decide +kernel) rfl rfl (Nat.le_of_ble_eq_true rfl) d_g_init_59 (fun H locs hP hD hS => ?_)
  have hP : va_P D cls [(h0, .inr (0, [.int (nI 4), .int (nI 0), .ref q1, .ref q2, .ref q3, .ref q4, .ref q5, .ref q6])), (q1, .inl (cI, 120, .inl (fun _ => 0))), (q2, .inl (cI, 120, .inl (fun _ => 0))), (q3, .inl (cI, 120, .inl (fun _ => 0))), (q4, .inl (cI, 120, .inl (fun _ => 0))), (q5, .inl (cJ, 120, .inr (.inl (fun _ => 0)))), (q6, .inl (cJ, 120, .inr (.inl (fun _ => 0))))] H := hP
  have hD : va_D A [(h0, .inr (0, [.int (nI 4), .int (nI 0), .ref q1, .ref q2, .ref q3, .ref q4, .ref q5, .ref q6])), (q1, .inl (cI, 120, .inl (fun _ => 0))), (q2, .inl (cI, 120, .inl (fun _ => 0))), (q3, .inl (cI, 120, .inl (fun _ => 0))), (q4, .inl (cI, 120, .inl (fun _ => 0))), (q5, .inl (cJ, 120, .inr (.inl (fun _ => 0)))), (q6, .inl (cJ, 120, .inr (.inl (fun _ => 0))))] := hD
  refine W.widen (k := 6) (n := 720) (Nat.le_of_ble_eq_true rfl) (Nat.le_of_ble_eq_true rfl) ?_
  exact W.vret hx hb hr (fun t ht hW => ⟨⟨(fun k => [h0, q1, q2, q3, q4, q5, q6].getD k 0), rfl, rfl, by rw [ht]; exact hP, va_K.moved hW.alike hK, hD⟩, hS.F ht⟩) hS.2.2 d_g_init_62 hlocks
set_option maxHeartbeats 4000000 in
set_option maxRecDepth 100000 in
theorem c_r_init (l : Launch) (D : va_G) (cI cJ cZ : ClassId) (h0 : Nat) : WN (S := Nat → Nat) l D (tys cI cJ cZ) [(h0, .inr (1, [.int 0, .int 0, .int 0, .null, .null, .null, .null, .null, .null, .null]))] (fun ad => rL cI cZ ad 0 4 0 zr) (fun ad => ad 0 = h0) y_r_init b_r_init 1 1 12 7 16082 [.ref h0] := by
  refine WN.of (by decide) rfl (Nat.le_of_ble_eq_true rfl) ?_
  intro p9 e9 s9 m args below meth c9 ls A S hr hlocks hin hA hP hK hD hl
  obtain ⟨hx, hb, hml, hown, htc⟩ := id S
  have hS : va_S A s9.heap s9.heap [] := va_S.rf
  have hl : lv_has ls 1 [(0, .ref h0)] := hl
  refine lv_aload_n hx hb d_r_init_0 rfl (lv_at hl 0 rfl) ?_
  refine W.objInit hx hb hown (htc _ k_2_72) (htc _ k_1_16) (htc _ k_1_17) rfl (by rw [hml]; exact hl.1) rfl d_r_init_1 (Nat.le_of_ble_eq_true rfl) (Nat.le_of_ble_eq_true rfl) ?_
  refine W.eq (g2 := F0 m 4 ls []) rfl ?_
  refine lv_aload_n hx hb d_r_init_4 rfl (lv_at hl 0 rfl) ?_
  refine lv_iconst (v := nI 4) hx hb d_r_init_5 (by decide) ?_
  refine va_put (D := D) (ci := 1) (v := .int (nI 4)) (ty := .int) (C := "SightGraphModel") (T := T_r) (N := 10) hx hb htc in_r t_r ft_r fn_r hown hK hP hD hS 0 rfl rfl 1 (by decide) (htc _ k_2_74) (fun _ h9 => h9) rfl (by decide +kernel) rfl rfl (Nat.le_of_ble_eq_true rfl) d_r_init_6 (fun H locs hP hD hS => ?_)
  have hP : va_P D cls [(h0, .inr (1, [.int 0, .int (nI 4), .int 0, .null, .null, .null, .null, .null, .null, .null]))] H := hP
  have hD : va_D A [(h0, .inr (1, [.int 0, .int (nI 4), .int 0, .null, .null, .null, .null, .null, .null, .null]))] := hD
  refine lv_aload_n hx hb d_r_init_9 rfl (lv_at hl 0 rfl) ?_
  refine lv_bipush (v := nI 120) hx hb d_r_init_10 (by decide) ?_
  refine nr_newa hx hb (atype := .int) (htc _ k_1_43) rfl hK hP hD hS hA 0 rfl (fun cA h => ra_i h (hK.2 0 _ rfl).2) (N := 120) (a0 := (120, .inl (fun _ => 0))) (fun _ => rfl) (by decide) (by decide) (Nat.le_of_ble_eq_true rfl) (Nat.le_of_ble_eq_true rfl) d_r_init_12 (fun q1 H hP hD hS => ?_)
  have hP : va_P D cls [(h0, .inr (1, [.int 0, .int (nI 4), .int 0, .null, .null, .null, .null, .null, .null, .null])), (q1, .inl (cI, 120, .inl (fun _ => 0)))] H := hP
  have hD : va_D A [(h0, .inr (1, [.int 0, .int (nI 4), .int 0, .null, .null, .null, .null, .null, .null, .null])), (q1, .inl (cI, 120, .inl (fun _ => 0)))] := hD
  refine va_putF (D := D) (ci := 1) (v := .ref q1) (ty := .array .int) (C := "SightGraphModel") (T := T_r) (N := 10) hx hb htc in_r t_r ft_r fn_r hown hK hP hD hS 0 rfl rfl 3 (by decide) (htc _ k_2_76) (fun _ h9 => h9) rfl hin rfl (by decide +kernel) rfl rfl (Nat.le_of_ble_eq_true rfl) d_r_init_14 (fun H locs hP hD hS => ?_)
  have hP : va_P D cls [(h0, .inr (1, [.int 0, .int (nI 4), .int 0, .ref q1, .null, .null, .null, .null, .null, .null])), (q1, .inl (cI, 120, .inl (fun _ => 0)))] H := hP
  have hD : va_D A [(h0, .inr (1, [.int 0, .int (nI 4), .int 0, .ref q1, .null, .null, .null, .null, .null, .null])), (q1, .inl (cI, 120, .inl (fun _ => 0)))] := hD
  refine lv_aload_n hx hb d_r_init_17 rfl (lv_at hl 0 rfl) ?_
  refine lv_bipush (v := nI 120) hx hb d_r_init_18 (by decide) ?_
  refine nr_newa hx hb (atype := .int) (htc _ k_1_43) rfl hK hP hD hS hA 0 rfl (fun cA h => ra_i h (hK.2 0 _ rfl).2) (N := 120) (a0 := (120, .inl (fun _ => 0))) (fun _ => rfl) (by decide) (by decide) (Nat.le_of_ble_eq_true rfl) (Nat.le_of_ble_eq_true rfl) d_r_init_20 (fun q2 H hP hD hS => ?_)
  have hP : va_P D cls [(h0, .inr (1, [.int 0, .int (nI 4), .int 0, .ref q1, .null, .null, .null, .null, .null, .null])), (q1, .inl (cI, 120, .inl (fun _ => 0))), (q2, .inl (cI, 120, .inl (fun _ => 0)))] H := hP
  have hD : va_D A [(h0, .inr (1, [.int 0, .int (nI 4), .int 0, .ref q1, .null, .null, .null, .null, .null, .null])), (q1, .inl (cI, 120, .inl (fun _ => 0))), (q2, .inl (cI, 120, .inl (fun _ => 0)))] := hD
  refine va_putF (D := D) (ci := 1) (v := .ref q2) (ty := .array .int) (C := "SightGraphModel") (T := T_r) (N := 10) hx hb htc in_r t_r ft_r fn_r hown hK hP hD hS 0 rfl rfl 4 (by decide) (htc _ k_2_77) (fun _ h9 => h9) rfl hin rfl (by decide +kernel) rfl rfl (Nat.le_of_ble_eq_true rfl) d_r_init_22 (fun H locs hP hD hS => ?_)
  have hP : va_P D cls [(h0, .inr (1, [.int 0, .int (nI 4), .int 0, .ref q1, .ref q2, .null, .null, .null, .null, .null])), (q1, .inl (cI, 120, .inl (fun _ => 0))), (q2, .inl (cI, 120, .inl (fun _ => 0)))] H := hP
  have hD : va_D A [(h0, .inr (1, [.int 0, .int (nI 4), .int 0, .ref q1, .ref q2, .null, .null, .null, .null, .null])), (q1, .inl (cI, 120, .inl (fun _ => 0))), (q2, .inl (cI, 120, .inl (fun _ => 0)))] := hD
  refine lv_aload_n hx hb d_r_init_25 rfl (lv_at hl 0 rfl) ?_
  refine lv_bipush (v := nI 120) hx hb d_r_init_26 (by decide) ?_
  refine nr_newa hx hb (atype := .int) (htc _ k_1_43) rfl hK hP hD hS hA 0 rfl (fun cA h => ra_i h (hK.2 0 _ rfl).2) (N := 120) (a0 := (120, .inl (fun _ => 0))) (fun _ => rfl) (by decide) (by decide) (Nat.le_of_ble_eq_true rfl) (Nat.le_of_ble_eq_true rfl) d_r_init_28 (fun q3 H hP hD hS => ?_)
  have hP : va_P D cls [(h0, .inr (1, [.int 0, .int (nI 4), .int 0, .ref q1, .ref q2, .null, .null, .null, .null, .null])), (q1, .inl (cI, 120, .inl (fun _ => 0))), (q2, .inl (cI, 120, .inl (fun _ => 0))), (q3, .inl (cI, 120, .inl (fun _ => 0)))] H := hP
  have hD : va_D A [(h0, .inr (1, [.int 0, .int (nI 4), .int 0, .ref q1, .ref q2, .null, .null, .null, .null, .null])), (q1, .inl (cI, 120, .inl (fun _ => 0))), (q2, .inl (cI, 120, .inl (fun _ => 0))), (q3, .inl (cI, 120, .inl (fun _ => 0)))] := hD
  refine va_putF (D := D) (ci := 1) (v := .ref q3) (ty := .array .int) (C := "SightGraphModel") (T := T_r) (N := 10) hx hb htc in_r t_r ft_r fn_r hown hK hP hD hS 0 rfl rfl 5 (by decide) (htc _ k_2_78) (fun _ h9 => h9) rfl hin rfl (by decide +kernel) rfl rfl (Nat.le_of_ble_eq_true rfl) d_r_init_30 (fun H locs hP hD hS => ?_)
  have hP : va_P D cls [(h0, .inr (1, [.int 0, .int (nI 4), .int 0, .ref q1, .ref q2, .ref q3, .null, .null, .null, .null])), (q1, .inl (cI, 120, .inl (fun _ => 0))), (q2, .inl (cI, 120, .inl (fun _ => 0))), (q3, .inl (cI, 120, .inl (fun _ => 0)))] H := hP
  have hD : va_D A [(h0, .inr (1, [.int 0, .int (nI 4), .int 0, .ref q1, .ref q2, .ref q3, .null, .null, .null, .null])), (q1, .inl (cI, 120, .inl (fun _ => 0))), (q2, .inl (cI, 120, .inl (fun _ => 0))), (q3, .inl (cI, 120, .inl (fun _ => 0)))] := hD
  refine lv_aload_n hx hb d_r_init_33 rfl (lv_at hl 0 rfl) ?_
  refine lv_bipush (v := nI 120) hx hb d_r_init_34 (by decide) ?_
  refine nr_newa hx hb (atype := .int) (htc _ k_1_43) rfl hK hP hD hS hA 0 rfl (fun cA h => ra_i h (hK.2 0 _ rfl).2) (N := 120) (a0 := (120, .inl (fun _ => 0))) (fun _ => rfl) (by decide) (by decide) (Nat.le_of_ble_eq_true rfl) (Nat.le_of_ble_eq_true rfl) d_r_init_36 (fun q4 H hP hD hS => ?_)
  have hP : va_P D cls [(h0, .inr (1, [.int 0, .int (nI 4), .int 0, .ref q1, .ref q2, .ref q3, .null, .null, .null, .null])), (q1, .inl (cI, 120, .inl (fun _ => 0))), (q2, .inl (cI, 120, .inl (fun _ => 0))), (q3, .inl (cI, 120, .inl (fun _ => 0))), (q4, .inl (cI, 120, .inl (fun _ => 0)))] H := hP
  have hD : va_D A [(h0, .inr (1, [.int 0, .int (nI 4), .int 0, .ref q1, .ref q2, .ref q3, .null, .null, .null, .null])), (q1, .inl (cI, 120, .inl (fun _ => 0))), (q2, .inl (cI, 120, .inl (fun _ => 0))), (q3, .inl (cI, 120, .inl (fun _ => 0))), (q4, .inl (cI, 120, .inl (fun _ => 0)))] := hD
  refine va_putF (D := D) (ci := 1) (v := .ref q4) (ty := .array .int) (C := "SightGraphModel") (T := T_r) (N := 10) hx hb htc in_r t_r ft_r fn_r hown hK hP hD hS 0 rfl rfl 6 (by decide) (htc _ k_2_79) (fun _ h9 => h9) rfl hin rfl (by decide +kernel) rfl rfl (Nat.le_of_ble_eq_true rfl) d_r_init_38 (fun H locs hP hD hS => ?_)
  have hP : va_P D cls [(h0, .inr (1, [.int 0, .int (nI 4), .int 0, .ref q1, .ref q2, .ref q3, .ref q4, .null, .null, .null])), (q1, .inl (cI, 120, .inl (fun _ => 0))), (q2, .inl (cI, 120, .inl (fun _ => 0))), (q3, .inl (cI, 120, .inl (fun _ => 0))), (q4, .inl (cI, 120, .inl (fun _ => 0)))] H := hP
  have hD : va_D A [(h0, .inr (1, [.int 0, .int (nI 4), .int 0, .ref q1, .ref q2, .ref q3, .ref q4, .null, .null, .null])), (q1, .inl (cI, 120, .inl (fun _ => 0))), (q2, .inl (cI, 120, .inl (fun _ => 0))), (q3, .inl (cI, 120, .inl (fun _ => 0))), (q4, .inl (cI, 120, .inl (fun _ => 0)))] := hD
  refine lv_aload_n hx hb d_r_init_41 rfl (lv_at hl 0 rfl) ?_
  refine lv_sipush (v := nI 242) hx hb d_r_init_42 (by decide) ?_
  refine nr_newa hx hb (atype := .int) (htc _ k_1_43) rfl hK hP hD hS hA 0 rfl (fun cA h => ra_i h (hK.2 0 _ rfl).2) (N := 242) (a0 := (242, .inl (fun _ => 0))) (fun _ => rfl) (by decide) (by decide) (Nat.le_of_ble_eq_true rfl) (Nat.le_of_ble_eq_true rfl) d_r_init_45 (fun q5 H hP hD hS => ?_)
  have hP : va_P D cls [(h0, .inr (1, [.int 0, .int (nI 4), .int 0, .ref q1, .ref q2, .ref q3, .ref q4, .null, .null, .null])), (q1, .inl (cI, 120, .inl (fun _ => 0))), (q2, .inl (cI, 120, .inl (fun _ => 0))), (q3, .inl (cI, 120, .inl (fun _ => 0))), (q4, .inl (cI, 120, .inl (fun _ => 0))), (q5, .inl (cI, 242, .inl (fun _ => 0)))] H := hP
  have hD : va_D A [(h0, .inr (1, [.int 0, .int (nI 4), .int 0, .ref q1, .ref q2, .ref q3, .ref q4, .null, .null, .null])), (q1, .inl (cI, 120, .inl (fun _ => 0))), (q2, .inl (cI, 120, .inl (fun _ => 0))), (q3, .inl (cI, 120, .inl (fun _ => 0))), (q4, .inl (cI, 120, .inl (fun _ => 0))), (q5, .inl (cI, 242, .inl (fun _ => 0)))] := hD
  refine va_putF (D := D) (ci := 1) (v := .ref q5) (ty := .array .int) (C := "SightGraphModel") (T := T_r) (N := 10) hx hb htc in_r t_r ft_r fn_r hown hK hP hD hS 0 rfl rfl 7 (by decide) (htc _ k_2_80) (fun _ h9 => h9) rfl hin rfl (by decide +kernel) rfl rfl (Nat.le_of_ble_eq_true rfl) d_r_init_47 (fun H locs hP hD hS => ?_)
  have hP : va_P D cls [(h0, .inr (1, [.int 0, .int (nI 4), .int 0, .ref q1, .ref q2, .ref q3, .ref q4, .ref q5, .null, .null])), (q1, .inl (cI, 120, .inl (fun _ => 0))), (q2, .inl (cI, 120, .inl (fun _ => 0))), (q3, .inl (cI, 120, .inl (fun _ => 0))), (q4, .inl (cI, 120, .inl (fun _ => 0))), (q5, .inl (cI, 242, .inl (fun _ => 0)))] H := hP
  have hD : va_D A [(h0, .inr (1, [.int 0, .int (nI 4), .int 0, .ref q1, .ref q2, .ref q3, .ref q4, .ref q5, .null, .null])), (q1, .inl (cI, 120, .inl (fun _ => 0))), (q2, .inl (cI, 120, .inl (fun _ => 0))), (q3, .inl (cI, 120, .inl (fun _ => 0))), (q4, .inl (cI, 120, .inl (fun _ => 0))), (q5, .inl (cI, 242, .inl (fun _ => 0)))] := hD
  refine lv_aload_n hx hb d_r_init_50 rfl (lv_at hl 0 rfl) ?_
  refine lv_sipush (v := nI 14400) hx hb d_r_init_51 (by decide) ?_
  refine nr_newa hx hb (atype := .boolean) (htc _ k_2_104) rfl hK hP hD hS hA 2 rfl (fun cA h => ra_z h (hK.2 2 _ rfl).2) (N := 14400) (a0 := (14400, .inl (fun _ => 0))) (fun _ => rfl) (by decide) (by decide) (Nat.le_of_ble_eq_true rfl) (Nat.le_of_ble_eq_true rfl) d_r_init_54 (fun q6 H hP hD hS => ?_)
  have hP : va_P D cls [(h0, .inr (1, [.int 0, .int (nI 4), .int 0, .ref q1, .ref q2, .ref q3, .ref q4, .ref q5, .null, .null])), (q1, .inl (cI, 120, .inl (fun _ => 0))), (q2, .inl (cI, 120, .inl (fun _ => 0))), (q3, .inl (cI, 120, .inl (fun _ => 0))), (q4, .inl (cI, 120, .inl (fun _ => 0))), (q5, .inl (cI, 242, .inl (fun _ => 0))), (q6, .inl (cZ, 14400, .inl (fun _ => 0)))] H := hP
  have hD : va_D A [(h0, .inr (1, [.int 0, .int (nI 4), .int 0, .ref q1, .ref q2, .ref q3, .ref q4, .ref q5, .null, .null])), (q1, .inl (cI, 120, .inl (fun _ => 0))), (q2, .inl (cI, 120, .inl (fun _ => 0))), (q3, .inl (cI, 120, .inl (fun _ => 0))), (q4, .inl (cI, 120, .inl (fun _ => 0))), (q5, .inl (cI, 242, .inl (fun _ => 0))), (q6, .inl (cZ, 14400, .inl (fun _ => 0)))] := hD
  refine va_putF (D := D) (ci := 1) (v := .ref q6) (ty := .array .boolean) (C := "SightGraphModel") (T := T_r) (N := 10) hx hb htc in_r t_r ft_r fn_r hown hK hP hD hS 0 rfl rfl 8 (by decide) (htc _ k_2_81) (fun _ h9 => h9) rfl hin rfl (by decide +kernel) rfl rfl (Nat.le_of_ble_eq_true rfl) d_r_init_56 (fun H locs hP hD hS => ?_)
  have hP : va_P D cls [(h0, .inr (1, [.int 0, .int (nI 4), .int 0, .ref q1, .ref q2, .ref q3, .ref q4, .ref q5, .ref q6, .null])), (q1, .inl (cI, 120, .inl (fun _ => 0))), (q2, .inl (cI, 120, .inl (fun _ => 0))), (q3, .inl (cI, 120, .inl (fun _ => 0))), (q4, .inl (cI, 120, .inl (fun _ => 0))), (q5, .inl (cI, 242, .inl (fun _ => 0))), (q6, .inl (cZ, 14400, .inl (fun _ => 0)))] H := hP
  have hD : va_D A [(h0, .inr (1, [.int 0, .int (nI 4), .int 0, .ref q1, .ref q2, .ref q3, .ref q4, .ref q5, .ref q6, .null])), (q1, .inl (cI, 120, .inl (fun _ => 0))), (q2, .inl (cI, 120, .inl (fun _ => 0))), (q3, .inl (cI, 120, .inl (fun _ => 0))), (q4, .inl (cI, 120, .inl (fun _ => 0))), (q5, .inl (cI, 242, .inl (fun _ => 0))), (q6, .inl (cZ, 14400, .inl (fun _ => 0)))] := hD
  refine lv_aload_n hx hb d_r_init_59 rfl (lv_at hl 0 rfl) ?_
  refine lv_sipush (v := nI 960) hx hb d_r_init_60 (by decide) ?_
  refine nr_newa hx hb (atype := .boolean) (htc _ k_2_104) rfl hK hP hD hS hA 2 rfl (fun cA h => ra_z h (hK.2 2 _ rfl).2) (N := 960) (a0 := (960, .inl (fun _ => 0))) (fun _ => rfl) (by decide) (by decide) (Nat.le_of_ble_eq_true rfl) (Nat.le_of_ble_eq_true rfl) d_r_init_63 (fun q7 H hP hD hS => ?_)
  have hP : va_P D cls [(h0, .inr (1, [.int 0, .int (nI 4), .int 0, .ref q1, .ref q2, .ref q3, .ref q4, .ref q5, .ref q6, .null])), (q1, .inl (cI, 120, .inl (fun _ => 0))), (q2, .inl (cI, 120, .inl (fun _ => 0))), (q3, .inl (cI, 120, .inl (fun _ => 0))), (q4, .inl (cI, 120, .inl (fun _ => 0))), (q5, .inl (cI, 242, .inl (fun _ => 0))), (q6, .inl (cZ, 14400, .inl (fun _ => 0))), (q7, .inl (cZ, 960, .inl (fun _ => 0)))] H := hP
  have hD : va_D A [(h0, .inr (1, [.int 0, .int (nI 4), .int 0, .ref q1, .ref q2, .ref q3, .ref q4, .ref q5, .ref q6, .null])), (q1, .inl (cI, 120, .inl (fun _ => 0))), (q2, .inl (cI, 120, .inl (fun _ => 0))), (q3, .inl (cI, 120, .inl (fun _ => 0))), (q4, .inl (cI, 120, .inl (fun _ => 0))), (q5, .inl (cI, 242, .inl (fun _ => 0))), (q6, .inl (cZ, 14400, .inl (fun _ => 0))), (q7, .inl (cZ, 960, .inl (fun _ => 0)))] := hD
  refine va_putF (D := D) (ci := 1) (v := .ref q7) (ty := .array .boolean) (C := "SightGraphModel") (T := T_r) (N := 10) hx hb htc in_r t_r ft_r fn_r hown hK hP hD hS 0 rfl rfl 9 (by decide) (htc _ k_2_82) (fun _ h9 => h9) rfl hin rfl (by decide +kernel) rfl rfl (Nat.le_of_ble_eq_true rfl) d_r_init_65 (fun H locs hP hD hS => ?_)
  have hP : va_P D cls [(h0, .inr (1, [.int 0, .int (nI 4), .int 0, .ref q1, .ref q2, .ref q3, .ref q4, .ref q5, .ref q6, .ref q7])), (q1, .inl (cI, 120, .inl (fun _ => 0))), (q2, .inl (cI, 120, .inl (fun _ => 0))), (q3, .inl (cI, 120, .inl (fun _ => 0))), (q4, .inl (cI, 120, .inl (fun _ => 0))), (q5, .inl (cI, 242, .inl (fun _ => 0))), (q6, .inl (cZ, 14400, .inl (fun _ => 0))), (q7, .inl (cZ, 960, .inl (fun _ => 0)))] H := hP
  have hD : va_D A [(h0, .inr (1, [.int 0, .int (nI 4), .int 0, .ref q1, .ref q2, .ref q3, .ref q4, .ref q5, .ref q6, .ref q7])), (q1, .inl (cI, 120, .inl (fun _ => 0))), (q2, .inl (cI, 120, .inl (fun _ => 0))), (q3, .inl (cI, 120, .inl (fun _ => 0))), (q4, .inl (cI, 120, .inl (fun _ => 0))), (q5, .inl (cI, 242, .inl (fun _ => 0))), (q6, .inl (cZ, 14400, .inl (fun _ => 0))), (q7, .inl (cZ, 960, .inl (fun _ => 0)))] := hD
  refine W.widen (k := 7) (n := 16082) (Nat.le_of_ble_eq_true rfl) (Nat.le_of_ble_eq_true rfl) ?_
  exact W.vret hx hb hr (fun t ht hW => ⟨⟨(fun k => [h0, q1, q2, q3, q4, q5, q6, q7].getD k 0), rfl, rfl, by rw [ht]; exact hP, va_K.moved hW.alike hK, hD⟩, hS.F ht⟩) hS.2.2 d_r_init_68 hlocks
