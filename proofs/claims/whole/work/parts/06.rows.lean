def bI (b : Bool) : Int32 := if b then 1 else 0
theorem bI_0 {b : Bool} : bI b = 0 ↔ b = false := by cases b <;> decide
theorem bI_1 {b : Bool} : bI b = 1 ↔ b = true := by cases b <;> decide
theorem bI_n (b : Bool) : narrow .boolean (.int (bI b)) = .int (bI b) := by cases b <;> rfl
theorem bI_v (b : Bool) : vp_nar .boolean (bI b) = bI b := by cases b <;> rfl
/-- a place that may be none: 0 none, i + 1 the place i -/
def mI : Nat → Int32
  | 0 => -1
  | i + 1 => nI i
theorem mI_0 : mI 0 = -1 := rfl
theorem mI_s (i : Nat) : mI (i + 1) = nI i := rfl
theorem mI_d (i : Nat) : nI i + Int32.ofInt (-1) = mI i := by
  cases i with
  | zero => decide
  | succ i => rw [mI_s]; exact pk_m1 i
theorem mI_lt {t : Nat} (h : t < 2 ^ 31) : mI t < 0 ↔ t = 0 := by
  cases t with
  | zero => exact ⟨fun _ => rfl, fun _ => by decide⟩
  | succ i => rw [mI_s]; exact ⟨fun q => absurd q (nI_pos (by omega)), fun q => by omega⟩
theorem mI_nI {t j : Nat} (ht : t < 2 ^ 31) (hj : j < 2 ^ 31) : mI t = nI j ↔ t = j + 1 := by
  cases t with
  | zero => exact ⟨fun q => absurd (by rw [← q]; decide) (nI_pos hj), fun q => by omega⟩
  | succ i => rw [mI_s, nI_eq (by omega) hj]; omega
theorem mI_m1 {t : Nat} (ht : t < 2 ^ 31) : mI t = -1 ↔ t = 0 := by
  cases t with
  | zero => exact ⟨fun _ => rfl, fun _ => rfl⟩
  | succ i => rw [mI_s]; exact ⟨fun q => absurd (by rw [q]; decide) (nI_pos (n := i) (by omega)), fun q => by omega⟩
section NR
variable {p : Program} {l : Launch} {e : Env} {R : Room} {s : State} {m : MethodId} {args : Array Value} {below : List Frame} {meth : Method} {c : Code} {H : Heap} {locs : List Loc} {cells slots : Nat} {Q : State → Prop}
variable {cc : ByteArray} {pc : Nat} {ls : Array Slot} {rest : List Value}
theorem nr_top {v w : Value} (h : v = w) (k : W p l e R s m args below meth c H locs cells slots Q (F0 m pc ls (w :: rest))) : W p l e R s m args below meth c H locs cells slots Q (F0 m pc ls (v :: rest)) := h ▸ k
theorem nr_iadd (hx : p.tables.exec = Jvm.exec) (hb : c.code = cc) {x y : Nat} (d : decode cc pc = .ok (.iadd, 1))  (k : W p l e R s m args below meth c H locs cells slots Q (F0 m (pc + 1) ls (.int (nI (x + y)) :: rest))) : W p l e R s m args below meth c H locs cells slots Q (F0 m pc ls (.int (nI y) :: .int (nI x) :: rest)) := lv_iadd hx hb d (nr_top (congrArg Value.int (nI_add x y)) k)
theorem nr_isub (hx : p.tables.exec = Jvm.exec) (hb : c.code = cc) {x y : Nat} (d : decode cc pc = .ok (.isub, 1)) (h : y ≤ x) (k : W p l e R s m args below meth c H locs cells slots Q (F0 m (pc + 1) ls (.int (nI (x - y)) :: rest))) : W p l e R s m args below meth c H locs cells slots Q (F0 m pc ls (.int (nI y) :: .int (nI x) :: rest)) := lv_isub hx hb d (nr_top (congrArg Value.int (pk_sub h)) k)
theorem nr_imul (hx : p.tables.exec = Jvm.exec) (hb : c.code = cc) {x y : Nat} (d : decode cc pc = .ok (.imul, 1))  (k : W p l e R s m args below meth c H locs cells slots Q (F0 m (pc + 1) ls (.int (nI (x * y)) :: rest))) : W p l e R s m args below meth c H locs cells slots Q (F0 m pc ls (.int (nI y) :: .int (nI x) :: rest)) := lv_imul hx hb d (nr_top (congrArg Value.int (pk_mul x y)) k)
theorem nr_i_ne {x y : Nat} (h1 : x < 2 ^ 31) (h2 : y < 2 ^ 31) : nI x ≠ nI y ↔ x ≠ y := not_congr (nI_eq h1 h2)
theorem nr_i_ge {x y : Nat} (h1 : x < 2 ^ 31) (h2 : y < 2 ^ 31) : nI x ≥ nI y ↔ y ≤ x := nI_leI h2 h1
theorem nr_i_gt {x y : Nat} (h1 : x < 2 ^ 31) (h2 : y < 2 ^ 31) : nI x > nI y ↔ y < x := nI_ltI h2 h1
theorem nr_icmp_eq (hx : p.tables.exec = Jvm.exec) (hb : c.code = cc) {x y : Nat} {off : Int} {tgt : Nat} (h1 : x < 2 ^ 31) (h2 : y < 2 ^ 31) (d : decode cc pc = .ok (.if_icmp .eq off, 3)) (ht : (pc : Int) + off = (tgt : Int)) (kt : x = y → W p l e R s m args below meth c H locs cells slots Q (F0 m tgt ls rest)) (kf : ¬ x = y → W p l e R s m args below meth c H locs cells slots Q (F0 m (pc + 3) ls rest)) : W p l e R s m args below meth c H locs cells slots Q (F0 m pc ls (.int (nI y) :: .int (nI x) :: rest)) := lv_icmp_eq hx hb d ht (fun q => kt ((nI_eq h1 h2).mp q)) (fun q => kf (fun z => q ((nI_eq h1 h2).mpr z)))
theorem nr_icmp_ne (hx : p.tables.exec = Jvm.exec) (hb : c.code = cc) {x y : Nat} {off : Int} {tgt : Nat} (h1 : x < 2 ^ 31) (h2 : y < 2 ^ 31) (d : decode cc pc = .ok (.if_icmp .ne off, 3)) (ht : (pc : Int) + off = (tgt : Int)) (kt : ¬ x = y → W p l e R s m args below meth c H locs cells slots Q (F0 m tgt ls rest)) (kf : x = y → W p l e R s m args below meth c H locs cells slots Q (F0 m (pc + 3) ls rest)) : W p l e R s m args below meth c H locs cells slots Q (F0 m pc ls (.int (nI y) :: .int (nI x) :: rest)) := lv_icmp_ne hx hb d ht (fun q => kt (fun z => q ((nI_eq h1 h2).mpr z))) (fun q => kf ((nI_eq h1 h2).mp (by first | exact q | exact Classical.not_not.mp q)))
theorem nr_icmp_lt (hx : p.tables.exec = Jvm.exec) (hb : c.code = cc) {x y : Nat} {off : Int} {tgt : Nat} (h1 : x < 2 ^ 31) (h2 : y < 2 ^ 31) (d : decode cc pc = .ok (.if_icmp .lt off, 3)) (ht : (pc : Int) + off = (tgt : Int)) (kt : x < y → W p l e R s m args below meth c H locs cells slots Q (F0 m tgt ls rest)) (kf : y ≤ x → W p l e R s m args below meth c H locs cells slots Q (F0 m (pc + 3) ls rest)) : W p l e R s m args below meth c H locs cells slots Q (F0 m pc ls (.int (nI y) :: .int (nI x) :: rest)) := lv_icmp_lt hx hb d ht (fun q => kt ((nI_ltI h1 h2).mp q)) (fun q => kf (by have z := mt (nI_ltI h1 h2).mpr q; omega))
theorem nr_icmp_ge (hx : p.tables.exec = Jvm.exec) (hb : c.code = cc) {x y : Nat} {off : Int} {tgt : Nat} (h1 : x < 2 ^ 31) (h2 : y < 2 ^ 31) (d : decode cc pc = .ok (.if_icmp .ge off, 3)) (ht : (pc : Int) + off = (tgt : Int)) (kt : y ≤ x → W p l e R s m args below meth c H locs cells slots Q (F0 m tgt ls rest)) (kf : x < y → W p l e R s m args below meth c H locs cells slots Q (F0 m (pc + 3) ls rest)) : W p l e R s m args below meth c H locs cells slots Q (F0 m pc ls (.int (nI y) :: .int (nI x) :: rest)) := lv_icmp_ge hx hb d ht (fun q => kt ((nI_leI h2 h1).mp q)) (fun q => kf (by have z := mt (nI_leI h2 h1).mpr q; omega))
theorem nr_icmp_gt (hx : p.tables.exec = Jvm.exec) (hb : c.code = cc) {x y : Nat} {off : Int} {tgt : Nat} (h1 : x < 2 ^ 31) (h2 : y < 2 ^ 31) (d : decode cc pc = .ok (.if_icmp .gt off, 3)) (ht : (pc : Int) + off = (tgt : Int)) (kt : y < x → W p l e R s m args below meth c H locs cells slots Q (F0 m tgt ls rest)) (kf : x ≤ y → W p l e R s m args below meth c H locs cells slots Q (F0 m (pc + 3) ls rest)) : W p l e R s m args below meth c H locs cells slots Q (F0 m pc ls (.int (nI y) :: .int (nI x) :: rest)) := lv_icmp_gt hx hb d ht (fun q => kt ((nI_ltI h2 h1).mp q)) (fun q => kf (by have z := mt (nI_ltI h2 h1).mpr q; omega))
theorem nr_icmp_le (hx : p.tables.exec = Jvm.exec) (hb : c.code = cc) {x y : Nat} {off : Int} {tgt : Nat} (h1 : x < 2 ^ 31) (h2 : y < 2 ^ 31) (d : decode cc pc = .ok (.if_icmp .le off, 3)) (ht : (pc : Int) + off = (tgt : Int)) (kt : x ≤ y → W p l e R s m args below meth c H locs cells slots Q (F0 m tgt ls rest)) (kf : y < x → W p l e R s m args below meth c H locs cells slots Q (F0 m (pc + 3) ls rest)) : W p l e R s m args below meth c H locs cells slots Q (F0 m pc ls (.int (nI y) :: .int (nI x) :: rest)) := lv_icmp_le hx hb d ht (fun q => kt ((nI_leI h1 h2).mp q)) (fun q => kf (by have z := mt (nI_leI h1 h2).mpr q; omega))
theorem nr_ifeq_b (hx : p.tables.exec = Jvm.exec) (hb : c.code = cc) {b : Bool} {off : Int} {tgt : Nat} (d : decode cc pc = .ok (.ifCond .eq off, 3)) (ht : (pc : Int) + off = (tgt : Int)) (kt : b = false → W p l e R s m args below meth c H locs cells slots Q (F0 m tgt ls rest)) (kf : b = true → W p l e R s m args below meth c H locs cells slots Q (F0 m (pc + 3) ls rest)) : W p l e R s m args below meth c H locs cells slots Q (F0 m pc ls (.int (bI b) :: rest)) := lv_if_eq hx hb d ht (fun q => kt (bI_0.mp q)) (fun q => kf (by cases b with | true => rfl | false => exact absurd rfl q))
theorem nr_ifne_b (hx : p.tables.exec = Jvm.exec) (hb : c.code = cc) {b : Bool} {off : Int} {tgt : Nat} (d : decode cc pc = .ok (.ifCond .ne off, 3)) (ht : (pc : Int) + off = (tgt : Int)) (kt : b = true → W p l e R s m args below meth c H locs cells slots Q (F0 m tgt ls rest)) (kf : b = false → W p l e R s m args below meth c H locs cells slots Q (F0 m (pc + 3) ls rest)) : W p l e R s m args below meth c H locs cells slots Q (F0 m pc ls (.int (bI b) :: rest)) := lv_if_ne hx hb d ht (fun q => kt (by cases b with | true => rfl | false => exact absurd rfl q)) (fun q => kf (bI_0.mp (by first | exact q | exact Classical.not_not.mp q)))
theorem nr_iflt_m (hx : p.tables.exec = Jvm.exec) (hb : c.code = cc) {t : Nat} {off : Int} {tgt : Nat} (h1 : t < 2 ^ 31) (d : decode cc pc = .ok (.ifCond .lt off, 3)) (ht : (pc : Int) + off = (tgt : Int)) (kt : t = 0 → W p l e R s m args below meth c H locs cells slots Q (F0 m tgt ls rest)) (kf : t ≠ 0 → W p l e R s m args below meth c H locs cells slots Q (F0 m (pc + 3) ls rest)) : W p l e R s m args below meth c H locs cells slots Q (F0 m pc ls (.int (mI t) :: rest)) := lv_if_lt hx hb d ht (fun q => kt ((mI_lt h1).mp q)) (fun q => kf (fun z => q ((mI_lt h1).mpr z)))
theorem nr_ifge_m (hx : p.tables.exec = Jvm.exec) (hb : c.code = cc) {t : Nat} {off : Int} {tgt : Nat} (h1 : t < 2 ^ 31) (d : decode cc pc = .ok (.ifCond .ge off, 3)) (ht : (pc : Int) + off = (tgt : Int)) (kt : t ≠ 0 → W p l e R s m args below meth c H locs cells slots Q (F0 m tgt ls rest)) (kf : t = 0 → W p l e R s m args below meth c H locs cells slots Q (F0 m (pc + 3) ls rest)) : W p l e R s m args below meth c H locs cells slots Q (F0 m pc ls (.int (mI t) :: rest)) := lv_if_ge hx hb d ht (fun q => kt (fun z => by rw [z] at q; exact absurd q (by decide))) (fun q => kf (by cases t with | zero => rfl | succ i => exact absurd (nI_pos' (n := i) (by omega)) q))
theorem nr_iflt_n (hx : p.tables.exec = Jvm.exec) (hb : c.code = cc) {x : Nat} {off : Int} {tgt : Nat} (h1 : x < 2 ^ 31) (d : decode cc pc = .ok (.ifCond .lt off, 3)) (ht : (pc : Int) + off = (tgt : Int)) (kf : W p l e R s m args below meth c H locs cells slots Q (F0 m (pc + 3) ls rest)) : W p l e R s m args below meth c H locs cells slots Q (F0 m pc ls (.int (nI x) :: rest)) := lv_if_lt hx hb d ht (fun q => absurd q (nI_pos h1)) (fun _ => kf)
theorem nr_ifge_n (hx : p.tables.exec = Jvm.exec) (hb : c.code = cc) {x : Nat} {off : Int} {tgt : Nat} (h1 : x < 2 ^ 31) (d : decode cc pc = .ok (.ifCond .ge off, 3)) (ht : (pc : Int) + off = (tgt : Int)) (kt : W p l e R s m args below meth c H locs cells slots Q (F0 m tgt ls rest)) : W p l e R s m args below meth c H locs cells slots Q (F0 m pc ls (.int (nI x) :: rest)) := lv_if_ge hx hb d ht (fun _ => kt) (fun q => absurd (nI_pos' h1) q)
theorem mx_I {x y : Nat} (h1 : x < 2 ^ 31) (h2 : y < 2 ^ 31) : (if nI x < nI y then nI y else nI x) = nI (max x y) := by
  by_cases h : x < y
  · rw [if_pos ((nI_ltI h1 h2).mpr h), Nat.max_eq_right (by omega)]
  · rw [if_neg (fun q => h ((nI_ltI h1 h2).mp q)), Nat.max_eq_left (by omega)]
section AR
variable {D : va_G} {cl : List vw_C} {ws : va_W} {tys : List (ClassId × FieldType)} {q : Nat} {A : Nat → Prop} {H0 : Heap}
theorem nr_iald (hx : p.tables.exec = Jvm.exec) (hb : c.code = cc) (hK : va_K D cl tys s) (hP : va_P D cl ws H) (q0 t0 : Nat) {cA : ClassId} {n : Nat} {f : Nat → Int32} (ha : ws[q0]? = some (q, .inl (cA, n, .inl f))) (ht : tys[t0]? = some (cA, .int)) {j : Nat} (hj : j < n) (hn : n < 2 ^ 31) {v : Int32} (hv : f j = v) (d : decode cc pc = .ok (.iaload, 1)) (k : W p l e R s m args below meth c H locs cells slots Q (F0 m (pc + 1) ls (.int v :: rest))) : W p l e R s m args below meth c H locs cells slots Q (F0 m pc ls (.int (nI j) :: .ref q :: rest)) := va_iald hx hb hK hP q0 t0 ha ht (vp_in_nI hj hn) d (nr_top (congrArg Value.int (by rw [nI_clamp (by omega)]; exact hv)) k)
theorem nr_lald (hx : p.tables.exec = Jvm.exec) (hb : c.code = cc) (hK : va_K D cl tys s) (hP : va_P D cl ws H) (q0 t0 : Nat) {cA : ClassId} {n : Nat} {f : Nat → Int64} (ha : ws[q0]? = some (q, .inl (cA, n, .inr (.inl f)))) (ht : tys[t0]? = some (cA, .long)) {j : Nat} (hj : j < n) (hn : n < 2 ^ 31) {v : Int64} (hv : f j = v) (d : decode cc pc = .ok (.laload, 1)) (k : W p l e R s m args below meth c H locs cells slots Q (F0 m (pc + 1) ls (.long v :: rest))) : W p l e R s m args below meth c H locs cells slots Q (F0 m pc ls (.int (nI j) :: .ref q :: rest)) := va_lald hx hb hK hP q0 t0 ha ht (vp_in_nI hj hn) d (nr_top (congrArg Value.long (by rw [nI_clamp (by omega)]; exact hv)) k)
theorem nr_zald (hx : p.tables.exec = Jvm.exec) (hb : c.code = cc) (hK : va_K D cl tys s) (hP : va_P D cl ws H) (q0 t0 : Nat) {cA : ClassId} {n : Nat} {f : Nat → Int32} (ha : ws[q0]? = some (q, .inl (cA, n, .inl f))) (ht : tys[t0]? = some (cA, .boolean)) {j : Nat} (hj : j < n) (hn : n < 2 ^ 31) {v : Int32} (hv : f j = v) (d : decode cc pc = .ok (.baload, 1)) (k : W p l e R s m args below meth c H locs cells slots Q (F0 m (pc + 1) ls (.int v :: rest))) : W p l e R s m args below meth c H locs cells slots Q (F0 m pc ls (.int (nI j) :: .ref q :: rest)) := va_zald hx hb hK hP q0 t0 ha ht (vp_in_nI hj hn) d (nr_top (congrArg Value.int (by rw [nI_clamp (by omega)]; exact hv)) k)
theorem nr_iast (hx : p.tables.exec = Jvm.exec) (hb : c.code = cc) (hK : va_K D cl tys s) (hP : va_P D cl ws H) (hD : va_D A ws) (hS : va_S A H0 H locs) (q0 t0 : Nat) {cA : ClassId} {n : Nat} {f : Nat → Int32} (ha : ws[q0]? = some (q, .inl (cA, n, .inl f))) (ht : tys[t0]? = some (cA, .int)) {j : Nat} {x : Int32} (hj : j < n) (hn : n < 2 ^ 31) (d : decode cc pc = .ok (.iastore, 1)) (k : ∀ (H1 : Heap) (locs1 : List Loc), va_P D cl (ws.set q0 (q, .inl (cA, n, .inl (upd f j x)))) H1 → va_D A (ws.set q0 (q, .inl (cA, n, .inl (upd f j x)))) → va_S A H0 H1 locs1 → W p l e R s m args below meth c H1 locs1 cells slots Q (F0 m (pc + 1) ls rest)) : W p l e R s m args below meth c H locs cells slots Q (F0 m pc ls (.int x :: .int (nI j) :: .ref q :: rest)) := va_iast hx hb hK hP hD hS q0 t0 ha ht (vp_in_nI hj hn) d (fun H1 locs1 h1 h2 h3 => k H1 locs1 (by rw [nI_clamp (by omega)] at h1; exact h1) (by rw [nI_clamp (by omega)] at h2; exact h2) h3)
theorem nr_last (hx : p.tables.exec = Jvm.exec) (hb : c.code = cc) (hK : va_K D cl tys s) (hP : va_P D cl ws H) (hD : va_D A ws) (hS : va_S A H0 H locs) (q0 t0 : Nat) {cA : ClassId} {n : Nat} {f : Nat → Int64} (ha : ws[q0]? = some (q, .inl (cA, n, .inr (.inl (f))))) (ht : tys[t0]? = some (cA, .long)) {j : Nat} {x : Int64} (hj : j < n) (hn : n < 2 ^ 31) (d : decode cc pc = .ok (.lastore, 1)) (k : ∀ (H1 : Heap) (locs1 : List Loc), va_P D cl (ws.set q0 (q, .inl (cA, n, .inr (.inl ((vp_updL f j x)))))) H1 → va_D A (ws.set q0 (q, .inl (cA, n, .inr (.inl ((vp_updL f j x)))))) → va_S A H0 H1 locs1 → W p l e R s m args below meth c H1 locs1 cells slots Q (F0 m (pc + 1) ls rest)) : W p l e R s m args below meth c H locs cells slots Q (F0 m pc ls (.long x :: .int (nI j) :: .ref q :: rest)) := va_last hx hb hK hP hD hS q0 t0 ha ht (vp_in_nI hj hn) d (fun H1 locs1 h1 h2 h3 => k H1 locs1 (by rw [nI_clamp (by omega)] at h1; exact h1) (by rw [nI_clamp (by omega)] at h2; exact h2) h3)
theorem nr_zast (hx : p.tables.exec = Jvm.exec) (hb : c.code = cc) (hK : va_K D cl tys s) (hP : va_P D cl ws H) (hD : va_D A ws) (hS : va_S A H0 H locs) (q0 t0 : Nat) {cA : ClassId} {n : Nat} {f : Nat → Int32} (ha : ws[q0]? = some (q, .inl (cA, n, .inl f))) (ht : tys[t0]? = some (cA, .boolean)) {j : Nat} {x : Bool} (hj : j < n) (hn : n < 2 ^ 31) (d : decode cc pc = .ok (.bastore, 1)) (k : ∀ (H1 : Heap) (locs1 : List Loc), va_P D cl (ws.set q0 (q, .inl (cA, n, .inl (upd f j (bI x))))) H1 → va_D A (ws.set q0 (q, .inl (cA, n, .inl (upd f j (bI x))))) → va_S A H0 H1 locs1 → W p l e R s m args below meth c H1 locs1 cells slots Q (F0 m (pc + 1) ls rest)) : W p l e R s m args below meth c H locs cells slots Q (F0 m pc ls (.int (bI x) :: .int (nI j) :: .ref q :: rest)) := va_zast hx hb hK hP hD hS q0 t0 ha ht (vp_in_nI hj hn) d (fun H1 locs1 h1 h2 h3 => k H1 locs1 (by rw [nI_clamp (by omega), bI_v] at h1; exact h1) (by rw [nI_clamp (by omega), bI_v] at h2; exact h2) h3)
end AR
end NR
def T_g : u_T := fun k => match k with
  | 0 => ("SightGraph", "nodes", "I", false)
  | 1 => ("SightGraph", "events", "I", false)
  | 2 => ("SightGraph", "creators", "[I", true)
  | 3 => ("SightGraph", "selfParents", "[I", true)
  | 4 => ("SightGraph", "rounds", "[I", true)
  | 5 => ("SightGraph", "forkers", "[I", true)
  | 6 => ("SightGraph", "lowAncestors", "[J", true)
  | _ => ("SightGraph", "highAncestors", "[J", true)
def t_g : Nat → FieldType := fun k => match k with
  | 0 => .int
  | 1 => .int
  | 2 => .array .int
  | 3 => .array .int
  | 4 => .array .int
  | 5 => .array .int
  | 6 => .array .long
  | _ => .array .long
def T_r : u_T := fun k => match k with
  | 0 => ("SightGraphModel", "err", "I", false)
  | 1 => ("SightGraphModel", "nodes", "I", false)
  | 2 => ("SightGraphModel", "events", "I", false)
  | 3 => ("SightGraphModel", "creator", "[I", true)
  | 4 => ("SightGraphModel", "self", "[I", true)
  | 5 => ("SightGraphModel", "other", "[I", true)
  | 6 => ("SightGraphModel", "rounds", "[I", true)
  | 7 => ("SightGraphModel", "todo", "[I", true)
  | 8 => ("SightGraphModel", "above", "[Z", true)
  | _ => ("SightGraphModel", "forks", "[Z", true)
def t_r : Nat → FieldType := fun k => match k with
  | 0 => .int
  | 1 => .int
  | 2 => .int
  | 3 => .array .int
  | 4 => .array .int
  | 5 => .array .int
  | 6 => .array .int
  | 7 => .array .int
  | 8 => .array .boolean
  | _ => .array .boolean
theorem fn_g : ∀ a, a < 8 → ∀ b, b < 8 → a ≠ b → (T_g a).2.1 ≠ (T_g b).2.1 := by decide +kernel
theorem ft_g : ∀ k, k < 8 → parseFieldDescriptor (T_g k).2.2.1 = some (t_g k) := by decide +kernel
theorem fn_r : ∀ a, a < 10 → ∀ b, b < 10 → a ≠ b → (T_r a).2.1 ≠ (T_r b).2.1 := by decide +kernel
theorem ft_r : ∀ k, k < 10 → parseFieldDescriptor (T_r k).2.2.1 = some (t_r k) := by decide +kernel
theorem in_g : ∀ w ∈ u_ws "SightGraph" T_g 8, w ∈ Cw := by
  have h : ∀ w ∈ [(Cond.lays "SightGraph" "SightGraph" "nodes" "I"), (Cond.lays "SightGraph" "SightGraph" "events" "I"), (Cond.laysFinal "SightGraph" "SightGraph" "creators" "[I"), (Cond.laysFinal "SightGraph" "SightGraph" "selfParents" "[I"), (Cond.laysFinal "SightGraph" "SightGraph" "rounds" "[I"), (Cond.laysFinal "SightGraph" "SightGraph" "forkers" "[I"), (Cond.laysFinal "SightGraph" "SightGraph" "lowAncestors" "[J"), (Cond.laysFinal "SightGraph" "SightGraph" "highAncestors" "[J")], w ∈ Cw := List.forall_mem_cons.mpr ⟨k_1_26, List.forall_mem_cons.mpr ⟨k_1_28, List.forall_mem_cons.mpr ⟨k_1_30, List.forall_mem_cons.mpr ⟨k_1_32, List.forall_mem_cons.mpr ⟨k_1_34, List.forall_mem_cons.mpr ⟨k_1_36, List.forall_mem_cons.mpr ⟨k_1_38, List.forall_mem_cons.mpr ⟨k_1_40, fun _ h => absurd h List.not_mem_nil⟩⟩⟩⟩⟩⟩⟩⟩
  exact h
theorem in_r : ∀ w ∈ u_ws "SightGraphModel" T_r 10, w ∈ Cw := by
  have h : ∀ w ∈ [(Cond.lays "SightGraphModel" "SightGraphModel" "err" "I"), (Cond.lays "SightGraphModel" "SightGraphModel" "nodes" "I"), (Cond.lays "SightGraphModel" "SightGraphModel" "events" "I"), (Cond.laysFinal "SightGraphModel" "SightGraphModel" "creator" "[I"), (Cond.laysFinal "SightGraphModel" "SightGraphModel" "self" "[I"), (Cond.laysFinal "SightGraphModel" "SightGraphModel" "other" "[I"), (Cond.laysFinal "SightGraphModel" "SightGraphModel" "rounds" "[I"), (Cond.laysFinal "SightGraphModel" "SightGraphModel" "todo" "[I"), (Cond.laysFinal "SightGraphModel" "SightGraphModel" "above" "[Z"), (Cond.laysFinal "SightGraphModel" "SightGraphModel" "forks" "[Z")], w ∈ Cw := List.forall_mem_cons.mpr ⟨k_2_83, List.forall_mem_cons.mpr ⟨k_2_85, List.forall_mem_cons.mpr ⟨k_2_87, List.forall_mem_cons.mpr ⟨k_2_89, List.forall_mem_cons.mpr ⟨k_2_91, List.forall_mem_cons.mpr ⟨k_2_93, List.forall_mem_cons.mpr ⟨k_2_95, List.forall_mem_cons.mpr ⟨k_2_97, List.forall_mem_cons.mpr ⟨k_2_99, List.forall_mem_cons.mpr ⟨k_2_101, fun _ h => absurd h List.not_mem_nil⟩⟩⟩⟩⟩⟩⟩⟩⟩⟩
  exact h
abbrev cls : List vw_C := [("SightGraph", T_g, 8), ("SightGraphModel", T_r, 10)]
def wd (D : va_G) (tys : List (ClassId × FieldType)) (ws : va_W) (U : State) : Prop := va_P D cls ws U.heap ∧ va_K D cls tys U
theorem wd_blind {D : va_G} {tys : List (ClassId × FieldType)} {ws : va_W} {av : List Value} : FrameBlind (va_Pc av (wd D tys ws)) := fun a U g mk q => ⟨q.1, q.2.1, va_K.moved (u := U) (U := U.calling g mk a) (Vm.Alike.refl U.vm) q.2.2⟩
theorem cw_V {own : String} {idx : Nat} {y : MethodName} {bs : ByteArray} {mL : Nat} {ret : Option FieldType} (k1 : Cond.methodLink own idx y ∈ Cw) (k2 : Cond.instanceMethod y ∈ Cw) (k3 : Cond.selects y.cls y y ∈ Cw) (k4 : Cond.initialized y.cls ∈ Cw) (k5 : Cond.code y bs mL ret ∈ Cw) : GoodIn Cw (wsV own idx y.cls y (Cond.code y bs mL ret :: Cw)) := by
  have g : ∀ w ∈ Cw, w ∈ Cw ∧ ((w.onTables && w.keeps) = true ∨ ∃ ty, w = .arrayClass ty) := fun w h => ⟨h, good_of_word (List.mem_filter.mp h).2⟩
  intro w hw
  simp only [wsV, List.cons_append, List.nil_append, List.mem_cons] at hw
  rcases hw with rfl | rfl | rfl | rfl | rfl | hw
  · exact g _ k1
  · exact g _ k2
  · exact g _ k3
  · exact g _ k4
  · exact g _ k5
  · exact g _ hw
theorem cw_S {own : String} {idx : Nat} {y : MethodName} {bs : ByteArray} {mL : Nat} {ret : Option FieldType} (k1 : Cond.methodLink own idx y ∈ Cw) (k2 : Cond.static y ∈ Cw) (k4 : Cond.initialized y.cls ∈ Cw) (k5 : Cond.code y bs mL ret ∈ Cw) : GoodIn Cw (va_wsS own idx y (Cond.code y bs mL ret :: Cw)) := by
  have g : ∀ w ∈ Cw, w ∈ Cw ∧ ((w.onTables && w.keeps) = true ∨ ∃ ty, w = .arrayClass ty) := fun w h => ⟨h, good_of_word (List.mem_filter.mp h).2⟩
  intro w hw
  simp only [va_wsS, List.cons_append, List.nil_append, List.mem_cons] at hw
  rcases hw with rfl | rfl | rfl | rfl | hw
  · exact g _ k1
  · exact g _ k2
  · exact g _ k4
  · exact g _ k5
  · exact g _ hw
def nofree : Addr → Prop := fun _ => False
/-- a method that reads: the answer is v, the heap is as it was -/
def PM (l : Launch) (D : va_G) (tys : List (ClassId × FieldType)) (ws : va_W) (y : MethodName) (bs : ByteArray) (mL : Nat) (ret : Option FieldType) (f lo : Nat) (av : List Value) (v : Int32) : Prop :=
  Met l y (Cond.code y bs mL ret :: Cw) ({ frames := f, cells := 0, slots := 0, locals := lo }) (va_Pc av (wd D tys ws)) (vp_Si (fun r => r = v)) 0 0 (fun _ => False)
theorem PM.of {l : Launch} {D : va_G} {tys : List (ClassId × FieldType)} {ws : va_W} {y : MethodName} {bs : ByteArray} {mL : Nat} {ret : Option FieldType} {f lo : Nat} {av : List Value} {v : Int32} (hy : plainName y.cls = true) (hn : (lg_sl av).length ≤ mL)
    (body : ∀ (p : Program) (e : Env) (s : State) (m : MethodId) (args : Array Value) (below : List Frame) (meth : Method) (c : Code) (ls : Array Slot), CallFix p m c bs mL s args Cw y.cls → meth.sig.returnType = ret → meth.locks = false → va_P D cls ws s.heap → va_K D cls tys s → lv_has ls mL (lv_args 0 av) →
      W p l e ({ frames := f, cells := 0, slots := 0, locals := lo }) s m args below meth c s.heap [] 0 0 (MQ below (vp_Si (fun r => r = v)) args s 0 0 (fun _ => False)) (F0 m 0 ls [])) : PM l D tys ws y bs mL ret f lo av v := by
  refine Met.ofW (cc := bs) (maxL := mL) (ret := ret) hy rfl ?_
  intro p e s m args below meth c s₁ B hml hv
  obtain ⟨rfl, hP, hK⟩ := hv
  have hts := atoms_spec (ws := Cond.code y bs mL ret :: Cw) B.pre
  have hl := lv_entry av (n := mL) hn
  rw [lg_entry_eq]
  exact body p e s m _ below meth c _ ⟨B.exec, B.bytes, hml, findClass_of_methodNamed B.named, fun w hw => hts w (List.mem_cons_of_mem _ hw)⟩ B.returns B.notSynchronized hP hK hl
section PMR
variable {p : Program} {l : Launch} {e : Env} {R : Room} {s : State} {m : MethodId} {args : Array Value} {below : List Frame} {meth : Method} {c : Code} {H : Heap} {locs : List Loc} {cells slots : Nat} {Q : State → Prop}
variable {cc : ByteArray} {pc : Nat} {ls : Array Slot} {rest st : List Value}
theorem PM.iret {v v' : Int32} (hx : p.tables.exec = Jvm.exec) (hb : c.code = cc) (hr : meth.sig.returnType = some .int) (hlocks : meth.locks = false) (d : decode cc pc = .ok (.ireturn, 1)) (hv : v' = v) : W p l e R s m args below meth c s.heap [] 0 0 (MQ below (vp_Si (fun r => r = v)) args s 0 0 (fun _ => False)) (F0 m pc ls [.int v']) :=
  W.iret (v := v') hx hb hr (fun t ht _ => ⟨v', rfl, hv, ht⟩) (fun _ h => nomatch h) d hlocks
theorem PM.zret {b : Bool} {v : Int32} (hx : p.tables.exec = Jvm.exec) (hb : c.code = cc) (hr : meth.sig.returnType = some .boolean) (hlocks : meth.locks = false) (d : decode cc pc = .ok (.ireturn, 1)) (hv : bI b = v) : W p l e R s m args below meth c s.heap [] 0 0 (MQ below (vp_Si (fun r => r = v)) args s 0 0 (fun _ => False)) (F0 m pc ls [.int (bI b)]) :=
  W.zret (v := bI b) hx hb hr (bI_n b) (fun t ht _ => ⟨bI b, rfl, hv, ht⟩) (fun _ h => nomatch h) d hlocks
theorem PM.callV {D : va_G} {tys : List (ClassId × FieldType)} {ws : va_W} {nL : Nat} {own : String} {y : MethodName} {bs : ByteArray} {mL : Nat} {ret : Option FieldType} {f lo b idx : Nat} {As : List Value} {v : Int32} (S : CallFix p m c cc nL s args Cw own) (hM : PM l D tys ws y bs mL ret f lo (.ref b :: As) v)
    (k1 : Cond.methodLink own idx y ∈ Cw) (k2 : Cond.instanceMethod y ∈ Cw) (k3 : Cond.selects y.cls y y ∈ Cw) (k4 : Cond.initialized y.cls ∈ Cw) (k5 : Cond.code y bs mL ret ∈ Cw) (hd : y.cls ≠ "java/lang/invoke/MethodHandle" ∧ y.cls ≠ "java/lang/invoke/VarHandle" ∧ (parseMethodDescriptor y.desc).map (fun d => d.parameters.length) = some As.length)
    (hR : f + 1 ≤ R.frames ∧ 8 + (mL + 11) + lo ≤ R.locals) (hf : cells ≤ R.cells ∧ slots ≤ R.slots) (hP : va_P D cls ws H) (hK : va_K D cls tys s) (q0 ci : Nat) {q : vw_C} {fs : List Value} (hc : cls[ci]? = some q) (hq : q.1 = y.cls) (he : ws[q0]? = some (b, .inr (ci, fs)))
    (hl : ls.size = nL) (hrest : (rest.map fun v => v.category).sum ≤ 8) (hst : st = As.reverse ++ .ref b :: rest) (d : decode cc pc = .ok (.invokevirtual idx, 3))
    (k : W p l e R s m args below meth c H locs cells slots Q (F0 m (pc + 3) ls (.int v :: rest))) : W p l e R s m args below meth c H locs cells slots Q (F0 m pc ls st) := by
  refine vp_callSi (post := fun r => r = v) (W.runV (g := F0 m pc ls st) (As := As) (rest := rest) (b := b) S hM (cwV As.length S.2.2.2.2 (cw_V k1 k2 k3 k4 k5) rfl rfl rfl ⟨rfl, hd⟩ hR) ⟨wd_blind, by rw [← hq]; exact va_recv hK hP hc he, fun U hU hW => ⟨rfl, by rw [hU]; exact hP, va_K.moved hW.alike hK⟩⟩ rfl rfl hl hst (lv_room hrest) d hf) ?_
  intro r hr
  rw [hr]
  exact k
theorem PM.callS {D : va_G} {tys : List (ClassId × FieldType)} {ws : va_W} {nL : Nat} {own : String} {y : MethodName} {bs : ByteArray} {mL : Nat} {ret : Option FieldType} {f lo idx : Nat} {As : List Value} {v : Int32} (S : CallFix p m c cc nL s args Cw own) (hM : PM l D tys ws y bs mL ret f lo As v)
    (k1 : Cond.methodLink own idx y ∈ Cw) (k2 : Cond.static y ∈ Cw) (k4 : Cond.initialized y.cls ∈ Cw) (k5 : Cond.code y bs mL ret ∈ Cw) (hd : y.cls ≠ "java/lang/invoke/MethodHandle" ∧ y.cls ≠ "java/lang/invoke/VarHandle" ∧ (parseMethodDescriptor y.desc).map (fun d => d.parameters.length) = some As.length)
    (hR : f + 1 ≤ R.frames ∧ 8 + (mL + 11) + lo ≤ R.locals) (hf : cells ≤ R.cells ∧ slots ≤ R.slots) (hP : va_P D cls ws H) (hK : va_K D cls tys s)
    (hl : ls.size = nL) (hrest : (rest.map fun v => v.category).sum ≤ 8) (hst : st = As.reverse ++ rest) (d : decode cc pc = .ok (.invokestatic idx, 3))
    (k : W p l e R s m args below meth c H locs cells slots Q (F0 m (pc + 3) ls (.int v :: rest))) : W p l e R s m args below meth c H locs cells slots Q (F0 m pc ls st) := by
  refine vp_callSi (post := fun r => r = v) (W.runS (g := F0 m pc ls st) (As := As) (rest := rest) S hM (va_cwS As.length S.2.2.2.2 (cw_S k1 k2 k4 k5) rfl rfl rfl hd hR) ⟨wd_blind, fun U hU hW => ⟨rfl, by rw [hU]; exact hP, va_K.moved hW.alike hK⟩⟩ rfl rfl hl hst (lv_room hrest) d hf) ?_
  intro r hr
  rw [hr]
  exact k
end PMR
