theorem cn_up {M : Nat → Bool} {y N : Nat} (hy : y < N) (h : M y = false) : cn N (va_up M y true) = cn N M + 1 := by
  induction N with
  | zero => omega
  | succ N ih =>
    show cn N (va_up M y true) + (if va_up M y true N = true then 1 else 0) = cn N M + (if M N = true then 1 else 0) + 1
    by_cases e : y = N
    · subst e
      rw [va_up_self, h, cn_congr (q := M) (fun i hi => va_up_ne M true (by omega))]; rfl
    · rw [ih (by omega), va_up_ne M true (by omega)]; omega
theorem cn_lt {M : Nat → Bool} {y N : Nat} (hy : y < N) (h : M y = false) : cn N M < N := by
  have h1 := cn_up hy h
  have h2 := cn_le N (va_up M y true)
  omega
/-- the search for ancestors: top places of the stack (q: 0 for none), M what is marked -/
def DF (x : Nat) (s o : Nat → Nat) (an : Nat → Nat → Bool) (top : Nat) (q : Nat → Nat) (M : Nat → Bool) : Prop :=
  (∀ y, M y = true → an x y = true) ∧ (∀ i, i < top → q i ≠ 0 → an x (q i - 1) = true) ∧ (∀ y, M y = true → (s y ≠ 0 → M (s y - 1) = true ∨ ∃ i, i < top ∧ q i = s y) ∧ (o y ≠ 0 → M (o y - 1) = true ∨ ∃ i, i < top ∧ q i = o y)) ∧ (M x = true ∨ ∃ i, i < top ∧ q i = x + 1) ∧ top ≤ 2 * cn 120 M + 1
theorem DF.start {K n x : Nat} {c s o : Nat → Nat} {an ow : Nat → Nat → Bool} (h : Lw K n c s o an ow) (hx : x < K) : DF x s o an 1 (fun _ => x + 1) (fun _ => false) :=
  ⟨(fun y h => by cases h), fun i _ _ => by show an x x = true; rw [(h x hx).2.2.2.2.2.1 x]; simp, (fun y h => by cases h), Or.inr ⟨0, by omega, rfl⟩, by omega⟩
theorem DF.pop {x tp : Nat} {s o q : Nat → Nat} {an : Nat → Nat → Bool} {M : Nat → Bool} (h : DF x s o an (tp + 1) q M) (hq : q tp = 0 ∨ M (q tp - 1) = true) : DF x s o an tp q M := by
  obtain ⟨h1, h2, h3, h4, h5⟩ := h
  have key : ∀ t, t ≠ 0 → (M (t - 1) = true ∨ ∃ i, i < tp + 1 ∧ q i = t) → (M (t - 1) = true ∨ ∃ i, i < tp ∧ q i = t) := by
    rintro t ht (z | ⟨i, hi, e⟩)
    · exact Or.inl z
    · by_cases ei : i = tp
      · subst ei
        rcases hq with hq | hq
        · omega
        · rw [e] at hq; exact Or.inl hq
      · exact Or.inr ⟨i, by omega, e⟩
  refine ⟨h1, fun i hi => h2 i (by omega), fun y hy => ⟨fun q1 => key _ q1 ((h3 y hy).1 q1), fun q1 => key _ q1 ((h3 y hy).2 q1)⟩, ?_, by omega⟩
  exact key (x + 1) (by omega) h4
theorem DF.mark {K n x tp y : Nat} {c s o q : Nat → Nat} {an ow : Nat → Nat → Bool} {M : Nat → Bool} (hL : Lw K n c s o an ow) (hx : x < K) (hK : K ≤ 120) (h : DF x s o an (tp + 1) q M) (hq : q tp = y + 1) (hM : M y = false) : DF x s o an (tp + 2) (va_up (va_up q tp (s y)) (tp + 1) (o y)) (va_up M y true) ∧ y ≤ x := by
  obtain ⟨h1, h2, h3, h4, h5⟩ := h
  have hay : an x y = true := by have := h2 tp (by omega) (by omega); rw [hq] at this; exact this
  have hyx := hL.an_le x hx y hay
  have qa : ∀ i, i < tp → va_up (va_up q tp (s y)) (tp + 1) (o y) i = q i := fun i hi => by rw [va_up_ne _ _ (by omega), va_up_ne _ _ (by omega)]
  have q0 : va_up (va_up q tp (s y)) (tp + 1) (o y) tp = s y := by rw [va_up_ne _ _ (by omega), va_up_self]
  have q1 : va_up (va_up q tp (s y)) (tp + 1) (o y) (tp + 1) = o y := va_up_self _ _ _
  have mk : ∀ z, M z = true → va_up M y true z = true := fun z hz => by
    by_cases e : z = y
    · subst e; exact va_up_self _ _ _
    · rw [va_up_ne M true e]; exact hz
  have key : ∀ t, t ≠ 0 → (M (t - 1) = true ∨ ∃ i, i < tp + 1 ∧ q i = t) → (va_up M y true (t - 1) = true ∨ ∃ i, i < tp + 2 ∧ va_up (va_up q tp (s y)) (tp + 1) (o y) i = t) := by
    rintro t ht (z | ⟨i, hi, e⟩)
    · exact Or.inl (mk _ z)
    · by_cases ei : i = tp
      · subst ei
        rw [hq] at e
        exact Or.inl (by rw [← e]; exact va_up_self _ _ _)
      · exact Or.inr ⟨i, by omega, by rw [qa i (by omega)]; exact e⟩
  refine ⟨⟨?_, ?_, ?_, ?_, ?_⟩, hyx⟩
  · intro z hz
    by_cases e : z = y
    · subst e; exact hay
    · rw [va_up_ne M true e] at hz; exact h1 z hz
  · intro i hi hne
    by_cases e1 : i = tp + 1
    · subst e1; rw [q1] at hne ⊢; exact (hL.an_self x hx y hay).2 hne
    · by_cases e2 : i = tp
      · subst e2; rw [q0] at hne ⊢; exact (hL.an_self x hx y hay).1 hne
      · rw [qa i (by omega)] at hne ⊢; exact h2 i (by omega) hne
  · intro z hz
    by_cases e : z = y
    · subst e
      exact ⟨fun _ => Or.inr ⟨tp, by omega, q0⟩, fun _ => Or.inr ⟨tp + 1, by omega, q1⟩⟩
    · rw [va_up_ne M true e] at hz
      exact ⟨fun w => key _ w ((h3 z hz).1 w), fun w => key _ w ((h3 z hz).2 w)⟩
  · exact key (x + 1) (by omega) h4
  · rw [cn_up (show y < 120 by omega) hM]; omega
theorem DF.done {K n x : Nat} {c s o q : Nat → Nat} {an ow : Nat → Nat → Bool} {M : Nat → Bool} (hL : Lw K n c s o an ow) (hx : x < K) (h : DF x s o an 0 q M) : ∀ y, M y = an x y := by
  obtain ⟨h1, -, h3, h4, -⟩ := h
  have hMx : M x = true := h4.elim id (fun ⟨i, hi, _⟩ => by omega)
  have key : ∀ z, z < K → M z = true → ∀ y, an z y = true → M y = true := by
    intro z
    induction z using Nat.strongRecOn with
    | _ z ih =>
      intro hz hM y hy
      obtain ⟨-, g2, g3, -, -, g6, -⟩ := hL z hz
      rw [g6 y, Bool.or_eq_true, Bool.or_eq_true] at hy
      rcases hy with hy | hy | hy
      · have e := of_decide_eq_true (show decide (z = y) = true from hy)
        subst e; exact hM
      · simp only [pa, Bool.and_eq_true, Bool.not_eq_true', beq_eq_false_iff_ne, ne_eq] at hy
        have := ((h3 z hM).1 hy.1).elim id (fun ⟨i, hi, _⟩ => by omega)
        exact ih (s z - 1) (by omega) (by omega) this y hy.2
      · simp only [pa, Bool.and_eq_true, Bool.not_eq_true', beq_eq_false_iff_ne, ne_eq] at hy
        have := ((h3 z hM).2 hy.1).elim id (fun ⟨i, hi, _⟩ => by omega)
        exact ih (o z - 1) (by omega) (by omega) this y hy.2
  intro y
  rw [Bool.eq_iff_iff]
  exact ⟨h1 y, key x hx hMx y⟩
/-- the row x of 'above' holds M, the other rows are as in f0 -/
def aR (x : Nat) (f0 f : Nat → Int32) (M : Nat → Bool) (N : Nat) : Prop := (∀ j y, j ≠ x → y < 120 → f (120 * j + y) = f0 (120 * j + y)) ∧ ∀ y, y < N → f (120 * x + y) = bI (M y)
theorem aR.put {x y N : Nat} {f0 f : Nat → Int32} {M : Nat → Bool} {b : Bool} (h : aR x f0 f M N) (hy : y < 120) : aR x f0 (upd f (120 * x + y) (bI b)) (va_up M y b) N := by
  refine ⟨fun j z hj hz => (pk_un (by omega)).trans (h.1 j z hj hz), fun z hz => ?_⟩
  by_cases e : z = y
  · subst e; rw [va_up_self]; exact pk_us
  · rw [va_up_ne M b e]; exact (pk_un (by omega)).trans (h.2 z hz)
theorem aR.clr {x y : Nat} {f0 f : Nat → Int32} (h : aR x f0 f (fun _ => false) y) (hy : y < 120) : aR x f0 (upd f (120 * x + y) (bI false)) (fun _ => false) (y + 1) := by
  refine ⟨fun j z hj hz => (pk_un (by omega)).trans (h.1 j z hj hz), fun z hz => ?_⟩
  by_cases e : z = y
  · subst e; exact pk_us
  · exact (pk_un (by omega)).trans (h.2 z (by omega))
def tq (top : Nat) (td : Nat → Int32) (q : Nat → Nat) : Prop := ∀ i, i < top → td i = mI (q i) ∧ q i ≤ 120
theorem tq.push {top t : Nat} {td : Nat → Int32} {q : Nat → Nat} (h : tq top td q) (ht : t ≤ 120) : tq (top + 1) (upd td top (mI t)) (va_up q top t) := by
  intro i hi
  by_cases e : i = top
  · subst e; rw [va_up_self]; exact ⟨pk_us, ht⟩
  · rw [va_up_ne q t e]; exact ⟨(pk_un e).trans (h i (by omega)).1, (h i (by omega)).2⟩
theorem ntop {t : Nat} (ht : t < 1000) : nI t ≤ 0 ↔ t = 0 := by
  constructor
  · intro h
    by_cases e : t = 0
    · exact e
    · exact absurd h (nI_nle (by omega) (by omega))
  · intro e; subst e; decide
set_option maxHeartbeats 4000000 in
set_option maxRecDepth 100000 in
theorem c_r_isAboveX (l : Launch) (D : va_G) (cI cJ cZ : ClassId) (ad : Nat → Nat) (er : Int32) (n ev : Nat) (r : RA) (x : Nat) (hx0 : x < 120) (M : Nat → Bool) (hM : ∀ y, y < 120 → r.2.2.2.2.2.1 (120 * x + y) = bI (M y)) (y : Nat) (hy0 : y < 120) : PM l D (tys cI cJ cZ) (rL cI cZ ad er n ev r) y_r_isAbove b_r_isAbove 3 (some .boolean) 0 0 [.ref (ad 0), .int (nI y), .int (nI x)] (bI (M y)) := by
  refine PM.of (by decide) (Nat.le_of_ble_eq_true rfl) ?_
  intro p9 e9 s9 m args below meth c9 ls S hr hlocks hP hK hl
  obtain ⟨hx, hb, hml, hown, htc⟩ := id S
  have hl : lv_has ls 3 [(0, .ref (ad 0)), (1, .int (nI y)), (2, .int (nI x))] := hl
  refine lv_aload_n hx hb d_r_isAbove_0 rfl (lv_at hl 0 rfl) ?_
  refine va_get (D := D) (ci := 1) (v := .ref (ad 6)) (C := "SightGraphModel") (T := T_r) (N := 10) hx hb htc in_r hown hK hP 0 rfl rfl 8 (by decide) (htc _ k_2_81) (fun _ h9 => h9) rfl d_r_isAbove_1 ?_
  refine lv_bipush (v := (nI 120)) hx hb d_r_isAbove_4 (by decide) ?_
  refine lv_iload_n hx hb d_r_isAbove_6 rfl (lv_at hl 2 rfl) ?_
  refine nr_imul hx hb d_r_isAbove_7 ?_
  refine lv_iload_n hx hb d_r_isAbove_8 rfl (lv_at hl 1 rfl) ?_
  refine nr_iadd hx hb d_r_isAbove_9 ?_
  refine nr_zald hx hb hK hP 6 2 rfl rfl (by omega) (by decide) (v := (bI (M y))) (hM y (by omega)) d_r_isAbove_10 ?_
  exact PM.zret hx hb hr hlocks d_r_isAbove_11 rfl
set_option maxHeartbeats 4000000 in
set_option maxRecDepth 100000 in
theorem c_r_ways (l : Launch) (D : va_G) (cI cJ cZ : ClassId) (ad : Nat → Nat) (er : Int32) (n ev : Nat) (r : RA) (K : Nat) (hKb : K ≤ 120) (c s o : Nat → Nat) (an ow : Nat → Nat → Bool) (hLw : Lw K n c s o an ow) (hs : ∀ j, j < K → r.2.1 j = mI (s j)) (ho : ∀ j, j < K → r.2.2.1 j = mI (o j)) (x : Nat) (hxK : x < K) : WV (S := RA) l D (tys cI cJ cZ) (rL cI cZ ad er n ev r) (fun u => rL cI cZ ad er n ev u) (fun u => u.1 = r.1 ∧ u.2.1 = r.2.1 ∧ u.2.2.1 = r.2.2.1 ∧ u.2.2.2.1 = r.2.2.2.1 ∧ u.2.2.2.2.2.2 = r.2.2.2.2.2.2 ∧ aR x r.2.2.2.2.2.1 u.2.2.2.2.2.1 (an x) 120) y_r_ways b_r_ways 4 1 22 [.ref (ad 0), .int (nI x)] := by
  refine WV.of (by decide) (Nat.le_of_ble_eq_true rfl) ?_
  intro p9 e9 s9 m args below meth c9 ls A S hr hlocks hA hP hK hD hl
  obtain ⟨hx, hb, hml, hown, htc⟩ := id S
  have hS : va_S A s9.heap s9.heap [] := va_S.rf
  have hl : lv_has ls 4 [(0, .ref (ad 0)), (1, .int (nI x))] := hl
  refine lv_iconst (v := (nI 0)) hx hb d_r_ways_0 (by decide) ?_
  refine lv_istore_n (lv' := [(2, .int (nI 0)), (0, .ref (ad 0)), (1, .int (nI x))]) hx hb d_r_ways_1 rfl hl (by decide) rfl (fun ls hl => ?_)
  have loop1 : ∀ (d1 : Nat) (y : Nat) (f : Nat → Int32) (H : Heap) (locs : List Loc) (ls : Array Slot), 120 - y < d1 → va_P D cls (rL cI cZ ad er n ev (r.1, r.2.1, r.2.2.1, r.2.2.2.1, r.2.2.2.2.1, f, r.2.2.2.2.2.2)) H → va_D A (rL cI cZ ad er n ev (r.1, r.2.1, r.2.2.1, r.2.2.2.1, r.2.2.2.2.1, f, r.2.2.2.2.2.2)) → va_S A s9.heap H locs → y ≤ 120 → aR x r.2.2.2.2.2.1 f (fun _ => false) y → lv_has ls 4 [(2, .int (nI y)), (1, .int (nI x)), (0, .ref (ad 0))] → W p9 l e9 ({ frames := 1, cells := 0, slots := 0, locals := 22 }) s9 m args below meth c9 H locs 0 0 (MQ below (va_Qv (S := RA) (fun u => u.1 = r.1 ∧ u.2.1 = r.2.1 ∧ u.2.2.1 = r.2.2.1 ∧ u.2.2.2.1 = r.2.2.2.1 ∧ u.2.2.2.2.2.2 = r.2.2.2.2.2.2 ∧ aR x r.2.2.2.2.2.1 u.2.2.2.2.2.1 (an x) 120) (wB D (tys cI cJ cZ) (fun u => rL cI cZ ad er n ev u) A) A) args s9 0 0 A) (F0 m 2 ls []) := by
    intro d1
    induction d1 with
    | zero =>
      intro y f H locs ls hd1 hP hD hS hy haR hl
      exact absurd hd1 (by omega)
    | succ d1 ih1 =>
      intro y f H locs ls hd1 hP hD hS hy haR hl
      refine lv_iload_n hx hb d_r_ways_2 rfl (lv_at hl 0 rfl) ?_
      refine lv_bipush (v := (nI 120)) hx hb d_r_ways_3 (by decide) ?_
      refine nr_icmp_ge (tgt := 26) hx hb (by omega) (by omega) d_r_ways_5 (by decide) (fun c_5 => ?_) (fun c_5 => ?_)
      · refine lv_iconst (v := (nI 0)) hx hb d_r_ways_26 (by decide) ?_
        refine lv_istore_n (lv' := [(2, .int (nI 0)), (1, .int (nI x)), (0, .ref (ad 0))]) hx hb d_r_ways_27 rfl hl (by decide) rfl (fun ls hl => ?_)
        refine lv_aload_n hx hb d_r_ways_28 rfl (lv_at hl 2 rfl) ?_
        refine va_get (D := D) (ci := 1) (v := .ref (ad 5)) (C := "SightGraphModel") (T := T_r) (N := 10) hx hb htc in_r hown hK hP 0 rfl rfl 7 (by decide) (htc _ k_2_80) (fun _ h9 => h9) rfl d_r_ways_29 ?_
        refine lv_iload_n hx hb d_r_ways_32 rfl (lv_at hl 0 rfl) ?_
        refine lv_iinc (v := (nI (0 + 1))) (lv' := [(2, .int (nI (0 + 1))), (1, .int (nI x)), (0, .ref (ad 0))]) hx hb d_r_ways_33 hl (k := 0) rfl (nI_add 0 1) (by decide) rfl (fun ls hl => ?_)
        refine lv_iload_n hx hb d_r_ways_36 rfl (lv_at hl 1 rfl) ?_
        refine nr_top (w := .int (mI (x + 1))) rfl ?_
        refine nr_iast hx hb hK hP hD hS 5 0 rfl rfl (by omega) (by decide) d_r_ways_37 (fun H locs hP hD hS => ?_)
        have hP : va_P D cls (rL cI cZ ad er n ev (r.1, r.2.1, r.2.2.1, r.2.2.2.1, upd r.2.2.2.2.1 0 (mI (x + 1)), f, r.2.2.2.2.2.2)) H := hP
        have hD : va_D A (rL cI cZ ad er n ev (r.1, r.2.1, r.2.2.1, r.2.2.2.1, upd r.2.2.2.2.1 0 (mI (x + 1)), f, r.2.2.2.2.2.2)) := hD
        have loop2 : ∀ (d2 : Nat) (top : Nat) (q : Nat → Nat) (M : Nat → Bool) (td f : Nat → Int32) (H : Heap) (locs : List Loc) (ls : Array Slot), 3 * (120 - cn 120 M) + top < d2 → va_P D cls (rL cI cZ ad er n ev (r.1, r.2.1, r.2.2.1, r.2.2.2.1, td, f, r.2.2.2.2.2.2)) H → va_D A (rL cI cZ ad er n ev (r.1, r.2.1, r.2.2.1, r.2.2.2.1, td, f, r.2.2.2.2.2.2)) → va_S A s9.heap H locs → aR x r.2.2.2.2.2.1 f M 120 → DF x s o an top q M → tq top td q → lv_has ls 4 [(2, .int (nI top)), (1, .int (nI x)), (0, .ref (ad 0))] → W p9 l e9 ({ frames := 1, cells := 0, slots := 0, locals := 22 }) s9 m args below meth c9 H locs 0 0 (MQ below (va_Qv (S := RA) (fun u => u.1 = r.1 ∧ u.2.1 = r.2.1 ∧ u.2.2.1 = r.2.2.1 ∧ u.2.2.2.1 = r.2.2.2.1 ∧ u.2.2.2.2.2.2 = r.2.2.2.2.2.2 ∧ aR x r.2.2.2.2.2.1 u.2.2.2.2.2.1 (an x) 120) (wB D (tys cI cJ cZ) (fun u => rL cI cZ ad er n ev u) A) A) args s9 0 0 A) (F0 m 38 ls []) := by
          intro d2
          induction d2 with
          | zero =>
            intro top q M td f H locs ls hd2 hP hD hS haR hdf htq hl
            exact absurd hd2 (by omega)
          | succ d2 ih2 =>
            intro top q M td f H locs ls hd2 hP hD hS haR hdf htq hl
            have htp9 := hdf.2.2.2.2
            have hcn9 := cn_le 120 M
            refine lv_iload_n hx hb d_r_ways_38 rfl (lv_at hl 0 rfl) ?_
            refine lv_if_le (tgt := 113) hx hb d_r_ways_39 (by decide) (fun c_39 => ?_) (fun c_39 => ?_)
            · exact WV.ret hx hb hr hlocks hK hS d_r_ways_113 (r.1, r.2.1, r.2.2.1, r.2.2.2.1, td, f, r.2.2.2.2.2.2) (by have e0 : top = 0 := (ntop (by omega)).mp c_39; subst e0; exact ⟨rfl, rfl, rfl, rfl, rfl, haR.1, fun y hy => by rw [← hdf.done hLw hxK y]; exact haR.2 y hy⟩) hP hD
            · obtain ⟨tp, rfl⟩ : ∃ tp, top = tp + 1 := ⟨top - 1, by have q : ¬ top = 0 := (fun z => c_39 ((ntop (by omega)).mpr z)); omega⟩
              obtain ⟨hq1, hq2⟩ := htq tp (by omega)
              refine lv_aload_n hx hb d_r_ways_42 rfl (lv_at hl 2 rfl) ?_
              refine va_get (D := D) (ci := 1) (v := .ref (ad 5)) (C := "SightGraphModel") (T := T_r) (N := 10) hx hb htc in_r hown hK hP 0 rfl rfl 7 (by decide) (htc _ k_2_80) (fun _ h9 => h9) rfl d_r_ways_43 ?_
              refine lv_iinc (v := (nI tp)) (lv' := [(2, .int (nI tp)), (1, .int (nI x)), (0, .ref (ad 0))]) hx hb d_r_ways_46 hl (k := 0) rfl (pk_m1 tp) (by decide) rfl (fun ls hl => ?_)
              refine lv_iload_n hx hb d_r_ways_49 rfl (lv_at hl 0 rfl) ?_
              refine nr_iald hx hb hK hP 5 0 rfl rfl (by omega) (by decide) (v := (mI (q tp))) hq1 d_r_ways_50 ?_
              refine lv_istore_n (lv' := [(3, .int (mI (q tp))), (2, .int (nI tp)), (1, .int (nI x)), (0, .ref (ad 0))]) hx hb d_r_ways_51 rfl hl (by decide) rfl (fun ls hl => ?_)
              refine lv_iload_n hx hb d_r_ways_52 rfl (lv_at hl 0 rfl) ?_
              refine nr_iflt_m (tgt := 38) hx hb (by omega) d_r_ways_53 (by decide) (fun c_53 => ?_) (fun c_53 => ?_)
              · exact ih2 tp q M td f H locs ls (by omega) hP hD hS haR (hdf.pop (Or.inl c_53)) (fun i hi => htq i (by omega)) (lv_sub hl [1, 2, 3] rfl)
              · obtain ⟨y0, hy0⟩ : ∃ y0, q tp = y0 + 1 := ⟨q tp - 1, by omega⟩
                have hl : lv_has ls 4 [(3, .int (nI y0)), (2, .int (nI tp)), (1, .int (nI x)), (0, .ref (ad 0))] := by rw [hy0] at hl; exact hl
                have hay := hdf.2.1 tp (by omega) (by omega)
                have hyx := hLw.an_le x hxK (q tp - 1) hay
                refine lv_aload_n hx hb d_r_ways_56 rfl (lv_at hl 3 rfl) ?_
                refine lv_iload_n hx hb d_r_ways_57 rfl (lv_at hl 0 rfl) ?_
                refine lv_iload_n hx hb d_r_ways_58 rfl (lv_at hl 2 rfl) ?_
                refine PM.callV (rest := []) S (c_r_isAboveX l D cI cJ cZ ad er n ev (r.1, r.2.1, r.2.2.1, r.2.2.2.1, td, f, r.2.2.2.2.2.2) x (by omega) M haR.2 y0 (by omega)) k_2_134 k_2_136 k_s_23 k_1_2 k_2_137 h_r_isAbove ⟨Nat.le_of_ble_eq_true rfl, Nat.le_of_ble_eq_true rfl⟩ ⟨Nat.le_of_ble_eq_true rfl, Nat.le_of_ble_eq_true rfl⟩ hP hK 0 1 rfl rfl rfl hl.1 (Nat.le_of_ble_eq_true rfl) rfl d_r_ways_59 ?_
                refine nr_ifeq_b (tgt := 68) hx hb d_r_ways_62 (by decide) (fun c_62 => ?_) (fun c_62 => ?_)
                · obtain ⟨hdf2, hyx2⟩ := hdf.mark hLw hxK hKb hy0 c_62
                  have hcl := cn_lt (show y0 < 120 by omega) c_62
                  have hcu := cn_up (show y0 < 120 by omega) c_62
                  have htop := hdf.2.2.2.2
                  obtain ⟨-, hs0, ho0, -⟩ := hLw y0 (by omega)
                  refine lv_aload_n hx hb d_r_ways_68 rfl (lv_at hl 3 rfl) ?_
                  refine va_get (D := D) (ci := 1) (v := .ref (ad 6)) (C := "SightGraphModel") (T := T_r) (N := 10) hx hb htc in_r hown hK hP 0 rfl rfl 8 (by decide) (htc _ k_2_81) (fun _ h9 => h9) rfl d_r_ways_69 ?_
                  refine lv_bipush (v := (nI 120)) hx hb d_r_ways_72 (by decide) ?_
                  refine lv_iload_n hx hb d_r_ways_74 rfl (lv_at hl 2 rfl) ?_
                  refine nr_imul hx hb d_r_ways_75 ?_
                  refine lv_iload_n hx hb d_r_ways_76 rfl (lv_at hl 0 rfl) ?_
                  refine nr_iadd hx hb d_r_ways_77 ?_
                  refine lv_iconst (v := (nI 1)) hx hb d_r_ways_78 (by decide) ?_
                  refine nr_top (w := .int (bI true)) rfl ?_
                  refine nr_zast hx hb hK hP hD hS 6 2 rfl rfl (by omega) (by decide) d_r_ways_79 (fun H locs hP hD hS => ?_)
                  have hP : va_P D cls (rL cI cZ ad er n ev (r.1, r.2.1, r.2.2.1, r.2.2.2.1, td, upd f ((120 * x) + y0) (bI true), r.2.2.2.2.2.2)) H := hP
                  have hD : va_D A (rL cI cZ ad er n ev (r.1, r.2.1, r.2.2.1, r.2.2.2.1, td, upd f ((120 * x) + y0) (bI true), r.2.2.2.2.2.2)) := hD
                  refine lv_aload_n hx hb d_r_ways_80 rfl (lv_at hl 3 rfl) ?_
                  refine va_get (D := D) (ci := 1) (v := .ref (ad 5)) (C := "SightGraphModel") (T := T_r) (N := 10) hx hb htc in_r hown hK hP 0 rfl rfl 7 (by decide) (htc _ k_2_80) (fun _ h9 => h9) rfl d_r_ways_81 ?_
                  refine lv_iload_n hx hb d_r_ways_84 rfl (lv_at hl 1 rfl) ?_
                  refine lv_iinc (v := (nI (tp + 1))) (lv' := [(2, .int (nI (tp + 1))), (3, .int (nI y0)), (1, .int (nI x)), (0, .ref (ad 0))]) hx hb d_r_ways_85 hl (k := 1) rfl (nI_add tp 1) (by decide) rfl (fun ls hl => ?_)
                  refine lv_aload_n hx hb d_r_ways_88 rfl (lv_at hl 3 rfl) ?_
                  refine va_get (D := D) (ci := 1) (v := .ref (ad 2)) (C := "SightGraphModel") (T := T_r) (N := 10) hx hb htc in_r hown hK hP 0 rfl rfl 4 (by decide) (htc _ k_2_77) (fun _ h9 => h9) rfl d_r_ways_89 ?_
                  refine lv_iload_n hx hb d_r_ways_92 rfl (lv_at hl 1 rfl) ?_
                  refine nr_iald hx hb hK hP 2 0 rfl rfl (by omega) (by decide) (v := (mI (s y0))) (hs y0 (by omega)) d_r_ways_93 ?_
                  refine nr_iast hx hb hK hP hD hS 5 0 rfl rfl (by omega) (by decide) d_r_ways_94 (fun H locs hP hD hS => ?_)
                  have hP : va_P D cls (rL cI cZ ad er n ev (r.1, r.2.1, r.2.2.1, r.2.2.2.1, upd td tp (mI (s y0)), upd f ((120 * x) + y0) (bI true), r.2.2.2.2.2.2)) H := hP
                  have hD : va_D A (rL cI cZ ad er n ev (r.1, r.2.1, r.2.2.1, r.2.2.2.1, upd td tp (mI (s y0)), upd f ((120 * x) + y0) (bI true), r.2.2.2.2.2.2)) := hD
                  refine lv_aload_n hx hb d_r_ways_95 rfl (lv_at hl 3 rfl) ?_
                  refine va_get (D := D) (ci := 1) (v := .ref (ad 5)) (C := "SightGraphModel") (T := T_r) (N := 10) hx hb htc in_r hown hK hP 0 rfl rfl 7 (by decide) (htc _ k_2_80) (fun _ h9 => h9) rfl d_r_ways_96 ?_
                  refine lv_iload_n hx hb d_r_ways_99 rfl (lv_at hl 0 rfl) ?_
                  refine lv_iinc (v := (nI ((tp + 1) + 1))) (lv' := [(2, .int (nI ((tp + 1) + 1))), (3, .int (nI y0)), (1, .int (nI x)), (0, .ref (ad 0))]) hx hb d_r_ways_100 hl (k := 0) rfl (nI_add (tp + 1) 1) (by decide) rfl (fun ls hl => ?_)
                  refine lv_aload_n hx hb d_r_ways_103 rfl (lv_at hl 3 rfl) ?_
                  refine va_get (D := D) (ci := 1) (v := .ref (ad 3)) (C := "SightGraphModel") (T := T_r) (N := 10) hx hb htc in_r hown hK hP 0 rfl rfl 5 (by decide) (htc _ k_2_78) (fun _ h9 => h9) rfl d_r_ways_104 ?_
                  refine lv_iload_n hx hb d_r_ways_107 rfl (lv_at hl 1 rfl) ?_
                  refine nr_iald hx hb hK hP 3 0 rfl rfl (by omega) (by decide) (v := (mI (o y0))) (ho y0 (by omega)) d_r_ways_108 ?_
                  refine nr_iast hx hb hK hP hD hS 5 0 rfl rfl (by omega) (by decide) d_r_ways_109 (fun H locs hP hD hS => ?_)
                  have hP : va_P D cls (rL cI cZ ad er n ev (r.1, r.2.1, r.2.2.1, r.2.2.2.1, upd (upd td tp (mI (s y0))) (tp + 1) (mI (o y0)), upd f ((120 * x) + y0) (bI true), r.2.2.2.2.2.2)) H := hP
                  have hD : va_D A (rL cI cZ ad er n ev (r.1, r.2.1, r.2.2.1, r.2.2.2.1, upd (upd td tp (mI (s y0))) (tp + 1) (mI (o y0)), upd f ((120 * x) + y0) (bI true), r.2.2.2.2.2.2)) := hD
                  refine lv_goto (tgt := 38) hx hb d_r_ways_110 (by decide) ?_
                  exact ih2 (tp + 2) _ (va_up M y0 true) (upd (upd td tp (mI (s y0))) (tp + 1) (mI (o y0))) (upd f ((120 * x) + y0) (bI true)) H locs ls (by omega) hP hD hS (haR.put (by omega)) hdf2 ((tq.push (tq.push (fun i hi => htq i (by omega)) (by omega)) (by omega))) (lv_sub hl [0, 2, 3] rfl)
                · refine lv_goto (tgt := 38) hx hb d_r_ways_65 (by decide) ?_
                  exact ih2 tp q M td f H locs ls (by omega) hP hD hS haR (hdf.pop (Or.inr (by rw [hy0]; exact c_62))) (fun i hi => htq i (by omega)) (lv_sub hl [1, 2, 3] rfl)
        exact loop2 1000 1 (fun _ => x + 1) (fun _ => false) (upd r.2.2.2.2.1 0 (mI (x + 1))) f _ _ ls (by have := cn_le 120 (fun _ => false); omega) hP hD hS (by rw [show y = 120 by omega] at haR; exact haR) (DF.start hLw hxK) (fun i hi => by rw [show i = 0 by omega]; exact ⟨pk_us, (show x + 1 ≤ 120 by omega)⟩) (lv_sub hl [0, 1, 2] rfl)
      · refine lv_aload_n hx hb d_r_ways_8 rfl (lv_at hl 2 rfl) ?_
        refine va_get (D := D) (ci := 1) (v := .ref (ad 6)) (C := "SightGraphModel") (T := T_r) (N := 10) hx hb htc in_r hown hK hP 0 rfl rfl 8 (by decide) (htc _ k_2_81) (fun _ h9 => h9) rfl d_r_ways_9 ?_
        refine lv_bipush (v := (nI 120)) hx hb d_r_ways_12 (by decide) ?_
        refine lv_iload_n hx hb d_r_ways_14 rfl (lv_at hl 1 rfl) ?_
        refine nr_imul hx hb d_r_ways_15 ?_
        refine lv_iload_n hx hb d_r_ways_16 rfl (lv_at hl 0 rfl) ?_
        refine nr_iadd hx hb d_r_ways_17 ?_
        refine lv_iconst (v := (nI 0)) hx hb d_r_ways_18 (by decide) ?_
        refine nr_top (w := .int (bI false)) rfl ?_
        refine nr_zast hx hb hK hP hD hS 6 2 rfl rfl (by omega) (by decide) d_r_ways_19 (fun H locs hP hD hS => ?_)
        have hP : va_P D cls (rL cI cZ ad er n ev (r.1, r.2.1, r.2.2.1, r.2.2.2.1, r.2.2.2.2.1, upd f ((120 * x) + y) (bI false), r.2.2.2.2.2.2)) H := hP
        have hD : va_D A (rL cI cZ ad er n ev (r.1, r.2.1, r.2.2.1, r.2.2.2.1, r.2.2.2.2.1, upd f ((120 * x) + y) (bI false), r.2.2.2.2.2.2)) := hD
        refine lv_iinc (v := (nI (y + 1))) (lv' := [(2, .int (nI (y + 1))), (1, .int (nI x)), (0, .ref (ad 0))]) hx hb d_r_ways_20 hl (k := 0) rfl (nI_add y 1) (by decide) rfl (fun ls hl => ?_)
        refine lv_goto (tgt := 2) hx hb d_r_ways_23 (by decide) ?_
        exact ih1 (y + 1) _ H locs ls (by omega) hP hD hS (by omega) (haR.clr (by omega)) (lv_sub hl [0, 1, 2] rfl)
  exact loop1 121 0 r.2.2.2.2.2.1 _ _ ls (by omega) hP hD hS (by omega) ⟨fun _ _ _ _ => rfl, fun _ h => by omega⟩ (lv_sub hl [0, 2, 1] rfl)
