/-- the reference's rows hold the events below K -/
def rC (K : Nat) (r : RA) (c s o : Nat → Nat) (an fk : Nat → Nat → Bool) (rd : Nat → Nat) : Prop := ∀ j, j < K → r.1 j = nI (c j) ∧ r.2.1 j = mI (s j) ∧ r.2.2.1 j = mI (o j) ∧ (r.2.2.2.1 j = nI (rd j) ∧ rd j ≤ j + 1) ∧ (∀ y, y < 120 → r.2.2.2.2.2.1 (120 * j + y) = bI (an j y)) ∧ (∀ m, m < 8 → r.2.2.2.2.2.2 (8 * j + m) = bI (fk j m))
theorem up_c {f F : Nat → Int32} {k : Nat} (h : ∀ j, j < k → f j = F j) : ∀ j, j < k + 1 → upd f k (F k) j = F j := by
  intro j hj
  by_cases e : j = k
  · subst e; exact pk_us
  · exact (pk_un e).trans (h j (by omega))
def fR (x : Nat) (f0 f : Nat → Int32) (M : Nat → Bool) (N : Nat) : Prop := (∀ j m, j ≠ x → m < 8 → f (8 * j + m) = f0 (8 * j + m)) ∧ ∀ m, m < N → f (8 * x + m) = bI (M m)
theorem fR.put {x y N : Nat} {f0 f : Nat → Int32} {M : Nat → Bool} {b : Bool} (h : fR x f0 f M N) (hy : y < 8) : fR x f0 (upd f (8 * x + y) (bI b)) (va_up M y b) N := by
  refine ⟨fun j z hj hz => (pk_un (by omega)).trans (h.1 j z hj hz), fun z hz => ?_⟩
  by_cases e : z = y
  · subst e; rw [va_up_self]; exact pk_us
  · rw [va_up_ne M b e]; exact (pk_un (by omega)).trans (h.2 z hz)
theorem fR.clr {x y : Nat} {f0 f : Nat → Int32} (h : fR x f0 f (fun _ => false) y) (hy : y < 8) : fR x f0 (upd f (8 * x + y) (bI false)) (fun _ => false) (y + 1) := by
  refine ⟨fun j z hj hz => (pk_un (by omega)).trans (h.1 j z hj hz), fun z hz => ?_⟩
  by_cases e : z = y
  · subst e; exact pk_us
  · exact (pk_un (by omega)).trans (h.2 z (by omega))
theorem fR.congr {x N : Nat} {f0 f : Nat → Int32} {M M' : Nat → Bool} (h : fR x f0 f M N) (e : ∀ m, m < N → M m = M' m) : fR x f0 f M' N := ⟨h.1, fun m hm => by rw [← e m hm]; exact h.2 m hm⟩
def fz (a : Nat → Bool) (ow : Nat → Nat → Bool) (c : Nat → Nat) (m y : Nat) : Nat → Bool := fun z => (a y && c y == m) && ((a z && c z == m) && !ow y z)
theorem fo_s (a : Nat → Bool) (ow : Nat → Nat → Bool) (c : Nat → Nat) (y m : Nat) : fo a ow c (y + 1) m = (fo a ow c y m || ex y (fz a ow c m y)) := rfl
theorem fz_s (a : Nat → Bool) (ow : Nat → Nat → Bool) (c : Nat → Nat) (m y z : Nat) : ex (z + 1) (fz a ow c m y) = (ex z (fz a ow c m y) || fz a ow c m y z) := rfl
theorem fz_y {a : Nat → Bool} {ow : Nat → Nat → Bool} {c : Nat → Nat} {m y z : Nat} (h : a y = false) : ex z (fz a ow c m y) = false := ex_f.mpr (fun i _ => by simp [fz, h])
theorem fz_z {a : Nat → Bool} {ow : Nat → Nat → Bool} {c : Nat → Nat} {m y z : Nat} (h : a z = false) : fz a ow c m y z = false := by simp [fz, h]
theorem fz_m {a : Nat → Bool} {ow : Nat → Nat → Bool} {c : Nat → Nat} {m y z : Nat} (h : ¬ c y = m) : fz a ow c m y z = false := by simp [fz, h]
theorem fz_no {a : Nat → Bool} {ow : Nat → Nat → Bool} {c : Nat → Nat} {m y z : Nat} (hz : ow z y = false) (h : (c y == c z && (!ow y z && !ow z y)) = false) : fz a ow c m y z = false := by
  unfold fz
  by_cases e1 : c y = m
  · by_cases e2 : c z = m
    · rw [hz, show (c y == c z) = true from by simp [e1, e2]] at h
      simp at h
      simp [h]
    · simp [e2]
  · simp [e1]
theorem fz_yes {a : Nat → Bool} {ow : Nat → Nat → Bool} {c : Nat → Nat} {y z : Nat} (hy : a y = true) (ha : a z = true) (h : (c y == c z && (!ow y z && !ow z y)) = true) : fz a ow c (c y) y z = true := by
  simp only [Bool.and_eq_true, beq_iff_eq] at h
  unfold fz
  rw [hy, ha, h.2.1]
  simp [h.1]
section REV
variable {r u : RA} {c s o rd : Nat → Nat} {an fk ow : Nat → Nat → Bool} {ev n : Nat}
def r1 (r : RA) (ev : Nat) (a b e : Int32) : RA := (upd r.1 ev a, upd r.2.1 ev b, upd r.2.2.1 ev e, r.2.2.2.1, r.2.2.2.2.1, r.2.2.2.2.2.1, r.2.2.2.2.2.2)
theorem rev_1 (hC : rC ev r c s o an fk rd) (hu : u.1 = upd r.1 ev (nI (c ev)) ∧ u.2.1 = upd r.2.1 ev (mI (s ev)) ∧ u.2.2.1 = upd r.2.2.1 ev (mI (o ev)) ∧ u.2.2.2.1 = r.2.2.2.1 ∧ u.2.2.2.2.2.2 = r.2.2.2.2.2.2 ∧ aR ev r.2.2.2.2.2.1 u.2.2.2.2.2.1 (an ev) 120) :
    (∀ j, j < ev + 1 → u.1 j = nI (c j)) ∧ (∀ j, j < ev + 1 → u.2.1 j = mI (s j)) ∧ (∀ j, j < ev + 1 → u.2.2.1 j = mI (o j)) ∧ (∀ j, j < ev → u.2.2.2.1 j = nI (rd j) ∧ rd j ≤ j + 1) ∧ (∀ j, j < ev + 1 → ∀ y, y < 120 → u.2.2.2.2.2.1 (120 * j + y) = bI (an j y)) ∧ (∀ j, j < ev → ∀ m, m < 8 → u.2.2.2.2.2.2 (8 * j + m) = bI (fk j m)) := by
  obtain ⟨h1, h2, h3, h4, h5, h6⟩ := hu
  refine ⟨fun j hj => ?_, fun j hj => ?_, fun j hj => ?_, fun j hj => ?_, fun j hj y hy => ?_, fun j hj m hm => ?_⟩
  · rw [h1]; exact up_c (F := fun j => nI (c j)) (fun i hi => (hC i hi).1) j hj
  · rw [h2]; exact up_c (F := fun j => mI (s j)) (fun i hi => (hC i hi).2.1) j hj
  · rw [h3]; exact up_c (F := fun j => mI (o j)) (fun i hi => (hC i hi).2.2.1) j hj
  · rw [h4]; exact (hC j hj).2.2.2.1
  · by_cases e : j = ev
    · subst e; exact h6.2 y hy
    · exact (h6.1 j y e hy).trans ((hC j (by omega)).2.2.2.2.1 y hy)
  · rw [h5]; exact (hC j hj).2.2.2.2.2 m hm
theorem rev_2 {f0 f : Nat → Int32} (h0 : ∀ j, j < ev → ∀ m, m < 8 → f0 (8 * j + m) = bI (fk j m)) (hf : fR ev f0 f (fo (an ev) ow c (ev + 1)) 8) (hfk : ∀ m, fk ev m = fo (an ev) ow c (ev + 1) m) : ∀ j, j < ev + 1 → ∀ m, m < 8 → f (8 * j + m) = bI (fk j m) := by
  intro j hj m hm
  by_cases e : j = ev
  · subst e; rw [hfk]; exact hf.2 m hm
  · exact (hf.1 j m e hm).trans (h0 j (by omega) m hm)
end REV
theorem iv_m {ev t : Nat} (h : t ≠ 0) (h2 : t ≤ ev) (hev : ev ≤ 120) : iv ev (mI t) = true := by
  obtain ⟨i, rfl⟩ : ∃ i, t = i + 1 := ⟨t - 1, by omega⟩
  exact iv_t (by omega) hev
theorem mI_p {t : Nat} (h : t ≠ 0) : mI t = nI (t - 1) := by
  obtain ⟨i, rfl⟩ : ∃ i, t = i + 1 := ⟨t - 1, by omega⟩
  rfl
theorem pr_0 {rd : Nat → Nat} {t : Nat} (h : t = 0) : nI 0 = nI (pr rd t) := by unfold pr; rw [if_pos h]
theorem pr_p {rd : Nat → Nat} {t : Nat} (h : t ≠ 0) : nI (rd (t - 1)) = nI (pr rd t) := by unfold pr; rw [if_neg h]
theorem fz_had {a : Nat → Bool} {ow : Nat → Nat → Bool} {c : Nat → Nat} {y z : Nat} (h : (fo a ow c y (c y) || ex z (fz a ow c (c y) y)) = true) (m : Nat) : (fo a ow c y m || ex z (fz a ow c m y)) = (fo a ow c y m || ex (z + 1) (fz a ow c m y)) := by
  rw [fz_s]
  by_cases e : c y = m
  · subst e; rw [← Bool.or_assoc, h]; rfl
  · rw [fz_m e, Bool.or_false]
theorem rev_r1 {R : Nat → Int32} {rd : Nat → Nat} {ev : Nat} (h : ∀ j, j < ev → R j = nI (rd j) ∧ rd j ≤ j + 1) (h1 : rd ev = 1) (hb : rd ev ≤ ev + 1) : ∀ j, j < ev + 1 → upd R ev (nI 1) j = nI (rd j) ∧ rd j ≤ j + 1 := by
  intro j hj
  by_cases e : j = ev
  · subst e; exact ⟨by rw [h1]; exact pk_us, hb⟩
  · exact ⟨(pk_un e).trans (h j (by omega)).1, (h j (by omega)).2⟩
theorem rev_r2 {R : Nat → Int32} {rd : Nat → Nat} {ev : Nat} (h : ∀ j, j < ev → R j = nI (rd j) ∧ rd j ≤ j + 1) (hb : rd ev ≤ ev + 1) : ∀ j, j < ev + 1 → upd (upd R ev (nI 1)) ev (nI (rd ev)) j = nI (rd j) ∧ rd j ≤ j + 1 := by
  intro j hj
  by_cases e : j = ev
  · subst e; exact ⟨pk_us, hb⟩
  · exact ⟨(pk_un e).trans ((pk_un e).trans (h j (by omega)).1), (h j (by omega)).2⟩
theorem fz_put {a : Nat → Bool} {ow : Nat → Nat → Bool} {c : Nat → Nat} {y z m : Nat} (hy : a y = true) (ha : a z = true) (h : (c y == c z && (!ow y z && !ow z y)) = true) : va_up (fun m => fo a ow c y m || ex z (fz a ow c m y)) (c y) true m = (fo a ow c y m || ex (z + 1) (fz a ow c m y)) := by
  rw [fz_s]
  by_cases e : m = c y
  · subst e; rw [va_up_self, fz_yes hy ha h, Bool.or_true, Bool.or_true]
  · rw [va_up_ne _ _ e, fz_m (fun q => e q.symm), Bool.or_false]
set_option maxHeartbeats 8000000 in
set_option maxRecDepth 100000 in
theorem c_r_event_ok (l : Launch) (D : va_G) (cI cJ cZ : ClassId) (ad : Nat → Nat) (er : Int32) (n ev : Nat) (r : RA) (c s o rd : Nat → Nat) (an ow fk : Nat → Nat → Bool) (hLw : Lw (ev + 1) n c s o an ow) (hC : rC ev r c s o an fk rd) (hfk : ∀ m, fk ev m = fo (an ev) ow c (ev + 1) m) (hrd : rd ev = ro n an fk c s o rd ev) (hrb : rd ev ≤ ev + 1) (hn : n ≤ 8) (hev : ev < 120) : WI (S := RA) l D (tys cI cJ cZ) (rL cI cZ ad er n ev r) (fun u => rL cI cZ ad 0 n (ev + 1) u) (fun v u => v = nI ev ∧ rC (ev + 1) u c s o an fk rd) y_r_event b_r_event 10 (some .int) 4 92 [.ref (ad 0), .int (nI (c ev)), .int (mI (s ev)), .int (mI (o ev))] := by
  refine WI.of (by decide) (Nat.le_of_ble_eq_true rfl) ?_
  intro p9 e9 s9 m args below meth c9 ls A S hr hlocks hA hP hK hD hl
  obtain ⟨hx, hb, hml, hown, htc⟩ := id S
  have hS : va_S A s9.heap s9.heap [] := va_S.rf
  have hl : lv_has ls 10 [(0, .ref (ad 0)), (1, .int (nI (c ev))), (2, .int (mI (s ev))), (3, .int (mI (o ev)))] := hl
  have hLx := hLw ev (by omega)
  have hcn := hLx.1
  have hsv := hLx.2.1
  have hov := hLx.2.2.1
  have k104 : ∀ (H : Heap) (locs : List Loc) (ls : Array Slot), va_P D cls (rL cI cZ ad 0 n ev r) H → va_D A (rL cI cZ ad 0 n ev r) → va_S A s9.heap H locs → lv_has ls 10 [(3, .int (mI (o ev))), (2, .int (mI (s ev))), (1, .int (nI (c ev))), (0, .ref (ad 0))] → W p9 l e9 ({ frames := 4, cells := 0, slots := 0, locals := 92 }) s9 m args below meth c9 H locs 0 0 (MQ below (va_Qi (S := RA) (fun v u => v = nI ev ∧ rC (ev + 1) u c s o an fk rd) (wB D (tys cI cJ cZ) (fun u => rL cI cZ ad 0 n (ev + 1) u) A) A) args s9 0 0 A) (F0 m 104 ls []) := by
    intro H locs ls hP hD hS hl
    refine lv_aload_n hx hb d_r_event_104 rfl (lv_at hl 3 rfl) ?_
    refine lv_dup hx hb d_r_event_105 rfl ?_
    refine va_get (D := D) (ci := 1) (v := .int (nI ev)) (C := "SightGraphModel") (T := T_r) (N := 10) hx hb htc in_r hown hK hP 0 rfl rfl 2 (by decide) (htc _ k_2_75) (fun _ h9 => h9) rfl d_r_event_106 ?_
    refine lv_dup_x1 hx hb d_r_event_109 rfl rfl ?_
    refine lv_iconst (v := (nI 1)) hx hb d_r_event_110 (by decide) ?_
    refine nr_iadd hx hb d_r_event_111 ?_
    refine va_put (D := D) (ci := 1) (v := .int (nI (ev + 1))) (ty := .int) (C := "SightGraphModel") (T := T_r) (N := 10) hx hb htc in_r t_r ft_r fn_r hown hK hP hD hS 0 rfl rfl 2 (by decide) (htc _ k_2_75) (fun _ h9 => h9) rfl (by decide +kernel) rfl rfl (Nat.le_of_ble_eq_true rfl) d_r_event_112 (fun H locs hP hD hS => ?_)
    have hP : va_P D cls (rL cI cZ ad 0 n (ev + 1) r) H := hP
    have hD : va_D A (rL cI cZ ad 0 n (ev + 1) r) := hD
    refine lv_istore (lv' := [(4, .int (nI ev)), (3, .int (mI (o ev))), (2, .int (mI (s ev))), (1, .int (nI (c ev))), (0, .ref (ad 0))]) hx hb d_r_event_115 hl (by decide) rfl (fun ls hl => ?_)
    refine lv_aload_n hx hb d_r_event_117 rfl (lv_at hl 4 rfl) ?_
    refine va_get (D := D) (ci := 1) (v := .ref (ad 1)) (C := "SightGraphModel") (T := T_r) (N := 10) hx hb htc in_r hown hK hP 0 rfl rfl 3 (by decide) (htc _ k_2_76) (fun _ h9 => h9) rfl d_r_event_118 ?_
    refine lv_iload hx hb d_r_event_121 (lv_at hl 0 rfl) ?_
    refine lv_iload_n hx hb d_r_event_123 rfl (lv_at hl 3 rfl) ?_
    refine nr_iast hx hb hK hP hD hS 1 0 rfl rfl (by omega) (by decide) d_r_event_124 (fun H locs hP hD hS => ?_)
    have hP : va_P D cls (rL cI cZ ad 0 n (ev + 1) (upd r.1 ev (nI (c ev)), r.2.1, r.2.2.1, r.2.2.2.1, r.2.2.2.2.1, r.2.2.2.2.2.1, r.2.2.2.2.2.2)) H := hP
    have hD : va_D A (rL cI cZ ad 0 n (ev + 1) (upd r.1 ev (nI (c ev)), r.2.1, r.2.2.1, r.2.2.2.1, r.2.2.2.2.1, r.2.2.2.2.2.1, r.2.2.2.2.2.2)) := hD
    refine lv_aload_n hx hb d_r_event_125 rfl (lv_at hl 4 rfl) ?_
    refine va_get (D := D) (ci := 1) (v := .ref (ad 2)) (C := "SightGraphModel") (T := T_r) (N := 10) hx hb htc in_r hown hK hP 0 rfl rfl 4 (by decide) (htc _ k_2_77) (fun _ h9 => h9) rfl d_r_event_126 ?_
    refine lv_iload hx hb d_r_event_129 (lv_at hl 0 rfl) ?_
    refine lv_iload_n hx hb d_r_event_131 rfl (lv_at hl 2 rfl) ?_
    refine nr_iast hx hb hK hP hD hS 2 0 rfl rfl (by omega) (by decide) d_r_event_132 (fun H locs hP hD hS => ?_)
    have hP : va_P D cls (rL cI cZ ad 0 n (ev + 1) (upd r.1 ev (nI (c ev)), upd r.2.1 ev (mI (s ev)), r.2.2.1, r.2.2.2.1, r.2.2.2.2.1, r.2.2.2.2.2.1, r.2.2.2.2.2.2)) H := hP
    have hD : va_D A (rL cI cZ ad 0 n (ev + 1) (upd r.1 ev (nI (c ev)), upd r.2.1 ev (mI (s ev)), r.2.2.1, r.2.2.2.1, r.2.2.2.2.1, r.2.2.2.2.2.1, r.2.2.2.2.2.2)) := hD
    refine lv_aload_n hx hb d_r_event_133 rfl (lv_at hl 4 rfl) ?_
    refine va_get (D := D) (ci := 1) (v := .ref (ad 3)) (C := "SightGraphModel") (T := T_r) (N := 10) hx hb htc in_r hown hK hP 0 rfl rfl 5 (by decide) (htc _ k_2_78) (fun _ h9 => h9) rfl d_r_event_134 ?_
    refine lv_iload hx hb d_r_event_137 (lv_at hl 0 rfl) ?_
    refine lv_iload_n hx hb d_r_event_139 rfl (lv_at hl 1 rfl) ?_
    refine nr_iast hx hb hK hP hD hS 3 0 rfl rfl (by omega) (by decide) d_r_event_140 (fun H locs hP hD hS => ?_)
    have hP : va_P D cls (rL cI cZ ad 0 n (ev + 1) (upd r.1 ev (nI (c ev)), upd r.2.1 ev (mI (s ev)), upd r.2.2.1 ev (mI (o ev)), r.2.2.2.1, r.2.2.2.2.1, r.2.2.2.2.2.1, r.2.2.2.2.2.2)) H := hP
    have hD : va_D A (rL cI cZ ad 0 n (ev + 1) (upd r.1 ev (nI (c ev)), upd r.2.1 ev (mI (s ev)), upd r.2.2.1 ev (mI (o ev)), r.2.2.2.1, r.2.2.2.2.1, r.2.2.2.2.2.1, r.2.2.2.2.2.2)) := hD
    refine lv_aload_n hx hb d_r_event_141 rfl (lv_at hl 4 rfl) ?_
    refine lv_iload hx hb d_r_event_142 (lv_at hl 0 rfl) ?_
    refine WV.callV (wr := []) (rest := []) S (c_r_ways l D cI cJ cZ ad 0 n (ev + 1) (upd r.1 ev (nI (c ev)), upd r.2.1 ev (mI (s ev)), upd r.2.2.1 ev (mI (o ev)), r.2.2.2.1, r.2.2.2.2.1, r.2.2.2.2.2.1, r.2.2.2.2.2.2) (ev + 1) (by omega) c s o an ow hLw (up_c (F := fun j => mI (s j)) (fun i hi => (hC i hi).2.1)) (up_c (F := fun j => mI (o j)) (fun i hi => (hC i hi).2.2.1)) ev (by omega)) k_2_130 k_2_132 k_s_22 k_1_2 k_2_133 h_r_ways ⟨Nat.le_of_ble_eq_true rfl, Nat.le_of_ble_eq_true rfl⟩ ⟨Nat.le_of_ble_eq_true rfl, Nat.le_of_ble_eq_true rfl⟩ hP hK hD hS hA [0, 1, 2, 3, 4, 5, 6, 7] [] rfl rfl (by decide) (by decide) (by decide) 0 1 rfl rfl rfl hl.1 (Nat.le_of_ble_eq_true rfl) rfl d_r_event_144 (fun u H locs hu hP hD hS => ?_)
    obtain ⟨hc1, hs1, ho1, hr1, ha1, hf0⟩ := rev_1 (r := r) hC hu
    have hP : va_P D cls (rL cI cZ ad 0 n (ev + 1) u) H := hP
    have hD : va_D A (rL cI cZ ad 0 n (ev + 1) u) := hD
    refine lv_iconst (v := (nI 0)) hx hb d_r_event_147 (by decide) ?_
    refine lv_istore (lv' := [(5, .int (nI 0)), (4, .int (nI ev)), (3, .int (mI (o ev))), (2, .int (mI (s ev))), (1, .int (nI (c ev))), (0, .ref (ad 0))]) hx hb d_r_event_148 hl (by decide) rfl (fun ls hl => ?_)
    have loop1 : ∀ (d1 : Nat) (m9 : Nat) (f : Nat → Int32) (H : Heap) (locs : List Loc) (ls : Array Slot), 8 - m9 < d1 → va_P D cls (rL cI cZ ad 0 n (ev + 1) (u.1, u.2.1, u.2.2.1, u.2.2.2.1, u.2.2.2.2.1, u.2.2.2.2.2.1, f)) H → va_D A (rL cI cZ ad 0 n (ev + 1) (u.1, u.2.1, u.2.2.1, u.2.2.2.1, u.2.2.2.2.1, u.2.2.2.2.2.1, f)) → va_S A s9.heap H locs → m9 ≤ 8 → fR ev u.2.2.2.2.2.2 f (fun _ => false) m9 → lv_has ls 10 [(5, .int (nI m9)), (4, .int (nI ev)), (3, .int (mI (o ev))), (2, .int (mI (s ev))), (1, .int (nI (c ev))), (0, .ref (ad 0))] → W p9 l e9 ({ frames := 4, cells := 0, slots := 0, locals := 92 }) s9 m args below meth c9 H locs 0 0 (MQ below (va_Qi (S := RA) (fun v u => v = nI ev ∧ rC (ev + 1) u c s o an fk rd) (wB D (tys cI cJ cZ) (fun u => rL cI cZ ad 0 n (ev + 1) u) A) A) args s9 0 0 A) (F0 m 150 ls []) := by
      intro d1
      induction d1 with
      | zero =>
        intro m9 f H locs ls hd1 hP hD hS hm9 hfR hl
        exact absurd hd1 (by omega)
      | succ d1 ih1 =>
        intro m9 f H locs ls hd1 hP hD hS hm9 hfR hl
        refine lv_iload hx hb d_r_event_150 (lv_at hl 0 rfl) ?_
        refine lv_bipush (v := (nI 8)) hx hb d_r_event_152 (by decide) ?_
        refine nr_icmp_ge (tgt := 177) hx hb (by omega) (by omega) d_r_event_154 (by decide) (fun c_154 => ?_) (fun c_154 => ?_)
        · refine lv_iconst (v := (nI 0)) hx hb d_r_event_177 (by decide) ?_
          refine lv_istore (lv' := [(5, .int (nI 0)), (4, .int (nI ev)), (3, .int (mI (o ev))), (2, .int (mI (s ev))), (1, .int (nI (c ev))), (0, .ref (ad 0))]) hx hb d_r_event_178 hl (by decide) rfl (fun ls hl => ?_)
          have loop2 : ∀ (d2 : Nat) (y : Nat) (f : Nat → Int32) (H : Heap) (locs : List Loc) (ls : Array Slot), ev + 1 - y < d2 → va_P D cls (rL cI cZ ad 0 n (ev + 1) (u.1, u.2.1, u.2.2.1, u.2.2.2.1, u.2.2.2.2.1, u.2.2.2.2.2.1, f)) H → va_D A (rL cI cZ ad 0 n (ev + 1) (u.1, u.2.1, u.2.2.1, u.2.2.2.1, u.2.2.2.2.1, u.2.2.2.2.2.1, f)) → va_S A s9.heap H locs → y ≤ ev + 1 → fR ev u.2.2.2.2.2.2 f (fo (an ev) ow c y) 8 → lv_has ls 10 [(5, .int (nI y)), (4, .int (nI ev)), (3, .int (mI (o ev))), (2, .int (mI (s ev))), (1, .int (nI (c ev))), (0, .ref (ad 0))] → W p9 l e9 ({ frames := 4, cells := 0, slots := 0, locals := 92 }) s9 m args below meth c9 H locs 0 0 (MQ below (va_Qi (S := RA) (fun v u => v = nI ev ∧ rC (ev + 1) u c s o an fk rd) (wB D (tys cI cJ cZ) (fun u => rL cI cZ ad 0 n (ev + 1) u) A) A) args s9 0 0 A) (F0 m 180 ls []) := by
            intro d2
            induction d2 with
            | zero =>
              intro y f H locs ls hd2 hP hD hS hy hfR hl
              exact absurd hd2 (by omega)
            | succ d2 ih2 =>
              intro y f H locs ls hd2 hP hD hS hy hfR hl
              refine lv_iload hx hb d_r_event_180 (lv_at hl 0 rfl) ?_
              refine lv_iload hx hb d_r_event_182 (lv_at hl 1 rfl) ?_
              refine nr_icmp_gt (tgt := 285) hx hb (by omega) (by omega) d_r_event_184 (by decide) (fun c_184 => ?_) (fun c_184 => ?_)
              · have hf1 := rev_2 hf0 (by rw [show y = ev + 1 by omega] at hfR; exact hfR) hfk
                refine lv_aload_n hx hb d_r_event_285 rfl (lv_at hl 5 rfl) ?_
                refine va_get (D := D) (ci := 1) (v := .ref (ad 4)) (C := "SightGraphModel") (T := T_r) (N := 10) hx hb htc in_r hown hK hP 0 rfl rfl 6 (by decide) (htc _ k_2_79) (fun _ h9 => h9) rfl d_r_event_286 ?_
                refine lv_iload hx hb d_r_event_289 (lv_at hl 1 rfl) ?_
                refine lv_iconst (v := (nI 1)) hx hb d_r_event_291 (by decide) ?_
                refine nr_iast hx hb hK hP hD hS 4 0 rfl rfl (by omega) (by decide) d_r_event_292 (fun H locs hP hD hS => ?_)
                have hP : va_P D cls (rL cI cZ ad 0 n (ev + 1) (u.1, u.2.1, u.2.2.1, upd u.2.2.2.1 ev (nI 1), u.2.2.2.2.1, u.2.2.2.2.2.1, f)) H := hP
                have hD : va_D A (rL cI cZ ad 0 n (ev + 1) (u.1, u.2.1, u.2.2.1, upd u.2.2.2.1 ev (nI 1), u.2.2.2.2.1, u.2.2.2.2.2.1, f)) := hD
                have hp1 : pr rd (s ev) ≤ 121 := pr_le (fun q => by have := (hr1 (s ev - 1) (by omega)).2; omega)
                have hp2 : pr rd (o ev) ≤ 121 := pr_le (fun q => by have := (hr1 (o ev - 1) (by omega)).2; omega)
                have hp3 : max (pr rd (s ev)) (pr rd (o ev)) ≤ 121 := Nat.max_le.mpr ⟨hp1, hp2⟩
                have k332 : ∀ (ls : Array Slot), ¬ (s ev = 0 ∧ o ev = 0) → lv_has ls 10 [(4, .int (nI ev)), (3, .int (mI (o ev))), (2, .int (mI (s ev))), (1, .int (nI (c ev))), (0, .ref (ad 0))] → W p9 l e9 ({ frames := 4, cells := 0, slots := 0, locals := 92 }) s9 m args below meth c9 H locs 0 0 (MQ below (va_Qi (S := RA) (fun v u => v = nI ev ∧ rC (ev + 1) u c s o an fk rd) (wB D (tys cI cJ cZ) (fun u => rL cI cZ ad 0 n (ev + 1) u) A) A) args s9 0 0 A) (F0 m 332 ls [.int (nI (pr rd (o ev))), .int (nI (pr rd (s ev)))]) := by
                  intro ls hso hl
                  refine va_mmax hx hb (hml.trans hl.1.symm) hown (htc _ k_2_146) (htc _ k_1_191) (htc _ k_1_8) (htc _ k_1_192) (Nat.le_of_ble_eq_true rfl) (Nat.le_of_ble_eq_true rfl) (Nat.le_of_ble_eq_true rfl) (Nat.le_of_ble_eq_true rfl) d_r_event_332 ?_
                  refine nr_top (w := .int (nI (max (pr rd (s ev)) (pr rd (o ev))))) (congrArg Value.int (mx_I (by omega) (by omega))) ?_
                  refine lv_istore (lv' := [(5, .int (nI (max (pr rd (s ev)) (pr rd (o ev))))), (4, .int (nI ev)), (3, .int (mI (o ev))), (2, .int (mI (s ev))), (1, .int (nI (c ev))), (0, .ref (ad 0))]) hx hb d_r_event_335 hl (by decide) rfl (fun ls hl => ?_)
                  refine lv_iconst (v := (nI 0)) hx hb d_r_event_337 (by decide) ?_
                  refine lv_istore (lv' := [(6, .int (nI 0)), (5, .int (nI (max (pr rd (s ev)) (pr rd (o ev))))), (4, .int (nI ev)), (3, .int (mI (o ev))), (2, .int (mI (s ev))), (1, .int (nI (c ev))), (0, .ref (ad 0))]) hx hb d_r_event_338 hl (by decide) rfl (fun ls hl => ?_)
                  refine lv_iconst (v := (nI 0)) hx hb d_r_event_340 (by decide) ?_
                  refine lv_istore (lv' := [(7, .int (nI 0)), (6, .int (nI 0)), (5, .int (nI (max (pr rd (s ev)) (pr rd (o ev))))), (4, .int (nI ev)), (3, .int (mI (o ev))), (2, .int (mI (s ev))), (1, .int (nI (c ev))), (0, .ref (ad 0))]) hx hb d_r_event_341 hl (by decide) rfl (fun ls hl => ?_)
                  have loop4 : ∀ (d4 : Nat) (m9 : Nat) (ls : Array Slot), n - m9 < d4 → m9 ≤ n → lv_has ls 10 [(7, .int (nI m9)), (6, .int (nI (cn m9 (fun m9 => ex ev (fun w => c w == m9 && (rd w == max (pr rd (s ev)) (pr rd (o ev)) && (wi s rd w && mn n (sn n an fk c ev w)))))))), (5, .int (nI (max (pr rd (s ev)) (pr rd (o ev))))), (4, .int (nI ev)), (3, .int (mI (o ev))), (2, .int (mI (s ev))), (1, .int (nI (c ev))), (0, .ref (ad 0))] → W p9 l e9 ({ frames := 4, cells := 0, slots := 0, locals := 92 }) s9 m args below meth c9 H locs 0 0 (MQ below (va_Qi (S := RA) (fun v u => v = nI ev ∧ rC (ev + 1) u c s o an fk rd) (wB D (tys cI cJ cZ) (fun u => rL cI cZ ad 0 n (ev + 1) u) A) A) args s9 0 0 A) (F0 m 343 ls []) := by
                    intro d4
                    induction d4 with
                    | zero =>
                      intro m9 ls hd4 hm9 hl
                      exact absurd hd4 (by omega)
                    | succ d4 ih4 =>
                      intro m9 ls hd4 hm9 hl
                      have hcb := cn_le m9 (fun m9 => ex ev (fun w => c w == m9 && (rd w == max (pr rd (s ev)) (pr rd (o ev)) && (wi s rd w && mn n (sn n an fk c ev w)))))
                      refine lv_iload hx hb d_r_event_343 (lv_at hl 0 rfl) ?_
                      refine lv_aload_n hx hb d_r_event_345 rfl (lv_at hl 7 rfl) ?_
                      refine va_get (D := D) (ci := 1) (v := .int (nI n)) (C := "SightGraphModel") (T := T_r) (N := 10) hx hb htc in_r hown hK hP 0 rfl rfl 1 (by decide) (htc _ k_2_74) (fun _ h9 => h9) rfl d_r_event_346 ?_
                      refine nr_icmp_ge (tgt := 441) hx hb (by omega) (by omega) d_r_event_349 (by decide) (fun c_349 => ?_) (fun c_349 => ?_)
                      · have hm9n : m9 = n := by omega
                        have hl : lv_has ls 10 [(7, .int (nI n)), (6, .int (nI (cn n (fun m9 => ex ev (fun w => c w == m9 && (rd w == max (pr rd (s ev)) (pr rd (o ev)) && (wi s rd w && mn n (sn n an fk c ev w)))))))), (5, .int (nI (max (pr rd (s ev)) (pr rd (o ev))))), (4, .int (nI ev)), (3, .int (mI (o ev))), (2, .int (mI (s ev))), (1, .int (nI (c ev))), (0, .ref (ad 0))] := by rw [hm9n] at hl; exact hl
                        have hcbn := cn_le n (fun m9 => ex ev (fun w => c w == m9 && (rd w == max (pr rd (s ev)) (pr rd (o ev)) && (wi s rd w && mn n (sn n an fk c ev w)))))
                        refine lv_aload_n hx hb d_r_event_441 rfl (lv_at hl 7 rfl) ?_
                        refine va_get (D := D) (ci := 1) (v := .ref (ad 4)) (C := "SightGraphModel") (T := T_r) (N := 10) hx hb htc in_r hown hK hP 0 rfl rfl 6 (by decide) (htc _ k_2_79) (fun _ h9 => h9) rfl d_r_event_442 ?_
                        refine lv_iload hx hb d_r_event_445 (lv_at hl 3 rfl) ?_
                        refine lv_iconst (v := (nI 3)) hx hb d_r_event_447 (by decide) ?_
                        refine lv_iload hx hb d_r_event_448 (lv_at hl 1 rfl) ?_
                        refine nr_imul hx hb d_r_event_450 ?_
                        refine lv_iconst (v := (nI 2)) hx hb d_r_event_451 (by decide) ?_
                        refine lv_aload_n hx hb d_r_event_452 rfl (lv_at hl 7 rfl) ?_
                        refine va_get (D := D) (ci := 1) (v := .int (nI n)) (C := "SightGraphModel") (T := T_r) (N := 10) hx hb htc in_r hown hK hP 0 rfl rfl 1 (by decide) (htc _ k_2_74) (fun _ h9 => h9) rfl d_r_event_453 ?_
                        refine nr_imul hx hb d_r_event_456 ?_
                        refine nr_icmp_le (tgt := 467) hx hb (by omega) (by omega) d_r_event_457 (by decide) (fun c_457 => ?_) (fun c_457 => ?_)
                        · refine lv_iload hx hb d_r_event_467 (lv_at hl 2 rfl) ?_
                          refine nr_top (w := .int (nI (rd ev))) (congrArg (fun z => Value.int (nI z)) (by rw [hrd]; unfold ro; rw [if_neg hso, if_neg (by rw [(show mn n (wn n an fk c s rd ev (max (pr rd (s ev)) (pr rd (o ev)))) = false from decide_eq_false (by show ¬ 2 * n < 3 * cn n (fun m9 => ex ev (fun w => c w == m9 && (rd w == max (pr rd (s ev)) (pr rd (o ev)) && (wi s rd w && mn n (sn n an fk c ev w))))); omega))]; decide)])) ?_
                          refine nr_iast hx hb hK hP hD hS 4 0 rfl rfl (by omega) (by decide) d_r_event_469 (fun H locs hP hD hS => ?_)
                          have hP : va_P D cls (rL cI cZ ad 0 n (ev + 1) (u.1, u.2.1, u.2.2.1, upd (upd u.2.2.2.1 ev (nI 1)) ev (nI (rd ev)), u.2.2.2.2.1, u.2.2.2.2.2.1, f)) H := hP
                          have hD : va_D A (rL cI cZ ad 0 n (ev + 1) (u.1, u.2.1, u.2.2.1, upd (upd u.2.2.2.1 ev (nI 1)) ev (nI (rd ev)), u.2.2.2.2.1, u.2.2.2.2.2.1, f)) := hD
                          refine lv_iload hx hb d_r_event_470 (lv_at hl 3 rfl) ?_
                          exact WI.iret hx hb hr hlocks hK hS d_r_event_472 (u.1, u.2.1, u.2.2.1, upd (upd u.2.2.2.1 ev (nI 1)) ev (nI (rd ev)), u.2.2.2.2.1, u.2.2.2.2.2.1, f) ⟨rfl, fun j hj => ⟨hc1 j hj, hs1 j hj, ho1 j hj, rev_r2 hr1 hrb j hj, ha1 j hj, hf1 j hj⟩⟩ hP hD
                        · refine lv_iload hx hb d_r_event_460 (lv_at hl 2 rfl) ?_
                          refine lv_iconst (v := (nI 1)) hx hb d_r_event_462 (by decide) ?_
                          refine nr_iadd hx hb d_r_event_463 ?_
                          refine lv_goto (tgt := 469) hx hb d_r_event_464 (by decide) ?_
                          refine nr_top (w := .int (nI (rd ev))) (congrArg (fun z => Value.int (nI z)) (by rw [hrd]; unfold ro; rw [if_neg hso, if_pos (show mn n (wn n an fk c s rd ev (max (pr rd (s ev)) (pr rd (o ev)))) = true from decide_eq_true (by show 2 * n < 3 * cn n (fun m9 => ex ev (fun w => c w == m9 && (rd w == max (pr rd (s ev)) (pr rd (o ev)) && (wi s rd w && mn n (sn n an fk c ev w))))); omega))])) ?_
                          refine nr_iast hx hb hK hP hD hS 4 0 rfl rfl (by omega) (by decide) d_r_event_469 (fun H locs hP hD hS => ?_)
                          have hP : va_P D cls (rL cI cZ ad 0 n (ev + 1) (u.1, u.2.1, u.2.2.1, upd (upd u.2.2.2.1 ev (nI 1)) ev (nI (rd ev)), u.2.2.2.2.1, u.2.2.2.2.2.1, f)) H := hP
                          have hD : va_D A (rL cI cZ ad 0 n (ev + 1) (u.1, u.2.1, u.2.2.1, upd (upd u.2.2.2.1 ev (nI 1)) ev (nI (rd ev)), u.2.2.2.2.1, u.2.2.2.2.2.1, f)) := hD
                          refine lv_iload hx hb d_r_event_470 (lv_at hl 3 rfl) ?_
                          exact WI.iret hx hb hr hlocks hK hS d_r_event_472 (u.1, u.2.1, u.2.2.1, upd (upd u.2.2.2.1 ev (nI 1)) ev (nI (rd ev)), u.2.2.2.2.1, u.2.2.2.2.2.1, f) ⟨rfl, fun j hj => ⟨hc1 j hj, hs1 j hj, ho1 j hj, rev_r2 hr1 hrb j hj, ha1 j hj, hf1 j hj⟩⟩ hP hD
                      · refine lv_iconst (v := (nI 0)) hx hb d_r_event_352 (by decide) ?_
                        refine nr_top (w := .int (bI false)) rfl ?_
                        refine lv_istore (lv' := [(8, .int (bI false)), (7, .int (nI m9)), (6, .int (nI (cn m9 (fun m9 => ex ev (fun w => c w == m9 && (rd w == max (pr rd (s ev)) (pr rd (o ev)) && (wi s rd w && mn n (sn n an fk c ev w)))))))), (5, .int (nI (max (pr rd (s ev)) (pr rd (o ev))))), (4, .int (nI ev)), (3, .int (mI (o ev))), (2, .int (mI (s ev))), (1, .int (nI (c ev))), (0, .ref (ad 0))]) hx hb d_r_event_353 hl (by decide) rfl (fun ls hl => ?_)
                        refine lv_iconst (v := (nI 0)) hx hb d_r_event_355 (by decide) ?_
                        refine lv_istore (lv' := [(9, .int (nI 0)), (8, .int (bI false)), (7, .int (nI m9)), (6, .int (nI (cn m9 (fun m9 => ex ev (fun w => c w == m9 && (rd w == max (pr rd (s ev)) (pr rd (o ev)) && (wi s rd w && mn n (sn n an fk c ev w)))))))), (5, .int (nI (max (pr rd (s ev)) (pr rd (o ev))))), (4, .int (nI ev)), (3, .int (mI (o ev))), (2, .int (mI (s ev))), (1, .int (nI (c ev))), (0, .ref (ad 0))]) hx hb d_r_event_356 hl (by decide) rfl (fun ls hl => ?_)
                        have loop5 : ∀ (d5 : Nat) (w : Nat) (has : Bool) (ls : Array Slot), ev - w < d5 → w ≤ ev → has = ex w (fun w => c w == m9 && (rd w == max (pr rd (s ev)) (pr rd (o ev)) && (wi s rd w && mn n (sn n an fk c ev w)))) → lv_has ls 10 [(9, .int (nI w)), (8, .int (bI has)), (7, .int (nI m9)), (6, .int (nI (cn m9 (fun m9 => ex ev (fun w => c w == m9 && (rd w == max (pr rd (s ev)) (pr rd (o ev)) && (wi s rd w && mn n (sn n an fk c ev w)))))))), (5, .int (nI (max (pr rd (s ev)) (pr rd (o ev))))), (4, .int (nI ev)), (3, .int (mI (o ev))), (2, .int (mI (s ev))), (1, .int (nI (c ev))), (0, .ref (ad 0))] → W p9 l e9 ({ frames := 4, cells := 0, slots := 0, locals := 92 }) s9 m args below meth c9 H locs 0 0 (MQ below (va_Qi (S := RA) (fun v u => v = nI ev ∧ rC (ev + 1) u c s o an fk rd) (wB D (tys cI cJ cZ) (fun u => rL cI cZ ad 0 n (ev + 1) u) A) A) args s9 0 0 A) (F0 m 358 ls []) := by
                          intro d5
                          induction d5 with
                          | zero =>
                            intro w has ls hd5 hw hhs hl
                            exact absurd hd5 (by omega)
                          | succ d5 ih5 =>
                            intro w has ls hd5 hw hhs hl
                            refine lv_iload hx hb d_r_event_358 (lv_at hl 0 rfl) ?_
                            refine lv_iload hx hb d_r_event_360 (lv_at hl 5 rfl) ?_
                            refine nr_icmp_ge (tgt := 427) hx hb (by omega) (by omega) d_r_event_362 (by decide) (fun c_362 => ?_) (fun c_362 => ?_)
                            · have hhas : has = ex ev (fun w => c w == m9 && (rd w == max (pr rd (s ev)) (pr rd (o ev)) && (wi s rd w && mn n (sn n an fk c ev w)))) := sn_step hhs (by omega) (Or.inl (by omega))
                              refine lv_iload hx hb d_r_event_427 (lv_at hl 1 rfl) ?_
                              refine nr_ifeq_b (tgt := 435) hx hb d_r_event_429 (by decide) (fun c_429 => ?_) (fun c_429 => ?_)
                              · refine lv_iinc (v := (nI (m9 + 1))) (lv' := [(7, .int (nI (m9 + 1))), (9, .int (nI w)), (8, .int (bI has)), (6, .int (nI (cn m9 (fun m9 => ex ev (fun w => c w == m9 && (rd w == max (pr rd (s ev)) (pr rd (o ev)) && (wi s rd w && mn n (sn n an fk c ev w)))))))), (5, .int (nI (max (pr rd (s ev)) (pr rd (o ev))))), (4, .int (nI ev)), (3, .int (mI (o ev))), (2, .int (mI (s ev))), (1, .int (nI (c ev))), (0, .ref (ad 0))]) hx hb d_r_event_435 hl (k := 2) rfl (nI_add m9 1) (by decide) rfl (fun ls hl => ?_)
                                refine lv_goto (tgt := 343) hx hb d_r_event_438 (by decide) ?_
                                exact ih4 (m9 + 1) ls (by omega) (by omega) (by rw [← cn_n (p := (fun m9 => ex ev (fun w => c w == m9 && (rd w == max (pr rd (s ev)) (pr rd (o ev)) && (wi s rd w && mn n (sn n an fk c ev w)))))) (show ex ev (fun w => c w == m9 && (rd w == max (pr rd (s ev)) (pr rd (o ev)) && (wi s rd w && mn n (sn n an fk c ev w)))) = false from hhas.symm.trans c_429)]; exact (lv_sub hl [0, 3, 4, 5, 6, 7, 8, 9] rfl))
                              · refine lv_iinc (v := (nI ((cn m9 (fun m9 => ex ev (fun w => c w == m9 && (rd w == max (pr rd (s ev)) (pr rd (o ev)) && (wi s rd w && mn n (sn n an fk c ev w)))))) + 1))) (lv' := [(6, .int (nI ((cn m9 (fun m9 => ex ev (fun w => c w == m9 && (rd w == max (pr rd (s ev)) (pr rd (o ev)) && (wi s rd w && mn n (sn n an fk c ev w)))))) + 1))), (9, .int (nI w)), (8, .int (bI has)), (7, .int (nI m9)), (5, .int (nI (max (pr rd (s ev)) (pr rd (o ev))))), (4, .int (nI ev)), (3, .int (mI (o ev))), (2, .int (mI (s ev))), (1, .int (nI (c ev))), (0, .ref (ad 0))]) hx hb d_r_event_432 hl (k := 3) rfl (nI_add (cn m9 (fun m9 => ex ev (fun w => c w == m9 && (rd w == max (pr rd (s ev)) (pr rd (o ev)) && (wi s rd w && mn n (sn n an fk c ev w)))))) 1) (by decide) rfl (fun ls hl => ?_)
                                refine lv_iinc (v := (nI (m9 + 1))) (lv' := [(7, .int (nI (m9 + 1))), (6, .int (nI ((cn m9 (fun m9 => ex ev (fun w => c w == m9 && (rd w == max (pr rd (s ev)) (pr rd (o ev)) && (wi s rd w && mn n (sn n an fk c ev w)))))) + 1))), (9, .int (nI w)), (8, .int (bI has)), (5, .int (nI (max (pr rd (s ev)) (pr rd (o ev))))), (4, .int (nI ev)), (3, .int (mI (o ev))), (2, .int (mI (s ev))), (1, .int (nI (c ev))), (0, .ref (ad 0))]) hx hb d_r_event_435 hl (k := 3) rfl (nI_add m9 1) (by decide) rfl (fun ls hl => ?_)
                                refine lv_goto (tgt := 343) hx hb d_r_event_438 (by decide) ?_
                                exact ih4 (m9 + 1) ls (by omega) (by omega) (by rw [← cn_y (p := (fun m9 => ex ev (fun w => c w == m9 && (rd w == max (pr rd (s ev)) (pr rd (o ev)) && (wi s rd w && mn n (sn n an fk c ev w)))))) (show ex ev (fun w => c w == m9 && (rd w == max (pr rd (s ev)) (pr rd (o ev)) && (wi s rd w && mn n (sn n an fk c ev w)))) = true from hhas.symm.trans c_429)]; exact (lv_sub hl [0, 1, 4, 5, 6, 7, 8, 9] rfl))
                            · refine lv_iload hx hb d_r_event_365 (lv_at hl 1 rfl) ?_
                              refine nr_ifne_b (tgt := 427) hx hb d_r_event_367 (by decide) (fun c_367 => ?_) (fun c_367 => ?_)
                              · have hhas : has = ex ev (fun w => c w == m9 && (rd w == max (pr rd (s ev)) (pr rd (o ev)) && (wi s rd w && mn n (sn n an fk c ev w)))) := sn_step hhs (by omega) (Or.inr c_367)
                                refine lv_iload hx hb d_r_event_427 (lv_at hl 1 rfl) ?_
                                refine nr_ifeq_b (tgt := 435) hx hb d_r_event_429 (by decide) (fun c_429 => ?_) (fun c_429 => ?_)
                                · refine lv_iinc (v := (nI (m9 + 1))) (lv' := [(7, .int (nI (m9 + 1))), (9, .int (nI w)), (8, .int (bI has)), (6, .int (nI (cn m9 (fun m9 => ex ev (fun w => c w == m9 && (rd w == max (pr rd (s ev)) (pr rd (o ev)) && (wi s rd w && mn n (sn n an fk c ev w)))))))), (5, .int (nI (max (pr rd (s ev)) (pr rd (o ev))))), (4, .int (nI ev)), (3, .int (mI (o ev))), (2, .int (mI (s ev))), (1, .int (nI (c ev))), (0, .ref (ad 0))]) hx hb d_r_event_435 hl (k := 2) rfl (nI_add m9 1) (by decide) rfl (fun ls hl => ?_)
                                  refine lv_goto (tgt := 343) hx hb d_r_event_438 (by decide) ?_
                                  exact ih4 (m9 + 1) ls (by omega) (by omega) (by rw [← cn_n (p := (fun m9 => ex ev (fun w => c w == m9 && (rd w == max (pr rd (s ev)) (pr rd (o ev)) && (wi s rd w && mn n (sn n an fk c ev w)))))) (show ex ev (fun w => c w == m9 && (rd w == max (pr rd (s ev)) (pr rd (o ev)) && (wi s rd w && mn n (sn n an fk c ev w)))) = false from hhas.symm.trans c_429)]; exact (lv_sub hl [0, 3, 4, 5, 6, 7, 8, 9] rfl))
                                · refine lv_iinc (v := (nI ((cn m9 (fun m9 => ex ev (fun w => c w == m9 && (rd w == max (pr rd (s ev)) (pr rd (o ev)) && (wi s rd w && mn n (sn n an fk c ev w)))))) + 1))) (lv' := [(6, .int (nI ((cn m9 (fun m9 => ex ev (fun w => c w == m9 && (rd w == max (pr rd (s ev)) (pr rd (o ev)) && (wi s rd w && mn n (sn n an fk c ev w)))))) + 1))), (9, .int (nI w)), (8, .int (bI has)), (7, .int (nI m9)), (5, .int (nI (max (pr rd (s ev)) (pr rd (o ev))))), (4, .int (nI ev)), (3, .int (mI (o ev))), (2, .int (mI (s ev))), (1, .int (nI (c ev))), (0, .ref (ad 0))]) hx hb d_r_event_432 hl (k := 3) rfl (nI_add (cn m9 (fun m9 => ex ev (fun w => c w == m9 && (rd w == max (pr rd (s ev)) (pr rd (o ev)) && (wi s rd w && mn n (sn n an fk c ev w)))))) 1) (by decide) rfl (fun ls hl => ?_)
                                  refine lv_iinc (v := (nI (m9 + 1))) (lv' := [(7, .int (nI (m9 + 1))), (6, .int (nI ((cn m9 (fun m9 => ex ev (fun w => c w == m9 && (rd w == max (pr rd (s ev)) (pr rd (o ev)) && (wi s rd w && mn n (sn n an fk c ev w)))))) + 1))), (9, .int (nI w)), (8, .int (bI has)), (5, .int (nI (max (pr rd (s ev)) (pr rd (o ev))))), (4, .int (nI ev)), (3, .int (mI (o ev))), (2, .int (mI (s ev))), (1, .int (nI (c ev))), (0, .ref (ad 0))]) hx hb d_r_event_435 hl (k := 3) rfl (nI_add m9 1) (by decide) rfl (fun ls hl => ?_)
                                  refine lv_goto (tgt := 343) hx hb d_r_event_438 (by decide) ?_
                                  exact ih4 (m9 + 1) ls (by omega) (by omega) (by rw [← cn_y (p := (fun m9 => ex ev (fun w => c w == m9 && (rd w == max (pr rd (s ev)) (pr rd (o ev)) && (wi s rd w && mn n (sn n an fk c ev w)))))) (show ex ev (fun w => c w == m9 && (rd w == max (pr rd (s ev)) (pr rd (o ev)) && (wi s rd w && mn n (sn n an fk c ev w)))) = true from hhas.symm.trans c_429)]; exact (lv_sub hl [0, 1, 4, 5, 6, 7, 8, 9] rfl))
                              · have hcw := (hLw w (by omega)).1
                                have hrw := (hr1 w (by omega)).2
                                refine lv_aload_n hx hb d_r_event_370 rfl (lv_at hl 9 rfl) ?_
                                refine va_get (D := D) (ci := 1) (v := .ref (ad 1)) (C := "SightGraphModel") (T := T_r) (N := 10) hx hb htc in_r hown hK hP 0 rfl rfl 3 (by decide) (htc _ k_2_76) (fun _ h9 => h9) rfl d_r_event_371 ?_
                                refine lv_iload hx hb d_r_event_374 (lv_at hl 0 rfl) ?_
                                refine nr_iald hx hb hK hP 1 0 rfl rfl (by omega) (by decide) (v := (nI (c w))) (hc1 w (by omega)) d_r_event_376 ?_
                                refine lv_iload hx hb d_r_event_377 (lv_at hl 2 rfl) ?_
                                refine nr_icmp_ne (tgt := 418) hx hb (by omega) (by omega) d_r_event_379 (by decide) (fun c_379 => ?_) (fun c_379 => ?_)
                                · refine lv_iconst (v := (nI 0)) hx hb d_r_event_418 (by decide) ?_
                                  refine nr_top (w := .int (bI false)) rfl ?_
                                  refine lv_istore (lv' := [(8, .int (bI false)), (9, .int (nI w)), (7, .int (nI m9)), (6, .int (nI (cn m9 (fun m9 => ex ev (fun w => c w == m9 && (rd w == max (pr rd (s ev)) (pr rd (o ev)) && (wi s rd w && mn n (sn n an fk c ev w)))))))), (5, .int (nI (max (pr rd (s ev)) (pr rd (o ev))))), (4, .int (nI ev)), (3, .int (mI (o ev))), (2, .int (mI (s ev))), (1, .int (nI (c ev))), (0, .ref (ad 0))]) hx hb d_r_event_419 hl (by decide) rfl (fun ls hl => ?_)
                                  refine lv_iinc (v := (nI (w + 1))) (lv' := [(9, .int (nI (w + 1))), (8, .int (bI false)), (7, .int (nI m9)), (6, .int (nI (cn m9 (fun m9 => ex ev (fun w => c w == m9 && (rd w == max (pr rd (s ev)) (pr rd (o ev)) && (wi s rd w && mn n (sn n an fk c ev w)))))))), (5, .int (nI (max (pr rd (s ev)) (pr rd (o ev))))), (4, .int (nI ev)), (3, .int (mI (o ev))), (2, .int (mI (s ev))), (1, .int (nI (c ev))), (0, .ref (ad 0))]) hx hb d_r_event_421 hl (k := 1) rfl (nI_add w 1) (by decide) rfl (fun ls hl => ?_)
                                  refine lv_goto (tgt := 358) hx hb d_r_event_424 (by decide) ?_
                                  exact ih5 (w + 1) false ls (by omega) (by omega) (ex_hs (p := (fun w => c w == m9 && (rd w == max (pr rd (s ev)) (pr rd (o ev)) && (wi s rd w && mn n (sn n an fk c ev w))))) (hhs.symm.trans c_367) (by rw [show (c w == m9) = false from by simpa using c_379]; rfl)) (lv_sub hl [0, 1, 2, 3, 4, 5, 6, 7, 8, 9] rfl)
                                · refine lv_aload_n hx hb d_r_event_382 rfl (lv_at hl 9 rfl) ?_
                                  refine va_get (D := D) (ci := 1) (v := .ref (ad 4)) (C := "SightGraphModel") (T := T_r) (N := 10) hx hb htc in_r hown hK hP 0 rfl rfl 6 (by decide) (htc _ k_2_79) (fun _ h9 => h9) rfl d_r_event_383 ?_
                                  refine lv_iload hx hb d_r_event_386 (lv_at hl 0 rfl) ?_
                                  refine nr_iald hx hb hK hP 4 0 rfl rfl (by omega) (by decide) (v := (nI (rd w))) ((pk_un (by omega)).trans (hr1 w (by omega)).1) d_r_event_388 ?_
                                  refine lv_iload hx hb d_r_event_389 (lv_at hl 4 rfl) ?_
                                  refine nr_icmp_ne (tgt := 418) hx hb (by omega) (by omega) d_r_event_391 (by decide) (fun c_391 => ?_) (fun c_391 => ?_)
                                  · refine lv_iconst (v := (nI 0)) hx hb d_r_event_418 (by decide) ?_
                                    refine nr_top (w := .int (bI false)) rfl ?_
                                    refine lv_istore (lv' := [(8, .int (bI false)), (9, .int (nI w)), (7, .int (nI m9)), (6, .int (nI (cn m9 (fun m9 => ex ev (fun w => c w == m9 && (rd w == max (pr rd (s ev)) (pr rd (o ev)) && (wi s rd w && mn n (sn n an fk c ev w)))))))), (5, .int (nI (max (pr rd (s ev)) (pr rd (o ev))))), (4, .int (nI ev)), (3, .int (mI (o ev))), (2, .int (mI (s ev))), (1, .int (nI (c ev))), (0, .ref (ad 0))]) hx hb d_r_event_419 hl (by decide) rfl (fun ls hl => ?_)
                                    refine lv_iinc (v := (nI (w + 1))) (lv' := [(9, .int (nI (w + 1))), (8, .int (bI false)), (7, .int (nI m9)), (6, .int (nI (cn m9 (fun m9 => ex ev (fun w => c w == m9 && (rd w == max (pr rd (s ev)) (pr rd (o ev)) && (wi s rd w && mn n (sn n an fk c ev w)))))))), (5, .int (nI (max (pr rd (s ev)) (pr rd (o ev))))), (4, .int (nI ev)), (3, .int (mI (o ev))), (2, .int (mI (s ev))), (1, .int (nI (c ev))), (0, .ref (ad 0))]) hx hb d_r_event_421 hl (k := 1) rfl (nI_add w 1) (by decide) rfl (fun ls hl => ?_)
                                    refine lv_goto (tgt := 358) hx hb d_r_event_424 (by decide) ?_
                                    exact ih5 (w + 1) false ls (by omega) (by omega) (ex_hs (p := (fun w => c w == m9 && (rd w == max (pr rd (s ev)) (pr rd (o ev)) && (wi s rd w && mn n (sn n an fk c ev w))))) (hhs.symm.trans c_367) (by rw [show (rd w == max (pr rd (s ev)) (pr rd (o ev))) = false from by simpa using c_391]; simp)) (lv_sub hl [0, 1, 2, 3, 4, 5, 6, 7, 8, 9] rfl)
                                  · refine lv_aload_n hx hb d_r_event_394 rfl (lv_at hl 9 rfl) ?_
                                    refine lv_iload hx hb d_r_event_395 (lv_at hl 0 rfl) ?_
                                    refine PM.callV (rest := []) S (c_r_isWitness l D cI cJ cZ ad 0 n (ev + 1) (u.1, u.2.1, u.2.2.1, upd u.2.2.2.1 ev (nI 1), u.2.2.2.2.1, u.2.2.2.2.2.1, f) (ev + 1) (by omega) s hs1 rd ev (by omega) (fun j hj => ⟨(pk_un (by omega)).trans (hr1 j hj).1, (hr1 j hj).2⟩) w (by omega) (by omega) (hLw w (by omega)).2.1) k_2_147 k_2_149 k_s_26 k_1_2 k_2_150 h_r_isWitness ⟨Nat.le_of_ble_eq_true rfl, Nat.le_of_ble_eq_true rfl⟩ ⟨Nat.le_of_ble_eq_true rfl, Nat.le_of_ble_eq_true rfl⟩ hP hK 0 1 rfl rfl rfl hl.1 (Nat.le_of_ble_eq_true rfl) rfl d_r_event_397 ?_
                                    refine nr_ifeq_b (tgt := 418) hx hb d_r_event_400 (by decide) (fun c_400 => ?_) (fun c_400 => ?_)
                                    · refine lv_iconst (v := (nI 0)) hx hb d_r_event_418 (by decide) ?_
                                      refine nr_top (w := .int (bI false)) rfl ?_
                                      refine lv_istore (lv' := [(8, .int (bI false)), (9, .int (nI w)), (7, .int (nI m9)), (6, .int (nI (cn m9 (fun m9 => ex ev (fun w => c w == m9 && (rd w == max (pr rd (s ev)) (pr rd (o ev)) && (wi s rd w && mn n (sn n an fk c ev w)))))))), (5, .int (nI (max (pr rd (s ev)) (pr rd (o ev))))), (4, .int (nI ev)), (3, .int (mI (o ev))), (2, .int (mI (s ev))), (1, .int (nI (c ev))), (0, .ref (ad 0))]) hx hb d_r_event_419 hl (by decide) rfl (fun ls hl => ?_)
                                      refine lv_iinc (v := (nI (w + 1))) (lv' := [(9, .int (nI (w + 1))), (8, .int (bI false)), (7, .int (nI m9)), (6, .int (nI (cn m9 (fun m9 => ex ev (fun w => c w == m9 && (rd w == max (pr rd (s ev)) (pr rd (o ev)) && (wi s rd w && mn n (sn n an fk c ev w)))))))), (5, .int (nI (max (pr rd (s ev)) (pr rd (o ev))))), (4, .int (nI ev)), (3, .int (mI (o ev))), (2, .int (mI (s ev))), (1, .int (nI (c ev))), (0, .ref (ad 0))]) hx hb d_r_event_421 hl (k := 1) rfl (nI_add w 1) (by decide) rfl (fun ls hl => ?_)
                                      refine lv_goto (tgt := 358) hx hb d_r_event_424 (by decide) ?_
                                      exact ih5 (w + 1) false ls (by omega) (by omega) (ex_hs (p := (fun w => c w == m9 && (rd w == max (pr rd (s ev)) (pr rd (o ev)) && (wi s rd w && mn n (sn n an fk c ev w))))) (hhs.symm.trans c_367) (by rw [c_400]; simp)) (lv_sub hl [0, 1, 2, 3, 4, 5, 6, 7, 8, 9] rfl)
                                    · refine lv_aload_n hx hb d_r_event_403 rfl (lv_at hl 9 rfl) ?_
                                      refine lv_iload hx hb d_r_event_404 (lv_at hl 5 rfl) ?_
                                      refine lv_iload hx hb d_r_event_406 (lv_at hl 0 rfl) ?_
                                      refine PM.callV (rest := []) S (c_r_isStrong l D cI cJ cZ ad 0 n (ev + 1) (u.1, u.2.1, u.2.2.1, upd u.2.2.2.1 ev (nI 1), u.2.2.2.2.1, u.2.2.2.2.2.1, f) (ev + 1) (by omega) c hc1 an ha1 fk hf1 (fun i hi => by have := (hLw i hi).1; omega) hn ev w (by omega) (by omega)) k_2_151 k_2_153 k_s_27 k_1_2 k_2_154 h_r_isStrong ⟨Nat.le_of_ble_eq_true rfl, Nat.le_of_ble_eq_true rfl⟩ ⟨Nat.le_of_ble_eq_true rfl, Nat.le_of_ble_eq_true rfl⟩ hP hK 0 1 rfl rfl rfl hl.1 (Nat.le_of_ble_eq_true rfl) rfl d_r_event_408 ?_
                                      refine nr_ifeq_b (tgt := 418) hx hb d_r_event_411 (by decide) (fun c_411 => ?_) (fun c_411 => ?_)
                                      · refine lv_iconst (v := (nI 0)) hx hb d_r_event_418 (by decide) ?_
                                        refine nr_top (w := .int (bI false)) rfl ?_
                                        refine lv_istore (lv' := [(8, .int (bI false)), (9, .int (nI w)), (7, .int (nI m9)), (6, .int (nI (cn m9 (fun m9 => ex ev (fun w => c w == m9 && (rd w == max (pr rd (s ev)) (pr rd (o ev)) && (wi s rd w && mn n (sn n an fk c ev w)))))))), (5, .int (nI (max (pr rd (s ev)) (pr rd (o ev))))), (4, .int (nI ev)), (3, .int (mI (o ev))), (2, .int (mI (s ev))), (1, .int (nI (c ev))), (0, .ref (ad 0))]) hx hb d_r_event_419 hl (by decide) rfl (fun ls hl => ?_)
                                        refine lv_iinc (v := (nI (w + 1))) (lv' := [(9, .int (nI (w + 1))), (8, .int (bI false)), (7, .int (nI m9)), (6, .int (nI (cn m9 (fun m9 => ex ev (fun w => c w == m9 && (rd w == max (pr rd (s ev)) (pr rd (o ev)) && (wi s rd w && mn n (sn n an fk c ev w)))))))), (5, .int (nI (max (pr rd (s ev)) (pr rd (o ev))))), (4, .int (nI ev)), (3, .int (mI (o ev))), (2, .int (mI (s ev))), (1, .int (nI (c ev))), (0, .ref (ad 0))]) hx hb d_r_event_421 hl (k := 1) rfl (nI_add w 1) (by decide) rfl (fun ls hl => ?_)
                                        refine lv_goto (tgt := 358) hx hb d_r_event_424 (by decide) ?_
                                        exact ih5 (w + 1) false ls (by omega) (by omega) (ex_hs (p := (fun w => c w == m9 && (rd w == max (pr rd (s ev)) (pr rd (o ev)) && (wi s rd w && mn n (sn n an fk c ev w))))) (hhs.symm.trans c_367) (by rw [c_411]; simp)) (lv_sub hl [0, 1, 2, 3, 4, 5, 6, 7, 8, 9] rfl)
                                      · refine lv_iconst (v := (nI 1)) hx hb d_r_event_414 (by decide) ?_
                                        refine lv_goto (tgt := 419) hx hb d_r_event_415 (by decide) ?_
                                        refine nr_top (w := .int (bI true)) rfl ?_
                                        refine lv_istore (lv' := [(8, .int (bI true)), (9, .int (nI w)), (7, .int (nI m9)), (6, .int (nI (cn m9 (fun m9 => ex ev (fun w => c w == m9 && (rd w == max (pr rd (s ev)) (pr rd (o ev)) && (wi s rd w && mn n (sn n an fk c ev w)))))))), (5, .int (nI (max (pr rd (s ev)) (pr rd (o ev))))), (4, .int (nI ev)), (3, .int (mI (o ev))), (2, .int (mI (s ev))), (1, .int (nI (c ev))), (0, .ref (ad 0))]) hx hb d_r_event_419 hl (by decide) rfl (fun ls hl => ?_)
                                        refine lv_iinc (v := (nI (w + 1))) (lv' := [(9, .int (nI (w + 1))), (8, .int (bI true)), (7, .int (nI m9)), (6, .int (nI (cn m9 (fun m9 => ex ev (fun w => c w == m9 && (rd w == max (pr rd (s ev)) (pr rd (o ev)) && (wi s rd w && mn n (sn n an fk c ev w)))))))), (5, .int (nI (max (pr rd (s ev)) (pr rd (o ev))))), (4, .int (nI ev)), (3, .int (mI (o ev))), (2, .int (mI (s ev))), (1, .int (nI (c ev))), (0, .ref (ad 0))]) hx hb d_r_event_421 hl (k := 1) rfl (nI_add w 1) (by decide) rfl (fun ls hl => ?_)
                                        refine lv_goto (tgt := 358) hx hb d_r_event_424 (by decide) ?_
                                        exact ih5 (w + 1) true ls (by omega) (by omega) (ex_hs (p := (fun w => c w == m9 && (rd w == max (pr rd (s ev)) (pr rd (o ev)) && (wi s rd w && mn n (sn n an fk c ev w))))) (hhs.symm.trans c_367) (by rw [show (c w == m9) = true from by simpa using c_379, show (rd w == max (pr rd (s ev)) (pr rd (o ev))) = true from by simpa using c_391, c_400, c_411]; rfl)) (lv_sub hl [0, 1, 2, 3, 4, 5, 6, 7, 8, 9] rfl)
                        exact loop5 (ev + 1) 0 false ls (by omega) (by omega) rfl (lv_sub hl [0, 1, 2, 3, 4, 5, 6, 7, 8, 9] rfl)
                  exact loop4 (n + 1) 0 ls (by omega) (by omega) (lv_sub hl [0, 1, 2, 3, 4, 5, 6, 7] rfl)
                refine lv_iload_n hx hb d_r_event_293 rfl (lv_at hl 3 rfl) ?_
                refine nr_ifge_m (tgt := 304) hx hb (by omega) d_r_event_294 (by decide) (fun c_294 => ?_) (fun c_294 => ?_)
                · refine lv_iload_n hx hb d_r_event_304 rfl (lv_at hl 3 rfl) ?_
                  refine nr_ifge_m (tgt := 312) hx hb (by omega) d_r_event_305 (by decide) (fun c_305 => ?_) (fun c_305 => ?_)
                  · refine lv_aload_n hx hb d_r_event_312 rfl (lv_at hl 5 rfl) ?_
                    refine va_get (D := D) (ci := 1) (v := .ref (ad 4)) (C := "SightGraphModel") (T := T_r) (N := 10) hx hb htc in_r hown hK hP 0 rfl rfl 6 (by decide) (htc _ k_2_79) (fun _ h9 => h9) rfl d_r_event_313 ?_
                    refine lv_iload_n hx hb d_r_event_316 rfl (lv_at hl 3 rfl) ?_
                    refine nr_top (w := .int (nI (s ev - 1))) (congrArg Value.int (mI_p (by omega))) ?_
                    refine nr_iald hx hb hK hP 4 0 rfl rfl (by omega) (by decide) (v := (nI (rd (s ev - 1)))) ((pk_un (by omega)).trans (hr1 (s ev - 1) (by omega)).1) d_r_event_317 ?_
                    refine nr_top (w := .int (nI (pr rd (s ev)))) (congrArg Value.int (pr_p c_305)) ?_
                    refine lv_iload_n hx hb d_r_event_318 rfl (lv_at hl 2 rfl) ?_
                    refine nr_ifge_m (tgt := 326) hx hb (by omega) d_r_event_319 (by decide) (fun c_319 => ?_) (fun c_319 => ?_)
                    · refine lv_aload_n hx hb d_r_event_326 rfl (lv_at hl 5 rfl) ?_
                      refine va_get (D := D) (ci := 1) (v := .ref (ad 4)) (C := "SightGraphModel") (T := T_r) (N := 10) hx hb htc in_r hown hK hP 0 rfl rfl 6 (by decide) (htc _ k_2_79) (fun _ h9 => h9) rfl d_r_event_327 ?_
                      refine lv_iload_n hx hb d_r_event_330 rfl (lv_at hl 2 rfl) ?_
                      refine nr_top (w := .int (nI (o ev - 1))) (congrArg Value.int (mI_p (by omega))) ?_
                      refine nr_iald hx hb hK hP 4 0 rfl rfl (by omega) (by decide) (v := (nI (rd (o ev - 1)))) ((pk_un (by omega)).trans (hr1 (o ev - 1) (by omega)).1) d_r_event_331 ?_
                      refine nr_top (w := .int (nI (pr rd (o ev)))) (congrArg Value.int (pr_p c_319)) ?_
                      exact k332 ls (fun q => c_294 q.1) (lv_sub hl [1, 2, 3, 4, 5] rfl)
                    · refine lv_iconst (v := (nI 0)) hx hb d_r_event_322 (by decide) ?_
                      refine lv_goto (tgt := 332) hx hb d_r_event_323 (by decide) ?_
                      refine nr_top (w := .int (nI (pr rd (o ev)))) (congrArg Value.int (pr_0 c_319)) ?_
                      exact k332 ls (fun q => c_294 q.1) (lv_sub hl [1, 2, 3, 4, 5] rfl)
                  · refine lv_iconst (v := (nI 0)) hx hb d_r_event_308 (by decide) ?_
                    refine lv_goto (tgt := 318) hx hb d_r_event_309 (by decide) ?_
                    refine nr_top (w := .int (nI (pr rd (s ev)))) (congrArg Value.int (pr_0 c_305)) ?_
                    refine lv_iload_n hx hb d_r_event_318 rfl (lv_at hl 2 rfl) ?_
                    refine nr_ifge_m (tgt := 326) hx hb (by omega) d_r_event_319 (by decide) (fun c_319 => ?_) (fun c_319 => ?_)
                    · refine lv_aload_n hx hb d_r_event_326 rfl (lv_at hl 5 rfl) ?_
                      refine va_get (D := D) (ci := 1) (v := .ref (ad 4)) (C := "SightGraphModel") (T := T_r) (N := 10) hx hb htc in_r hown hK hP 0 rfl rfl 6 (by decide) (htc _ k_2_79) (fun _ h9 => h9) rfl d_r_event_327 ?_
                      refine lv_iload_n hx hb d_r_event_330 rfl (lv_at hl 2 rfl) ?_
                      refine nr_top (w := .int (nI (o ev - 1))) (congrArg Value.int (mI_p (by omega))) ?_
                      refine nr_iald hx hb hK hP 4 0 rfl rfl (by omega) (by decide) (v := (nI (rd (o ev - 1)))) ((pk_un (by omega)).trans (hr1 (o ev - 1) (by omega)).1) d_r_event_331 ?_
                      refine nr_top (w := .int (nI (pr rd (o ev)))) (congrArg Value.int (pr_p c_319)) ?_
                      exact k332 ls (fun q => c_294 q.1) (lv_sub hl [1, 2, 3, 4, 5] rfl)
                    · refine lv_iconst (v := (nI 0)) hx hb d_r_event_322 (by decide) ?_
                      refine lv_goto (tgt := 332) hx hb d_r_event_323 (by decide) ?_
                      refine nr_top (w := .int (nI (pr rd (o ev)))) (congrArg Value.int (pr_0 c_319)) ?_
                      exact k332 ls (fun q => c_294 q.1) (lv_sub hl [1, 2, 3, 4, 5] rfl)
                · refine lv_iload_n hx hb d_r_event_297 rfl (lv_at hl 2 rfl) ?_
                  refine nr_ifge_m (tgt := 304) hx hb (by omega) d_r_event_298 (by decide) (fun c_298 => ?_) (fun c_298 => ?_)
                  · refine lv_iload_n hx hb d_r_event_304 rfl (lv_at hl 3 rfl) ?_
                    refine nr_ifge_m (tgt := 312) hx hb (by omega) d_r_event_305 (by decide) (fun c_305 => ?_) (fun c_305 => ?_)
                    · refine lv_aload_n hx hb d_r_event_312 rfl (lv_at hl 5 rfl) ?_
                      refine va_get (D := D) (ci := 1) (v := .ref (ad 4)) (C := "SightGraphModel") (T := T_r) (N := 10) hx hb htc in_r hown hK hP 0 rfl rfl 6 (by decide) (htc _ k_2_79) (fun _ h9 => h9) rfl d_r_event_313 ?_
                      refine lv_iload_n hx hb d_r_event_316 rfl (lv_at hl 3 rfl) ?_
                      refine nr_top (w := .int (nI (s ev - 1))) (congrArg Value.int (mI_p (by omega))) ?_
                      refine nr_iald hx hb hK hP 4 0 rfl rfl (by omega) (by decide) (v := (nI (rd (s ev - 1)))) ((pk_un (by omega)).trans (hr1 (s ev - 1) (by omega)).1) d_r_event_317 ?_
                      refine nr_top (w := .int (nI (pr rd (s ev)))) (congrArg Value.int (pr_p c_305)) ?_
                      refine lv_iload_n hx hb d_r_event_318 rfl (lv_at hl 2 rfl) ?_
                      refine nr_ifge_m (tgt := 326) hx hb (by omega) d_r_event_319 (by decide) (fun c_319 => ?_) (fun c_319 => ?_)
                      · refine lv_aload_n hx hb d_r_event_326 rfl (lv_at hl 5 rfl) ?_
                        refine va_get (D := D) (ci := 1) (v := .ref (ad 4)) (C := "SightGraphModel") (T := T_r) (N := 10) hx hb htc in_r hown hK hP 0 rfl rfl 6 (by decide) (htc _ k_2_79) (fun _ h9 => h9) rfl d_r_event_327 ?_
                        refine lv_iload_n hx hb d_r_event_330 rfl (lv_at hl 2 rfl) ?_
                        refine nr_top (w := .int (nI (o ev - 1))) (congrArg Value.int (mI_p (by omega))) ?_
                        refine nr_iald hx hb hK hP 4 0 rfl rfl (by omega) (by decide) (v := (nI (rd (o ev - 1)))) ((pk_un (by omega)).trans (hr1 (o ev - 1) (by omega)).1) d_r_event_331 ?_
                        refine nr_top (w := .int (nI (pr rd (o ev)))) (congrArg Value.int (pr_p c_319)) ?_
                        exact k332 ls (fun q => c_298 q.2) (lv_sub hl [1, 2, 3, 4, 5] rfl)
                      · refine lv_iconst (v := (nI 0)) hx hb d_r_event_322 (by decide) ?_
                        refine lv_goto (tgt := 332) hx hb d_r_event_323 (by decide) ?_
                        refine nr_top (w := .int (nI (pr rd (o ev)))) (congrArg Value.int (pr_0 c_319)) ?_
                        exact k332 ls (fun q => c_298 q.2) (lv_sub hl [1, 2, 3, 4, 5] rfl)
                    · refine lv_iconst (v := (nI 0)) hx hb d_r_event_308 (by decide) ?_
                      refine lv_goto (tgt := 318) hx hb d_r_event_309 (by decide) ?_
                      refine nr_top (w := .int (nI (pr rd (s ev)))) (congrArg Value.int (pr_0 c_305)) ?_
                      refine lv_iload_n hx hb d_r_event_318 rfl (lv_at hl 2 rfl) ?_
                      refine nr_ifge_m (tgt := 326) hx hb (by omega) d_r_event_319 (by decide) (fun c_319 => ?_) (fun c_319 => ?_)
                      · refine lv_aload_n hx hb d_r_event_326 rfl (lv_at hl 5 rfl) ?_
                        refine va_get (D := D) (ci := 1) (v := .ref (ad 4)) (C := "SightGraphModel") (T := T_r) (N := 10) hx hb htc in_r hown hK hP 0 rfl rfl 6 (by decide) (htc _ k_2_79) (fun _ h9 => h9) rfl d_r_event_327 ?_
                        refine lv_iload_n hx hb d_r_event_330 rfl (lv_at hl 2 rfl) ?_
                        refine nr_top (w := .int (nI (o ev - 1))) (congrArg Value.int (mI_p (by omega))) ?_
                        refine nr_iald hx hb hK hP 4 0 rfl rfl (by omega) (by decide) (v := (nI (rd (o ev - 1)))) ((pk_un (by omega)).trans (hr1 (o ev - 1) (by omega)).1) d_r_event_331 ?_
                        refine nr_top (w := .int (nI (pr rd (o ev)))) (congrArg Value.int (pr_p c_319)) ?_
                        exact k332 ls (fun q => c_298 q.2) (lv_sub hl [1, 2, 3, 4, 5] rfl)
                      · refine lv_iconst (v := (nI 0)) hx hb d_r_event_322 (by decide) ?_
                        refine lv_goto (tgt := 332) hx hb d_r_event_323 (by decide) ?_
                        refine nr_top (w := .int (nI (pr rd (o ev)))) (congrArg Value.int (pr_0 c_319)) ?_
                        exact k332 ls (fun q => c_298 q.2) (lv_sub hl [1, 2, 3, 4, 5] rfl)
                  · refine lv_iload hx hb d_r_event_301 (lv_at hl 1 rfl) ?_
                    exact WI.iret hx hb hr hlocks hK hS d_r_event_303 (u.1, u.2.1, u.2.2.1, upd u.2.2.2.1 ev (nI 1), u.2.2.2.2.1, u.2.2.2.2.2.1, f) ⟨rfl, fun j hj => ⟨hc1 j hj, hs1 j hj, ho1 j hj, rev_r1 hr1 (by rw [hrd, show ro n an fk c s o rd ev = 1 from if_pos ⟨c_294, c_298⟩]) hrb j hj, ha1 j hj, hf1 j hj⟩⟩ hP hD
              · refine lv_aload_n hx hb d_r_event_187 rfl (lv_at hl 5 rfl) ?_
                refine lv_iload hx hb d_r_event_188 (lv_at hl 0 rfl) ?_
                refine lv_iload hx hb d_r_event_190 (lv_at hl 1 rfl) ?_
                refine PM.callV (rest := []) S (c_r_isAboveX l D cI cJ cZ ad 0 n (ev + 1) (u.1, u.2.1, u.2.2.1, u.2.2.2.1, u.2.2.2.2.1, u.2.2.2.2.2.1, f) ev (by omega) (an ev) (ha1 ev (by omega)) y (by omega)) k_2_134 k_2_136 k_s_23 k_1_2 k_2_137 h_r_isAbove ⟨Nat.le_of_ble_eq_true rfl, Nat.le_of_ble_eq_true rfl⟩ ⟨Nat.le_of_ble_eq_true rfl, Nat.le_of_ble_eq_true rfl⟩ hP hK 0 1 rfl rfl rfl hl.1 (Nat.le_of_ble_eq_true rfl) rfl d_r_event_192 ?_
                refine nr_ifne_b (tgt := 201) hx hb d_r_event_195 (by decide) (fun c_195 => ?_) (fun c_195 => ?_)
                · refine lv_iconst (v := (nI 0)) hx hb d_r_event_201 (by decide) ?_
                  refine lv_istore (lv' := [(6, .int (nI 0)), (5, .int (nI y)), (4, .int (nI ev)), (3, .int (mI (o ev))), (2, .int (mI (s ev))), (1, .int (nI (c ev))), (0, .ref (ad 0))]) hx hb d_r_event_202 hl (by decide) rfl (fun ls hl => ?_)
                  have loop3 : ∀ (d3 : Nat) (z : Nat) (f : Nat → Int32) (H : Heap) (locs : List Loc) (ls : Array Slot), y - z < d3 → va_P D cls (rL cI cZ ad 0 n (ev + 1) (u.1, u.2.1, u.2.2.1, u.2.2.2.1, u.2.2.2.2.1, u.2.2.2.2.2.1, f)) H → va_D A (rL cI cZ ad 0 n (ev + 1) (u.1, u.2.1, u.2.2.1, u.2.2.2.1, u.2.2.2.2.1, u.2.2.2.2.2.1, f)) → va_S A s9.heap H locs → z ≤ y → fR ev u.2.2.2.2.2.2 f (fun m => fo (an ev) ow c y m || ex z (fz (an ev) ow c m y)) 8 → lv_has ls 10 [(6, .int (nI z)), (5, .int (nI y)), (4, .int (nI ev)), (3, .int (mI (o ev))), (2, .int (mI (s ev))), (1, .int (nI (c ev))), (0, .ref (ad 0))] → W p9 l e9 ({ frames := 4, cells := 0, slots := 0, locals := 92 }) s9 m args below meth c9 H locs 0 0 (MQ below (va_Qi (S := RA) (fun v u => v = nI ev ∧ rC (ev + 1) u c s o an fk rd) (wB D (tys cI cJ cZ) (fun u => rL cI cZ ad 0 n (ev + 1) u) A) A) args s9 0 0 A) (F0 m 204 ls []) := by
                    intro d3
                    induction d3 with
                    | zero =>
                      intro z f H locs ls hd3 hP hD hS hz hfR hl
                      exact absurd hd3 (by omega)
                    | succ d3 ih3 =>
                      intro z f H locs ls hd3 hP hD hS hz hfR hl
                      refine lv_iload hx hb d_r_event_204 (lv_at hl 0 rfl) ?_
                      refine lv_iload hx hb d_r_event_206 (lv_at hl 1 rfl) ?_
                      refine nr_icmp_ge (tgt := 279) hx hb (by omega) (by omega) d_r_event_208 (by decide) (fun c_208 => ?_) (fun c_208 => ?_)
                      · refine lv_iinc (v := (nI (y + 1))) (lv' := [(5, .int (nI (y + 1))), (6, .int (nI z)), (4, .int (nI ev)), (3, .int (mI (o ev))), (2, .int (mI (s ev))), (1, .int (nI (c ev))), (0, .ref (ad 0))]) hx hb d_r_event_279 hl (k := 1) rfl (nI_add y 1) (by decide) rfl (fun ls hl => ?_)
                        refine lv_goto (tgt := 180) hx hb d_r_event_282 (by decide) ?_
                        exact ih2 (y + 1) f H locs ls (by omega) hP hD hS (by omega) (hfR.congr (fun m _ => by rw [fo_s, show z = y by omega])) (lv_sub hl [0, 2, 3, 4, 5, 6] rfl)
                      · have hzy : ow z y = false := by cases q : ow z y with | false => rfl | true => (have := hLw.ow_le z (by omega) y q; omega)
                        refine lv_aload_n hx hb d_r_event_211 rfl (lv_at hl 6 rfl) ?_
                        refine lv_iload hx hb d_r_event_212 (lv_at hl 0 rfl) ?_
                        refine lv_iload hx hb d_r_event_214 (lv_at hl 2 rfl) ?_
                        refine PM.callV (rest := []) S (c_r_isAboveX l D cI cJ cZ ad 0 n (ev + 1) (u.1, u.2.1, u.2.2.1, u.2.2.2.1, u.2.2.2.2.1, u.2.2.2.2.2.1, f) ev (by omega) (an ev) (ha1 ev (by omega)) z (by omega)) k_2_134 k_2_136 k_s_23 k_1_2 k_2_137 h_r_isAbove ⟨Nat.le_of_ble_eq_true rfl, Nat.le_of_ble_eq_true rfl⟩ ⟨Nat.le_of_ble_eq_true rfl, Nat.le_of_ble_eq_true rfl⟩ hP hK 0 1 rfl rfl rfl hl.1 (Nat.le_of_ble_eq_true rfl) rfl d_r_event_216 ?_
                        refine nr_ifeq_b (tgt := 273) hx hb d_r_event_219 (by decide) (fun c_219 => ?_) (fun c_219 => ?_)
                        · refine lv_iinc (v := (nI (z + 1))) (lv' := [(6, .int (nI (z + 1))), (5, .int (nI y)), (4, .int (nI ev)), (3, .int (mI (o ev))), (2, .int (mI (s ev))), (1, .int (nI (c ev))), (0, .ref (ad 0))]) hx hb d_r_event_273 hl (k := 0) rfl (nI_add z 1) (by decide) rfl (fun ls hl => ?_)
                          refine lv_goto (tgt := 204) hx hb d_r_event_276 (by decide) ?_
                          exact ih3 (z + 1) f H locs ls (by omega) hP hD hS (by omega) (hfR.congr (fun m _ => by rw [fz_s, fz_z c_219, Bool.or_false])) (lv_sub hl [0, 1, 2, 3, 4, 5, 6] rfl)
                        · have hcy := (hLw y (by omega)).1
                          refine lv_aload_n hx hb d_r_event_222 rfl (lv_at hl 6 rfl) ?_
                          refine va_get (D := D) (ci := 1) (v := .ref (ad 7)) (C := "SightGraphModel") (T := T_r) (N := 10) hx hb htc in_r hown hK hP 0 rfl rfl 9 (by decide) (htc _ k_2_82) (fun _ h9 => h9) rfl d_r_event_223 ?_
                          refine lv_bipush (v := (nI 8)) hx hb d_r_event_226 (by decide) ?_
                          refine lv_iload hx hb d_r_event_228 (lv_at hl 2 rfl) ?_
                          refine nr_imul hx hb d_r_event_230 ?_
                          refine lv_aload_n hx hb d_r_event_231 rfl (lv_at hl 6 rfl) ?_
                          refine va_get (D := D) (ci := 1) (v := .ref (ad 1)) (C := "SightGraphModel") (T := T_r) (N := 10) hx hb htc in_r hown hK hP 0 rfl rfl 3 (by decide) (htc _ k_2_76) (fun _ h9 => h9) rfl d_r_event_232 ?_
                          refine lv_iload hx hb d_r_event_235 (lv_at hl 1 rfl) ?_
                          refine nr_iald hx hb hK hP 1 0 rfl rfl (by omega) (by decide) (v := (nI (c y))) (hc1 y (by omega)) d_r_event_237 ?_
                          refine nr_iadd hx hb d_r_event_238 ?_
                          refine nr_zald hx hb hK hP 7 2 rfl rfl (by omega) (by decide) (v := (bI (fo (an ev) ow c y (c y) || ex z (fz (an ev) ow c (c y) y)))) (hfR.2 (c y) (by omega)) d_r_event_239 ?_
                          refine nr_ifne_b (tgt := 273) hx hb d_r_event_240 (by decide) (fun c_240 => ?_) (fun c_240 => ?_)
                          · refine lv_iinc (v := (nI (z + 1))) (lv' := [(6, .int (nI (z + 1))), (5, .int (nI y)), (4, .int (nI ev)), (3, .int (mI (o ev))), (2, .int (mI (s ev))), (1, .int (nI (c ev))), (0, .ref (ad 0))]) hx hb d_r_event_273 hl (k := 0) rfl (nI_add z 1) (by decide) rfl (fun ls hl => ?_)
                            refine lv_goto (tgt := 204) hx hb d_r_event_276 (by decide) ?_
                            exact ih3 (z + 1) f H locs ls (by omega) hP hD hS (by omega) (hfR.congr (fun m _ => fz_had c_240 m)) (lv_sub hl [0, 1, 2, 3, 4, 5, 6] rfl)
                          · refine lv_aload_n hx hb d_r_event_243 rfl (lv_at hl 6 rfl) ?_
                            refine lv_iload hx hb d_r_event_244 (lv_at hl 1 rfl) ?_
                            refine lv_iload hx hb d_r_event_246 (lv_at hl 0 rfl) ?_
                            refine PM.callV (rest := []) S (c_r_isFork l D cI cJ cZ ad 0 n (ev + 1) (u.1, u.2.1, u.2.2.1, u.2.2.2.1, u.2.2.2.2.1, u.2.2.2.2.2.1, f) (ev + 1) (by omega) c hc1 s hs1 ow (fun i hi => ⟨(hLw i hi).2.1, (hLw i hi).2.2.2.2.2.2⟩) (fun i hi => by have := (hLw i hi).1; omega) y z (by omega) (by omega)) k_2_138 k_2_140 k_s_24 k_1_2 k_2_141 h_r_isFork ⟨Nat.le_of_ble_eq_true rfl, Nat.le_of_ble_eq_true rfl⟩ ⟨Nat.le_of_ble_eq_true rfl, Nat.le_of_ble_eq_true rfl⟩ hP hK 0 1 rfl rfl rfl hl.1 (Nat.le_of_ble_eq_true rfl) rfl d_r_event_248 ?_
                            refine nr_ifeq_b (tgt := 273) hx hb d_r_event_251 (by decide) (fun c_251 => ?_) (fun c_251 => ?_)
                            · refine lv_iinc (v := (nI (z + 1))) (lv' := [(6, .int (nI (z + 1))), (5, .int (nI y)), (4, .int (nI ev)), (3, .int (mI (o ev))), (2, .int (mI (s ev))), (1, .int (nI (c ev))), (0, .ref (ad 0))]) hx hb d_r_event_273 hl (k := 0) rfl (nI_add z 1) (by decide) rfl (fun ls hl => ?_)
                              refine lv_goto (tgt := 204) hx hb d_r_event_276 (by decide) ?_
                              exact ih3 (z + 1) f H locs ls (by omega) hP hD hS (by omega) (hfR.congr (fun m _ => by rw [fz_s, fz_no hzy c_251, Bool.or_false])) (lv_sub hl [0, 1, 2, 3, 4, 5, 6] rfl)
                            · refine lv_aload_n hx hb d_r_event_254 rfl (lv_at hl 6 rfl) ?_
                              refine va_get (D := D) (ci := 1) (v := .ref (ad 7)) (C := "SightGraphModel") (T := T_r) (N := 10) hx hb htc in_r hown hK hP 0 rfl rfl 9 (by decide) (htc _ k_2_82) (fun _ h9 => h9) rfl d_r_event_255 ?_
                              refine lv_bipush (v := (nI 8)) hx hb d_r_event_258 (by decide) ?_
                              refine lv_iload hx hb d_r_event_260 (lv_at hl 2 rfl) ?_
                              refine nr_imul hx hb d_r_event_262 ?_
                              refine lv_aload_n hx hb d_r_event_263 rfl (lv_at hl 6 rfl) ?_
                              refine va_get (D := D) (ci := 1) (v := .ref (ad 1)) (C := "SightGraphModel") (T := T_r) (N := 10) hx hb htc in_r hown hK hP 0 rfl rfl 3 (by decide) (htc _ k_2_76) (fun _ h9 => h9) rfl d_r_event_264 ?_
                              refine lv_iload hx hb d_r_event_267 (lv_at hl 1 rfl) ?_
                              refine nr_iald hx hb hK hP 1 0 rfl rfl (by omega) (by decide) (v := (nI (c y))) (hc1 y (by omega)) d_r_event_269 ?_
                              refine nr_iadd hx hb d_r_event_270 ?_
                              refine lv_iconst (v := (nI 1)) hx hb d_r_event_271 (by decide) ?_
                              refine nr_top (w := .int (bI true)) rfl ?_
                              refine nr_zast hx hb hK hP hD hS 7 2 rfl rfl (by omega) (by decide) d_r_event_272 (fun H locs hP hD hS => ?_)
                              have hP : va_P D cls (rL cI cZ ad 0 n (ev + 1) (u.1, u.2.1, u.2.2.1, u.2.2.2.1, u.2.2.2.2.1, u.2.2.2.2.2.1, upd f ((8 * ev) + (c y)) (bI true))) H := hP
                              have hD : va_D A (rL cI cZ ad 0 n (ev + 1) (u.1, u.2.1, u.2.2.1, u.2.2.2.1, u.2.2.2.2.1, u.2.2.2.2.2.1, upd f ((8 * ev) + (c y)) (bI true))) := hD
                              refine lv_iinc (v := (nI (z + 1))) (lv' := [(6, .int (nI (z + 1))), (5, .int (nI y)), (4, .int (nI ev)), (3, .int (mI (o ev))), (2, .int (mI (s ev))), (1, .int (nI (c ev))), (0, .ref (ad 0))]) hx hb d_r_event_273 hl (k := 0) rfl (nI_add z 1) (by decide) rfl (fun ls hl => ?_)
                              refine lv_goto (tgt := 204) hx hb d_r_event_276 (by decide) ?_
                              exact ih3 (z + 1) _ H locs ls (by omega) hP hD hS (by omega) ((hfR.put (y := c y) (b := true) (by omega)).congr (fun m _ => fz_put c_195 c_219 c_251)) (lv_sub hl [0, 1, 2, 3, 4, 5, 6] rfl)
                  exact loop3 (y + 1) 0 f _ _ ls (by omega) hP hD hS (by omega) (hfR.congr (fun m _ => (Bool.or_false _).symm)) (lv_sub hl [0, 1, 2, 3, 4, 5, 6] rfl)
                · refine lv_goto (tgt := 279) hx hb d_r_event_198 (by decide) ?_
                  refine lv_iinc (v := (nI (y + 1))) (lv' := [(5, .int (nI (y + 1))), (4, .int (nI ev)), (3, .int (mI (o ev))), (2, .int (mI (s ev))), (1, .int (nI (c ev))), (0, .ref (ad 0))]) hx hb d_r_event_279 hl (k := 0) rfl (nI_add y 1) (by decide) rfl (fun ls hl => ?_)
                  refine lv_goto (tgt := 180) hx hb d_r_event_282 (by decide) ?_
                  exact ih2 (y + 1) f H locs ls (by omega) hP hD hS (by omega) (hfR.congr (fun m _ => by rw [fo_s, fz_y c_195, Bool.or_false])) (lv_sub hl [0, 1, 2, 3, 4, 5] rfl)
          exact loop2 (ev + 2) 0 f _ _ ls (by omega) hP hD hS (by omega) (by rw [show m9 = 8 by omega] at hfR; exact hfR) (lv_sub hl [0, 1, 2, 3, 4, 5] rfl)
        · refine lv_aload_n hx hb d_r_event_157 rfl (lv_at hl 5 rfl) ?_
          refine va_get (D := D) (ci := 1) (v := .ref (ad 7)) (C := "SightGraphModel") (T := T_r) (N := 10) hx hb htc in_r hown hK hP 0 rfl rfl 9 (by decide) (htc _ k_2_82) (fun _ h9 => h9) rfl d_r_event_158 ?_
          refine lv_bipush (v := (nI 8)) hx hb d_r_event_161 (by decide) ?_
          refine lv_iload hx hb d_r_event_163 (lv_at hl 1 rfl) ?_
          refine nr_imul hx hb d_r_event_165 ?_
          refine lv_iload hx hb d_r_event_166 (lv_at hl 0 rfl) ?_
          refine nr_iadd hx hb d_r_event_168 ?_
          refine lv_iconst (v := (nI 0)) hx hb d_r_event_169 (by decide) ?_
          refine nr_top (w := .int (bI false)) rfl ?_
          refine nr_zast hx hb hK hP hD hS 7 2 rfl rfl (by omega) (by decide) d_r_event_170 (fun H locs hP hD hS => ?_)
          have hP : va_P D cls (rL cI cZ ad 0 n (ev + 1) (u.1, u.2.1, u.2.2.1, u.2.2.2.1, u.2.2.2.2.1, u.2.2.2.2.2.1, upd f ((8 * ev) + m9) (bI false))) H := hP
          have hD : va_D A (rL cI cZ ad 0 n (ev + 1) (u.1, u.2.1, u.2.2.1, u.2.2.2.1, u.2.2.2.2.1, u.2.2.2.2.2.1, upd f ((8 * ev) + m9) (bI false))) := hD
          refine lv_iinc (v := (nI (m9 + 1))) (lv' := [(5, .int (nI (m9 + 1))), (4, .int (nI ev)), (3, .int (mI (o ev))), (2, .int (mI (s ev))), (1, .int (nI (c ev))), (0, .ref (ad 0))]) hx hb d_r_event_171 hl (k := 0) rfl (nI_add m9 1) (by decide) rfl (fun ls hl => ?_)
          refine lv_goto (tgt := 150) hx hb d_r_event_174 (by decide) ?_
          exact ih1 (m9 + 1) _ H locs ls (by omega) hP hD hS (by omega) (hfR.clr (by omega)) (lv_sub hl [0, 1, 2, 3, 4, 5] rfl)
    exact loop1 9 0 u.2.2.2.2.2.2 _ _ ls (by omega) hP hD hS (by omega) ⟨fun _ _ _ _ => rfl, fun _ h => by omega⟩ (lv_sub hl [0, 1, 2, 3, 4, 5] rfl)
  refine lv_aload_n hx hb d_r_event_0 rfl (lv_at hl 0 rfl) ?_
  refine lv_iconst (v := (nI 0)) hx hb d_r_event_1 (by decide) ?_
  refine va_put (D := D) (ci := 1) (v := .int (nI 0)) (ty := .int) (C := "SightGraphModel") (T := T_r) (N := 10) hx hb htc in_r t_r ft_r fn_r hown hK hP hD hS 0 rfl rfl 0 (by decide) (htc _ k_2_73) (fun _ h9 => h9) rfl (by decide +kernel) rfl rfl (Nat.le_of_ble_eq_true rfl) d_r_event_2 (fun H locs hP hD hS => ?_)
  have hP : va_P D cls (rL cI cZ ad (nI 0) n ev r) H := hP
  have hD : va_D A (rL cI cZ ad (nI 0) n ev r) := hD
  refine lv_aload_n hx hb d_r_event_5 rfl (lv_at hl 0 rfl) ?_
  refine lv_iload_n hx hb d_r_event_6 rfl (lv_at hl 1 rfl) ?_
  refine lv_i2l hx hb d_r_event_7 rfl ?_
  refine lv_lconst (v := 0) hx hb d_r_event_8 (by decide) ?_
  refine lv_aload_n hx hb d_r_event_9 rfl (lv_at hl 0 rfl) ?_
  refine va_get (D := D) (ci := 1) (v := .int (nI n)) (C := "SightGraphModel") (T := T_r) (N := 10) hx hb htc in_r hown hK hP 0 rfl rfl 1 (by decide) (htc _ k_2_74) (fun _ h9 => h9) rfl d_r_event_10 ?_
  refine lv_iconst (v := (nI 1)) hx hb d_r_event_13 (by decide) ?_
  refine lv_isub hx hb d_r_event_14 ?_
  refine lv_i2l hx hb d_r_event_15 rfl ?_
  refine PM.callS (rest := [.ref (ad 0)]) S (c_r_in l D cI cJ cZ ad (nI 0) n ev r ((nI (c ev)).toInt64) (0) ((nI n - nI 1).toInt64)) k_2_115 k_2_116 k_1_2 k_2_117 h_r_in ⟨Nat.le_of_ble_eq_true rfl, Nat.le_of_ble_eq_true rfl⟩ ⟨Nat.le_of_ble_eq_true rfl, Nat.le_of_ble_eq_true rfl⟩ hP hK hl.1 (Nat.le_of_ble_eq_true rfl) rfl d_r_event_16 ?_
  refine nr_ifeq_b (tgt := 68) hx hb d_r_event_19 (by decide) (fun q9 => absurd (show (decide ((0 : Int64) ≤ (nI (c ev)).toInt64 ∧ (nI (c ev)).toInt64 ≤ (nI n - nI 1).toInt64)) = true from by rw [iv_l (by omega)]; exact iv_t hcn (by omega)) (by rw [q9]; decide)) (fun q9 => ?_)
  refine lv_iload_n hx hb d_r_event_22 rfl (lv_at hl 2 rfl) ?_
  refine lv_iconst (v := (-1)) hx hb d_r_event_23 (by decide) ?_
  refine lv_icmp_eq (tgt := 45) hx hb d_r_event_24 (by decide) (fun c_24 => ?_) (fun c_24 => ?_)
  · refine lv_iload_n hx hb d_r_event_45 rfl (lv_at hl 3 rfl) ?_
    refine lv_iconst (v := (-1)) hx hb d_r_event_46 (by decide) ?_
    refine lv_icmp_eq (tgt := 72) hx hb d_r_event_47 (by decide) (fun c_47 => ?_) (fun c_47 => ?_)
    · refine lv_iconst (v := (nI 0)) hx hb d_r_event_72 (by decide) ?_
      refine nr_top (w := .int (bI false)) rfl ?_
      refine lv_iconst (v := (nI 1)) hx hb d_r_event_73 (by decide) ?_
      refine WI.callV (wr := []) (rest := []) S (c_r_fails l D cI cJ cZ ad n ev r false 1 (by decide) (by decide)) k_2_118 k_2_120 k_s_20 k_1_2 k_2_121 h_r_fails ⟨Nat.le_of_ble_eq_true rfl, Nat.le_of_ble_eq_true rfl⟩ ⟨Nat.le_of_ble_eq_true rfl, Nat.le_of_ble_eq_true rfl⟩ hP hK hD hS hA [0, 1, 2, 3, 4, 5, 6, 7] [] rfl rfl (by decide) (by decide) (by decide) 0 1 rfl rfl rfl hl.1 (Nat.le_of_ble_eq_true rfl) rfl d_r_event_74 (fun v9 u9 H locs hv9 hP hD hS => ?_)
      obtain rfl := hv9
      have hP : va_P D cls (rL cI cZ ad 0 n ev r) H := hP
      have hD : va_D A (rL cI cZ ad 0 n ev r) := hD
      refine nr_ifne_b (tgt := 102) hx hb d_r_event_77 (by decide) (fun q9 => nomatch q9) (fun q9 => ?_)
      refine lv_aload_n hx hb d_r_event_80 rfl (lv_at hl 0 rfl) ?_
      refine lv_aload_n hx hb d_r_event_81 rfl (lv_at hl 0 rfl) ?_
      refine va_get (D := D) (ci := 1) (v := .int (nI ev)) (C := "SightGraphModel") (T := T_r) (N := 10) hx hb htc in_r hown hK hP 0 rfl rfl 2 (by decide) (htc _ k_2_75) (fun _ h9 => h9) rfl d_r_event_82 ?_
      refine lv_bipush (v := (nI 120)) hx hb d_r_event_85 (by decide) ?_
      refine nr_icmp_ne (tgt := 94) hx hb (by omega) (by omega) d_r_event_87 (by decide) (fun c_87 => ?_) (fun c_87 => ?_)
      · refine lv_iconst (v := (nI 0)) hx hb d_r_event_94 (by decide) ?_
        refine nr_top (w := .int (bI false)) rfl ?_
        refine lv_iconst (v := (nI 2)) hx hb d_r_event_95 (by decide) ?_
        refine WI.callV (wr := []) (rest := []) S (c_r_fails l D cI cJ cZ ad n ev r false 2 (by decide) (by decide)) k_2_118 k_2_120 k_s_20 k_1_2 k_2_121 h_r_fails ⟨Nat.le_of_ble_eq_true rfl, Nat.le_of_ble_eq_true rfl⟩ ⟨Nat.le_of_ble_eq_true rfl, Nat.le_of_ble_eq_true rfl⟩ hP hK hD hS hA [0, 1, 2, 3, 4, 5, 6, 7] [] rfl rfl (by decide) (by decide) (by decide) 0 1 rfl rfl rfl hl.1 (Nat.le_of_ble_eq_true rfl) rfl d_r_event_96 (fun v9 u9 H locs hv9 hP hD hS => ?_)
        obtain rfl := hv9
        have hP : va_P D cls (rL cI cZ ad 0 n ev r) H := hP
        have hD : va_D A (rL cI cZ ad 0 n ev r) := hD
        refine nr_ifeq_b (tgt := 104) hx hb d_r_event_99 (by decide) (fun q9 => ?_) (fun q9 => nomatch q9)
        exact k104 H locs ls hP hD hS (lv_sub hl [3, 2, 1, 0] rfl)
      · exact absurd c_87 (by omega)
    · have ho0 : o ev ≠ 0 := fun q => c_47 (by rw [q]; rfl)
      have hco := (hLw (o ev - 1) (by omega)).1
      refine lv_aload_n hx hb d_r_event_50 rfl (lv_at hl 0 rfl) ?_
      refine lv_iload_n hx hb d_r_event_51 rfl (lv_at hl 3 rfl) ?_
      refine PM.callV (rest := [.ref (ad 0)]) S (c_r_isEvent l D cI cJ cZ ad (nI 0) n ev r (by omega) (mI (o ev))) k_2_126 k_2_128 k_s_21 k_1_2 k_2_129 h_r_isEvent ⟨Nat.le_of_ble_eq_true rfl, Nat.le_of_ble_eq_true rfl⟩ ⟨Nat.le_of_ble_eq_true rfl, Nat.le_of_ble_eq_true rfl⟩ hP hK 0 1 rfl rfl rfl hl.1 (Nat.le_of_ble_eq_true rfl) rfl d_r_event_52 ?_
      refine nr_ifeq_b (tgt := 68) hx hb d_r_event_55 (by decide) (fun q9 => absurd (show (iv ev (mI (o ev))) = true from iv_m (fun q => c_47 (by rw [q]; rfl)) hov (by omega)) (by rw [q9]; decide)) (fun q9 => ?_)
      refine lv_aload_n hx hb d_r_event_58 rfl (lv_at hl 0 rfl) ?_
      refine va_get (D := D) (ci := 1) (v := .ref (ad 1)) (C := "SightGraphModel") (T := T_r) (N := 10) hx hb htc in_r hown hK hP 0 rfl rfl 3 (by decide) (htc _ k_2_76) (fun _ h9 => h9) rfl d_r_event_59 ?_
      refine lv_iload_n hx hb d_r_event_62 rfl (lv_at hl 3 rfl) ?_
      refine nr_top (w := .int (nI (o ev - 1))) (congrArg Value.int (mI_p (by omega))) ?_
      refine nr_iald hx hb hK hP 1 0 rfl rfl (by omega) (by decide) (v := (nI (c (o ev - 1)))) (hC (o ev - 1) (by omega)).1 d_r_event_63 ?_
      refine lv_iload_n hx hb d_r_event_64 rfl (lv_at hl 1 rfl) ?_
      refine nr_icmp_ne (tgt := 72) hx hb (by omega) (by omega) d_r_event_65 (by decide) (fun c_65 => ?_) (fun c_65 => ?_)
      · refine lv_iconst (v := (nI 0)) hx hb d_r_event_72 (by decide) ?_
        refine nr_top (w := .int (bI false)) rfl ?_
        refine lv_iconst (v := (nI 1)) hx hb d_r_event_73 (by decide) ?_
        refine WI.callV (wr := []) (rest := []) S (c_r_fails l D cI cJ cZ ad n ev r false 1 (by decide) (by decide)) k_2_118 k_2_120 k_s_20 k_1_2 k_2_121 h_r_fails ⟨Nat.le_of_ble_eq_true rfl, Nat.le_of_ble_eq_true rfl⟩ ⟨Nat.le_of_ble_eq_true rfl, Nat.le_of_ble_eq_true rfl⟩ hP hK hD hS hA [0, 1, 2, 3, 4, 5, 6, 7] [] rfl rfl (by decide) (by decide) (by decide) 0 1 rfl rfl rfl hl.1 (Nat.le_of_ble_eq_true rfl) rfl d_r_event_74 (fun v9 u9 H locs hv9 hP hD hS => ?_)
        obtain rfl := hv9
        have hP : va_P D cls (rL cI cZ ad 0 n ev r) H := hP
        have hD : va_D A (rL cI cZ ad 0 n ev r) := hD
        refine nr_ifne_b (tgt := 102) hx hb d_r_event_77 (by decide) (fun q9 => nomatch q9) (fun q9 => ?_)
        refine lv_aload_n hx hb d_r_event_80 rfl (lv_at hl 0 rfl) ?_
        refine lv_aload_n hx hb d_r_event_81 rfl (lv_at hl 0 rfl) ?_
        refine va_get (D := D) (ci := 1) (v := .int (nI ev)) (C := "SightGraphModel") (T := T_r) (N := 10) hx hb htc in_r hown hK hP 0 rfl rfl 2 (by decide) (htc _ k_2_75) (fun _ h9 => h9) rfl d_r_event_82 ?_
        refine lv_bipush (v := (nI 120)) hx hb d_r_event_85 (by decide) ?_
        refine nr_icmp_ne (tgt := 94) hx hb (by omega) (by omega) d_r_event_87 (by decide) (fun c_87 => ?_) (fun c_87 => ?_)
        · refine lv_iconst (v := (nI 0)) hx hb d_r_event_94 (by decide) ?_
          refine nr_top (w := .int (bI false)) rfl ?_
          refine lv_iconst (v := (nI 2)) hx hb d_r_event_95 (by decide) ?_
          refine WI.callV (wr := []) (rest := []) S (c_r_fails l D cI cJ cZ ad n ev r false 2 (by decide) (by decide)) k_2_118 k_2_120 k_s_20 k_1_2 k_2_121 h_r_fails ⟨Nat.le_of_ble_eq_true rfl, Nat.le_of_ble_eq_true rfl⟩ ⟨Nat.le_of_ble_eq_true rfl, Nat.le_of_ble_eq_true rfl⟩ hP hK hD hS hA [0, 1, 2, 3, 4, 5, 6, 7] [] rfl rfl (by decide) (by decide) (by decide) 0 1 rfl rfl rfl hl.1 (Nat.le_of_ble_eq_true rfl) rfl d_r_event_96 (fun v9 u9 H locs hv9 hP hD hS => ?_)
          obtain rfl := hv9
          have hP : va_P D cls (rL cI cZ ad 0 n ev r) H := hP
          have hD : va_D A (rL cI cZ ad 0 n ev r) := hD
          refine nr_ifeq_b (tgt := 104) hx hb d_r_event_99 (by decide) (fun q9 => ?_) (fun q9 => nomatch q9)
          exact k104 H locs ls hP hD hS (lv_sub hl [3, 2, 1, 0] rfl)
        · exact absurd c_87 (by omega)
      · exact absurd c_65 (hLx.2.2.2.2.1 (fun q => c_47 (by rw [q]; rfl)))
  · have hs0 : s ev ≠ 0 := fun q => c_24 (by rw [q]; rfl)
    have hcs := (hLw (s ev - 1) (by omega)).1
    refine lv_aload_n hx hb d_r_event_27 rfl (lv_at hl 0 rfl) ?_
    refine lv_iload_n hx hb d_r_event_28 rfl (lv_at hl 2 rfl) ?_
    refine PM.callV (rest := [.ref (ad 0)]) S (c_r_isEvent l D cI cJ cZ ad (nI 0) n ev r (by omega) (mI (s ev))) k_2_126 k_2_128 k_s_21 k_1_2 k_2_129 h_r_isEvent ⟨Nat.le_of_ble_eq_true rfl, Nat.le_of_ble_eq_true rfl⟩ ⟨Nat.le_of_ble_eq_true rfl, Nat.le_of_ble_eq_true rfl⟩ hP hK 0 1 rfl rfl rfl hl.1 (Nat.le_of_ble_eq_true rfl) rfl d_r_event_29 ?_
    refine nr_ifeq_b (tgt := 68) hx hb d_r_event_32 (by decide) (fun q9 => absurd (show (iv ev (mI (s ev))) = true from iv_m (fun q => c_24 (by rw [q]; rfl)) hsv (by omega)) (by rw [q9]; decide)) (fun q9 => ?_)
    refine lv_aload_n hx hb d_r_event_35 rfl (lv_at hl 0 rfl) ?_
    refine va_get (D := D) (ci := 1) (v := .ref (ad 1)) (C := "SightGraphModel") (T := T_r) (N := 10) hx hb htc in_r hown hK hP 0 rfl rfl 3 (by decide) (htc _ k_2_76) (fun _ h9 => h9) rfl d_r_event_36 ?_
    refine lv_iload_n hx hb d_r_event_39 rfl (lv_at hl 2 rfl) ?_
    refine nr_top (w := .int (nI (s ev - 1))) (congrArg Value.int (mI_p (by omega))) ?_
    refine nr_iald hx hb hK hP 1 0 rfl rfl (by omega) (by decide) (v := (nI (c (s ev - 1)))) (hC (s ev - 1) (by omega)).1 d_r_event_40 ?_
    refine lv_iload_n hx hb d_r_event_41 rfl (lv_at hl 1 rfl) ?_
    refine nr_icmp_ne (tgt := 68) hx hb (by omega) (by omega) d_r_event_42 (by decide) (fun c_42 => ?_) (fun c_42 => ?_)
    · exact absurd (hLx.2.2.2.1 (fun q => c_24 (by rw [q]; rfl))) c_42
    · refine lv_iload_n hx hb d_r_event_45 rfl (lv_at hl 3 rfl) ?_
      refine lv_iconst (v := (-1)) hx hb d_r_event_46 (by decide) ?_
      refine lv_icmp_eq (tgt := 72) hx hb d_r_event_47 (by decide) (fun c_47 => ?_) (fun c_47 => ?_)
      · refine lv_iconst (v := (nI 0)) hx hb d_r_event_72 (by decide) ?_
        refine nr_top (w := .int (bI false)) rfl ?_
        refine lv_iconst (v := (nI 1)) hx hb d_r_event_73 (by decide) ?_
        refine WI.callV (wr := []) (rest := []) S (c_r_fails l D cI cJ cZ ad n ev r false 1 (by decide) (by decide)) k_2_118 k_2_120 k_s_20 k_1_2 k_2_121 h_r_fails ⟨Nat.le_of_ble_eq_true rfl, Nat.le_of_ble_eq_true rfl⟩ ⟨Nat.le_of_ble_eq_true rfl, Nat.le_of_ble_eq_true rfl⟩ hP hK hD hS hA [0, 1, 2, 3, 4, 5, 6, 7] [] rfl rfl (by decide) (by decide) (by decide) 0 1 rfl rfl rfl hl.1 (Nat.le_of_ble_eq_true rfl) rfl d_r_event_74 (fun v9 u9 H locs hv9 hP hD hS => ?_)
        obtain rfl := hv9
        have hP : va_P D cls (rL cI cZ ad 0 n ev r) H := hP
        have hD : va_D A (rL cI cZ ad 0 n ev r) := hD
        refine nr_ifne_b (tgt := 102) hx hb d_r_event_77 (by decide) (fun q9 => nomatch q9) (fun q9 => ?_)
        refine lv_aload_n hx hb d_r_event_80 rfl (lv_at hl 0 rfl) ?_
        refine lv_aload_n hx hb d_r_event_81 rfl (lv_at hl 0 rfl) ?_
        refine va_get (D := D) (ci := 1) (v := .int (nI ev)) (C := "SightGraphModel") (T := T_r) (N := 10) hx hb htc in_r hown hK hP 0 rfl rfl 2 (by decide) (htc _ k_2_75) (fun _ h9 => h9) rfl d_r_event_82 ?_
        refine lv_bipush (v := (nI 120)) hx hb d_r_event_85 (by decide) ?_
        refine nr_icmp_ne (tgt := 94) hx hb (by omega) (by omega) d_r_event_87 (by decide) (fun c_87 => ?_) (fun c_87 => ?_)
        · refine lv_iconst (v := (nI 0)) hx hb d_r_event_94 (by decide) ?_
          refine nr_top (w := .int (bI false)) rfl ?_
          refine lv_iconst (v := (nI 2)) hx hb d_r_event_95 (by decide) ?_
          refine WI.callV (wr := []) (rest := []) S (c_r_fails l D cI cJ cZ ad n ev r false 2 (by decide) (by decide)) k_2_118 k_2_120 k_s_20 k_1_2 k_2_121 h_r_fails ⟨Nat.le_of_ble_eq_true rfl, Nat.le_of_ble_eq_true rfl⟩ ⟨Nat.le_of_ble_eq_true rfl, Nat.le_of_ble_eq_true rfl⟩ hP hK hD hS hA [0, 1, 2, 3, 4, 5, 6, 7] [] rfl rfl (by decide) (by decide) (by decide) 0 1 rfl rfl rfl hl.1 (Nat.le_of_ble_eq_true rfl) rfl d_r_event_96 (fun v9 u9 H locs hv9 hP hD hS => ?_)
          obtain rfl := hv9
          have hP : va_P D cls (rL cI cZ ad 0 n ev r) H := hP
          have hD : va_D A (rL cI cZ ad 0 n ev r) := hD
          refine nr_ifeq_b (tgt := 104) hx hb d_r_event_99 (by decide) (fun q9 => ?_) (fun q9 => nomatch q9)
          exact k104 H locs ls hP hD hS (lv_sub hl [3, 2, 1, 0] rfl)
        · exact absurd c_87 (by omega)
      · have ho0 : o ev ≠ 0 := fun q => c_47 (by rw [q]; rfl)
        have hco := (hLw (o ev - 1) (by omega)).1
        refine lv_aload_n hx hb d_r_event_50 rfl (lv_at hl 0 rfl) ?_
        refine lv_iload_n hx hb d_r_event_51 rfl (lv_at hl 3 rfl) ?_
        refine PM.callV (rest := [.ref (ad 0)]) S (c_r_isEvent l D cI cJ cZ ad (nI 0) n ev r (by omega) (mI (o ev))) k_2_126 k_2_128 k_s_21 k_1_2 k_2_129 h_r_isEvent ⟨Nat.le_of_ble_eq_true rfl, Nat.le_of_ble_eq_true rfl⟩ ⟨Nat.le_of_ble_eq_true rfl, Nat.le_of_ble_eq_true rfl⟩ hP hK 0 1 rfl rfl rfl hl.1 (Nat.le_of_ble_eq_true rfl) rfl d_r_event_52 ?_
        refine nr_ifeq_b (tgt := 68) hx hb d_r_event_55 (by decide) (fun q9 => absurd (show (iv ev (mI (o ev))) = true from iv_m (fun q => c_47 (by rw [q]; rfl)) hov (by omega)) (by rw [q9]; decide)) (fun q9 => ?_)
        refine lv_aload_n hx hb d_r_event_58 rfl (lv_at hl 0 rfl) ?_
        refine va_get (D := D) (ci := 1) (v := .ref (ad 1)) (C := "SightGraphModel") (T := T_r) (N := 10) hx hb htc in_r hown hK hP 0 rfl rfl 3 (by decide) (htc _ k_2_76) (fun _ h9 => h9) rfl d_r_event_59 ?_
        refine lv_iload_n hx hb d_r_event_62 rfl (lv_at hl 3 rfl) ?_
        refine nr_top (w := .int (nI (o ev - 1))) (congrArg Value.int (mI_p (by omega))) ?_
        refine nr_iald hx hb hK hP 1 0 rfl rfl (by omega) (by decide) (v := (nI (c (o ev - 1)))) (hC (o ev - 1) (by omega)).1 d_r_event_63 ?_
        refine lv_iload_n hx hb d_r_event_64 rfl (lv_at hl 1 rfl) ?_
        refine nr_icmp_ne (tgt := 72) hx hb (by omega) (by omega) d_r_event_65 (by decide) (fun c_65 => ?_) (fun c_65 => ?_)
        · refine lv_iconst (v := (nI 0)) hx hb d_r_event_72 (by decide) ?_
          refine nr_top (w := .int (bI false)) rfl ?_
          refine lv_iconst (v := (nI 1)) hx hb d_r_event_73 (by decide) ?_
          refine WI.callV (wr := []) (rest := []) S (c_r_fails l D cI cJ cZ ad n ev r false 1 (by decide) (by decide)) k_2_118 k_2_120 k_s_20 k_1_2 k_2_121 h_r_fails ⟨Nat.le_of_ble_eq_true rfl, Nat.le_of_ble_eq_true rfl⟩ ⟨Nat.le_of_ble_eq_true rfl, Nat.le_of_ble_eq_true rfl⟩ hP hK hD hS hA [0, 1, 2, 3, 4, 5, 6, 7] [] rfl rfl (by decide) (by decide) (by decide) 0 1 rfl rfl rfl hl.1 (Nat.le_of_ble_eq_true rfl) rfl d_r_event_74 (fun v9 u9 H locs hv9 hP hD hS => ?_)
          obtain rfl := hv9
          have hP : va_P D cls (rL cI cZ ad 0 n ev r) H := hP
          have hD : va_D A (rL cI cZ ad 0 n ev r) := hD
          refine nr_ifne_b (tgt := 102) hx hb d_r_event_77 (by decide) (fun q9 => nomatch q9) (fun q9 => ?_)
          refine lv_aload_n hx hb d_r_event_80 rfl (lv_at hl 0 rfl) ?_
          refine lv_aload_n hx hb d_r_event_81 rfl (lv_at hl 0 rfl) ?_
          refine va_get (D := D) (ci := 1) (v := .int (nI ev)) (C := "SightGraphModel") (T := T_r) (N := 10) hx hb htc in_r hown hK hP 0 rfl rfl 2 (by decide) (htc _ k_2_75) (fun _ h9 => h9) rfl d_r_event_82 ?_
          refine lv_bipush (v := (nI 120)) hx hb d_r_event_85 (by decide) ?_
          refine nr_icmp_ne (tgt := 94) hx hb (by omega) (by omega) d_r_event_87 (by decide) (fun c_87 => ?_) (fun c_87 => ?_)
          · refine lv_iconst (v := (nI 0)) hx hb d_r_event_94 (by decide) ?_
            refine nr_top (w := .int (bI false)) rfl ?_
            refine lv_iconst (v := (nI 2)) hx hb d_r_event_95 (by decide) ?_
            refine WI.callV (wr := []) (rest := []) S (c_r_fails l D cI cJ cZ ad n ev r false 2 (by decide) (by decide)) k_2_118 k_2_120 k_s_20 k_1_2 k_2_121 h_r_fails ⟨Nat.le_of_ble_eq_true rfl, Nat.le_of_ble_eq_true rfl⟩ ⟨Nat.le_of_ble_eq_true rfl, Nat.le_of_ble_eq_true rfl⟩ hP hK hD hS hA [0, 1, 2, 3, 4, 5, 6, 7] [] rfl rfl (by decide) (by decide) (by decide) 0 1 rfl rfl rfl hl.1 (Nat.le_of_ble_eq_true rfl) rfl d_r_event_96 (fun v9 u9 H locs hv9 hP hD hS => ?_)
            obtain rfl := hv9
            have hP : va_P D cls (rL cI cZ ad 0 n ev r) H := hP
            have hD : va_D A (rL cI cZ ad 0 n ev r) := hD
            refine nr_ifeq_b (tgt := 104) hx hb d_r_event_99 (by decide) (fun q9 => ?_) (fun q9 => nomatch q9)
            exact k104 H locs ls hP hD hS (lv_sub hl [3, 2, 1, 0] rfl)
          · exact absurd c_87 (by omega)
        · exact absurd c_65 (hLx.2.2.2.2.1 (fun q => c_47 (by rw [q]; rfl)))
set_option maxHeartbeats 4000000 in
set_option maxRecDepth 100000 in
theorem c_r_event_x1 (l : Launch) (D : va_G) (cI cJ cZ : ClassId) (ad : Nat → Nat) (er : Int32) (n ev : Nat) (r : RA) (hev : ev ≤ 120) (hn : n ≤ 8) (x a b : Int32) (hx1 : iv n x = false) : WI (S := Unit) l D (tys cI cJ cZ) (rL cI cZ ad er n ev r) (fun _ => rL cI cZ ad (nI 1) n ev r) (fun _ _ => True) y_r_event b_r_event 10 (some .int) 2 50 [.ref (ad 0), .int x, .int a, .int b] := by
  refine WI.of (by decide) (Nat.le_of_ble_eq_true rfl) ?_
  intro p9 e9 s9 m args below meth c9 ls A S hr hlocks hA hP hK hD hl
  obtain ⟨hx, hb, hml, hown, htc⟩ := id S
  have hS : va_S A s9.heap s9.heap [] := va_S.rf
  have hl : lv_has ls 10 [(0, .ref (ad 0)), (1, .int x), (2, .int a), (3, .int b)] := hl
  refine lv_aload_n hx hb d_r_event_0 rfl (lv_at hl 0 rfl) ?_
  refine lv_iconst (v := (nI 0)) hx hb d_r_event_1 (by decide) ?_
  refine va_put (D := D) (ci := 1) (v := .int (nI 0)) (ty := .int) (C := "SightGraphModel") (T := T_r) (N := 10) hx hb htc in_r t_r ft_r fn_r hown hK hP hD hS 0 rfl rfl 0 (by decide) (htc _ k_2_73) (fun _ h9 => h9) rfl (by decide +kernel) rfl rfl (Nat.le_of_ble_eq_true rfl) d_r_event_2 (fun H locs hP hD hS => ?_)
  have hP : va_P D cls (rL cI cZ ad (nI 0) n ev r) H := hP
  have hD : va_D A (rL cI cZ ad (nI 0) n ev r) := hD
  refine lv_aload_n hx hb d_r_event_5 rfl (lv_at hl 0 rfl) ?_
  refine lv_iload_n hx hb d_r_event_6 rfl (lv_at hl 1 rfl) ?_
  refine lv_i2l hx hb d_r_event_7 rfl ?_
  refine lv_lconst (v := 0) hx hb d_r_event_8 (by decide) ?_
  refine lv_aload_n hx hb d_r_event_9 rfl (lv_at hl 0 rfl) ?_
  refine va_get (D := D) (ci := 1) (v := .int (nI n)) (C := "SightGraphModel") (T := T_r) (N := 10) hx hb htc in_r hown hK hP 0 rfl rfl 1 (by decide) (htc _ k_2_74) (fun _ h9 => h9) rfl d_r_event_10 ?_
  refine lv_iconst (v := (nI 1)) hx hb d_r_event_13 (by decide) ?_
  refine lv_isub hx hb d_r_event_14 ?_
  refine lv_i2l hx hb d_r_event_15 rfl ?_
  refine PM.callS (rest := [.ref (ad 0)]) S (c_r_in l D cI cJ cZ ad (nI 0) n ev r (x.toInt64) (0) ((nI n - nI 1).toInt64)) k_2_115 k_2_116 k_1_2 k_2_117 h_r_in ⟨Nat.le_of_ble_eq_true rfl, Nat.le_of_ble_eq_true rfl⟩ ⟨Nat.le_of_ble_eq_true rfl, Nat.le_of_ble_eq_true rfl⟩ hP hK hl.1 (Nat.le_of_ble_eq_true rfl) rfl d_r_event_16 ?_
  refine nr_ifeq_b (tgt := 68) hx hb d_r_event_19 (by decide) (fun q9 => ?_) (fun q9 => absurd (show (decide ((0 : Int64) ≤ x.toInt64 ∧ x.toInt64 ≤ (nI n - nI 1).toInt64)) = false from by rw [iv_l (by omega)]; exact hx1) (by rw [q9]; decide))
  refine lv_iconst (v := (nI 1)) hx hb d_r_event_68 (by decide) ?_
  refine lv_goto (tgt := 73) hx hb d_r_event_69 (by decide) ?_
  refine nr_top (w := .int (bI true)) rfl ?_
  refine lv_iconst (v := (nI 1)) hx hb d_r_event_73 (by decide) ?_
  refine WI.callV (wr := []) (rest := []) S (c_r_fails l D cI cJ cZ ad n ev r true 1 (by decide) (by decide)) k_2_118 k_2_120 k_s_20 k_1_2 k_2_121 h_r_fails ⟨Nat.le_of_ble_eq_true rfl, Nat.le_of_ble_eq_true rfl⟩ ⟨Nat.le_of_ble_eq_true rfl, Nat.le_of_ble_eq_true rfl⟩ hP hK hD hS hA [0, 1, 2, 3, 4, 5, 6, 7] [] rfl rfl (by decide) (by decide) (by decide) 0 1 rfl rfl rfl hl.1 (Nat.le_of_ble_eq_true rfl) rfl d_r_event_74 (fun v9 u9 H locs hv9 hP hD hS => ?_)
  obtain rfl := hv9
  have hP : va_P D cls (rL cI cZ ad (nI 1) n ev r) H := hP
  have hD : va_D A (rL cI cZ ad (nI 1) n ev r) := hD
  refine nr_ifne_b (tgt := 102) hx hb d_r_event_77 (by decide) (fun q9 => ?_) (fun q9 => nomatch q9)
  refine lv_iconst (v := (nI 0)) hx hb d_r_event_102 (by decide) ?_
  exact WI.iret hx hb hr hlocks hK hS d_r_event_103 () trivial hP hD
set_option maxHeartbeats 4000000 in
set_option maxRecDepth 100000 in
theorem c_r_event_x2 (l : Launch) (D : va_G) (cI cJ cZ : ClassId) (ad : Nat → Nat) (er : Int32) (n ev : Nat) (r : RA) (hev : ev ≤ 120) (c : Nat → Nat) (hc : ∀ j, j < ev → r.1 j = nI (c j)) (hc8 : ∀ j, j < ev → c j < 8) (hn : n ≤ 8) (nd : Nat) (hnd : nd < n) (a b : Int32) (h1 : okS ev c nd a = false) : WI (S := Unit) l D (tys cI cJ cZ) (rL cI cZ ad er n ev r) (fun _ => rL cI cZ ad (nI 1) n ev r) (fun _ _ => True) y_r_event b_r_event 10 (some .int) 2 50 [.ref (ad 0), .int (nI nd), .int a, .int b] := by
  refine WI.of (by decide) (Nat.le_of_ble_eq_true rfl) ?_
  intro p9 e9 s9 m args below meth c9 ls A S hr hlocks hA hP hK hD hl
  obtain ⟨hx, hb, hml, hown, htc⟩ := id S
  have hS : va_S A s9.heap s9.heap [] := va_S.rf
  have hl : lv_has ls 10 [(0, .ref (ad 0)), (1, .int (nI nd)), (2, .int a), (3, .int b)] := hl
  refine lv_aload_n hx hb d_r_event_0 rfl (lv_at hl 0 rfl) ?_
  refine lv_iconst (v := (nI 0)) hx hb d_r_event_1 (by decide) ?_
  refine va_put (D := D) (ci := 1) (v := .int (nI 0)) (ty := .int) (C := "SightGraphModel") (T := T_r) (N := 10) hx hb htc in_r t_r ft_r fn_r hown hK hP hD hS 0 rfl rfl 0 (by decide) (htc _ k_2_73) (fun _ h9 => h9) rfl (by decide +kernel) rfl rfl (Nat.le_of_ble_eq_true rfl) d_r_event_2 (fun H locs hP hD hS => ?_)
  have hP : va_P D cls (rL cI cZ ad (nI 0) n ev r) H := hP
  have hD : va_D A (rL cI cZ ad (nI 0) n ev r) := hD
  refine lv_aload_n hx hb d_r_event_5 rfl (lv_at hl 0 rfl) ?_
  refine lv_iload_n hx hb d_r_event_6 rfl (lv_at hl 1 rfl) ?_
  refine lv_i2l hx hb d_r_event_7 rfl ?_
  refine lv_lconst (v := 0) hx hb d_r_event_8 (by decide) ?_
  refine lv_aload_n hx hb d_r_event_9 rfl (lv_at hl 0 rfl) ?_
  refine va_get (D := D) (ci := 1) (v := .int (nI n)) (C := "SightGraphModel") (T := T_r) (N := 10) hx hb htc in_r hown hK hP 0 rfl rfl 1 (by decide) (htc _ k_2_74) (fun _ h9 => h9) rfl d_r_event_10 ?_
  refine lv_iconst (v := (nI 1)) hx hb d_r_event_13 (by decide) ?_
  refine lv_isub hx hb d_r_event_14 ?_
  refine lv_i2l hx hb d_r_event_15 rfl ?_
  refine PM.callS (rest := [.ref (ad 0)]) S (c_r_in l D cI cJ cZ ad (nI 0) n ev r ((nI nd).toInt64) (0) ((nI n - nI 1).toInt64)) k_2_115 k_2_116 k_1_2 k_2_117 h_r_in ⟨Nat.le_of_ble_eq_true rfl, Nat.le_of_ble_eq_true rfl⟩ ⟨Nat.le_of_ble_eq_true rfl, Nat.le_of_ble_eq_true rfl⟩ hP hK hl.1 (Nat.le_of_ble_eq_true rfl) rfl d_r_event_16 ?_
  refine nr_ifeq_b (tgt := 68) hx hb d_r_event_19 (by decide) (fun q9 => absurd (show (decide ((0 : Int64) ≤ (nI nd).toInt64 ∧ (nI nd).toInt64 ≤ (nI n - nI 1).toInt64)) = true from by rw [iv_l (by omega)]; exact iv_t hnd (by omega)) (by rw [q9]; decide)) (fun q9 => ?_)
  refine lv_iload_n hx hb d_r_event_22 rfl (lv_at hl 2 rfl) ?_
  refine lv_iconst (v := (-1)) hx hb d_r_event_23 (by decide) ?_
  refine lv_icmp_eq (tgt := 45) hx hb d_r_event_24 (by decide) (fun c_24 => ?_) (fun c_24 => ?_)
  · exact absurd (show okS ev c nd a = true from by unfold okS; rw [decide_eq_true c_24]; rfl) (by rw [h1]; decide)
  · refine lv_aload_n hx hb d_r_event_27 rfl (lv_at hl 0 rfl) ?_
    refine lv_iload_n hx hb d_r_event_28 rfl (lv_at hl 2 rfl) ?_
    refine PM.callV (rest := [.ref (ad 0)]) S (c_r_isEvent l D cI cJ cZ ad (nI 0) n ev r (by omega) (a)) k_2_126 k_2_128 k_s_21 k_1_2 k_2_129 h_r_isEvent ⟨Nat.le_of_ble_eq_true rfl, Nat.le_of_ble_eq_true rfl⟩ ⟨Nat.le_of_ble_eq_true rfl, Nat.le_of_ble_eq_true rfl⟩ hP hK 0 1 rfl rfl rfl hl.1 (Nat.le_of_ble_eq_true rfl) rfl d_r_event_29 ?_
    refine nr_ifeq_b (tgt := 68) hx hb d_r_event_32 (by decide) (fun c_32 => ?_) (fun c_32 => ?_)
    · refine lv_iconst (v := (nI 1)) hx hb d_r_event_68 (by decide) ?_
      refine lv_goto (tgt := 73) hx hb d_r_event_69 (by decide) ?_
      refine nr_top (w := .int (bI true)) rfl ?_
      refine lv_iconst (v := (nI 1)) hx hb d_r_event_73 (by decide) ?_
      refine WI.callV (wr := []) (rest := []) S (c_r_fails l D cI cJ cZ ad n ev r true 1 (by decide) (by decide)) k_2_118 k_2_120 k_s_20 k_1_2 k_2_121 h_r_fails ⟨Nat.le_of_ble_eq_true rfl, Nat.le_of_ble_eq_true rfl⟩ ⟨Nat.le_of_ble_eq_true rfl, Nat.le_of_ble_eq_true rfl⟩ hP hK hD hS hA [0, 1, 2, 3, 4, 5, 6, 7] [] rfl rfl (by decide) (by decide) (by decide) 0 1 rfl rfl rfl hl.1 (Nat.le_of_ble_eq_true rfl) rfl d_r_event_74 (fun v9 u9 H locs hv9 hP hD hS => ?_)
      obtain rfl := hv9
      have hP : va_P D cls (rL cI cZ ad (nI 1) n ev r) H := hP
      have hD : va_D A (rL cI cZ ad (nI 1) n ev r) := hD
      refine nr_ifne_b (tgt := 102) hx hb d_r_event_77 (by decide) (fun q9 => ?_) (fun q9 => nomatch q9)
      refine lv_iconst (v := (nI 0)) hx hb d_r_event_102 (by decide) ?_
      exact WI.iret hx hb hr hlocks hK hS d_r_event_103 () trivial hP hD
    · obtain ⟨ja, hja, rfl⟩ := iv_of c_32 (by omega)
      have hcja := hc8 ja (by omega)
      refine lv_aload_n hx hb d_r_event_35 rfl (lv_at hl 0 rfl) ?_
      refine va_get (D := D) (ci := 1) (v := .ref (ad 1)) (C := "SightGraphModel") (T := T_r) (N := 10) hx hb htc in_r hown hK hP 0 rfl rfl 3 (by decide) (htc _ k_2_76) (fun _ h9 => h9) rfl d_r_event_36 ?_
      refine lv_iload_n hx hb d_r_event_39 rfl (lv_at hl 2 rfl) ?_
      refine nr_iald hx hb hK hP 1 0 rfl rfl (by omega) (by decide) (v := (nI (c ja))) (hc ja (by omega)) d_r_event_40 ?_
      refine lv_iload_n hx hb d_r_event_41 rfl (lv_at hl 1 rfl) ?_
      refine nr_icmp_ne (tgt := 68) hx hb (by omega) (by omega) d_r_event_42 (by decide) (fun c_42 => ?_) (fun c_42 => ?_)
      · refine lv_iconst (v := (nI 1)) hx hb d_r_event_68 (by decide) ?_
        refine lv_goto (tgt := 73) hx hb d_r_event_69 (by decide) ?_
        refine nr_top (w := .int (bI true)) rfl ?_
        refine lv_iconst (v := (nI 1)) hx hb d_r_event_73 (by decide) ?_
        refine WI.callV (wr := []) (rest := []) S (c_r_fails l D cI cJ cZ ad n ev r true 1 (by decide) (by decide)) k_2_118 k_2_120 k_s_20 k_1_2 k_2_121 h_r_fails ⟨Nat.le_of_ble_eq_true rfl, Nat.le_of_ble_eq_true rfl⟩ ⟨Nat.le_of_ble_eq_true rfl, Nat.le_of_ble_eq_true rfl⟩ hP hK hD hS hA [0, 1, 2, 3, 4, 5, 6, 7] [] rfl rfl (by decide) (by decide) (by decide) 0 1 rfl rfl rfl hl.1 (Nat.le_of_ble_eq_true rfl) rfl d_r_event_74 (fun v9 u9 H locs hv9 hP hD hS => ?_)
        obtain rfl := hv9
        have hP : va_P D cls (rL cI cZ ad (nI 1) n ev r) H := hP
        have hD : va_D A (rL cI cZ ad (nI 1) n ev r) := hD
        refine nr_ifne_b (tgt := 102) hx hb d_r_event_77 (by decide) (fun q9 => ?_) (fun q9 => nomatch q9)
        refine lv_iconst (v := (nI 0)) hx hb d_r_event_102 (by decide) ?_
        exact WI.iret hx hb hr hlocks hK hS d_r_event_103 () trivial hP hD
      · exact absurd (show okS ev c nd (nI ja) = true from (ok_in (f := fun i => c i == nd) (by omega) hja).trans (by simpa using c_42)) (by rw [h1]; decide)
set_option maxHeartbeats 4000000 in
set_option maxRecDepth 100000 in
theorem c_r_event_x3 (l : Launch) (D : va_G) (cI cJ cZ : ClassId) (ad : Nat → Nat) (er : Int32) (n ev : Nat) (r : RA) (hev : ev ≤ 120) (c : Nat → Nat) (hc : ∀ j, j < ev → r.1 j = nI (c j)) (hc8 : ∀ j, j < ev → c j < 8) (hn : n ≤ 8) (nd : Nat) (hnd : nd < n) (a b : Int32) (h1 : okS ev c nd a = true) (h2 : okO ev c nd b = false) : WI (S := Unit) l D (tys cI cJ cZ) (rL cI cZ ad er n ev r) (fun _ => rL cI cZ ad (nI 1) n ev r) (fun _ _ => True) y_r_event b_r_event 10 (some .int) 2 50 [.ref (ad 0), .int (nI nd), .int a, .int b] := by
  refine WI.of (by decide) (Nat.le_of_ble_eq_true rfl) ?_
  intro p9 e9 s9 m args below meth c9 ls A S hr hlocks hA hP hK hD hl
  obtain ⟨hx, hb, hml, hown, htc⟩ := id S
  have hS : va_S A s9.heap s9.heap [] := va_S.rf
  have hl : lv_has ls 10 [(0, .ref (ad 0)), (1, .int (nI nd)), (2, .int a), (3, .int b)] := hl
  refine lv_aload_n hx hb d_r_event_0 rfl (lv_at hl 0 rfl) ?_
  refine lv_iconst (v := (nI 0)) hx hb d_r_event_1 (by decide) ?_
  refine va_put (D := D) (ci := 1) (v := .int (nI 0)) (ty := .int) (C := "SightGraphModel") (T := T_r) (N := 10) hx hb htc in_r t_r ft_r fn_r hown hK hP hD hS 0 rfl rfl 0 (by decide) (htc _ k_2_73) (fun _ h9 => h9) rfl (by decide +kernel) rfl rfl (Nat.le_of_ble_eq_true rfl) d_r_event_2 (fun H locs hP hD hS => ?_)
  have hP : va_P D cls (rL cI cZ ad (nI 0) n ev r) H := hP
  have hD : va_D A (rL cI cZ ad (nI 0) n ev r) := hD
  refine lv_aload_n hx hb d_r_event_5 rfl (lv_at hl 0 rfl) ?_
  refine lv_iload_n hx hb d_r_event_6 rfl (lv_at hl 1 rfl) ?_
  refine lv_i2l hx hb d_r_event_7 rfl ?_
  refine lv_lconst (v := 0) hx hb d_r_event_8 (by decide) ?_
  refine lv_aload_n hx hb d_r_event_9 rfl (lv_at hl 0 rfl) ?_
  refine va_get (D := D) (ci := 1) (v := .int (nI n)) (C := "SightGraphModel") (T := T_r) (N := 10) hx hb htc in_r hown hK hP 0 rfl rfl 1 (by decide) (htc _ k_2_74) (fun _ h9 => h9) rfl d_r_event_10 ?_
  refine lv_iconst (v := (nI 1)) hx hb d_r_event_13 (by decide) ?_
  refine lv_isub hx hb d_r_event_14 ?_
  refine lv_i2l hx hb d_r_event_15 rfl ?_
  refine PM.callS (rest := [.ref (ad 0)]) S (c_r_in l D cI cJ cZ ad (nI 0) n ev r ((nI nd).toInt64) (0) ((nI n - nI 1).toInt64)) k_2_115 k_2_116 k_1_2 k_2_117 h_r_in ⟨Nat.le_of_ble_eq_true rfl, Nat.le_of_ble_eq_true rfl⟩ ⟨Nat.le_of_ble_eq_true rfl, Nat.le_of_ble_eq_true rfl⟩ hP hK hl.1 (Nat.le_of_ble_eq_true rfl) rfl d_r_event_16 ?_
  refine nr_ifeq_b (tgt := 68) hx hb d_r_event_19 (by decide) (fun q9 => absurd (show (decide ((0 : Int64) ≤ (nI nd).toInt64 ∧ (nI nd).toInt64 ≤ (nI n - nI 1).toInt64)) = true from by rw [iv_l (by omega)]; exact iv_t hnd (by omega)) (by rw [q9]; decide)) (fun q9 => ?_)
  refine lv_iload_n hx hb d_r_event_22 rfl (lv_at hl 2 rfl) ?_
  refine lv_iconst (v := (-1)) hx hb d_r_event_23 (by decide) ?_
  refine lv_icmp_eq (tgt := 45) hx hb d_r_event_24 (by decide) (fun c_24 => ?_) (fun c_24 => ?_)
  · refine lv_iload_n hx hb d_r_event_45 rfl (lv_at hl 3 rfl) ?_
    refine lv_iconst (v := (-1)) hx hb d_r_event_46 (by decide) ?_
    refine lv_icmp_eq (tgt := 72) hx hb d_r_event_47 (by decide) (fun c_47 => ?_) (fun c_47 => ?_)
    · exact absurd (show okO ev c nd b = true from by unfold okO; rw [decide_eq_true c_47]; rfl) (by rw [h2]; decide)
    · refine lv_aload_n hx hb d_r_event_50 rfl (lv_at hl 0 rfl) ?_
      refine lv_iload_n hx hb d_r_event_51 rfl (lv_at hl 3 rfl) ?_
      refine PM.callV (rest := [.ref (ad 0)]) S (c_r_isEvent l D cI cJ cZ ad (nI 0) n ev r (by omega) (b)) k_2_126 k_2_128 k_s_21 k_1_2 k_2_129 h_r_isEvent ⟨Nat.le_of_ble_eq_true rfl, Nat.le_of_ble_eq_true rfl⟩ ⟨Nat.le_of_ble_eq_true rfl, Nat.le_of_ble_eq_true rfl⟩ hP hK 0 1 rfl rfl rfl hl.1 (Nat.le_of_ble_eq_true rfl) rfl d_r_event_52 ?_
      refine nr_ifeq_b (tgt := 68) hx hb d_r_event_55 (by decide) (fun c_55 => ?_) (fun c_55 => ?_)
      · refine lv_iconst (v := (nI 1)) hx hb d_r_event_68 (by decide) ?_
        refine lv_goto (tgt := 73) hx hb d_r_event_69 (by decide) ?_
        refine nr_top (w := .int (bI true)) rfl ?_
        refine lv_iconst (v := (nI 1)) hx hb d_r_event_73 (by decide) ?_
        refine WI.callV (wr := []) (rest := []) S (c_r_fails l D cI cJ cZ ad n ev r true 1 (by decide) (by decide)) k_2_118 k_2_120 k_s_20 k_1_2 k_2_121 h_r_fails ⟨Nat.le_of_ble_eq_true rfl, Nat.le_of_ble_eq_true rfl⟩ ⟨Nat.le_of_ble_eq_true rfl, Nat.le_of_ble_eq_true rfl⟩ hP hK hD hS hA [0, 1, 2, 3, 4, 5, 6, 7] [] rfl rfl (by decide) (by decide) (by decide) 0 1 rfl rfl rfl hl.1 (Nat.le_of_ble_eq_true rfl) rfl d_r_event_74 (fun v9 u9 H locs hv9 hP hD hS => ?_)
        obtain rfl := hv9
        have hP : va_P D cls (rL cI cZ ad (nI 1) n ev r) H := hP
        have hD : va_D A (rL cI cZ ad (nI 1) n ev r) := hD
        refine nr_ifne_b (tgt := 102) hx hb d_r_event_77 (by decide) (fun q9 => ?_) (fun q9 => nomatch q9)
        refine lv_iconst (v := (nI 0)) hx hb d_r_event_102 (by decide) ?_
        exact WI.iret hx hb hr hlocks hK hS d_r_event_103 () trivial hP hD
      · obtain ⟨jb, hjb, rfl⟩ := iv_of c_55 (by omega)
        have hcjb := hc8 jb (by omega)
        refine lv_aload_n hx hb d_r_event_58 rfl (lv_at hl 0 rfl) ?_
        refine va_get (D := D) (ci := 1) (v := .ref (ad 1)) (C := "SightGraphModel") (T := T_r) (N := 10) hx hb htc in_r hown hK hP 0 rfl rfl 3 (by decide) (htc _ k_2_76) (fun _ h9 => h9) rfl d_r_event_59 ?_
        refine lv_iload_n hx hb d_r_event_62 rfl (lv_at hl 3 rfl) ?_
        refine nr_iald hx hb hK hP 1 0 rfl rfl (by omega) (by decide) (v := (nI (c jb))) (hc jb (by omega)) d_r_event_63 ?_
        refine lv_iload_n hx hb d_r_event_64 rfl (lv_at hl 1 rfl) ?_
        refine nr_icmp_ne (tgt := 72) hx hb (by omega) (by omega) d_r_event_65 (by decide) (fun c_65 => ?_) (fun c_65 => ?_)
        · exact absurd (show okO ev c nd (nI jb) = true from (ok_in (f := fun i => !(c i == nd)) (by omega) hjb).trans (by simpa using c_65)) (by rw [h2]; decide)
        · refine lv_iconst (v := (nI 1)) hx hb d_r_event_68 (by decide) ?_
          refine lv_goto (tgt := 73) hx hb d_r_event_69 (by decide) ?_
          refine nr_top (w := .int (bI true)) rfl ?_
          refine lv_iconst (v := (nI 1)) hx hb d_r_event_73 (by decide) ?_
          refine WI.callV (wr := []) (rest := []) S (c_r_fails l D cI cJ cZ ad n ev r true 1 (by decide) (by decide)) k_2_118 k_2_120 k_s_20 k_1_2 k_2_121 h_r_fails ⟨Nat.le_of_ble_eq_true rfl, Nat.le_of_ble_eq_true rfl⟩ ⟨Nat.le_of_ble_eq_true rfl, Nat.le_of_ble_eq_true rfl⟩ hP hK hD hS hA [0, 1, 2, 3, 4, 5, 6, 7] [] rfl rfl (by decide) (by decide) (by decide) 0 1 rfl rfl rfl hl.1 (Nat.le_of_ble_eq_true rfl) rfl d_r_event_74 (fun v9 u9 H locs hv9 hP hD hS => ?_)
          obtain rfl := hv9
          have hP : va_P D cls (rL cI cZ ad (nI 1) n ev r) H := hP
          have hD : va_D A (rL cI cZ ad (nI 1) n ev r) := hD
          refine nr_ifne_b (tgt := 102) hx hb d_r_event_77 (by decide) (fun q9 => ?_) (fun q9 => nomatch q9)
          refine lv_iconst (v := (nI 0)) hx hb d_r_event_102 (by decide) ?_
          exact WI.iret hx hb hr hlocks hK hS d_r_event_103 () trivial hP hD
  · refine lv_aload_n hx hb d_r_event_27 rfl (lv_at hl 0 rfl) ?_
    refine lv_iload_n hx hb d_r_event_28 rfl (lv_at hl 2 rfl) ?_
    refine PM.callV (rest := [.ref (ad 0)]) S (c_r_isEvent l D cI cJ cZ ad (nI 0) n ev r (by omega) (a)) k_2_126 k_2_128 k_s_21 k_1_2 k_2_129 h_r_isEvent ⟨Nat.le_of_ble_eq_true rfl, Nat.le_of_ble_eq_true rfl⟩ ⟨Nat.le_of_ble_eq_true rfl, Nat.le_of_ble_eq_true rfl⟩ hP hK 0 1 rfl rfl rfl hl.1 (Nat.le_of_ble_eq_true rfl) rfl d_r_event_29 ?_
    refine nr_ifeq_b (tgt := 68) hx hb d_r_event_32 (by decide) (fun c_32 => ?_) (fun c_32 => ?_)
    · exact absurd (show okS ev c nd a = false from ok_no (by omega) c_32 c_24) (by rw [h1]; decide)
    · obtain ⟨ja, hja, rfl⟩ := iv_of c_32 (by omega)
      have hcja := hc8 ja (by omega)
      refine lv_aload_n hx hb d_r_event_35 rfl (lv_at hl 0 rfl) ?_
      refine va_get (D := D) (ci := 1) (v := .ref (ad 1)) (C := "SightGraphModel") (T := T_r) (N := 10) hx hb htc in_r hown hK hP 0 rfl rfl 3 (by decide) (htc _ k_2_76) (fun _ h9 => h9) rfl d_r_event_36 ?_
      refine lv_iload_n hx hb d_r_event_39 rfl (lv_at hl 2 rfl) ?_
      refine nr_iald hx hb hK hP 1 0 rfl rfl (by omega) (by decide) (v := (nI (c ja))) (hc ja (by omega)) d_r_event_40 ?_
      refine lv_iload_n hx hb d_r_event_41 rfl (lv_at hl 1 rfl) ?_
      refine nr_icmp_ne (tgt := 68) hx hb (by omega) (by omega) d_r_event_42 (by decide) (fun c_42 => ?_) (fun c_42 => ?_)
      · exact absurd (show okS ev c nd (nI ja) = false from (ok_in (f := fun i => c i == nd) (by omega) hja).trans (by simpa using c_42)) (by rw [h1]; decide)
      · refine lv_iload_n hx hb d_r_event_45 rfl (lv_at hl 3 rfl) ?_
        refine lv_iconst (v := (-1)) hx hb d_r_event_46 (by decide) ?_
        refine lv_icmp_eq (tgt := 72) hx hb d_r_event_47 (by decide) (fun c_47 => ?_) (fun c_47 => ?_)
        · exact absurd (show okO ev c nd b = true from by unfold okO; rw [decide_eq_true c_47]; rfl) (by rw [h2]; decide)
        · refine lv_aload_n hx hb d_r_event_50 rfl (lv_at hl 0 rfl) ?_
          refine lv_iload_n hx hb d_r_event_51 rfl (lv_at hl 3 rfl) ?_
          refine PM.callV (rest := [.ref (ad 0)]) S (c_r_isEvent l D cI cJ cZ ad (nI 0) n ev r (by omega) (b)) k_2_126 k_2_128 k_s_21 k_1_2 k_2_129 h_r_isEvent ⟨Nat.le_of_ble_eq_true rfl, Nat.le_of_ble_eq_true rfl⟩ ⟨Nat.le_of_ble_eq_true rfl, Nat.le_of_ble_eq_true rfl⟩ hP hK 0 1 rfl rfl rfl hl.1 (Nat.le_of_ble_eq_true rfl) rfl d_r_event_52 ?_
          refine nr_ifeq_b (tgt := 68) hx hb d_r_event_55 (by decide) (fun c_55 => ?_) (fun c_55 => ?_)
          · refine lv_iconst (v := (nI 1)) hx hb d_r_event_68 (by decide) ?_
            refine lv_goto (tgt := 73) hx hb d_r_event_69 (by decide) ?_
            refine nr_top (w := .int (bI true)) rfl ?_
            refine lv_iconst (v := (nI 1)) hx hb d_r_event_73 (by decide) ?_
            refine WI.callV (wr := []) (rest := []) S (c_r_fails l D cI cJ cZ ad n ev r true 1 (by decide) (by decide)) k_2_118 k_2_120 k_s_20 k_1_2 k_2_121 h_r_fails ⟨Nat.le_of_ble_eq_true rfl, Nat.le_of_ble_eq_true rfl⟩ ⟨Nat.le_of_ble_eq_true rfl, Nat.le_of_ble_eq_true rfl⟩ hP hK hD hS hA [0, 1, 2, 3, 4, 5, 6, 7] [] rfl rfl (by decide) (by decide) (by decide) 0 1 rfl rfl rfl hl.1 (Nat.le_of_ble_eq_true rfl) rfl d_r_event_74 (fun v9 u9 H locs hv9 hP hD hS => ?_)
            obtain rfl := hv9
            have hP : va_P D cls (rL cI cZ ad (nI 1) n ev r) H := hP
            have hD : va_D A (rL cI cZ ad (nI 1) n ev r) := hD
            refine nr_ifne_b (tgt := 102) hx hb d_r_event_77 (by decide) (fun q9 => ?_) (fun q9 => nomatch q9)
            refine lv_iconst (v := (nI 0)) hx hb d_r_event_102 (by decide) ?_
            exact WI.iret hx hb hr hlocks hK hS d_r_event_103 () trivial hP hD
          · obtain ⟨jb, hjb, rfl⟩ := iv_of c_55 (by omega)
            have hcjb := hc8 jb (by omega)
            refine lv_aload_n hx hb d_r_event_58 rfl (lv_at hl 0 rfl) ?_
            refine va_get (D := D) (ci := 1) (v := .ref (ad 1)) (C := "SightGraphModel") (T := T_r) (N := 10) hx hb htc in_r hown hK hP 0 rfl rfl 3 (by decide) (htc _ k_2_76) (fun _ h9 => h9) rfl d_r_event_59 ?_
            refine lv_iload_n hx hb d_r_event_62 rfl (lv_at hl 3 rfl) ?_
            refine nr_iald hx hb hK hP 1 0 rfl rfl (by omega) (by decide) (v := (nI (c jb))) (hc jb (by omega)) d_r_event_63 ?_
            refine lv_iload_n hx hb d_r_event_64 rfl (lv_at hl 1 rfl) ?_
            refine nr_icmp_ne (tgt := 72) hx hb (by omega) (by omega) d_r_event_65 (by decide) (fun c_65 => ?_) (fun c_65 => ?_)
            · exact absurd (show okO ev c nd (nI jb) = true from (ok_in (f := fun i => !(c i == nd)) (by omega) hjb).trans (by simpa using c_65)) (by rw [h2]; decide)
            · refine lv_iconst (v := (nI 1)) hx hb d_r_event_68 (by decide) ?_
              refine lv_goto (tgt := 73) hx hb d_r_event_69 (by decide) ?_
              refine nr_top (w := .int (bI true)) rfl ?_
              refine lv_iconst (v := (nI 1)) hx hb d_r_event_73 (by decide) ?_
              refine WI.callV (wr := []) (rest := []) S (c_r_fails l D cI cJ cZ ad n ev r true 1 (by decide) (by decide)) k_2_118 k_2_120 k_s_20 k_1_2 k_2_121 h_r_fails ⟨Nat.le_of_ble_eq_true rfl, Nat.le_of_ble_eq_true rfl⟩ ⟨Nat.le_of_ble_eq_true rfl, Nat.le_of_ble_eq_true rfl⟩ hP hK hD hS hA [0, 1, 2, 3, 4, 5, 6, 7] [] rfl rfl (by decide) (by decide) (by decide) 0 1 rfl rfl rfl hl.1 (Nat.le_of_ble_eq_true rfl) rfl d_r_event_74 (fun v9 u9 H locs hv9 hP hD hS => ?_)
              obtain rfl := hv9
              have hP : va_P D cls (rL cI cZ ad (nI 1) n ev r) H := hP
              have hD : va_D A (rL cI cZ ad (nI 1) n ev r) := hD
              refine nr_ifne_b (tgt := 102) hx hb d_r_event_77 (by decide) (fun q9 => ?_) (fun q9 => nomatch q9)
              refine lv_iconst (v := (nI 0)) hx hb d_r_event_102 (by decide) ?_
              exact WI.iret hx hb hr hlocks hK hS d_r_event_103 () trivial hP hD
set_option maxHeartbeats 4000000 in
set_option maxRecDepth 100000 in
theorem c_r_event_x4 (l : Launch) (D : va_G) (cI cJ cZ : ClassId) (ad : Nat → Nat) (er : Int32) (n ev : Nat) (r : RA) (hev : ev ≤ 120) (c : Nat → Nat) (hc : ∀ j, j < ev → r.1 j = nI (c j)) (hc8 : ∀ j, j < ev → c j < 8) (hn : n ≤ 8) (nd : Nat) (hnd : nd < n) (a b : Int32) (h1 : okS ev c nd a = true) (h2 : okO ev c nd b = true) (h3 : ev = 120) : WI (S := Unit) l D (tys cI cJ cZ) (rL cI cZ ad er n ev r) (fun _ => rL cI cZ ad (nI 2) n ev r) (fun _ _ => True) y_r_event b_r_event 10 (some .int) 2 50 [.ref (ad 0), .int (nI nd), .int a, .int b] := by
  refine WI.of (by decide) (Nat.le_of_ble_eq_true rfl) ?_
  intro p9 e9 s9 m args below meth c9 ls A S hr hlocks hA hP hK hD hl
  obtain ⟨hx, hb, hml, hown, htc⟩ := id S
  have hS : va_S A s9.heap s9.heap [] := va_S.rf
  have hl : lv_has ls 10 [(0, .ref (ad 0)), (1, .int (nI nd)), (2, .int a), (3, .int b)] := hl
  refine lv_aload_n hx hb d_r_event_0 rfl (lv_at hl 0 rfl) ?_
  refine lv_iconst (v := (nI 0)) hx hb d_r_event_1 (by decide) ?_
  refine va_put (D := D) (ci := 1) (v := .int (nI 0)) (ty := .int) (C := "SightGraphModel") (T := T_r) (N := 10) hx hb htc in_r t_r ft_r fn_r hown hK hP hD hS 0 rfl rfl 0 (by decide) (htc _ k_2_73) (fun _ h9 => h9) rfl (by decide +kernel) rfl rfl (Nat.le_of_ble_eq_true rfl) d_r_event_2 (fun H locs hP hD hS => ?_)
  have hP : va_P D cls (rL cI cZ ad (nI 0) n ev r) H := hP
  have hD : va_D A (rL cI cZ ad (nI 0) n ev r) := hD
  refine lv_aload_n hx hb d_r_event_5 rfl (lv_at hl 0 rfl) ?_
  refine lv_iload_n hx hb d_r_event_6 rfl (lv_at hl 1 rfl) ?_
  refine lv_i2l hx hb d_r_event_7 rfl ?_
  refine lv_lconst (v := 0) hx hb d_r_event_8 (by decide) ?_
  refine lv_aload_n hx hb d_r_event_9 rfl (lv_at hl 0 rfl) ?_
  refine va_get (D := D) (ci := 1) (v := .int (nI n)) (C := "SightGraphModel") (T := T_r) (N := 10) hx hb htc in_r hown hK hP 0 rfl rfl 1 (by decide) (htc _ k_2_74) (fun _ h9 => h9) rfl d_r_event_10 ?_
  refine lv_iconst (v := (nI 1)) hx hb d_r_event_13 (by decide) ?_
  refine lv_isub hx hb d_r_event_14 ?_
  refine lv_i2l hx hb d_r_event_15 rfl ?_
  refine PM.callS (rest := [.ref (ad 0)]) S (c_r_in l D cI cJ cZ ad (nI 0) n ev r ((nI nd).toInt64) (0) ((nI n - nI 1).toInt64)) k_2_115 k_2_116 k_1_2 k_2_117 h_r_in ⟨Nat.le_of_ble_eq_true rfl, Nat.le_of_ble_eq_true rfl⟩ ⟨Nat.le_of_ble_eq_true rfl, Nat.le_of_ble_eq_true rfl⟩ hP hK hl.1 (Nat.le_of_ble_eq_true rfl) rfl d_r_event_16 ?_
  refine nr_ifeq_b (tgt := 68) hx hb d_r_event_19 (by decide) (fun q9 => absurd (show (decide ((0 : Int64) ≤ (nI nd).toInt64 ∧ (nI nd).toInt64 ≤ (nI n - nI 1).toInt64)) = true from by rw [iv_l (by omega)]; exact iv_t hnd (by omega)) (by rw [q9]; decide)) (fun q9 => ?_)
  refine lv_iload_n hx hb d_r_event_22 rfl (lv_at hl 2 rfl) ?_
  refine lv_iconst (v := (-1)) hx hb d_r_event_23 (by decide) ?_
  refine lv_icmp_eq (tgt := 45) hx hb d_r_event_24 (by decide) (fun c_24 => ?_) (fun c_24 => ?_)
  · refine lv_iload_n hx hb d_r_event_45 rfl (lv_at hl 3 rfl) ?_
    refine lv_iconst (v := (-1)) hx hb d_r_event_46 (by decide) ?_
    refine lv_icmp_eq (tgt := 72) hx hb d_r_event_47 (by decide) (fun c_47 => ?_) (fun c_47 => ?_)
    · refine lv_iconst (v := (nI 0)) hx hb d_r_event_72 (by decide) ?_
      refine nr_top (w := .int (bI false)) rfl ?_
      refine lv_iconst (v := (nI 1)) hx hb d_r_event_73 (by decide) ?_
      refine WI.callV (wr := []) (rest := []) S (c_r_fails l D cI cJ cZ ad n ev r false 1 (by decide) (by decide)) k_2_118 k_2_120 k_s_20 k_1_2 k_2_121 h_r_fails ⟨Nat.le_of_ble_eq_true rfl, Nat.le_of_ble_eq_true rfl⟩ ⟨Nat.le_of_ble_eq_true rfl, Nat.le_of_ble_eq_true rfl⟩ hP hK hD hS hA [0, 1, 2, 3, 4, 5, 6, 7] [] rfl rfl (by decide) (by decide) (by decide) 0 1 rfl rfl rfl hl.1 (Nat.le_of_ble_eq_true rfl) rfl d_r_event_74 (fun v9 u9 H locs hv9 hP hD hS => ?_)
      obtain rfl := hv9
      have hP : va_P D cls (rL cI cZ ad 0 n ev r) H := hP
      have hD : va_D A (rL cI cZ ad 0 n ev r) := hD
      refine nr_ifne_b (tgt := 102) hx hb d_r_event_77 (by decide) (fun q9 => nomatch q9) (fun q9 => ?_)
      refine lv_aload_n hx hb d_r_event_80 rfl (lv_at hl 0 rfl) ?_
      refine lv_aload_n hx hb d_r_event_81 rfl (lv_at hl 0 rfl) ?_
      refine va_get (D := D) (ci := 1) (v := .int (nI ev)) (C := "SightGraphModel") (T := T_r) (N := 10) hx hb htc in_r hown hK hP 0 rfl rfl 2 (by decide) (htc _ k_2_75) (fun _ h9 => h9) rfl d_r_event_82 ?_
      refine lv_bipush (v := (nI 120)) hx hb d_r_event_85 (by decide) ?_
      refine nr_icmp_ne (tgt := 94) hx hb (by omega) (by omega) d_r_event_87 (by decide) (fun c_87 => ?_) (fun c_87 => ?_)
      · exact absurd h3 c_87
      · refine lv_iconst (v := (nI 1)) hx hb d_r_event_90 (by decide) ?_
        refine lv_goto (tgt := 95) hx hb d_r_event_91 (by decide) ?_
        refine nr_top (w := .int (bI true)) rfl ?_
        refine lv_iconst (v := (nI 2)) hx hb d_r_event_95 (by decide) ?_
        refine WI.callV (wr := []) (rest := []) S (c_r_fails l D cI cJ cZ ad n ev r true 2 (by decide) (by decide)) k_2_118 k_2_120 k_s_20 k_1_2 k_2_121 h_r_fails ⟨Nat.le_of_ble_eq_true rfl, Nat.le_of_ble_eq_true rfl⟩ ⟨Nat.le_of_ble_eq_true rfl, Nat.le_of_ble_eq_true rfl⟩ hP hK hD hS hA [0, 1, 2, 3, 4, 5, 6, 7] [] rfl rfl (by decide) (by decide) (by decide) 0 1 rfl rfl rfl hl.1 (Nat.le_of_ble_eq_true rfl) rfl d_r_event_96 (fun v9 u9 H locs hv9 hP hD hS => ?_)
        obtain rfl := hv9
        have hP : va_P D cls (rL cI cZ ad (nI 2) n ev r) H := hP
        have hD : va_D A (rL cI cZ ad (nI 2) n ev r) := hD
        refine nr_ifeq_b (tgt := 104) hx hb d_r_event_99 (by decide) (fun q9 => nomatch q9) (fun q9 => ?_)
        refine lv_iconst (v := (nI 0)) hx hb d_r_event_102 (by decide) ?_
        exact WI.iret hx hb hr hlocks hK hS d_r_event_103 () trivial hP hD
    · refine lv_aload_n hx hb d_r_event_50 rfl (lv_at hl 0 rfl) ?_
      refine lv_iload_n hx hb d_r_event_51 rfl (lv_at hl 3 rfl) ?_
      refine PM.callV (rest := [.ref (ad 0)]) S (c_r_isEvent l D cI cJ cZ ad (nI 0) n ev r (by omega) (b)) k_2_126 k_2_128 k_s_21 k_1_2 k_2_129 h_r_isEvent ⟨Nat.le_of_ble_eq_true rfl, Nat.le_of_ble_eq_true rfl⟩ ⟨Nat.le_of_ble_eq_true rfl, Nat.le_of_ble_eq_true rfl⟩ hP hK 0 1 rfl rfl rfl hl.1 (Nat.le_of_ble_eq_true rfl) rfl d_r_event_52 ?_
      refine nr_ifeq_b (tgt := 68) hx hb d_r_event_55 (by decide) (fun c_55 => ?_) (fun c_55 => ?_)
      · exact absurd (show okO ev c nd b = false from ok_no (by omega) c_55 c_47) (by rw [h2]; decide)
      · obtain ⟨jb, hjb, rfl⟩ := iv_of c_55 (by omega)
        have hcjb := hc8 jb (by omega)
        refine lv_aload_n hx hb d_r_event_58 rfl (lv_at hl 0 rfl) ?_
        refine va_get (D := D) (ci := 1) (v := .ref (ad 1)) (C := "SightGraphModel") (T := T_r) (N := 10) hx hb htc in_r hown hK hP 0 rfl rfl 3 (by decide) (htc _ k_2_76) (fun _ h9 => h9) rfl d_r_event_59 ?_
        refine lv_iload_n hx hb d_r_event_62 rfl (lv_at hl 3 rfl) ?_
        refine nr_iald hx hb hK hP 1 0 rfl rfl (by omega) (by decide) (v := (nI (c jb))) (hc jb (by omega)) d_r_event_63 ?_
        refine lv_iload_n hx hb d_r_event_64 rfl (lv_at hl 1 rfl) ?_
        refine nr_icmp_ne (tgt := 72) hx hb (by omega) (by omega) d_r_event_65 (by decide) (fun c_65 => ?_) (fun c_65 => ?_)
        · refine lv_iconst (v := (nI 0)) hx hb d_r_event_72 (by decide) ?_
          refine nr_top (w := .int (bI false)) rfl ?_
          refine lv_iconst (v := (nI 1)) hx hb d_r_event_73 (by decide) ?_
          refine WI.callV (wr := []) (rest := []) S (c_r_fails l D cI cJ cZ ad n ev r false 1 (by decide) (by decide)) k_2_118 k_2_120 k_s_20 k_1_2 k_2_121 h_r_fails ⟨Nat.le_of_ble_eq_true rfl, Nat.le_of_ble_eq_true rfl⟩ ⟨Nat.le_of_ble_eq_true rfl, Nat.le_of_ble_eq_true rfl⟩ hP hK hD hS hA [0, 1, 2, 3, 4, 5, 6, 7] [] rfl rfl (by decide) (by decide) (by decide) 0 1 rfl rfl rfl hl.1 (Nat.le_of_ble_eq_true rfl) rfl d_r_event_74 (fun v9 u9 H locs hv9 hP hD hS => ?_)
          obtain rfl := hv9
          have hP : va_P D cls (rL cI cZ ad 0 n ev r) H := hP
          have hD : va_D A (rL cI cZ ad 0 n ev r) := hD
          refine nr_ifne_b (tgt := 102) hx hb d_r_event_77 (by decide) (fun q9 => nomatch q9) (fun q9 => ?_)
          refine lv_aload_n hx hb d_r_event_80 rfl (lv_at hl 0 rfl) ?_
          refine lv_aload_n hx hb d_r_event_81 rfl (lv_at hl 0 rfl) ?_
          refine va_get (D := D) (ci := 1) (v := .int (nI ev)) (C := "SightGraphModel") (T := T_r) (N := 10) hx hb htc in_r hown hK hP 0 rfl rfl 2 (by decide) (htc _ k_2_75) (fun _ h9 => h9) rfl d_r_event_82 ?_
          refine lv_bipush (v := (nI 120)) hx hb d_r_event_85 (by decide) ?_
          refine nr_icmp_ne (tgt := 94) hx hb (by omega) (by omega) d_r_event_87 (by decide) (fun c_87 => ?_) (fun c_87 => ?_)
          · exact absurd h3 c_87
          · refine lv_iconst (v := (nI 1)) hx hb d_r_event_90 (by decide) ?_
            refine lv_goto (tgt := 95) hx hb d_r_event_91 (by decide) ?_
            refine nr_top (w := .int (bI true)) rfl ?_
            refine lv_iconst (v := (nI 2)) hx hb d_r_event_95 (by decide) ?_
            refine WI.callV (wr := []) (rest := []) S (c_r_fails l D cI cJ cZ ad n ev r true 2 (by decide) (by decide)) k_2_118 k_2_120 k_s_20 k_1_2 k_2_121 h_r_fails ⟨Nat.le_of_ble_eq_true rfl, Nat.le_of_ble_eq_true rfl⟩ ⟨Nat.le_of_ble_eq_true rfl, Nat.le_of_ble_eq_true rfl⟩ hP hK hD hS hA [0, 1, 2, 3, 4, 5, 6, 7] [] rfl rfl (by decide) (by decide) (by decide) 0 1 rfl rfl rfl hl.1 (Nat.le_of_ble_eq_true rfl) rfl d_r_event_96 (fun v9 u9 H locs hv9 hP hD hS => ?_)
            obtain rfl := hv9
            have hP : va_P D cls (rL cI cZ ad (nI 2) n ev r) H := hP
            have hD : va_D A (rL cI cZ ad (nI 2) n ev r) := hD
            refine nr_ifeq_b (tgt := 104) hx hb d_r_event_99 (by decide) (fun q9 => nomatch q9) (fun q9 => ?_)
            refine lv_iconst (v := (nI 0)) hx hb d_r_event_102 (by decide) ?_
            exact WI.iret hx hb hr hlocks hK hS d_r_event_103 () trivial hP hD
        · exact absurd (show okO ev c nd (nI jb) = false from (ok_in (f := fun i => !(c i == nd)) (by omega) hjb).trans (by simpa using c_65)) (by rw [h2]; decide)
  · refine lv_aload_n hx hb d_r_event_27 rfl (lv_at hl 0 rfl) ?_
    refine lv_iload_n hx hb d_r_event_28 rfl (lv_at hl 2 rfl) ?_
    refine PM.callV (rest := [.ref (ad 0)]) S (c_r_isEvent l D cI cJ cZ ad (nI 0) n ev r (by omega) (a)) k_2_126 k_2_128 k_s_21 k_1_2 k_2_129 h_r_isEvent ⟨Nat.le_of_ble_eq_true rfl, Nat.le_of_ble_eq_true rfl⟩ ⟨Nat.le_of_ble_eq_true rfl, Nat.le_of_ble_eq_true rfl⟩ hP hK 0 1 rfl rfl rfl hl.1 (Nat.le_of_ble_eq_true rfl) rfl d_r_event_29 ?_
    refine nr_ifeq_b (tgt := 68) hx hb d_r_event_32 (by decide) (fun c_32 => ?_) (fun c_32 => ?_)
    · exact absurd (show okS ev c nd a = false from ok_no (by omega) c_32 c_24) (by rw [h1]; decide)
    · obtain ⟨ja, hja, rfl⟩ := iv_of c_32 (by omega)
      have hcja := hc8 ja (by omega)
      refine lv_aload_n hx hb d_r_event_35 rfl (lv_at hl 0 rfl) ?_
      refine va_get (D := D) (ci := 1) (v := .ref (ad 1)) (C := "SightGraphModel") (T := T_r) (N := 10) hx hb htc in_r hown hK hP 0 rfl rfl 3 (by decide) (htc _ k_2_76) (fun _ h9 => h9) rfl d_r_event_36 ?_
      refine lv_iload_n hx hb d_r_event_39 rfl (lv_at hl 2 rfl) ?_
      refine nr_iald hx hb hK hP 1 0 rfl rfl (by omega) (by decide) (v := (nI (c ja))) (hc ja (by omega)) d_r_event_40 ?_
      refine lv_iload_n hx hb d_r_event_41 rfl (lv_at hl 1 rfl) ?_
      refine nr_icmp_ne (tgt := 68) hx hb (by omega) (by omega) d_r_event_42 (by decide) (fun c_42 => ?_) (fun c_42 => ?_)
      · exact absurd (show okS ev c nd (nI ja) = false from (ok_in (f := fun i => c i == nd) (by omega) hja).trans (by simpa using c_42)) (by rw [h1]; decide)
      · refine lv_iload_n hx hb d_r_event_45 rfl (lv_at hl 3 rfl) ?_
        refine lv_iconst (v := (-1)) hx hb d_r_event_46 (by decide) ?_
        refine lv_icmp_eq (tgt := 72) hx hb d_r_event_47 (by decide) (fun c_47 => ?_) (fun c_47 => ?_)
        · refine lv_iconst (v := (nI 0)) hx hb d_r_event_72 (by decide) ?_
          refine nr_top (w := .int (bI false)) rfl ?_
          refine lv_iconst (v := (nI 1)) hx hb d_r_event_73 (by decide) ?_
          refine WI.callV (wr := []) (rest := []) S (c_r_fails l D cI cJ cZ ad n ev r false 1 (by decide) (by decide)) k_2_118 k_2_120 k_s_20 k_1_2 k_2_121 h_r_fails ⟨Nat.le_of_ble_eq_true rfl, Nat.le_of_ble_eq_true rfl⟩ ⟨Nat.le_of_ble_eq_true rfl, Nat.le_of_ble_eq_true rfl⟩ hP hK hD hS hA [0, 1, 2, 3, 4, 5, 6, 7] [] rfl rfl (by decide) (by decide) (by decide) 0 1 rfl rfl rfl hl.1 (Nat.le_of_ble_eq_true rfl) rfl d_r_event_74 (fun v9 u9 H locs hv9 hP hD hS => ?_)
          obtain rfl := hv9
          have hP : va_P D cls (rL cI cZ ad 0 n ev r) H := hP
          have hD : va_D A (rL cI cZ ad 0 n ev r) := hD
          refine nr_ifne_b (tgt := 102) hx hb d_r_event_77 (by decide) (fun q9 => nomatch q9) (fun q9 => ?_)
          refine lv_aload_n hx hb d_r_event_80 rfl (lv_at hl 0 rfl) ?_
          refine lv_aload_n hx hb d_r_event_81 rfl (lv_at hl 0 rfl) ?_
          refine va_get (D := D) (ci := 1) (v := .int (nI ev)) (C := "SightGraphModel") (T := T_r) (N := 10) hx hb htc in_r hown hK hP 0 rfl rfl 2 (by decide) (htc _ k_2_75) (fun _ h9 => h9) rfl d_r_event_82 ?_
          refine lv_bipush (v := (nI 120)) hx hb d_r_event_85 (by decide) ?_
          refine nr_icmp_ne (tgt := 94) hx hb (by omega) (by omega) d_r_event_87 (by decide) (fun c_87 => ?_) (fun c_87 => ?_)
          · exact absurd h3 c_87
          · refine lv_iconst (v := (nI 1)) hx hb d_r_event_90 (by decide) ?_
            refine lv_goto (tgt := 95) hx hb d_r_event_91 (by decide) ?_
            refine nr_top (w := .int (bI true)) rfl ?_
            refine lv_iconst (v := (nI 2)) hx hb d_r_event_95 (by decide) ?_
            refine WI.callV (wr := []) (rest := []) S (c_r_fails l D cI cJ cZ ad n ev r true 2 (by decide) (by decide)) k_2_118 k_2_120 k_s_20 k_1_2 k_2_121 h_r_fails ⟨Nat.le_of_ble_eq_true rfl, Nat.le_of_ble_eq_true rfl⟩ ⟨Nat.le_of_ble_eq_true rfl, Nat.le_of_ble_eq_true rfl⟩ hP hK hD hS hA [0, 1, 2, 3, 4, 5, 6, 7] [] rfl rfl (by decide) (by decide) (by decide) 0 1 rfl rfl rfl hl.1 (Nat.le_of_ble_eq_true rfl) rfl d_r_event_96 (fun v9 u9 H locs hv9 hP hD hS => ?_)
            obtain rfl := hv9
            have hP : va_P D cls (rL cI cZ ad (nI 2) n ev r) H := hP
            have hD : va_D A (rL cI cZ ad (nI 2) n ev r) := hD
            refine nr_ifeq_b (tgt := 104) hx hb d_r_event_99 (by decide) (fun q9 => nomatch q9) (fun q9 => ?_)
            refine lv_iconst (v := (nI 0)) hx hb d_r_event_102 (by decide) ?_
            exact WI.iret hx hb hr hlocks hK hS d_r_event_103 () trivial hP hD
        · refine lv_aload_n hx hb d_r_event_50 rfl (lv_at hl 0 rfl) ?_
          refine lv_iload_n hx hb d_r_event_51 rfl (lv_at hl 3 rfl) ?_
          refine PM.callV (rest := [.ref (ad 0)]) S (c_r_isEvent l D cI cJ cZ ad (nI 0) n ev r (by omega) (b)) k_2_126 k_2_128 k_s_21 k_1_2 k_2_129 h_r_isEvent ⟨Nat.le_of_ble_eq_true rfl, Nat.le_of_ble_eq_true rfl⟩ ⟨Nat.le_of_ble_eq_true rfl, Nat.le_of_ble_eq_true rfl⟩ hP hK 0 1 rfl rfl rfl hl.1 (Nat.le_of_ble_eq_true rfl) rfl d_r_event_52 ?_
          refine nr_ifeq_b (tgt := 68) hx hb d_r_event_55 (by decide) (fun c_55 => ?_) (fun c_55 => ?_)
          · exact absurd (show okO ev c nd b = false from ok_no (by omega) c_55 c_47) (by rw [h2]; decide)
          · obtain ⟨jb, hjb, rfl⟩ := iv_of c_55 (by omega)
            have hcjb := hc8 jb (by omega)
            refine lv_aload_n hx hb d_r_event_58 rfl (lv_at hl 0 rfl) ?_
            refine va_get (D := D) (ci := 1) (v := .ref (ad 1)) (C := "SightGraphModel") (T := T_r) (N := 10) hx hb htc in_r hown hK hP 0 rfl rfl 3 (by decide) (htc _ k_2_76) (fun _ h9 => h9) rfl d_r_event_59 ?_
            refine lv_iload_n hx hb d_r_event_62 rfl (lv_at hl 3 rfl) ?_
            refine nr_iald hx hb hK hP 1 0 rfl rfl (by omega) (by decide) (v := (nI (c jb))) (hc jb (by omega)) d_r_event_63 ?_
            refine lv_iload_n hx hb d_r_event_64 rfl (lv_at hl 1 rfl) ?_
            refine nr_icmp_ne (tgt := 72) hx hb (by omega) (by omega) d_r_event_65 (by decide) (fun c_65 => ?_) (fun c_65 => ?_)
            · refine lv_iconst (v := (nI 0)) hx hb d_r_event_72 (by decide) ?_
              refine nr_top (w := .int (bI false)) rfl ?_
              refine lv_iconst (v := (nI 1)) hx hb d_r_event_73 (by decide) ?_
              refine WI.callV (wr := []) (rest := []) S (c_r_fails l D cI cJ cZ ad n ev r false 1 (by decide) (by decide)) k_2_118 k_2_120 k_s_20 k_1_2 k_2_121 h_r_fails ⟨Nat.le_of_ble_eq_true rfl, Nat.le_of_ble_eq_true rfl⟩ ⟨Nat.le_of_ble_eq_true rfl, Nat.le_of_ble_eq_true rfl⟩ hP hK hD hS hA [0, 1, 2, 3, 4, 5, 6, 7] [] rfl rfl (by decide) (by decide) (by decide) 0 1 rfl rfl rfl hl.1 (Nat.le_of_ble_eq_true rfl) rfl d_r_event_74 (fun v9 u9 H locs hv9 hP hD hS => ?_)
              obtain rfl := hv9
              have hP : va_P D cls (rL cI cZ ad 0 n ev r) H := hP
              have hD : va_D A (rL cI cZ ad 0 n ev r) := hD
              refine nr_ifne_b (tgt := 102) hx hb d_r_event_77 (by decide) (fun q9 => nomatch q9) (fun q9 => ?_)
              refine lv_aload_n hx hb d_r_event_80 rfl (lv_at hl 0 rfl) ?_
              refine lv_aload_n hx hb d_r_event_81 rfl (lv_at hl 0 rfl) ?_
              refine va_get (D := D) (ci := 1) (v := .int (nI ev)) (C := "SightGraphModel") (T := T_r) (N := 10) hx hb htc in_r hown hK hP 0 rfl rfl 2 (by decide) (htc _ k_2_75) (fun _ h9 => h9) rfl d_r_event_82 ?_
              refine lv_bipush (v := (nI 120)) hx hb d_r_event_85 (by decide) ?_
              refine nr_icmp_ne (tgt := 94) hx hb (by omega) (by omega) d_r_event_87 (by decide) (fun c_87 => ?_) (fun c_87 => ?_)
              · exact absurd h3 c_87
              · refine lv_iconst (v := (nI 1)) hx hb d_r_event_90 (by decide) ?_
                refine lv_goto (tgt := 95) hx hb d_r_event_91 (by decide) ?_
                refine nr_top (w := .int (bI true)) rfl ?_
                refine lv_iconst (v := (nI 2)) hx hb d_r_event_95 (by decide) ?_
                refine WI.callV (wr := []) (rest := []) S (c_r_fails l D cI cJ cZ ad n ev r true 2 (by decide) (by decide)) k_2_118 k_2_120 k_s_20 k_1_2 k_2_121 h_r_fails ⟨Nat.le_of_ble_eq_true rfl, Nat.le_of_ble_eq_true rfl⟩ ⟨Nat.le_of_ble_eq_true rfl, Nat.le_of_ble_eq_true rfl⟩ hP hK hD hS hA [0, 1, 2, 3, 4, 5, 6, 7] [] rfl rfl (by decide) (by decide) (by decide) 0 1 rfl rfl rfl hl.1 (Nat.le_of_ble_eq_true rfl) rfl d_r_event_96 (fun v9 u9 H locs hv9 hP hD hS => ?_)
                obtain rfl := hv9
                have hP : va_P D cls (rL cI cZ ad (nI 2) n ev r) H := hP
                have hD : va_D A (rL cI cZ ad (nI 2) n ev r) := hD
                refine nr_ifeq_b (tgt := 104) hx hb d_r_event_99 (by decide) (fun q9 => nomatch q9) (fun q9 => ?_)
                refine lv_iconst (v := (nI 0)) hx hb d_r_event_102 (by decide) ?_
                exact WI.iret hx hb hr hlocks hK hS d_r_event_103 () trivial hP hD
            · exact absurd (show okO ev c nd (nI jb) = false from (ok_in (f := fun i => !(c i == nd)) (by omega) hjb).trans (by simpa using c_65)) (by rw [h2]; decide)
