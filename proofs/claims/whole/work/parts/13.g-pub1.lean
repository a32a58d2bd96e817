theorem iv_t {ev j : Nat} (h : j < ev) (hev : ev ≤ 120) : iv ev (nI j) = true := decide_eq_true ⟨nI_pos' (by omega), nI_lt h (by omega)⟩
theorem iv_of {ev : Nat} {x : Int32} (h : iv ev x = true) (hev : ev ≤ 120) : ∃ j, j < ev ∧ x = nI j := by
  obtain ⟨h1, h2⟩ := of_decide_eq_true h
  obtain ⟨j, hj, e⟩ := nI_of (x := x) (Int32.not_lt.mpr h1)
  subst e
  exact ⟨j, (nI_ltI hj (by omega)).mp h2, rfl⟩
/-- an argument that may be the self-parent, the other-parent -/
def okS (ev : Nat) (c : Nat → Nat) (nd : Nat) (x : Int32) : Bool := decide (x = -1) || ex ev (fun j => decide (x = nI j) && c j == nd)
def okO (ev : Nat) (c : Nat → Nat) (nd : Nat) (x : Int32) : Bool := decide (x = -1) || ex ev (fun j => decide (x = nI j) && !(c j == nd))
theorem ok_no {ev : Nat} {x : Int32} {f : Nat → Bool} (hev : ev ≤ 120) (h : iv ev x = false) (h1 : ¬ x = -1) : (decide (x = -1) || ex ev (fun j => decide (x = nI j) && f j)) = false := by
  rw [decide_eq_false h1, Bool.false_or]
  refine ex_f.mpr (fun j hj => ?_)
  rw [decide_eq_false (fun q => by rw [q, iv_t hj hev] at h; cases h)]; rfl
theorem ok_in {ev j : Nat} {f : Nat → Bool} (hev : ev ≤ 120) (hj : j < ev) : (decide (nI j = -1) || ex ev (fun i => decide (nI j = nI i) && f i)) = f j := by
  rw [decide_eq_false (fun q => absurd (by rw [q]; decide) (nI_pos (n := j) (by omega))), Bool.false_or]
  cases hf : f j with
  | true => exact ex_t.mpr ⟨j, hj, by rw [decide_eq_true rfl, hf]; rfl⟩
  | false =>
    refine ex_f.mpr (fun i hi => ?_)
    by_cases e : j = i
    · subst e; rw [hf, Bool.and_false]
    · rw [decide_eq_false (fun q => e ((nI_eq (by omega) (by omega)).mp q))]; rfl
theorem own_yes {K n : Nat} {c s o : Nat → Nat} {an ow : Nat → Nat → Bool} (h : Lw K n c s o an ow) {t y : Nat} (hy : y < K) (ht : t = y + 1) : pa ow t y = true := by
  subst ht
  show (!(y + 1 == 0) && ow (y + 1 - 1) y) = true
  rw [show y + 1 - 1 = y from rfl, (h y hy).2.2.2.2.2.2 y]; simp
theorem own_no {K n : Nat} {c s o : Nat → Nat} {an ow : Nat → Nat → Bool} (h : Lw K n c s o an ow) {t y : Nat} (hy : y < K) (ht : t ≤ y + 1) (hn : ¬ t = y + 1) : pa ow t y = false := by
  unfold pa
  cases he : ow (t - 1) y with
  | false => rw [Bool.and_false]
  | true =>
    by_cases q : t = 0
    · subst q; rfl
    · have := h.ow_le (t - 1) (by omega) y he
      omega
set_option maxHeartbeats 4000000 in
set_option maxRecDepth 100000 in
theorem c_g_mayBeSelfParent (l : Launch) (D : va_G) (cI cJ cZ : ClassId) (ad : Nat → Nat) (n ev : Nat) (g : GA) (c s : Nat → Nat) (an fk : Nat → Nat → Bool) (K : Nat) (hKb : K ≤ 120) (hC : gC K g c s an fk) (hc0 : ∀ i, i < K → c i < 8) (hev : ev ≤ K) (nd : Nat) (hnd : nd < 8) (x : Int32) : PM l D (tys cI cJ cZ) (gL cI cJ ad n ev g) y_g_mayBeSelfParent b_g_mayBeSelfParent 3 (some .boolean) 1 21 [.ref (ad 0), .int (nI nd), .int x] (bI (okS ev c nd x)) := by
  refine PM.of (by decide) (Nat.le_of_ble_eq_true rfl) ?_
  intro p9 e9 s9 m args below meth c9 ls S hr hlocks hP hK hl
  obtain ⟨hx, hb, hml, hown, htc⟩ := id S
  have hl : lv_has ls 3 [(0, .ref (ad 0)), (1, .int (nI nd)), (2, .int x)] := hl
  refine lv_iload_n hx hb d_g_mayBeSelfParent_0 rfl (lv_at hl 2 rfl) ?_
  refine lv_iconst (v := (-1)) hx hb d_g_mayBeSelfParent_1 (by decide) ?_
  refine lv_icmp_eq (tgt := 23) hx hb d_g_mayBeSelfParent_2 (by decide) (fun c_2 => ?_) (fun c_2 => ?_)
  · refine lv_iconst (v := (nI 1)) hx hb d_g_mayBeSelfParent_23 (by decide) ?_
    refine lv_goto (tgt := 28) hx hb d_g_mayBeSelfParent_24 (by decide) ?_
    refine nr_top (w := .int (bI true)) rfl ?_
    exact PM.zret hx hb hr hlocks d_g_mayBeSelfParent_28 (by unfold okS; rw [decide_eq_true c_2]; rfl)
  · refine lv_aload_n hx hb d_g_mayBeSelfParent_5 rfl (lv_at hl 0 rfl) ?_
    refine lv_iload_n hx hb d_g_mayBeSelfParent_6 rfl (lv_at hl 2 rfl) ?_
    refine PM.callV (rest := []) S (c_g_isEvent l D cI cJ cZ ad n ev g x) k_1_137 k_1_139 k_s_3 k_1_1 k_1_140 h_g_isEvent ⟨Nat.le_of_ble_eq_true rfl, Nat.le_of_ble_eq_true rfl⟩ ⟨Nat.le_of_ble_eq_true rfl, Nat.le_of_ble_eq_true rfl⟩ hP hK 0 0 rfl rfl rfl hl.1 (Nat.le_of_ble_eq_true rfl) rfl d_g_mayBeSelfParent_7 ?_
    refine nr_ifeq_b (tgt := 27) hx hb d_g_mayBeSelfParent_10 (by decide) (fun c_10 => ?_) (fun c_10 => ?_)
    · refine lv_iconst (v := (nI 0)) hx hb d_g_mayBeSelfParent_27 (by decide) ?_
      refine nr_top (w := .int (bI false)) rfl ?_
      exact PM.zret hx hb hr hlocks d_g_mayBeSelfParent_28 (by rw [show okS ev c nd x = false from ok_no (by omega) c_10 c_2])
    · obtain ⟨j, hj, rfl⟩ := iv_of c_10 (by omega)
      have hcj := hc0 j (by omega)
      refine lv_aload_n hx hb d_g_mayBeSelfParent_13 rfl (lv_at hl 0 rfl) ?_
      refine va_get (D := D) (ci := 0) (v := .ref (ad 1)) (C := "SightGraph") (T := T_g) (N := 8) hx hb htc in_g hown hK hP 0 rfl rfl 2 (by decide) (htc _ k_1_20) (fun _ h9 => h9) rfl d_g_mayBeSelfParent_14 ?_
      refine lv_iload_n hx hb d_g_mayBeSelfParent_17 rfl (lv_at hl 2 rfl) ?_
      refine nr_iald hx hb hK hP 1 0 rfl rfl (by omega) (by decide) (v := (nI (c j))) (hC j (by omega)).1 d_g_mayBeSelfParent_18 ?_
      refine lv_iload_n hx hb d_g_mayBeSelfParent_19 rfl (lv_at hl 1 rfl) ?_
      refine nr_icmp_ne (tgt := 27) hx hb (by omega) (by omega) d_g_mayBeSelfParent_20 (by decide) (fun c_20 => ?_) (fun c_20 => ?_)
      · refine lv_iconst (v := (nI 0)) hx hb d_g_mayBeSelfParent_27 (by decide) ?_
        refine nr_top (w := .int (bI false)) rfl ?_
        exact PM.zret hx hb hr hlocks d_g_mayBeSelfParent_28 (by rw [show okS ev c nd (nI j) = (c j == nd) from ok_in (by omega) hj, show (c j == nd) = false from by simpa using c_20]; try rfl)
      · refine lv_iconst (v := (nI 1)) hx hb d_g_mayBeSelfParent_23 (by decide) ?_
        refine lv_goto (tgt := 28) hx hb d_g_mayBeSelfParent_24 (by decide) ?_
        refine nr_top (w := .int (bI true)) rfl ?_
        exact PM.zret hx hb hr hlocks d_g_mayBeSelfParent_28 (by rw [show okS ev c nd (nI j) = (c j == nd) from ok_in (by omega) hj, show (c j == nd) = true from by simpa using c_20]; try rfl)
set_option maxHeartbeats 4000000 in
set_option maxRecDepth 100000 in
theorem c_g_mayBeOtherParent (l : Launch) (D : va_G) (cI cJ cZ : ClassId) (ad : Nat → Nat) (n ev : Nat) (g : GA) (c s : Nat → Nat) (an fk : Nat → Nat → Bool) (K : Nat) (hKb : K ≤ 120) (hC : gC K g c s an fk) (hc0 : ∀ i, i < K → c i < 8) (hev : ev ≤ K) (nd : Nat) (hnd : nd < 8) (x : Int32) : PM l D (tys cI cJ cZ) (gL cI cJ ad n ev g) y_g_mayBeOtherParent b_g_mayBeOtherParent 3 (some .boolean) 1 21 [.ref (ad 0), .int (nI nd), .int x] (bI (okO ev c nd x)) := by
  refine PM.of (by decide) (Nat.le_of_ble_eq_true rfl) ?_
  intro p9 e9 s9 m args below meth c9 ls S hr hlocks hP hK hl
  obtain ⟨hx, hb, hml, hown, htc⟩ := id S
  have hl : lv_has ls 3 [(0, .ref (ad 0)), (1, .int (nI nd)), (2, .int x)] := hl
  refine lv_iload_n hx hb d_g_mayBeOtherParent_0 rfl (lv_at hl 2 rfl) ?_
  refine lv_iconst (v := (-1)) hx hb d_g_mayBeOtherParent_1 (by decide) ?_
  refine lv_icmp_eq (tgt := 23) hx hb d_g_mayBeOtherParent_2 (by decide) (fun c_2 => ?_) (fun c_2 => ?_)
  · refine lv_iconst (v := (nI 1)) hx hb d_g_mayBeOtherParent_23 (by decide) ?_
    refine lv_goto (tgt := 28) hx hb d_g_mayBeOtherParent_24 (by decide) ?_
    refine nr_top (w := .int (bI true)) rfl ?_
    exact PM.zret hx hb hr hlocks d_g_mayBeOtherParent_28 (by unfold okO; rw [decide_eq_true c_2]; rfl)
  · refine lv_aload_n hx hb d_g_mayBeOtherParent_5 rfl (lv_at hl 0 rfl) ?_
    refine lv_iload_n hx hb d_g_mayBeOtherParent_6 rfl (lv_at hl 2 rfl) ?_
    refine PM.callV (rest := []) S (c_g_isEvent l D cI cJ cZ ad n ev g x) k_1_137 k_1_139 k_s_3 k_1_1 k_1_140 h_g_isEvent ⟨Nat.le_of_ble_eq_true rfl, Nat.le_of_ble_eq_true rfl⟩ ⟨Nat.le_of_ble_eq_true rfl, Nat.le_of_ble_eq_true rfl⟩ hP hK 0 0 rfl rfl rfl hl.1 (Nat.le_of_ble_eq_true rfl) rfl d_g_mayBeOtherParent_7 ?_
    refine nr_ifeq_b (tgt := 27) hx hb d_g_mayBeOtherParent_10 (by decide) (fun c_10 => ?_) (fun c_10 => ?_)
    · refine lv_iconst (v := (nI 0)) hx hb d_g_mayBeOtherParent_27 (by decide) ?_
      refine nr_top (w := .int (bI false)) rfl ?_
      exact PM.zret hx hb hr hlocks d_g_mayBeOtherParent_28 (by rw [show okO ev c nd x = false from ok_no (by omega) c_10 c_2])
    · obtain ⟨j, hj, rfl⟩ := iv_of c_10 (by omega)
      have hcj := hc0 j (by omega)
      refine lv_aload_n hx hb d_g_mayBeOtherParent_13 rfl (lv_at hl 0 rfl) ?_
      refine va_get (D := D) (ci := 0) (v := .ref (ad 1)) (C := "SightGraph") (T := T_g) (N := 8) hx hb htc in_g hown hK hP 0 rfl rfl 2 (by decide) (htc _ k_1_20) (fun _ h9 => h9) rfl d_g_mayBeOtherParent_14 ?_
      refine lv_iload_n hx hb d_g_mayBeOtherParent_17 rfl (lv_at hl 2 rfl) ?_
      refine nr_iald hx hb hK hP 1 0 rfl rfl (by omega) (by decide) (v := (nI (c j))) (hC j (by omega)).1 d_g_mayBeOtherParent_18 ?_
      refine lv_iload_n hx hb d_g_mayBeOtherParent_19 rfl (lv_at hl 1 rfl) ?_
      refine nr_icmp_eq (tgt := 27) hx hb (by omega) (by omega) d_g_mayBeOtherParent_20 (by decide) (fun c_20 => ?_) (fun c_20 => ?_)
      · refine lv_iconst (v := (nI 0)) hx hb d_g_mayBeOtherParent_27 (by decide) ?_
        refine nr_top (w := .int (bI false)) rfl ?_
        exact PM.zret hx hb hr hlocks d_g_mayBeOtherParent_28 (by rw [show okO ev c nd (nI j) = (!(c j == nd)) from ok_in (by omega) hj, show (c j == nd) = true from by simpa using c_20]; try rfl)
      · refine lv_iconst (v := (nI 1)) hx hb d_g_mayBeOtherParent_23 (by decide) ?_
        refine lv_goto (tgt := 28) hx hb d_g_mayBeOtherParent_24 (by decide) ?_
        refine nr_top (w := .int (bI true)) rfl ?_
        exact PM.zret hx hb hr hlocks d_g_mayBeOtherParent_28 (by rw [show okO ev c nd (nI j) = (!(c j == nd)) from ok_in (by omega) hj, show (c j == nd) = false from by simpa using c_20]; try rfl)
set_option maxHeartbeats 4000000 in
set_option maxRecDepth 100000 in
theorem c_g_requireNode_ok (l : Launch) (D : va_G) (cI cJ cZ : ClassId) (ad : Nat → Nat) (n ev : Nat) (g : GA) (hn : n ≤ 8) (v : Nat) (hv : v < n) : PV l D (tys cI cJ cZ) (gL cI cJ ad n ev g) y_g_requireNode b_g_requireNode 2 0 0 [.ref (ad 0), .int (nI v)] := by
  refine PV.of (by decide) (Nat.le_of_ble_eq_true rfl) ?_
  intro p9 e9 s9 m args below meth c9 ls S hr hlocks hP hK hl
  obtain ⟨hx, hb, hml, hown, htc⟩ := id S
  have hl : lv_has ls 2 [(0, .ref (ad 0)), (1, .int (nI v))] := hl
  refine lv_iload_n hx hb d_g_requireNode_0 rfl (lv_at hl 1 rfl) ?_
  refine nr_iflt_n (tgt := 12) hx hb (by omega) d_g_requireNode_1 (by decide) ?_
  refine lv_iload_n hx hb d_g_requireNode_4 rfl (lv_at hl 1 rfl) ?_
  refine lv_aload_n hx hb d_g_requireNode_5 rfl (lv_at hl 0 rfl) ?_
  refine va_get (D := D) (ci := 0) (v := .int (nI n)) (C := "SightGraph") (T := T_g) (N := 8) hx hb htc in_g hown hK hP 0 rfl rfl 0 (by decide) (htc _ k_1_18) (fun _ h9 => h9) rfl d_g_requireNode_6 ?_
  refine nr_icmp_lt (tgt := 22) hx hb (by omega) (by omega) d_g_requireNode_9 (by decide) (fun c_9 => ?_) (fun c_9 => ?_)
  · exact PV.ret hx hb hr hlocks d_g_requireNode_22
  · exact absurd c_9 (by omega)
set_option maxHeartbeats 4000000 in
set_option maxRecDepth 100000 in
theorem c_g_requireNode_x (l : Launch) (D : va_G) (cI cJ cZ : ClassId) (ad : Nat → Nat) (n ev : Nat) (g : GA) (hl0 : l.stackTraces = false) (sa : Nat → Nat) (x : Int32) (hv : iv n x = false) : XT l D (tys cI cJ cZ) (gL cI cJ ad n ev g) sa y_g_requireNode b_g_requireNode 2 none 6 82 [.ref (ad 0), .int x] "java/lang/IllegalArgumentException" := by
  refine XT.of (by decide) (Nat.le_of_ble_eq_true rfl) ?_
  intro p9 e9 s9 m args below meth c9 ls S hr hlocks ht hP hK hTE hl
  obtain ⟨hx, hb, hml, hown, htc⟩ := id S
  have hl : lv_has ls 2 [(0, .ref (ad 0)), (1, .int x)] := hl
  refine lv_iload_n hx hb d_g_requireNode_0 rfl (lv_at hl 1 rfl) ?_
  refine lv_if_lt (tgt := 12) hx hb d_g_requireNode_1 (by decide) (fun c_1 => ?_) (fun c_1 => ?_)
  · exact XT.thI hl0 S ht hTE hlocks hl.1 1 rfl ⟨Nat.le_of_ble_eq_true rfl, Nat.le_of_ble_eq_true rfl, Nat.le_of_ble_eq_true rfl, Nat.le_of_ble_eq_true rfl⟩ d_g_requireNode_12 d_g_requireNode_15 d_g_requireNode_16 d_g_requireNode_18 d_g_requireNode_21
  · refine lv_iload_n hx hb d_g_requireNode_4 rfl (lv_at hl 1 rfl) ?_
    refine lv_aload_n hx hb d_g_requireNode_5 rfl (lv_at hl 0 rfl) ?_
    refine va_get (D := D) (ci := 0) (v := .int (nI n)) (C := "SightGraph") (T := T_g) (N := 8) hx hb htc in_g hown hK hP 0 rfl rfl 0 (by decide) (htc _ k_1_18) (fun _ h9 => h9) rfl d_g_requireNode_6 ?_
    refine lv_icmp_lt (tgt := 22) hx hb d_g_requireNode_9 (by decide) (fun c_9 => ?_) (fun c_9 => ?_)
    · exact absurd (show iv n x = true from decide_eq_true ⟨Int32.not_lt.mp c_1, c_9⟩) (by rw [hv]; decide)
    · exact XT.thI hl0 S ht hTE hlocks hl.1 1 rfl ⟨Nat.le_of_ble_eq_true rfl, Nat.le_of_ble_eq_true rfl, Nat.le_of_ble_eq_true rfl, Nat.le_of_ble_eq_true rfl⟩ d_g_requireNode_12 d_g_requireNode_15 d_g_requireNode_16 d_g_requireNode_18 d_g_requireNode_21
set_option maxHeartbeats 4000000 in
set_option maxRecDepth 100000 in
theorem c_g_requireEvent_ok (l : Launch) (D : va_G) (cI cJ cZ : ClassId) (ad : Nat → Nat) (n ev : Nat) (g : GA) (x : Int32) (hv : iv ev x = true) : PV l D (tys cI cJ cZ) (gL cI cJ ad n ev g) y_g_requireEvent b_g_requireEvent 2 1 21 [.ref (ad 0), .int x] := by
  refine PV.of (by decide) (Nat.le_of_ble_eq_true rfl) ?_
  intro p9 e9 s9 m args below meth c9 ls S hr hlocks hP hK hl
  obtain ⟨hx, hb, hml, hown, htc⟩ := id S
  have hl : lv_has ls 2 [(0, .ref (ad 0)), (1, .int x)] := hl
  refine lv_aload_n hx hb d_g_requireEvent_0 rfl (lv_at hl 0 rfl) ?_
  refine lv_iload_n hx hb d_g_requireEvent_1 rfl (lv_at hl 1 rfl) ?_
  refine PM.callV (rest := []) S (c_g_isEvent l D cI cJ cZ ad n ev g x) k_1_137 k_1_139 k_s_3 k_1_1 k_1_140 h_g_isEvent ⟨Nat.le_of_ble_eq_true rfl, Nat.le_of_ble_eq_true rfl⟩ ⟨Nat.le_of_ble_eq_true rfl, Nat.le_of_ble_eq_true rfl⟩ hP hK 0 0 rfl rfl rfl hl.1 (Nat.le_of_ble_eq_true rfl) rfl d_g_requireEvent_2 ?_
  refine nr_ifne_b (tgt := 18) hx hb d_g_requireEvent_5 (by decide) (fun c_5 => ?_) (fun c_5 => ?_)
  · exact PV.ret hx hb hr hlocks d_g_requireEvent_18
  · exact absurd hv (by rw [c_5]; decide)
set_option maxHeartbeats 4000000 in
set_option maxRecDepth 100000 in
theorem c_g_requireEvent_x (l : Launch) (D : va_G) (cI cJ cZ : ClassId) (ad : Nat → Nat) (n ev : Nat) (g : GA) (hl0 : l.stackTraces = false) (sa : Nat → Nat) (x : Int32) (hv : iv ev x = false) : XT l D (tys cI cJ cZ) (gL cI cJ ad n ev g) sa y_g_requireEvent b_g_requireEvent 2 none 6 82 [.ref (ad 0), .int x] "java/lang/IndexOutOfBoundsException" := by
  refine XT.of (by decide) (Nat.le_of_ble_eq_true rfl) ?_
  intro p9 e9 s9 m args below meth c9 ls S hr hlocks ht hP hK hTE hl
  obtain ⟨hx, hb, hml, hown, htc⟩ := id S
  have hl : lv_has ls 2 [(0, .ref (ad 0)), (1, .int x)] := hl
  refine lv_aload_n hx hb d_g_requireEvent_0 rfl (lv_at hl 0 rfl) ?_
  refine lv_iload_n hx hb d_g_requireEvent_1 rfl (lv_at hl 1 rfl) ?_
  refine PM.callV (rest := []) S (c_g_isEvent l D cI cJ cZ ad n ev g x) k_1_137 k_1_139 k_s_3 k_1_1 k_1_140 h_g_isEvent ⟨Nat.le_of_ble_eq_true rfl, Nat.le_of_ble_eq_true rfl⟩ ⟨Nat.le_of_ble_eq_true rfl, Nat.le_of_ble_eq_true rfl⟩ hP hK 0 0 rfl rfl rfl hl.1 (Nat.le_of_ble_eq_true rfl) rfl d_g_requireEvent_2 ?_
  refine nr_ifne_b (tgt := 18) hx hb d_g_requireEvent_5 (by decide) (fun c_5 => ?_) (fun c_5 => ?_)
  · exact absurd c_5 (by rw [hv]; decide)
  · exact XT.thB hl0 S ht hTE hlocks hl.1 5 rfl ⟨Nat.le_of_ble_eq_true rfl, Nat.le_of_ble_eq_true rfl, Nat.le_of_ble_eq_true rfl, Nat.le_of_ble_eq_true rfl⟩ d_g_requireEvent_8 d_g_requireEvent_11 d_g_requireEvent_12 d_g_requireEvent_14 d_g_requireEvent_17
set_option maxHeartbeats 4000000 in
set_option maxRecDepth 100000 in
theorem c_g_ancestor_ok (l : Launch) (D : va_G) (cI cJ cZ : ClassId) (ad : Nat → Nat) (n ev : Nat) (g : GA) (c s : Nat → Nat) (an fk : Nat → Nat → Bool) (K : Nat) (hKb : K ≤ 120) (hC : gC K g c s an fk) (hev : ev ≤ K)  (x y : Nat) (hx0 : x < ev) (hy0 : y < ev) : PM l D (tys cI cJ cZ) (gL cI cJ ad n ev g) y_g_ancestor b_g_ancestor 3 (some .boolean) 2 48 [.ref (ad 0), .int (nI x), .int (nI y)] (bI (an x y)) := by
  refine PM.of (by decide) (Nat.le_of_ble_eq_true rfl) ?_
  intro p9 e9 s9 m args below meth c9 ls S hr hlocks hP hK hl
  obtain ⟨hx, hb, hml, hown, htc⟩ := id S
  have hl : lv_has ls 3 [(0, .ref (ad 0)), (1, .int (nI x)), (2, .int (nI y))] := hl
  refine lv_aload_n hx hb d_g_ancestor_0 rfl (lv_at hl 0 rfl) ?_
  refine lv_iload_n hx hb d_g_ancestor_1 rfl (lv_at hl 1 rfl) ?_
  refine PV.callV (rest := []) S (c_g_requireEvent_ok l D cI cJ cZ ad n ev g (nI x) (iv_t hx0 (by omega))) k_1_233 k_1_235 k_s_17 k_1_1 k_1_236 h_g_requireEvent ⟨Nat.le_of_ble_eq_true rfl, Nat.le_of_ble_eq_true rfl⟩ ⟨Nat.le_of_ble_eq_true rfl, Nat.le_of_ble_eq_true rfl⟩ hP hK 0 0 rfl rfl rfl hl.1 (Nat.le_of_ble_eq_true rfl) rfl d_g_ancestor_2 ?_
  refine lv_aload_n hx hb d_g_ancestor_5 rfl (lv_at hl 0 rfl) ?_
  refine lv_iload_n hx hb d_g_ancestor_6 rfl (lv_at hl 2 rfl) ?_
  refine PV.callV (rest := []) S (c_g_requireEvent_ok l D cI cJ cZ ad n ev g (nI y) (iv_t hy0 (by omega))) k_1_233 k_1_235 k_s_17 k_1_1 k_1_236 h_g_requireEvent ⟨Nat.le_of_ble_eq_true rfl, Nat.le_of_ble_eq_true rfl⟩ ⟨Nat.le_of_ble_eq_true rfl, Nat.le_of_ble_eq_true rfl⟩ hP hK 0 0 rfl rfl rfl hl.1 (Nat.le_of_ble_eq_true rfl) rfl d_g_ancestor_7 ?_
  refine lv_aload_n hx hb d_g_ancestor_10 rfl (lv_at hl 0 rfl) ?_
  refine lv_iload_n hx hb d_g_ancestor_11 rfl (lv_at hl 1 rfl) ?_
  refine lv_iload_n hx hb d_g_ancestor_12 rfl (lv_at hl 2 rfl) ?_
  refine PM.callV (rest := []) S (c_g_hasAncestor l D cI cJ cZ ad n ev g c s an fk K hKb hC x y (by omega) (by omega)) k_1_209 k_1_211 k_s_15 k_1_1 k_1_212 h_g_hasAncestor ⟨Nat.le_of_ble_eq_true rfl, Nat.le_of_ble_eq_true rfl⟩ ⟨Nat.le_of_ble_eq_true rfl, Nat.le_of_ble_eq_true rfl⟩ hP hK 0 0 rfl rfl rfl hl.1 (Nat.le_of_ble_eq_true rfl) rfl d_g_ancestor_13 ?_
  exact PM.zret hx hb hr hlocks d_g_ancestor_16 rfl
set_option maxHeartbeats 4000000 in
set_option maxRecDepth 100000 in
theorem c_g_ancestor_x1 (l : Launch) (D : va_G) (cI cJ cZ : ClassId) (ad : Nat → Nat) (n ev : Nat) (g : GA) (hl0 : l.stackTraces = false) (sa : Nat → Nat) (x y : Int32) (hx1 : iv ev x = false) : XT l D (tys cI cJ cZ) (gL cI cJ ad n ev g) sa y_g_ancestor b_g_ancestor 3 (some .boolean) 7 103 [.ref (ad 0), .int x, .int y] "java/lang/IndexOutOfBoundsException" := by
  refine XT.of (by decide) (Nat.le_of_ble_eq_true rfl) ?_
  intro p9 e9 s9 m args below meth c9 ls S hr hlocks ht hP hK hTE hl
  obtain ⟨hx, hb, hml, hown, htc⟩ := id S
  have hl : lv_has ls 3 [(0, .ref (ad 0)), (1, .int x), (2, .int y)] := hl
  refine lv_aload_n hx hb d_g_ancestor_0 rfl (lv_at hl 0 rfl) ?_
  refine lv_iload_n hx hb d_g_ancestor_1 rfl (lv_at hl 1 rfl) ?_
  exact XT.pass (rest := []) S (c_g_requireEvent_x l D cI cJ cZ ad n ev g hl0 sa x hx1) k_1_233 k_1_235 k_s_17 k_1_1 k_1_236 h_g_requireEvent ⟨Nat.le_of_ble_eq_true rfl, Nat.le_of_ble_eq_true rfl⟩ ⟨Nat.le_of_ble_eq_true rfl, Nat.le_of_ble_eq_true rfl⟩ hP hK hTE ht hlocks 0 0 rfl rfl rfl hl.1 (Nat.le_of_ble_eq_true rfl) rfl d_g_ancestor_2
set_option maxHeartbeats 4000000 in
set_option maxRecDepth 100000 in
theorem c_g_ancestor_x2 (l : Launch) (D : va_G) (cI cJ cZ : ClassId) (ad : Nat → Nat) (n ev : Nat) (g : GA) (hl0 : l.stackTraces = false) (sa : Nat → Nat) (x y : Int32) (hx1 : iv ev x = true) (hy1 : iv ev y = false) : XT l D (tys cI cJ cZ) (gL cI cJ ad n ev g) sa y_g_ancestor b_g_ancestor 3 (some .boolean) 7 103 [.ref (ad 0), .int x, .int y] "java/lang/IndexOutOfBoundsException" := by
  refine XT.of (by decide) (Nat.le_of_ble_eq_true rfl) ?_
  intro p9 e9 s9 m args below meth c9 ls S hr hlocks ht hP hK hTE hl
  obtain ⟨hx, hb, hml, hown, htc⟩ := id S
  have hl : lv_has ls 3 [(0, .ref (ad 0)), (1, .int x), (2, .int y)] := hl
  refine lv_aload_n hx hb d_g_ancestor_0 rfl (lv_at hl 0 rfl) ?_
  refine lv_iload_n hx hb d_g_ancestor_1 rfl (lv_at hl 1 rfl) ?_
  refine PV.callV (rest := []) S (c_g_requireEvent_ok l D cI cJ cZ ad n ev g x hx1) k_1_233 k_1_235 k_s_17 k_1_1 k_1_236 h_g_requireEvent ⟨Nat.le_of_ble_eq_true rfl, Nat.le_of_ble_eq_true rfl⟩ ⟨Nat.le_of_ble_eq_true rfl, Nat.le_of_ble_eq_true rfl⟩ hP hK 0 0 rfl rfl rfl hl.1 (Nat.le_of_ble_eq_true rfl) rfl d_g_ancestor_2 ?_
  refine lv_aload_n hx hb d_g_ancestor_5 rfl (lv_at hl 0 rfl) ?_
  refine lv_iload_n hx hb d_g_ancestor_6 rfl (lv_at hl 2 rfl) ?_
  exact XT.pass (rest := []) S (c_g_requireEvent_x l D cI cJ cZ ad n ev g hl0 sa y hy1) k_1_233 k_1_235 k_s_17 k_1_1 k_1_236 h_g_requireEvent ⟨Nat.le_of_ble_eq_true rfl, Nat.le_of_ble_eq_true rfl⟩ ⟨Nat.le_of_ble_eq_true rfl, Nat.le_of_ble_eq_true rfl⟩ hP hK hTE ht hlocks 0 0 rfl rfl rfl hl.1 (Nat.le_of_ble_eq_true rfl) rfl d_g_ancestor_7
set_option maxHeartbeats 4000000 in
set_option maxRecDepth 100000 in
theorem c_g_sees_ok (l : Launch) (D : va_G) (cI cJ cZ : ClassId) (ad : Nat → Nat) (n ev : Nat) (g : GA) (c s : Nat → Nat) (an fk : Nat → Nat → Bool) (K : Nat) (hKb : K ≤ 120) (hC : gC K g c s an fk) (hev : ev ≤ K) (hc0 : ∀ i, i < K → c i < 8)  (x y : Nat) (hx0 : x < ev) (hy0 : y < ev) : PM l D (tys cI cJ cZ) (gL cI cJ ad n ev g) y_g_sees b_g_sees 3 (some .boolean) 3 70 [.ref (ad 0), .int (nI x), .int (nI y)] (bI (se an fk c x y)) := by
  refine PM.of (by decide) (Nat.le_of_ble_eq_true rfl) ?_
  intro p9 e9 s9 m args below meth c9 ls S hr hlocks hP hK hl
  obtain ⟨hx, hb, hml, hown, htc⟩ := id S
  have hl : lv_has ls 3 [(0, .ref (ad 0)), (1, .int (nI x)), (2, .int (nI y))] := hl
  refine lv_aload_n hx hb d_g_sees_0 rfl (lv_at hl 0 rfl) ?_
  refine lv_iload_n hx hb d_g_sees_1 rfl (lv_at hl 1 rfl) ?_
  refine PV.callV (rest := []) S (c_g_requireEvent_ok l D cI cJ cZ ad n ev g (nI x) (iv_t hx0 (by omega))) k_1_233 k_1_235 k_s_17 k_1_1 k_1_236 h_g_requireEvent ⟨Nat.le_of_ble_eq_true rfl, Nat.le_of_ble_eq_true rfl⟩ ⟨Nat.le_of_ble_eq_true rfl, Nat.le_of_ble_eq_true rfl⟩ hP hK 0 0 rfl rfl rfl hl.1 (Nat.le_of_ble_eq_true rfl) rfl d_g_sees_2 ?_
  refine lv_aload_n hx hb d_g_sees_5 rfl (lv_at hl 0 rfl) ?_
  refine lv_iload_n hx hb d_g_sees_6 rfl (lv_at hl 2 rfl) ?_
  refine PV.callV (rest := []) S (c_g_requireEvent_ok l D cI cJ cZ ad n ev g (nI y) (iv_t hy0 (by omega))) k_1_233 k_1_235 k_s_17 k_1_1 k_1_236 h_g_requireEvent ⟨Nat.le_of_ble_eq_true rfl, Nat.le_of_ble_eq_true rfl⟩ ⟨Nat.le_of_ble_eq_true rfl, Nat.le_of_ble_eq_true rfl⟩ hP hK 0 0 rfl rfl rfl hl.1 (Nat.le_of_ble_eq_true rfl) rfl d_g_sees_7 ?_
  refine lv_aload_n hx hb d_g_sees_10 rfl (lv_at hl 0 rfl) ?_
  refine lv_iload_n hx hb d_g_sees_11 rfl (lv_at hl 1 rfl) ?_
  refine lv_iload_n hx hb d_g_sees_12 rfl (lv_at hl 2 rfl) ?_
  refine PM.callV (rest := []) S (c_g_hasSight l D cI cJ cZ ad n ev g c s an fk K hKb hC x y (by omega) (by omega) (hc0 y (by omega))) k_1_205 k_1_207 k_s_14 k_1_1 k_1_208 h_g_hasSight ⟨Nat.le_of_ble_eq_true rfl, Nat.le_of_ble_eq_true rfl⟩ ⟨Nat.le_of_ble_eq_true rfl, Nat.le_of_ble_eq_true rfl⟩ hP hK 0 0 rfl rfl rfl hl.1 (Nat.le_of_ble_eq_true rfl) rfl d_g_sees_13 ?_
  exact PM.zret hx hb hr hlocks d_g_sees_16 rfl
set_option maxHeartbeats 4000000 in
set_option maxRecDepth 100000 in
theorem c_g_sees_x1 (l : Launch) (D : va_G) (cI cJ cZ : ClassId) (ad : Nat → Nat) (n ev : Nat) (g : GA) (hl0 : l.stackTraces = false) (sa : Nat → Nat) (x y : Int32) (hx1 : iv ev x = false) : XT l D (tys cI cJ cZ) (gL cI cJ ad n ev g) sa y_g_sees b_g_sees 3 (some .boolean) 7 103 [.ref (ad 0), .int x, .int y] "java/lang/IndexOutOfBoundsException" := by
  refine XT.of (by decide) (Nat.le_of_ble_eq_true rfl) ?_
  intro p9 e9 s9 m args below meth c9 ls S hr hlocks ht hP hK hTE hl
  obtain ⟨hx, hb, hml, hown, htc⟩ := id S
  have hl : lv_has ls 3 [(0, .ref (ad 0)), (1, .int x), (2, .int y)] := hl
  refine lv_aload_n hx hb d_g_sees_0 rfl (lv_at hl 0 rfl) ?_
  refine lv_iload_n hx hb d_g_sees_1 rfl (lv_at hl 1 rfl) ?_
  exact XT.pass (rest := []) S (c_g_requireEvent_x l D cI cJ cZ ad n ev g hl0 sa x hx1) k_1_233 k_1_235 k_s_17 k_1_1 k_1_236 h_g_requireEvent ⟨Nat.le_of_ble_eq_true rfl, Nat.le_of_ble_eq_true rfl⟩ ⟨Nat.le_of_ble_eq_true rfl, Nat.le_of_ble_eq_true rfl⟩ hP hK hTE ht hlocks 0 0 rfl rfl rfl hl.1 (Nat.le_of_ble_eq_true rfl) rfl d_g_sees_2
set_option maxHeartbeats 4000000 in
set_option maxRecDepth 100000 in
theorem c_g_sees_x2 (l : Launch) (D : va_G) (cI cJ cZ : ClassId) (ad : Nat → Nat) (n ev : Nat) (g : GA) (hl0 : l.stackTraces = false) (sa : Nat → Nat) (x y : Int32) (hx1 : iv ev x = true) (hy1 : iv ev y = false) : XT l D (tys cI cJ cZ) (gL cI cJ ad n ev g) sa y_g_sees b_g_sees 3 (some .boolean) 7 103 [.ref (ad 0), .int x, .int y] "java/lang/IndexOutOfBoundsException" := by
  refine XT.of (by decide) (Nat.le_of_ble_eq_true rfl) ?_
  intro p9 e9 s9 m args below meth c9 ls S hr hlocks ht hP hK hTE hl
  obtain ⟨hx, hb, hml, hown, htc⟩ := id S
  have hl : lv_has ls 3 [(0, .ref (ad 0)), (1, .int x), (2, .int y)] := hl
  refine lv_aload_n hx hb d_g_sees_0 rfl (lv_at hl 0 rfl) ?_
  refine lv_iload_n hx hb d_g_sees_1 rfl (lv_at hl 1 rfl) ?_
  refine PV.callV (rest := []) S (c_g_requireEvent_ok l D cI cJ cZ ad n ev g x hx1) k_1_233 k_1_235 k_s_17 k_1_1 k_1_236 h_g_requireEvent ⟨Nat.le_of_ble_eq_true rfl, Nat.le_of_ble_eq_true rfl⟩ ⟨Nat.le_of_ble_eq_true rfl, Nat.le_of_ble_eq_true rfl⟩ hP hK 0 0 rfl rfl rfl hl.1 (Nat.le_of_ble_eq_true rfl) rfl d_g_sees_2 ?_
  refine lv_aload_n hx hb d_g_sees_5 rfl (lv_at hl 0 rfl) ?_
  refine lv_iload_n hx hb d_g_sees_6 rfl (lv_at hl 2 rfl) ?_
  exact XT.pass (rest := []) S (c_g_requireEvent_x l D cI cJ cZ ad n ev g hl0 sa y hy1) k_1_233 k_1_235 k_s_17 k_1_1 k_1_236 h_g_requireEvent ⟨Nat.le_of_ble_eq_true rfl, Nat.le_of_ble_eq_true rfl⟩ ⟨Nat.le_of_ble_eq_true rfl, Nat.le_of_ble_eq_true rfl⟩ hP hK hTE ht hlocks 0 0 rfl rfl rfl hl.1 (Nat.le_of_ble_eq_true rfl) rfl d_g_sees_7
set_option maxHeartbeats 4000000 in
set_option maxRecDepth 100000 in
theorem c_g_strength_ok (l : Launch) (D : va_G) (cI cJ cZ : ClassId) (ad : Nat → Nat) (n ev : Nat) (g : GA) (c s : Nat → Nat) (an fk : Nat → Nat → Bool) (K : Nat) (hKb : K ≤ 120) (hC : gC K g c s an fk) (o : Nat → Nat) (ow : Nat → Nat → Bool) (hLw : Lw K n c s o an ow) (hn : n ≤ 8) (hev : ev ≤ K)  (x y : Nat) (hx0 : x < ev) (hy0 : y < ev) : PM l D (tys cI cJ cZ) (gL cI cJ ad n ev g) y_g_strength b_g_strength 3 (some .int) 4 94 [.ref (ad 0), .int (nI x), .int (nI y)] (nI (sn n an fk c x y)) := by
  refine PM.of (by decide) (Nat.le_of_ble_eq_true rfl) ?_
  intro p9 e9 s9 m args below meth c9 ls S hr hlocks hP hK hl
  obtain ⟨hx, hb, hml, hown, htc⟩ := id S
  have hl : lv_has ls 3 [(0, .ref (ad 0)), (1, .int (nI x)), (2, .int (nI y))] := hl
  refine lv_aload_n hx hb d_g_strength_0 rfl (lv_at hl 0 rfl) ?_
  refine lv_iload_n hx hb d_g_strength_1 rfl (lv_at hl 1 rfl) ?_
  refine PV.callV (rest := []) S (c_g_requireEvent_ok l D cI cJ cZ ad n ev g (nI x) (iv_t hx0 (by omega))) k_1_233 k_1_235 k_s_17 k_1_1 k_1_236 h_g_requireEvent ⟨Nat.le_of_ble_eq_true rfl, Nat.le_of_ble_eq_true rfl⟩ ⟨Nat.le_of_ble_eq_true rfl, Nat.le_of_ble_eq_true rfl⟩ hP hK 0 0 rfl rfl rfl hl.1 (Nat.le_of_ble_eq_true rfl) rfl d_g_strength_2 ?_
  refine lv_aload_n hx hb d_g_strength_5 rfl (lv_at hl 0 rfl) ?_
  refine lv_iload_n hx hb d_g_strength_6 rfl (lv_at hl 2 rfl) ?_
  refine PV.callV (rest := []) S (c_g_requireEvent_ok l D cI cJ cZ ad n ev g (nI y) (iv_t hy0 (by omega))) k_1_233 k_1_235 k_s_17 k_1_1 k_1_236 h_g_requireEvent ⟨Nat.le_of_ble_eq_true rfl, Nat.le_of_ble_eq_true rfl⟩ ⟨Nat.le_of_ble_eq_true rfl, Nat.le_of_ble_eq_true rfl⟩ hP hK 0 0 rfl rfl rfl hl.1 (Nat.le_of_ble_eq_true rfl) rfl d_g_strength_7 ?_
  refine lv_aload_n hx hb d_g_strength_10 rfl (lv_at hl 0 rfl) ?_
  refine lv_iload_n hx hb d_g_strength_11 rfl (lv_at hl 1 rfl) ?_
  refine lv_iload_n hx hb d_g_strength_12 rfl (lv_at hl 2 rfl) ?_
  refine PM.callV (rest := []) S (c_g_nodesBetween l D cI cJ cZ ad n ev g c s an fk K hKb hC o ow hLw hn x y (by omega) (by omega)) k_1_201 k_1_203 k_s_13 k_1_1 k_1_204 h_g_nodesBetween ⟨Nat.le_of_ble_eq_true rfl, Nat.le_of_ble_eq_true rfl⟩ ⟨Nat.le_of_ble_eq_true rfl, Nat.le_of_ble_eq_true rfl⟩ hP hK 0 0 rfl rfl rfl hl.1 (Nat.le_of_ble_eq_true rfl) rfl d_g_strength_13 ?_
  exact PM.iret hx hb hr hlocks d_g_strength_16 rfl
set_option maxHeartbeats 4000000 in
set_option maxRecDepth 100000 in
theorem c_g_strength_x1 (l : Launch) (D : va_G) (cI cJ cZ : ClassId) (ad : Nat → Nat) (n ev : Nat) (g : GA) (hl0 : l.stackTraces = false) (sa : Nat → Nat) (x y : Int32) (hx1 : iv ev x = false) : XT l D (tys cI cJ cZ) (gL cI cJ ad n ev g) sa y_g_strength b_g_strength 3 (some .int) 7 103 [.ref (ad 0), .int x, .int y] "java/lang/IndexOutOfBoundsException" := by
  refine XT.of (by decide) (Nat.le_of_ble_eq_true rfl) ?_
  intro p9 e9 s9 m args below meth c9 ls S hr hlocks ht hP hK hTE hl
  obtain ⟨hx, hb, hml, hown, htc⟩ := id S
  have hl : lv_has ls 3 [(0, .ref (ad 0)), (1, .int x), (2, .int y)] := hl
  refine lv_aload_n hx hb d_g_strength_0 rfl (lv_at hl 0 rfl) ?_
  refine lv_iload_n hx hb d_g_strength_1 rfl (lv_at hl 1 rfl) ?_
  exact XT.pass (rest := []) S (c_g_requireEvent_x l D cI cJ cZ ad n ev g hl0 sa x hx1) k_1_233 k_1_235 k_s_17 k_1_1 k_1_236 h_g_requireEvent ⟨Nat.le_of_ble_eq_true rfl, Nat.le_of_ble_eq_true rfl⟩ ⟨Nat.le_of_ble_eq_true rfl, Nat.le_of_ble_eq_true rfl⟩ hP hK hTE ht hlocks 0 0 rfl rfl rfl hl.1 (Nat.le_of_ble_eq_true rfl) rfl d_g_strength_2
set_option maxHeartbeats 4000000 in
set_option maxRecDepth 100000 in
theorem c_g_strength_x2 (l : Launch) (D : va_G) (cI cJ cZ : ClassId) (ad : Nat → Nat) (n ev : Nat) (g : GA) (hl0 : l.stackTraces = false) (sa : Nat → Nat) (x y : Int32) (hx1 : iv ev x = true) (hy1 : iv ev y = false) : XT l D (tys cI cJ cZ) (gL cI cJ ad n ev g) sa y_g_strength b_g_strength 3 (some .int) 7 103 [.ref (ad 0), .int x, .int y] "java/lang/IndexOutOfBoundsException" := by
  refine XT.of (by decide) (Nat.le_of_ble_eq_true rfl) ?_
  intro p9 e9 s9 m args below meth c9 ls S hr hlocks ht hP hK hTE hl
  obtain ⟨hx, hb, hml, hown, htc⟩ := id S
  have hl : lv_has ls 3 [(0, .ref (ad 0)), (1, .int x), (2, .int y)] := hl
  refine lv_aload_n hx hb d_g_strength_0 rfl (lv_at hl 0 rfl) ?_
  refine lv_iload_n hx hb d_g_strength_1 rfl (lv_at hl 1 rfl) ?_
  refine PV.callV (rest := []) S (c_g_requireEvent_ok l D cI cJ cZ ad n ev g x hx1) k_1_233 k_1_235 k_s_17 k_1_1 k_1_236 h_g_requireEvent ⟨Nat.le_of_ble_eq_true rfl, Nat.le_of_ble_eq_true rfl⟩ ⟨Nat.le_of_ble_eq_true rfl, Nat.le_of_ble_eq_true rfl⟩ hP hK 0 0 rfl rfl rfl hl.1 (Nat.le_of_ble_eq_true rfl) rfl d_g_strength_2 ?_
  refine lv_aload_n hx hb d_g_strength_5 rfl (lv_at hl 0 rfl) ?_
  refine lv_iload_n hx hb d_g_strength_6 rfl (lv_at hl 2 rfl) ?_
  exact XT.pass (rest := []) S (c_g_requireEvent_x l D cI cJ cZ ad n ev g hl0 sa y hy1) k_1_233 k_1_235 k_s_17 k_1_1 k_1_236 h_g_requireEvent ⟨Nat.le_of_ble_eq_true rfl, Nat.le_of_ble_eq_true rfl⟩ ⟨Nat.le_of_ble_eq_true rfl, Nat.le_of_ble_eq_true rfl⟩ hP hK hTE ht hlocks 0 0 rfl rfl rfl hl.1 (Nat.le_of_ble_eq_true rfl) rfl d_g_strength_7
set_option maxHeartbeats 4000000 in
set_option maxRecDepth 100000 in
theorem c_g_strongly_ok (l : Launch) (D : va_G) (cI cJ cZ : ClassId) (ad : Nat → Nat) (n ev : Nat) (g : GA) (c s : Nat → Nat) (an fk : Nat → Nat → Bool) (K : Nat) (hKb : K ≤ 120) (hC : gC K g c s an fk) (o : Nat → Nat) (ow : Nat → Nat → Bool) (hLw : Lw K n c s o an ow) (hn : n ≤ 8) (hev : ev ≤ K)  (x y : Nat) (hx0 : x < ev) (hy0 : y < ev) : PM l D (tys cI cJ cZ) (gL cI cJ ad n ev g) y_g_strongly b_g_strongly 3 (some .boolean) 4 94 [.ref (ad 0), .int (nI x), .int (nI y)] (bI (mn n (sn n an fk c x y))) := by
  refine PM.of (by decide) (Nat.le_of_ble_eq_true rfl) ?_
  intro p9 e9 s9 m args below meth c9 ls S hr hlocks hP hK hl
  obtain ⟨hx, hb, hml, hown, htc⟩ := id S
  have hl : lv_has ls 3 [(0, .ref (ad 0)), (1, .int (nI x)), (2, .int (nI y))] := hl
  refine lv_aload_n hx hb d_g_strongly_0 rfl (lv_at hl 0 rfl) ?_
  refine lv_iload_n hx hb d_g_strongly_1 rfl (lv_at hl 1 rfl) ?_
  refine PV.callV (rest := []) S (c_g_requireEvent_ok l D cI cJ cZ ad n ev g (nI x) (iv_t hx0 (by omega))) k_1_233 k_1_235 k_s_17 k_1_1 k_1_236 h_g_requireEvent ⟨Nat.le_of_ble_eq_true rfl, Nat.le_of_ble_eq_true rfl⟩ ⟨Nat.le_of_ble_eq_true rfl, Nat.le_of_ble_eq_true rfl⟩ hP hK 0 0 rfl rfl rfl hl.1 (Nat.le_of_ble_eq_true rfl) rfl d_g_strongly_2 ?_
  refine lv_aload_n hx hb d_g_strongly_5 rfl (lv_at hl 0 rfl) ?_
  refine lv_iload_n hx hb d_g_strongly_6 rfl (lv_at hl 2 rfl) ?_
  refine PV.callV (rest := []) S (c_g_requireEvent_ok l D cI cJ cZ ad n ev g (nI y) (iv_t hy0 (by omega))) k_1_233 k_1_235 k_s_17 k_1_1 k_1_236 h_g_requireEvent ⟨Nat.le_of_ble_eq_true rfl, Nat.le_of_ble_eq_true rfl⟩ ⟨Nat.le_of_ble_eq_true rfl, Nat.le_of_ble_eq_true rfl⟩ hP hK 0 0 rfl rfl rfl hl.1 (Nat.le_of_ble_eq_true rfl) rfl d_g_strongly_7 ?_
  refine lv_aload_n hx hb d_g_strongly_10 rfl (lv_at hl 0 rfl) ?_
  refine lv_aload_n hx hb d_g_strongly_11 rfl (lv_at hl 0 rfl) ?_
  refine lv_iload_n hx hb d_g_strongly_12 rfl (lv_at hl 1 rfl) ?_
  refine lv_iload_n hx hb d_g_strongly_13 rfl (lv_at hl 2 rfl) ?_
  refine PM.callV (rest := [.ref (ad 0)]) S (c_g_nodesBetween l D cI cJ cZ ad n ev g c s an fk K hKb hC o ow hLw hn x y (by omega) (by omega)) k_1_201 k_1_203 k_s_13 k_1_1 k_1_204 h_g_nodesBetween ⟨Nat.le_of_ble_eq_true rfl, Nat.le_of_ble_eq_true rfl⟩ ⟨Nat.le_of_ble_eq_true rfl, Nat.le_of_ble_eq_true rfl⟩ hP hK 0 0 rfl rfl rfl hl.1 (Nat.le_of_ble_eq_true rfl) rfl d_g_strongly_14 ?_
  refine PM.callV (rest := []) S (c_g_isMany l D cI cJ cZ ad n ev g (sn n an fk c x y) (Nat.le_trans (sn_le n an fk c x y) (by omega)) hn) k_1_222 k_1_224 k_s_16 k_1_1 k_1_225 h_g_isMany ⟨Nat.le_of_ble_eq_true rfl, Nat.le_of_ble_eq_true rfl⟩ ⟨Nat.le_of_ble_eq_true rfl, Nat.le_of_ble_eq_true rfl⟩ hP hK 0 0 rfl rfl rfl hl.1 (Nat.le_of_ble_eq_true rfl) rfl d_g_strongly_17 ?_
  exact PM.zret hx hb hr hlocks d_g_strongly_20 rfl
set_option maxHeartbeats 4000000 in
set_option maxRecDepth 100000 in
theorem c_g_strongly_x1 (l : Launch) (D : va_G) (cI cJ cZ : ClassId) (ad : Nat → Nat) (n ev : Nat) (g : GA) (hl0 : l.stackTraces = false) (sa : Nat → Nat) (x y : Int32) (hx1 : iv ev x = false) : XT l D (tys cI cJ cZ) (gL cI cJ ad n ev g) sa y_g_strongly b_g_strongly 3 (some .boolean) 7 103 [.ref (ad 0), .int x, .int y] "java/lang/IndexOutOfBoundsException" := by
  refine XT.of (by decide) (Nat.le_of_ble_eq_true rfl) ?_
  intro p9 e9 s9 m args below meth c9 ls S hr hlocks ht hP hK hTE hl
  obtain ⟨hx, hb, hml, hown, htc⟩ := id S
  have hl : lv_has ls 3 [(0, .ref (ad 0)), (1, .int x), (2, .int y)] := hl
  refine lv_aload_n hx hb d_g_strongly_0 rfl (lv_at hl 0 rfl) ?_
  refine lv_iload_n hx hb d_g_strongly_1 rfl (lv_at hl 1 rfl) ?_
  exact XT.pass (rest := []) S (c_g_requireEvent_x l D cI cJ cZ ad n ev g hl0 sa x hx1) k_1_233 k_1_235 k_s_17 k_1_1 k_1_236 h_g_requireEvent ⟨Nat.le_of_ble_eq_true rfl, Nat.le_of_ble_eq_true rfl⟩ ⟨Nat.le_of_ble_eq_true rfl, Nat.le_of_ble_eq_true rfl⟩ hP hK hTE ht hlocks 0 0 rfl rfl rfl hl.1 (Nat.le_of_ble_eq_true rfl) rfl d_g_strongly_2
set_option maxHeartbeats 4000000 in
set_option maxRecDepth 100000 in
theorem c_g_strongly_x2 (l : Launch) (D : va_G) (cI cJ cZ : ClassId) (ad : Nat → Nat) (n ev : Nat) (g : GA) (hl0 : l.stackTraces = false) (sa : Nat → Nat) (x y : Int32) (hx1 : iv ev x = true) (hy1 : iv ev y = false) : XT l D (tys cI cJ cZ) (gL cI cJ ad n ev g) sa y_g_strongly b_g_strongly 3 (some .boolean) 7 103 [.ref (ad 0), .int x, .int y] "java/lang/IndexOutOfBoundsException" := by
  refine XT.of (by decide) (Nat.le_of_ble_eq_true rfl) ?_
  intro p9 e9 s9 m args below meth c9 ls S hr hlocks ht hP hK hTE hl
  obtain ⟨hx, hb, hml, hown, htc⟩ := id S
  have hl : lv_has ls 3 [(0, .ref (ad 0)), (1, .int x), (2, .int y)] := hl
  refine lv_aload_n hx hb d_g_strongly_0 rfl (lv_at hl 0 rfl) ?_
  refine lv_iload_n hx hb d_g_strongly_1 rfl (lv_at hl 1 rfl) ?_
  refine PV.callV (rest := []) S (c_g_requireEvent_ok l D cI cJ cZ ad n ev g x hx1) k_1_233 k_1_235 k_s_17 k_1_1 k_1_236 h_g_requireEvent ⟨Nat.le_of_ble_eq_true rfl, Nat.le_of_ble_eq_true rfl⟩ ⟨Nat.le_of_ble_eq_true rfl, Nat.le_of_ble_eq_true rfl⟩ hP hK 0 0 rfl rfl rfl hl.1 (Nat.le_of_ble_eq_true rfl) rfl d_g_strongly_2 ?_
  refine lv_aload_n hx hb d_g_strongly_5 rfl (lv_at hl 0 rfl) ?_
  refine lv_iload_n hx hb d_g_strongly_6 rfl (lv_at hl 2 rfl) ?_
  exact XT.pass (rest := []) S (c_g_requireEvent_x l D cI cJ cZ ad n ev g hl0 sa y hy1) k_1_233 k_1_235 k_s_17 k_1_1 k_1_236 h_g_requireEvent ⟨Nat.le_of_ble_eq_true rfl, Nat.le_of_ble_eq_true rfl⟩ ⟨Nat.le_of_ble_eq_true rfl, Nat.le_of_ble_eq_true rfl⟩ hP hK hTE ht hlocks 0 0 rfl rfl rfl hl.1 (Nat.le_of_ble_eq_true rfl) rfl d_g_strongly_7
set_option maxHeartbeats 4000000 in
set_option maxRecDepth 100000 in
theorem c_g_own_ok (l : Launch) (D : va_G) (cI cJ cZ : ClassId) (ad : Nat → Nat) (n ev : Nat) (g : GA) (c s : Nat → Nat) (an fk : Nat → Nat → Bool) (K : Nat) (hKb : K ≤ 120) (hC : gC K g c s an fk) (o : Nat → Nat) (ow : Nat → Nat → Bool) (hLw : Lw K n c s o an ow) (hn : n ≤ 8) (hev : ev ≤ K)  (x y : Nat) (hx0 : x < ev) (hy0 : y < ev) : PM l D (tys cI cJ cZ) (gL cI cJ ad n ev g) y_g_own b_g_own 5 (some .boolean) 2 42 [.ref (ad 0), .int (nI x), .int (nI y)] (bI (ow x y)) := by
  refine PM.of (by decide) (Nat.le_of_ble_eq_true rfl) ?_
  intro p9 e9 s9 m args below meth c9 ls S hr hlocks hP hK hl
  obtain ⟨hx, hb, hml, hown, htc⟩ := id S
  have hl : lv_has ls 5 [(0, .ref (ad 0)), (1, .int (nI x)), (2, .int (nI y))] := hl
  refine lv_aload_n hx hb d_g_own_0 rfl (lv_at hl 0 rfl) ?_
  refine lv_iload_n hx hb d_g_own_1 rfl (lv_at hl 1 rfl) ?_
  refine PV.callV (rest := []) S (c_g_requireEvent_ok l D cI cJ cZ ad n ev g (nI x) (iv_t hx0 (by omega))) k_1_233 k_1_235 k_s_17 k_1_1 k_1_236 h_g_requireEvent ⟨Nat.le_of_ble_eq_true rfl, Nat.le_of_ble_eq_true rfl⟩ ⟨Nat.le_of_ble_eq_true rfl, Nat.le_of_ble_eq_true rfl⟩ hP hK 0 0 rfl rfl rfl hl.1 (Nat.le_of_ble_eq_true rfl) rfl d_g_own_2 ?_
  refine lv_aload_n hx hb d_g_own_5 rfl (lv_at hl 0 rfl) ?_
  refine lv_iload_n hx hb d_g_own_6 rfl (lv_at hl 2 rfl) ?_
  refine PV.callV (rest := []) S (c_g_requireEvent_ok l D cI cJ cZ ad n ev g (nI y) (iv_t hy0 (by omega))) k_1_233 k_1_235 k_s_17 k_1_1 k_1_236 h_g_requireEvent ⟨Nat.le_of_ble_eq_true rfl, Nat.le_of_ble_eq_true rfl⟩ ⟨Nat.le_of_ble_eq_true rfl, Nat.le_of_ble_eq_true rfl⟩ hP hK 0 0 rfl rfl rfl hl.1 (Nat.le_of_ble_eq_true rfl) rfl d_g_own_7 ?_
  refine lv_iload_n hx hb d_g_own_10 rfl (lv_at hl 1 rfl) ?_
  refine nr_top (w := .int (mI (x + 1))) rfl ?_
  refine lv_istore_n (lv' := [(3, .int (mI (x + 1))), (0, .ref (ad 0)), (1, .int (nI x)), (2, .int (nI y))]) hx hb d_g_own_11 rfl hl (by decide) rfl (fun ls hl => ?_)
  refine lv_iload_n hx hb d_g_own_12 rfl (lv_at hl 2 rfl) ?_
  refine lv_istore (lv' := [(4, .int (nI x)), (3, .int (mI (x + 1))), (0, .ref (ad 0)), (1, .int (nI x)), (2, .int (nI y))]) hx hb d_g_own_13 hl (by decide) rfl (fun ls hl => ?_)
  have loop : ∀ (d : Nat) (i t : Nat) (ls : Array Slot), i < d → i < K → t ≤ i + 1 → i < 120 → pa ow t y = ow x y → lv_has ls 5 [(4, .int (nI i)), (3, .int (mI t)), (2, .int (nI y)), (1, .int (nI x)), (0, .ref (ad 0))] → W p9 l e9 ({ frames := 2, cells := 0, slots := 0, locals := 42 }) s9 m args below meth c9 s9.heap [] 0 0 (MQ below (vp_Si (fun r9 => r9 = (bI (ow x y)))) args s9 0 0 (fun _ => False)) (F0 m 15 ls []) := by
    intro d
    induction d with
    | zero =>
      intro i t ls hd hi ht9 hi2 hw hl
      exact absurd hd (by omega)
    | succ d ih =>
      intro i t ls hd hi ht9 hi2 hw hl
      refine lv_iload hx hb d_g_own_15 (lv_at hl 0 rfl) ?_
      refine lv_iload_n hx hb d_g_own_17 rfl (lv_at hl 2 rfl) ?_
      refine nr_icmp_le (tgt := 41) hx hb (by omega) (by omega) d_g_own_18 (by decide) (fun c_18 => ?_) (fun c_18 => ?_)
      · refine lv_iload_n hx hb d_g_own_41 rfl (lv_at hl 1 rfl) ?_
        refine lv_iload_n hx hb d_g_own_42 rfl (lv_at hl 2 rfl) ?_
        refine lv_icmp_ne (tgt := 50) hx hb d_g_own_43 (by decide) (fun c_43 => ?_) (fun c_43 => ?_)
        · refine lv_iconst (v := (nI 0)) hx hb d_g_own_50 (by decide) ?_
          refine nr_top (w := .int (bI false)) rfl ?_
          exact PM.zret hx hb hr hlocks d_g_own_51 (by rw [← hw]; exact congrArg bI (own_no hLw (by omega) (by omega) (fun q => c_43 (by rw [q]; rfl))).symm)
        · refine lv_iconst (v := (nI 1)) hx hb d_g_own_46 (by decide) ?_
          refine lv_goto (tgt := 51) hx hb d_g_own_47 (by decide) ?_
          refine nr_top (w := .int (bI true)) rfl ?_
          exact PM.zret hx hb hr hlocks d_g_own_51 (by rw [← hw]; exact congrArg bI (own_yes hLw (by omega) ((mI_nI (by omega) (by omega)).mp c_43)).symm)
      · refine lv_iload hx hb d_g_own_21 (lv_at hl 0 rfl) ?_
        refine lv_iload_n hx hb d_g_own_23 rfl (lv_at hl 1 rfl) ?_
        refine lv_icmp_ne (tgt := 35) hx hb d_g_own_24 (by decide) (fun c_24 => ?_) (fun c_24 => ?_)
        · refine lv_iinc (v := nI (i - 1)) (lv' := [(4, .int (nI (i - 1))), (3, .int (mI t)), (2, .int (nI y)), (1, .int (nI x)), (0, .ref (ad 0))]) hx hb d_g_own_35 hl (k := 0) rfl (by rw [show i = (i - 1) + 1 by omega]; exact pk_m1 (i - 1)) (by decide) rfl (fun ls hl => ?_)
          refine lv_goto (tgt := 15) hx hb d_g_own_38 (by decide) ?_
          exact ih (i - 1) t ls (by omega) (by omega) (by have q : ¬ t = i + 1 := (fun z => c_24 ((mI_nI (by omega) (by omega)).mpr z).symm); omega) (by omega) hw (lv_sub hl [0, 1, 2, 3, 4] rfl)
        · refine lv_aload_n hx hb d_g_own_27 rfl (lv_at hl 4 rfl) ?_
          refine va_get (D := D) (ci := 0) (v := .ref (ad 2)) (C := "SightGraph") (T := T_g) (N := 8) hx hb htc in_g hown hK hP 0 rfl rfl 3 (by decide) (htc _ k_1_21) (fun _ h9 => h9) rfl d_g_own_28 ?_
          refine lv_iload hx hb d_g_own_31 (lv_at hl 0 rfl) ?_
          refine nr_iald hx hb hK hP 2 0 rfl rfl (by omega) (by decide) (v := (mI (s i))) (hC i (by omega)).2.1 d_g_own_33 ?_
          refine lv_istore_n (lv' := [(3, .int (mI (s i))), (4, .int (nI i)), (2, .int (nI y)), (1, .int (nI x)), (0, .ref (ad 0))]) hx hb d_g_own_34 rfl hl (by decide) rfl (fun ls hl => ?_)
          refine lv_iinc (v := nI (i - 1)) (lv' := [(4, .int (nI (i - 1))), (3, .int (mI (s i))), (2, .int (nI y)), (1, .int (nI x)), (0, .ref (ad 0))]) hx hb d_g_own_35 hl (k := 1) rfl (by rw [show i = (i - 1) + 1 by omega]; exact pk_m1 (i - 1)) (by decide) rfl (fun ls hl => ?_)
          refine lv_goto (tgt := 15) hx hb d_g_own_38 (by decide) ?_
          exact ih (i - 1) (s i) ls (by omega) (by omega) (by have := (hLw i (by omega)).2.1; omega) (by omega) (by rw [← hw, show t = i + 1 from (mI_nI (by omega) (by omega)).mp c_24.symm]; show _ = (!(i + 1 == 0) && ow (i + 1 - 1) y); rw [show i + 1 - 1 = i from rfl, (hLw i (by omega)).2.2.2.2.2.2 y]; simp [show ¬ i = y by omega]) (lv_sub hl [0, 1, 2, 3, 4] rfl)
  exact loop (x + 1) x (x + 1) ls (by omega) (by omega) (by omega) (by omega) (by simp [pa]) (lv_sub hl [0, 1, 4, 3, 2] rfl)
set_option maxHeartbeats 4000000 in
set_option maxRecDepth 100000 in
theorem c_g_own_x1 (l : Launch) (D : va_G) (cI cJ cZ : ClassId) (ad : Nat → Nat) (n ev : Nat) (g : GA) (hl0 : l.stackTraces = false) (sa : Nat → Nat) (x y : Int32) (hx1 : iv ev x = false) : XT l D (tys cI cJ cZ) (gL cI cJ ad n ev g) sa y_g_own b_g_own 5 (some .boolean) 7 103 [.ref (ad 0), .int x, .int y] "java/lang/IndexOutOfBoundsException" := by
  refine XT.of (by decide) (Nat.le_of_ble_eq_true rfl) ?_
  intro p9 e9 s9 m args below meth c9 ls S hr hlocks ht hP hK hTE hl
  obtain ⟨hx, hb, hml, hown, htc⟩ := id S
  have hl : lv_has ls 5 [(0, .ref (ad 0)), (1, .int x), (2, .int y)] := hl
  refine lv_aload_n hx hb d_g_own_0 rfl (lv_at hl 0 rfl) ?_
  refine lv_iload_n hx hb d_g_own_1 rfl (lv_at hl 1 rfl) ?_
  exact XT.pass (rest := []) S (c_g_requireEvent_x l D cI cJ cZ ad n ev g hl0 sa x hx1) k_1_233 k_1_235 k_s_17 k_1_1 k_1_236 h_g_requireEvent ⟨Nat.le_of_ble_eq_true rfl, Nat.le_of_ble_eq_true rfl⟩ ⟨Nat.le_of_ble_eq_true rfl, Nat.le_of_ble_eq_true rfl⟩ hP hK hTE ht hlocks 0 0 rfl rfl rfl hl.1 (Nat.le_of_ble_eq_true rfl) rfl d_g_own_2
set_option maxHeartbeats 4000000 in
set_option maxRecDepth 100000 in
theorem c_g_own_x2 (l : Launch) (D : va_G) (cI cJ cZ : ClassId) (ad : Nat → Nat) (n ev : Nat) (g : GA) (hl0 : l.stackTraces = false) (sa : Nat → Nat) (x y : Int32) (hx1 : iv ev x = true) (hy1 : iv ev y = false) : XT l D (tys cI cJ cZ) (gL cI cJ ad n ev g) sa y_g_own b_g_own 5 (some .boolean) 7 103 [.ref (ad 0), .int x, .int y] "java/lang/IndexOutOfBoundsException" := by
  refine XT.of (by decide) (Nat.le_of_ble_eq_true rfl) ?_
  intro p9 e9 s9 m args below meth c9 ls S hr hlocks ht hP hK hTE hl
  obtain ⟨hx, hb, hml, hown, htc⟩ := id S
  have hl : lv_has ls 5 [(0, .ref (ad 0)), (1, .int x), (2, .int y)] := hl
  refine lv_aload_n hx hb d_g_own_0 rfl (lv_at hl 0 rfl) ?_
  refine lv_iload_n hx hb d_g_own_1 rfl (lv_at hl 1 rfl) ?_
  refine PV.callV (rest := []) S (c_g_requireEvent_ok l D cI cJ cZ ad n ev g x hx1) k_1_233 k_1_235 k_s_17 k_1_1 k_1_236 h_g_requireEvent ⟨Nat.le_of_ble_eq_true rfl, Nat.le_of_ble_eq_true rfl⟩ ⟨Nat.le_of_ble_eq_true rfl, Nat.le_of_ble_eq_true rfl⟩ hP hK 0 0 rfl rfl rfl hl.1 (Nat.le_of_ble_eq_true rfl) rfl d_g_own_2 ?_
  refine lv_aload_n hx hb d_g_own_5 rfl (lv_at hl 0 rfl) ?_
  refine lv_iload_n hx hb d_g_own_6 rfl (lv_at hl 2 rfl) ?_
  exact XT.pass (rest := []) S (c_g_requireEvent_x l D cI cJ cZ ad n ev g hl0 sa y hy1) k_1_233 k_1_235 k_s_17 k_1_1 k_1_236 h_g_requireEvent ⟨Nat.le_of_ble_eq_true rfl, Nat.le_of_ble_eq_true rfl⟩ ⟨Nat.le_of_ble_eq_true rfl, Nat.le_of_ble_eq_true rfl⟩ hP hK hTE ht hlocks 0 0 rfl rfl rfl hl.1 (Nat.le_of_ble_eq_true rfl) rfl d_g_own_7
set_option maxHeartbeats 4000000 in
set_option maxRecDepth 100000 in
theorem c_g_forked_ok (l : Launch) (D : va_G) (cI cJ cZ : ClassId) (ad : Nat → Nat) (n ev : Nat) (g : GA) (c s : Nat → Nat) (an fk : Nat → Nat → Bool) (K : Nat) (hKb : K ≤ 120) (hC : gC K g c s an fk) (hev : ev ≤ K) (hn : n ≤ 8) (x v : Nat) (hx0 : x < ev) (hv : v < n) : PM l D (tys cI cJ cZ) (gL cI cJ ad n ev g) y_g_forked b_g_forked 3 (some .boolean) 2 42 [.ref (ad 0), .int (nI x), .int (nI v)] (bI (fk x v)) := by
  refine PM.of (by decide) (Nat.le_of_ble_eq_true rfl) ?_
  intro p9 e9 s9 m args below meth c9 ls S hr hlocks hP hK hl
  obtain ⟨hx, hb, hml, hown, htc⟩ := id S
  have hl : lv_has ls 3 [(0, .ref (ad 0)), (1, .int (nI x)), (2, .int (nI v))] := hl
  refine lv_aload_n hx hb d_g_forked_0 rfl (lv_at hl 0 rfl) ?_
  refine lv_iload_n hx hb d_g_forked_1 rfl (lv_at hl 2 rfl) ?_
  refine PV.callV (rest := []) S (c_g_requireNode_ok l D cI cJ cZ ad n ev g hn v hv) k_1_128 k_1_130 k_s_1 k_1_1 k_1_131 h_g_requireNode ⟨Nat.le_of_ble_eq_true rfl, Nat.le_of_ble_eq_true rfl⟩ ⟨Nat.le_of_ble_eq_true rfl, Nat.le_of_ble_eq_true rfl⟩ hP hK 0 0 rfl rfl rfl hl.1 (Nat.le_of_ble_eq_true rfl) rfl d_g_forked_2 ?_
  refine lv_aload_n hx hb d_g_forked_5 rfl (lv_at hl 0 rfl) ?_
  refine lv_iload_n hx hb d_g_forked_6 rfl (lv_at hl 1 rfl) ?_
  refine PV.callV (rest := []) S (c_g_requireEvent_ok l D cI cJ cZ ad n ev g (nI x) (iv_t hx0 (by omega))) k_1_233 k_1_235 k_s_17 k_1_1 k_1_236 h_g_requireEvent ⟨Nat.le_of_ble_eq_true rfl, Nat.le_of_ble_eq_true rfl⟩ ⟨Nat.le_of_ble_eq_true rfl, Nat.le_of_ble_eq_true rfl⟩ hP hK 0 0 rfl rfl rfl hl.1 (Nat.le_of_ble_eq_true rfl) rfl d_g_forked_7 ?_
  refine lv_aload_n hx hb d_g_forked_10 rfl (lv_at hl 0 rfl) ?_
  refine va_get (D := D) (ci := 0) (v := .ref (ad 4)) (C := "SightGraph") (T := T_g) (N := 8) hx hb htc in_g hown hK hP 0 rfl rfl 5 (by decide) (htc _ k_1_23) (fun _ h9 => h9) rfl d_g_forked_11 ?_
  refine lv_iload_n hx hb d_g_forked_14 rfl (lv_at hl 1 rfl) ?_
  refine nr_iald hx hb hK hP 4 0 rfl rfl (by omega) (by decide) (v := (nI (bs (fk x) 8))) (hC x (by omega)).2.2.1 d_g_forked_15 ?_
  refine lv_iload_n hx hb d_g_forked_16 rfl (lv_at hl 2 rfl) ?_
  refine PM.callS (rest := []) S (c_g_hasBit l D cI cJ cZ ad n ev g _ _ (bs_lt _ 8) (by omega)) k_1_213 k_1_214 k_1_1 k_1_215 h_g_hasBit ⟨Nat.le_of_ble_eq_true rfl, Nat.le_of_ble_eq_true rfl⟩ ⟨Nat.le_of_ble_eq_true rfl, Nat.le_of_ble_eq_true rfl⟩ hP hK hl.1 (Nat.le_of_ble_eq_true rfl) rfl d_g_forked_17 ?_
  exact PM.zret hx hb hr hlocks d_g_forked_20 (by rw [bs_tb]; simp [show v < 8 by omega])
set_option maxHeartbeats 4000000 in
set_option maxRecDepth 100000 in
theorem c_g_forked_x1 (l : Launch) (D : va_G) (cI cJ cZ : ClassId) (ad : Nat → Nat) (n ev : Nat) (g : GA) (hl0 : l.stackTraces = false) (sa : Nat → Nat) (x v : Int32) (hv1 : iv n v = false) : XT l D (tys cI cJ cZ) (gL cI cJ ad n ev g) sa y_g_forked b_g_forked 3 (some .boolean) 7 103 [.ref (ad 0), .int x, .int v] "java/lang/IllegalArgumentException" := by
  refine XT.of (by decide) (Nat.le_of_ble_eq_true rfl) ?_
  intro p9 e9 s9 m args below meth c9 ls S hr hlocks ht hP hK hTE hl
  obtain ⟨hx, hb, hml, hown, htc⟩ := id S
  have hl : lv_has ls 3 [(0, .ref (ad 0)), (1, .int x), (2, .int v)] := hl
  refine lv_aload_n hx hb d_g_forked_0 rfl (lv_at hl 0 rfl) ?_
  refine lv_iload_n hx hb d_g_forked_1 rfl (lv_at hl 2 rfl) ?_
  exact XT.pass (rest := []) S (c_g_requireNode_x l D cI cJ cZ ad n ev g hl0 sa v hv1) k_1_128 k_1_130 k_s_1 k_1_1 k_1_131 h_g_requireNode ⟨Nat.le_of_ble_eq_true rfl, Nat.le_of_ble_eq_true rfl⟩ ⟨Nat.le_of_ble_eq_true rfl, Nat.le_of_ble_eq_true rfl⟩ hP hK hTE ht hlocks 0 0 rfl rfl rfl hl.1 (Nat.le_of_ble_eq_true rfl) rfl d_g_forked_2
set_option maxHeartbeats 4000000 in
set_option maxRecDepth 100000 in
theorem c_g_forked_x2 (l : Launch) (D : va_G) (cI cJ cZ : ClassId) (ad : Nat → Nat) (n ev : Nat) (g : GA) (hl0 : l.stackTraces = false) (sa : Nat → Nat) (hn : n ≤ 8) (x : Int32) (v : Nat) (hv : v < n) (hx1 : iv ev x = false) : XT l D (tys cI cJ cZ) (gL cI cJ ad n ev g) sa y_g_forked b_g_forked 3 (some .boolean) 7 103 [.ref (ad 0), .int x, .int (nI v)] "java/lang/IndexOutOfBoundsException" := by
  refine XT.of (by decide) (Nat.le_of_ble_eq_true rfl) ?_
  intro p9 e9 s9 m args below meth c9 ls S hr hlocks ht hP hK hTE hl
  obtain ⟨hx, hb, hml, hown, htc⟩ := id S
  have hl : lv_has ls 3 [(0, .ref (ad 0)), (1, .int x), (2, .int (nI v))] := hl
  refine lv_aload_n hx hb d_g_forked_0 rfl (lv_at hl 0 rfl) ?_
  refine lv_iload_n hx hb d_g_forked_1 rfl (lv_at hl 2 rfl) ?_
  refine PV.callV (rest := []) S (c_g_requireNode_ok l D cI cJ cZ ad n ev g hn v hv) k_1_128 k_1_130 k_s_1 k_1_1 k_1_131 h_g_requireNode ⟨Nat.le_of_ble_eq_true rfl, Nat.le_of_ble_eq_true rfl⟩ ⟨Nat.le_of_ble_eq_true rfl, Nat.le_of_ble_eq_true rfl⟩ hP hK 0 0 rfl rfl rfl hl.1 (Nat.le_of_ble_eq_true rfl) rfl d_g_forked_2 ?_
  refine lv_aload_n hx hb d_g_forked_5 rfl (lv_at hl 0 rfl) ?_
  refine lv_iload_n hx hb d_g_forked_6 rfl (lv_at hl 1 rfl) ?_
  exact XT.pass (rest := []) S (c_g_requireEvent_x l D cI cJ cZ ad n ev g hl0 sa x hx1) k_1_233 k_1_235 k_s_17 k_1_1 k_1_236 h_g_requireEvent ⟨Nat.le_of_ble_eq_true rfl, Nat.le_of_ble_eq_true rfl⟩ ⟨Nat.le_of_ble_eq_true rfl, Nat.le_of_ble_eq_true rfl⟩ hP hK hTE ht hlocks 0 0 rfl rfl rfl hl.1 (Nat.le_of_ble_eq_true rfl) rfl d_g_forked_7
set_option maxHeartbeats 4000000 in
set_option maxRecDepth 100000 in
theorem c_g_round_ok (l : Launch) (D : va_G) (cI cJ cZ : ClassId) (ad : Nat → Nat) (n ev : Nat) (g : GA) (rd : Nat → Nat) (KR : Nat) (hKR : KR ≤ 120) (hR : gR KR g rd) (hev : ev ≤ KR) (x : Nat) (hx0 : x < ev) : PM l D (tys cI cJ cZ) (gL cI cJ ad n ev g) y_g_round b_g_round 2 (some .int) 2 42 [.ref (ad 0), .int (nI x)] (nI (rd x)) := by
  refine PM.of (by decide) (Nat.le_of_ble_eq_true rfl) ?_
  intro p9 e9 s9 m args below meth c9 ls S hr hlocks hP hK hl
  obtain ⟨hx, hb, hml, hown, htc⟩ := id S
  have hl : lv_has ls 2 [(0, .ref (ad 0)), (1, .int (nI x))] := hl
  refine lv_aload_n hx hb d_g_round_0 rfl (lv_at hl 0 rfl) ?_
  refine lv_iload_n hx hb d_g_round_1 rfl (lv_at hl 1 rfl) ?_
  refine PV.callV (rest := []) S (c_g_requireEvent_ok l D cI cJ cZ ad n ev g (nI x) (iv_t hx0 (by omega))) k_1_233 k_1_235 k_s_17 k_1_1 k_1_236 h_g_requireEvent ⟨Nat.le_of_ble_eq_true rfl, Nat.le_of_ble_eq_true rfl⟩ ⟨Nat.le_of_ble_eq_true rfl, Nat.le_of_ble_eq_true rfl⟩ hP hK 0 0 rfl rfl rfl hl.1 (Nat.le_of_ble_eq_true rfl) rfl d_g_round_2 ?_
  refine lv_aload_n hx hb d_g_round_5 rfl (lv_at hl 0 rfl) ?_
  refine va_get (D := D) (ci := 0) (v := .ref (ad 3)) (C := "SightGraph") (T := T_g) (N := 8) hx hb htc in_g hown hK hP 0 rfl rfl 4 (by decide) (htc _ k_1_22) (fun _ h9 => h9) rfl d_g_round_6 ?_
  refine lv_iload_n hx hb d_g_round_9 rfl (lv_at hl 1 rfl) ?_
  refine nr_iald hx hb hK hP 3 0 rfl rfl (by omega) (by decide) (v := (nI (rd x))) (hR x (by omega)).1 d_g_round_10 ?_
  exact PM.iret hx hb hr hlocks d_g_round_11 rfl
set_option maxHeartbeats 4000000 in
set_option maxRecDepth 100000 in
theorem c_g_round_x (l : Launch) (D : va_G) (cI cJ cZ : ClassId) (ad : Nat → Nat) (n ev : Nat) (g : GA) (hl0 : l.stackTraces = false) (sa : Nat → Nat) (x : Int32) (hx1 : iv ev x = false) : XT l D (tys cI cJ cZ) (gL cI cJ ad n ev g) sa y_g_round b_g_round 2 (some .int) 7 103 [.ref (ad 0), .int x] "java/lang/IndexOutOfBoundsException" := by
  refine XT.of (by decide) (Nat.le_of_ble_eq_true rfl) ?_
  intro p9 e9 s9 m args below meth c9 ls S hr hlocks ht hP hK hTE hl
  obtain ⟨hx, hb, hml, hown, htc⟩ := id S
  have hl : lv_has ls 2 [(0, .ref (ad 0)), (1, .int x)] := hl
  refine lv_aload_n hx hb d_g_round_0 rfl (lv_at hl 0 rfl) ?_
  refine lv_iload_n hx hb d_g_round_1 rfl (lv_at hl 1 rfl) ?_
  exact XT.pass (rest := []) S (c_g_requireEvent_x l D cI cJ cZ ad n ev g hl0 sa x hx1) k_1_233 k_1_235 k_s_17 k_1_1 k_1_236 h_g_requireEvent ⟨Nat.le_of_ble_eq_true rfl, Nat.le_of_ble_eq_true rfl⟩ ⟨Nat.le_of_ble_eq_true rfl, Nat.le_of_ble_eq_true rfl⟩ hP hK hTE ht hlocks 0 0 rfl rfl rfl hl.1 (Nat.le_of_ble_eq_true rfl) rfl d_g_round_2
set_option maxHeartbeats 4000000 in
set_option maxRecDepth 100000 in
theorem c_g_witness_ok (l : Launch) (D : va_G) (cI cJ cZ : ClassId) (ad : Nat → Nat) (n ev : Nat) (g : GA) (c s : Nat → Nat) (an fk : Nat → Nat → Bool) (K : Nat) (hKb : K ≤ 120) (hC : gC K g c s an fk) (rd : Nat → Nat) (KR : Nat) (hKR : KR ≤ 120) (hR : gR KR g rd) (hev : ev ≤ K) (hev2 : ev ≤ KR) (x : Nat) (hx0 : x < ev) (hsx : s x ≤ x) : PM l D (tys cI cJ cZ) (gL cI cJ ad n ev g) y_g_witness b_g_witness 2 (some .boolean) 2 42 [.ref (ad 0), .int (nI x)] (bI (wi s rd x)) := by
  refine PM.of (by decide) (Nat.le_of_ble_eq_true rfl) ?_
  intro p9 e9 s9 m args below meth c9 ls S hr hlocks hP hK hl
  obtain ⟨hx, hb, hml, hown, htc⟩ := id S
  have hl : lv_has ls 2 [(0, .ref (ad 0)), (1, .int (nI x))] := hl
  refine lv_aload_n hx hb d_g_witness_0 rfl (lv_at hl 0 rfl) ?_
  refine lv_iload_n hx hb d_g_witness_1 rfl (lv_at hl 1 rfl) ?_
  refine PV.callV (rest := []) S (c_g_requireEvent_ok l D cI cJ cZ ad n ev g (nI x) (iv_t hx0 (by omega))) k_1_233 k_1_235 k_s_17 k_1_1 k_1_236 h_g_requireEvent ⟨Nat.le_of_ble_eq_true rfl, Nat.le_of_ble_eq_true rfl⟩ ⟨Nat.le_of_ble_eq_true rfl, Nat.le_of_ble_eq_true rfl⟩ hP hK 0 0 rfl rfl rfl hl.1 (Nat.le_of_ble_eq_true rfl) rfl d_g_witness_2 ?_
  refine lv_aload_n hx hb d_g_witness_5 rfl (lv_at hl 0 rfl) ?_
  refine lv_iload_n hx hb d_g_witness_6 rfl (lv_at hl 1 rfl) ?_
  refine PM.callV (rest := []) S (c_g_opensRound l D cI cJ cZ ad n ev g c s an fk K hKb hC rd KR hKR hR x (by omega) (by omega) hsx) k_1_197 k_1_199 k_s_12 k_1_1 k_1_200 h_g_opensRound ⟨Nat.le_of_ble_eq_true rfl, Nat.le_of_ble_eq_true rfl⟩ ⟨Nat.le_of_ble_eq_true rfl, Nat.le_of_ble_eq_true rfl⟩ hP hK 0 0 rfl rfl rfl hl.1 (Nat.le_of_ble_eq_true rfl) rfl d_g_witness_7 ?_
  exact PM.zret hx hb hr hlocks d_g_witness_10 rfl
set_option maxHeartbeats 4000000 in
set_option maxRecDepth 100000 in
theorem c_g_witness_x (l : Launch) (D : va_G) (cI cJ cZ : ClassId) (ad : Nat → Nat) (n ev : Nat) (g : GA) (hl0 : l.stackTraces = false) (sa : Nat → Nat) (x : Int32) (hx1 : iv ev x = false) : XT l D (tys cI cJ cZ) (gL cI cJ ad n ev g) sa y_g_witness b_g_witness 2 (some .boolean) 7 103 [.ref (ad 0), .int x] "java/lang/IndexOutOfBoundsException" := by
  refine XT.of (by decide) (Nat.le_of_ble_eq_true rfl) ?_
  intro p9 e9 s9 m args below meth c9 ls S hr hlocks ht hP hK hTE hl
  obtain ⟨hx, hb, hml, hown, htc⟩ := id S
  have hl : lv_has ls 2 [(0, .ref (ad 0)), (1, .int x)] := hl
  refine lv_aload_n hx hb d_g_witness_0 rfl (lv_at hl 0 rfl) ?_
  refine lv_iload_n hx hb d_g_witness_1 rfl (lv_at hl 1 rfl) ?_
  exact XT.pass (rest := []) S (c_g_requireEvent_x l D cI cJ cZ ad n ev g hl0 sa x hx1) k_1_233 k_1_235 k_s_17 k_1_1 k_1_236 h_g_requireEvent ⟨Nat.le_of_ble_eq_true rfl, Nat.le_of_ble_eq_true rfl⟩ ⟨Nat.le_of_ble_eq_true rfl, Nat.le_of_ble_eq_true rfl⟩ hP hK hTE ht hlocks 0 0 rfl rfl rfl hl.1 (Nat.le_of_ble_eq_true rfl) rfl d_g_witness_2
