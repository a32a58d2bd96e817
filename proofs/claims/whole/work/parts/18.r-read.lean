theorem in_b (v a b : Int64) : (bI (decide (a ≤ v ∧ v ≤ b))) = bI (decide (a ≤ v ∧ v ≤ b)) := rfl
theorem t64 (x : Int32) : x.toInt64.toInt = x.toInt := Int32.toInt_toInt64 x
/-- the reference's test of an index -/
theorem iv_l {k : Nat} (hk : k ≤ 120) (x : Int32) : decide ((0 : Int64) ≤ x.toInt64 ∧ x.toInt64 ≤ (nI k - nI 1).toInt64) = iv k x := by
  unfold iv
  rw [decide_eq_decide, Int64.le_iff_toInt_le, Int64.le_iff_toInt_le, t64, t64, Int32.le_iff_toInt_le, Int32.lt_iff_toInt_lt, pk_sub_toInt (by omega) (by decide), nI_toInt (by omega), Int32.toInt_zero]
  show (0 : Int64).toInt ≤ x.toInt ∧ _ ↔ _
  rw [show (0 : Int64).toInt = 0 from by decide]
  omega
theorem sn_step {p : Nat → Bool} {z N : Nat} {has : Bool} (hh : has = ex z p) (hz : z ≤ N) (he : z = N ∨ has = true) : has = ex N p := by
  rcases he with e | e
  · rw [← e]; exact hh
  · rw [e]
    rw [e] at hh
    obtain ⟨i, h1, h2⟩ := ex_t.mp hh.symm
    exact (ex_t.mpr ⟨i, by omega, h2⟩).symm
theorem ex_hs {p : Nat → Bool} {z : Nat} {b : Bool} (h0 : ex z p = false) (hb : p z = b) : b = ex (z + 1) p := by
  show b = (ex z p || p z)
  rw [h0, hb, Bool.false_or]
theorem cn_y {p : Nat → Bool} {u : Nat} (h : p u = true) : cn u p + 1 = cn (u + 1) p := by
  show _ = cn u p + (if p u = true then 1 else 0)
  rw [if_pos h]
theorem cn_n {p : Nat → Bool} {u : Nat} (h : p u = false) : cn u p = cn (u + 1) p := by
  show _ = cn u p + (if p u = true then 1 else 0)
  rw [h]; rfl
theorem pa_0 {f : Nat → Nat → Bool} {y : Nat} : pa f 0 y = false := rfl
set_option maxHeartbeats 4000000 in
set_option maxRecDepth 100000 in
theorem c_r_in (l : Launch) (D : va_G) (cI cJ cZ : ClassId) (ad : Nat → Nat) (er : Int32) (n ev : Nat) (r : RA) (v a b : Int64) : PM l D (tys cI cJ cZ) (rL cI cZ ad er n ev r) y_r_in b_r_in 6 (some .boolean) 0 0 [.long v, .long a, .long b] (bI (decide (a ≤ v ∧ v ≤ b))) := by
  refine PM.of (by decide) (Nat.le_of_ble_eq_true rfl) ?_
  intro p9 e9 s9 m args below meth c9 ls S hr hlocks hP hK hl
  obtain ⟨hx, hb, hml, hown, htc⟩ := id S
  have hl : lv_has ls 6 [(0, .long v), (2, .long a), (4, .long b)] := hl
  refine lv_lload_n hx hb d_r_in_0 rfl (lv_at hl 0 rfl) ?_
  refine lv_lload_n hx hb d_r_in_1 rfl (lv_at hl 1 rfl) ?_
  refine W.lcmp hx hb d_r_in_2 ?_
  refine lv_if_lt (tgt := 17) hx hb d_r_in_3 (by decide) (fun c_3 => ?_) (fun c_3 => ?_)
  · refine lv_iconst (v := (nI 0)) hx hb d_r_in_17 (by decide) ?_
    refine nr_top (w := .int (bI false)) rfl ?_
    exact PM.zret hx hb hr hlocks d_r_in_18 (by rw [decide_eq_false (fun q => absurd ((lg_cmp_lt v a).mp c_3) (Int64.not_lt.mpr q.1))])
  · refine lv_lload_n hx hb d_r_in_6 rfl (lv_at hl 0 rfl) ?_
    refine lv_lload hx hb d_r_in_7 (lv_at hl 2 rfl) ?_
    refine W.lcmp hx hb d_r_in_9 ?_
    refine lv_if_gt (tgt := 17) hx hb d_r_in_10 (by decide) (fun c_10 => ?_) (fun c_10 => ?_)
    · refine lv_iconst (v := (nI 0)) hx hb d_r_in_17 (by decide) ?_
      refine nr_top (w := .int (bI false)) rfl ?_
      exact PM.zret hx hb hr hlocks d_r_in_18 (by rw [decide_eq_false (fun q => absurd ((lg_cmp_gt v b).mp c_10) (Int64.not_lt.mpr q.2))])
    · refine lv_iconst (v := (nI 1)) hx hb d_r_in_13 (by decide) ?_
      refine lv_goto (tgt := 18) hx hb d_r_in_14 (by decide) ?_
      refine nr_top (w := .int (bI true)) rfl ?_
      exact PM.zret hx hb hr hlocks d_r_in_18 (by rw [decide_eq_true ⟨Int64.not_lt.mp (fun q => c_3 ((lg_cmp_lt v a).mpr q)), Int64.not_lt.mp (fun q => c_10 ((lg_cmp_gt v b).mpr q))⟩])
set_option maxHeartbeats 4000000 in
set_option maxRecDepth 100000 in
theorem c_r_isEvent (l : Launch) (D : va_G) (cI cJ cZ : ClassId) (ad : Nat → Nat) (er : Int32) (n ev : Nat) (r : RA) (hev : ev ≤ 120) (x : Int32) : PM l D (tys cI cJ cZ) (rL cI cZ ad er n ev r) y_r_isEvent b_r_isEvent 2 (some .boolean) 1 25 [.ref (ad 0), .int x] (bI (iv ev x)) := by
  refine PM.of (by decide) (Nat.le_of_ble_eq_true rfl) ?_
  intro p9 e9 s9 m args below meth c9 ls S hr hlocks hP hK hl
  obtain ⟨hx, hb, hml, hown, htc⟩ := id S
  have hl : lv_has ls 2 [(0, .ref (ad 0)), (1, .int x)] := hl
  refine lv_iload_n hx hb d_r_isEvent_0 rfl (lv_at hl 1 rfl) ?_
  refine lv_i2l hx hb d_r_isEvent_1 rfl ?_
  refine lv_lconst (v := 0) hx hb d_r_isEvent_2 (by decide) ?_
  refine lv_aload_n hx hb d_r_isEvent_3 rfl (lv_at hl 0 rfl) ?_
  refine va_get (D := D) (ci := 1) (v := .int (nI ev)) (C := "SightGraphModel") (T := T_r) (N := 10) hx hb htc in_r hown hK hP 0 rfl rfl 2 (by decide) (htc _ k_2_75) (fun _ h9 => h9) rfl d_r_isEvent_4 ?_
  refine lv_iconst (v := (nI 1)) hx hb d_r_isEvent_7 (by decide) ?_
  refine lv_isub hx hb d_r_isEvent_8 ?_
  refine lv_i2l hx hb d_r_isEvent_9 rfl ?_
  refine PM.callS (rest := []) S (c_r_in l D cI cJ cZ ad er n ev r x.toInt64 0 (nI ev - nI 1).toInt64) k_2_115 k_2_116 k_1_2 k_2_117 h_r_in ⟨Nat.le_of_ble_eq_true rfl, Nat.le_of_ble_eq_true rfl⟩ ⟨Nat.le_of_ble_eq_true rfl, Nat.le_of_ble_eq_true rfl⟩ hP hK hl.1 (Nat.le_of_ble_eq_true rfl) rfl d_r_isEvent_10 ?_
  exact PM.zret hx hb hr hlocks d_r_isEvent_13 (by rw [iv_l hev x])
set_option maxHeartbeats 4000000 in
set_option maxRecDepth 100000 in
theorem c_r_isAbove (l : Launch) (D : va_G) (cI cJ cZ : ClassId) (ad : Nat → Nat) (er : Int32) (n ev : Nat) (r : RA) (K : Nat) (hKb : K ≤ 120) (an : Nat → Nat → Bool) (ha : ∀ j, j < K → ∀ y, y < 120 → r.2.2.2.2.2.1 (120 * j + y) = bI (an j y)) (x y : Nat) (hx0 : x < K) (hy0 : y < 120) : PM l D (tys cI cJ cZ) (rL cI cZ ad er n ev r) y_r_isAbove b_r_isAbove 3 (some .boolean) 0 0 [.ref (ad 0), .int (nI y), .int (nI x)] (bI (an x y)) := by
  refine PM.of (by decide) (Nat.le_of_ble_eq_true rfl) ?_
  intro p9 e9 s9 m args below meth c9 ls S hr hlocks hP hK hl
  obtain ⟨hx, hb, hml, hown, htc⟩ := id S
  have hl : lv_has ls 3 [(0, .ref (ad 0)), (1, .int (nI y)), (2, .int (nI x))] := hl
  refine lv_aload_n hx hb d_r_isAbove_0 rfl (lv_at hl 0 rfl) ?_
  refine va_get (D := D) (ci := 1) (v := .ref (ad 6)) (C := "SightGraphModel") (T := T_r) (N := 10) hx hb htc in_r hown hK hP 0 rfl rfl 8 (by decide) (htc _ k_2_81) (fun _ h9 => h9) rfl d_r_isAbove_1 ?_
  refine lv_bipush (v := (nI 120)) hx hb d_r_isAbove_4 (by decide) ?_
  refine lv_iload_n hx hb d_r_isAbove_6 rfl (lv_at hl 2 rfl) ?_
  refine nr_imul hx hb d_r_isAbove_7 ?_
  refine lv_iload_n hx hb d_r_isAbove_8 rfl (lv_at hl 1 rfl) ?_
  refine nr_iadd hx hb d_r_isAbove_9 ?_
  refine nr_zald hx hb hK hP 6 2 rfl rfl (by omega) (by decide) (v := (bI (an x y))) (ha x (by omega) y (by omega)) d_r_isAbove_10 ?_
  exact PM.zret hx hb hr hlocks d_r_isAbove_11 rfl
set_option maxHeartbeats 4000000 in
set_option maxRecDepth 100000 in
theorem c_r_isOwn (l : Launch) (D : va_G) (cI cJ cZ : ClassId) (ad : Nat → Nat) (er : Int32) (n ev : Nat) (r : RA) (K : Nat) (hKb : K ≤ 120) (s : Nat → Nat) (hs : ∀ j, j < K → r.2.1 j = mI (s j)) (ow : Nat → Nat → Bool) (hLw : ∀ x, x < K → s x ≤ x ∧ ∀ y, ow x y = (x == y || pa ow (s x) y)) (x y : Nat) (hx0 : x < K) (hy0 : y < K) : PM l D (tys cI cJ cZ) (rL cI cZ ad er n ev r) y_r_isOwn b_r_isOwn 4 (some .boolean) 0 0 [.ref (ad 0), .int (nI x), .int (nI y)] (bI (ow x y)) := by
  refine PM.of (by decide) (Nat.le_of_ble_eq_true rfl) ?_
  intro p9 e9 s9 m args below meth c9 ls S hr hlocks hP hK hl
  obtain ⟨hx, hb, hml, hown, htc⟩ := id S
  have hl : lv_has ls 4 [(0, .ref (ad 0)), (1, .int (nI x)), (2, .int (nI y))] := hl
  refine lv_iload_n hx hb d_r_isOwn_0 rfl (lv_at hl 1 rfl) ?_
  refine nr_top (w := .int (mI (x + 1))) rfl ?_
  refine lv_istore_n (lv' := [(3, .int (mI (x + 1))), (0, .ref (ad 0)), (1, .int (nI x)), (2, .int (nI y))]) hx hb d_r_isOwn_1 rfl hl (by decide) rfl (fun ls hl => ?_)
  have loop1 : ∀ (d1 : Nat) (t : Nat) (ls : Array Slot), t < d1 → t ≤ K → pa ow t y = ow x y → lv_has ls 4 [(3, .int (mI t)), (2, .int (nI y)), (1, .int (nI x)), (0, .ref (ad 0))] → W p9 l e9 ({ frames := 0, cells := 0, slots := 0, locals := 0 }) s9 m args below meth c9 s9.heap [] 0 0 (MQ below (vp_Si (fun r9 => r9 = (bI (ow x y)))) args s9 0 0 (fun _ => False)) (F0 m 2 ls []) := by
    intro d1
    induction d1 with
    | zero =>
      intro t ls hd1 htK hw hl
      exact absurd hd1 (by omega)
    | succ d1 ih1 =>
      intro t ls hd1 htK hw hl
      refine lv_iload_n hx hb d_r_isOwn_2 rfl (lv_at hl 0 rfl) ?_
      refine nr_iflt_m (tgt := 23) hx hb (by omega) d_r_isOwn_3 (by decide) (fun c_3 => ?_) (fun c_3 => ?_)
      · refine lv_iconst (v := (nI 0)) hx hb d_r_isOwn_23 (by decide) ?_
        refine nr_top (w := .int (bI false)) rfl ?_
        exact PM.zret hx hb hr hlocks d_r_isOwn_24 (by rw [← hw, show t = 0 from c_3]; rfl)
      · obtain ⟨i, rfl⟩ : ∃ i, t = i + 1 := ⟨t - 1, by omega⟩
        have hl : lv_has ls 4 [(3, .int (nI i)), (2, .int (nI y)), (1, .int (nI x)), (0, .ref (ad 0))] := hl
        have hsi := (hLw i (by omega)).1
        have hoi := (hLw i (by omega)).2 y
        refine lv_iload_n hx hb d_r_isOwn_6 rfl (lv_at hl 0 rfl) ?_
        refine lv_iload_n hx hb d_r_isOwn_7 rfl (lv_at hl 1 rfl) ?_
        refine nr_icmp_ne (tgt := 13) hx hb (by omega) (by omega) d_r_isOwn_8 (by decide) (fun c_8 => ?_) (fun c_8 => ?_)
        · refine lv_aload_n hx hb d_r_isOwn_13 rfl (lv_at hl 3 rfl) ?_
          refine va_get (D := D) (ci := 1) (v := .ref (ad 2)) (C := "SightGraphModel") (T := T_r) (N := 10) hx hb htc in_r hown hK hP 0 rfl rfl 4 (by decide) (htc _ k_2_77) (fun _ h9 => h9) rfl d_r_isOwn_14 ?_
          refine lv_iload_n hx hb d_r_isOwn_17 rfl (lv_at hl 0 rfl) ?_
          refine nr_iald hx hb hK hP 2 0 rfl rfl (by omega) (by decide) (v := (mI (s i))) (hs i (by omega)) d_r_isOwn_18 ?_
          refine lv_istore_n (lv' := [(3, .int (mI (s i))), (2, .int (nI y)), (1, .int (nI x)), (0, .ref (ad 0))]) hx hb d_r_isOwn_19 rfl hl (by decide) rfl (fun ls hl => ?_)
          refine lv_goto (tgt := 2) hx hb d_r_isOwn_20 (by decide) ?_
          exact ih1 (s i) ls (by omega) (by omega) (by rw [← hw]; show _ = ow i y; rw [hoi]; simp [show ¬ i = y from c_8]) (lv_sub hl [0, 1, 2, 3] rfl)
        · refine lv_iconst (v := (nI 1)) hx hb d_r_isOwn_11 (by decide) ?_
          refine nr_top (w := .int (bI true)) rfl ?_
          exact PM.zret hx hb hr hlocks d_r_isOwn_12 (by rw [← hw]; show _ = bI (ow i y); rw [hoi, show (i == y) = true from by simpa using c_8]; rfl)
  exact loop1 (x + 2) (x + 1) ls (by omega) (by omega) (by simp [pa]) (lv_sub hl [0, 3, 2, 1] rfl)
set_option maxHeartbeats 4000000 in
set_option maxRecDepth 100000 in
theorem c_r_isFork (l : Launch) (D : va_G) (cI cJ cZ : ClassId) (ad : Nat → Nat) (er : Int32) (n ev : Nat) (r : RA) (K : Nat) (hKb : K ≤ 120) (c : Nat → Nat) (hc : ∀ j, j < K → r.1 j = nI (c j)) (s : Nat → Nat) (hs : ∀ j, j < K → r.2.1 j = mI (s j)) (ow : Nat → Nat → Bool) (hLw : ∀ x, x < K → s x ≤ x ∧ ∀ y, ow x y = (x == y || pa ow (s x) y)) (hc8 : ∀ j, j < K → c j < 8) (x y : Nat) (hx0 : x < K) (hy0 : y < K) : PM l D (tys cI cJ cZ) (rL cI cZ ad er n ev r) y_r_isFork b_r_isFork 3 (some .boolean) 1 23 [.ref (ad 0), .int (nI x), .int (nI y)] (bI (c x == c y && (!ow x y && !ow y x))) := by
  refine PM.of (by decide) (Nat.le_of_ble_eq_true rfl) ?_
  intro p9 e9 s9 m args below meth c9 ls S hr hlocks hP hK hl
  obtain ⟨hx, hb, hml, hown, htc⟩ := id S
  have hl : lv_has ls 3 [(0, .ref (ad 0)), (1, .int (nI x)), (2, .int (nI y))] := hl
  have hcx := hc8 x hx0
  have hcy := hc8 y hy0
  refine lv_aload_n hx hb d_r_isFork_0 rfl (lv_at hl 0 rfl) ?_
  refine va_get (D := D) (ci := 1) (v := .ref (ad 1)) (C := "SightGraphModel") (T := T_r) (N := 10) hx hb htc in_r hown hK hP 0 rfl rfl 3 (by decide) (htc _ k_2_76) (fun _ h9 => h9) rfl d_r_isFork_1 ?_
  refine lv_iload_n hx hb d_r_isFork_4 rfl (lv_at hl 1 rfl) ?_
  refine nr_iald hx hb hK hP 1 0 rfl rfl (by omega) (by decide) (v := (nI (c x))) (hc x (by omega)) d_r_isFork_5 ?_
  refine lv_aload_n hx hb d_r_isFork_6 rfl (lv_at hl 0 rfl) ?_
  refine va_get (D := D) (ci := 1) (v := .ref (ad 1)) (C := "SightGraphModel") (T := T_r) (N := 10) hx hb htc in_r hown hK hP 0 rfl rfl 3 (by decide) (htc _ k_2_76) (fun _ h9 => h9) rfl d_r_isFork_7 ?_
  refine lv_iload_n hx hb d_r_isFork_10 rfl (lv_at hl 2 rfl) ?_
  refine nr_iald hx hb hK hP 1 0 rfl rfl (by omega) (by decide) (v := (nI (c y))) (hc y (by omega)) d_r_isFork_11 ?_
  refine nr_icmp_ne (tgt := 37) hx hb (by omega) (by omega) d_r_isFork_12 (by decide) (fun c_12 => ?_) (fun c_12 => ?_)
  · refine lv_iconst (v := (nI 0)) hx hb d_r_isFork_37 (by decide) ?_
    refine nr_top (w := .int (bI false)) rfl ?_
    exact PM.zret hx hb hr hlocks d_r_isFork_38 (by rw [show (c x == c y) = false from by simpa using c_12]; rfl)
  · refine lv_aload_n hx hb d_r_isFork_15 rfl (lv_at hl 0 rfl) ?_
    refine lv_iload_n hx hb d_r_isFork_16 rfl (lv_at hl 1 rfl) ?_
    refine lv_iload_n hx hb d_r_isFork_17 rfl (lv_at hl 2 rfl) ?_
    refine PM.callV (rest := []) S (c_r_isOwn l D cI cJ cZ ad er n ev r K hKb s hs ow hLw x y hx0 hy0) k_2_142 k_2_144 k_s_25 k_1_2 k_2_145 h_r_isOwn ⟨Nat.le_of_ble_eq_true rfl, Nat.le_of_ble_eq_true rfl⟩ ⟨Nat.le_of_ble_eq_true rfl, Nat.le_of_ble_eq_true rfl⟩ hP hK 0 1 rfl rfl rfl hl.1 (Nat.le_of_ble_eq_true rfl) rfl d_r_isFork_18 ?_
    refine nr_ifne_b (tgt := 37) hx hb d_r_isFork_21 (by decide) (fun c_21 => ?_) (fun c_21 => ?_)
    · refine lv_iconst (v := (nI 0)) hx hb d_r_isFork_37 (by decide) ?_
      refine nr_top (w := .int (bI false)) rfl ?_
      exact PM.zret hx hb hr hlocks d_r_isFork_38 (by rw [show (c x == c y) = true from by simpa using c_12, c_21]; rfl)
    · refine lv_aload_n hx hb d_r_isFork_24 rfl (lv_at hl 0 rfl) ?_
      refine lv_iload_n hx hb d_r_isFork_25 rfl (lv_at hl 2 rfl) ?_
      refine lv_iload_n hx hb d_r_isFork_26 rfl (lv_at hl 1 rfl) ?_
      refine PM.callV (rest := []) S (c_r_isOwn l D cI cJ cZ ad er n ev r K hKb s hs ow hLw y x hy0 hx0) k_2_142 k_2_144 k_s_25 k_1_2 k_2_145 h_r_isOwn ⟨Nat.le_of_ble_eq_true rfl, Nat.le_of_ble_eq_true rfl⟩ ⟨Nat.le_of_ble_eq_true rfl, Nat.le_of_ble_eq_true rfl⟩ hP hK 0 1 rfl rfl rfl hl.1 (Nat.le_of_ble_eq_true rfl) rfl d_r_isFork_27 ?_
      refine nr_ifne_b (tgt := 37) hx hb d_r_isFork_30 (by decide) (fun c_30 => ?_) (fun c_30 => ?_)
      · refine lv_iconst (v := (nI 0)) hx hb d_r_isFork_37 (by decide) ?_
        refine nr_top (w := .int (bI false)) rfl ?_
        exact PM.zret hx hb hr hlocks d_r_isFork_38 (by rw [show (c x == c y) = true from by simpa using c_12, c_21, c_30]; rfl)
      · refine lv_iconst (v := (nI 1)) hx hb d_r_isFork_33 (by decide) ?_
        refine lv_goto (tgt := 38) hx hb d_r_isFork_34 (by decide) ?_
        refine nr_top (w := .int (bI true)) rfl ?_
        exact PM.zret hx hb hr hlocks d_r_isFork_38 (by rw [show (c x == c y) = true from by simpa using c_12, c_21, c_30]; rfl)
set_option maxHeartbeats 4000000 in
set_option maxRecDepth 100000 in
theorem c_r_isSeen (l : Launch) (D : va_G) (cI cJ cZ : ClassId) (ad : Nat → Nat) (er : Int32) (n ev : Nat) (r : RA) (K : Nat) (hKb : K ≤ 120) (c : Nat → Nat) (hc : ∀ j, j < K → r.1 j = nI (c j)) (an : Nat → Nat → Bool) (ha : ∀ j, j < K → ∀ y, y < 120 → r.2.2.2.2.2.1 (120 * j + y) = bI (an j y)) (fk : Nat → Nat → Bool) (hf : ∀ j, j < K → ∀ m, m < 8 → r.2.2.2.2.2.2 (8 * j + m) = bI (fk j m)) (hc8 : ∀ j, j < K → c j < 8) (x y : Nat) (hx0 : x < K) (hy0 : y < K) : PM l D (tys cI cJ cZ) (rL cI cZ ad er n ev r) y_r_isSeen b_r_isSeen 3 (some .boolean) 1 22 [.ref (ad 0), .int (nI x), .int (nI y)] (bI (se an fk c x y)) := by
  refine PM.of (by decide) (Nat.le_of_ble_eq_true rfl) ?_
  intro p9 e9 s9 m args below meth c9 ls S hr hlocks hP hK hl
  obtain ⟨hx, hb, hml, hown, htc⟩ := id S
  have hl : lv_has ls 3 [(0, .ref (ad 0)), (1, .int (nI x)), (2, .int (nI y))] := hl
  have hcy := hc8 y hy0
  refine lv_aload_n hx hb d_r_isSeen_0 rfl (lv_at hl 0 rfl) ?_
  refine lv_iload_n hx hb d_r_isSeen_1 rfl (lv_at hl 2 rfl) ?_
  refine lv_iload_n hx hb d_r_isSeen_2 rfl (lv_at hl 1 rfl) ?_
  refine PM.callV (rest := []) S (c_r_isAbove l D cI cJ cZ ad er n ev r K hKb an ha x y hx0 (by omega)) k_2_134 k_2_136 k_s_23 k_1_2 k_2_137 h_r_isAbove ⟨Nat.le_of_ble_eq_true rfl, Nat.le_of_ble_eq_true rfl⟩ ⟨Nat.le_of_ble_eq_true rfl, Nat.le_of_ble_eq_true rfl⟩ hP hK 0 1 rfl rfl rfl hl.1 (Nat.le_of_ble_eq_true rfl) rfl d_r_isSeen_3 ?_
  refine nr_ifeq_b (tgt := 32) hx hb d_r_isSeen_6 (by decide) (fun c_6 => ?_) (fun c_6 => ?_)
  · refine lv_iconst (v := (nI 0)) hx hb d_r_isSeen_32 (by decide) ?_
    refine nr_top (w := .int (bI false)) rfl ?_
    exact PM.zret hx hb hr hlocks d_r_isSeen_33 (by unfold se; rw [c_6]; rfl)
  · refine lv_aload_n hx hb d_r_isSeen_9 rfl (lv_at hl 0 rfl) ?_
    refine va_get (D := D) (ci := 1) (v := .ref (ad 7)) (C := "SightGraphModel") (T := T_r) (N := 10) hx hb htc in_r hown hK hP 0 rfl rfl 9 (by decide) (htc _ k_2_82) (fun _ h9 => h9) rfl d_r_isSeen_10 ?_
    refine lv_bipush (v := (nI 8)) hx hb d_r_isSeen_13 (by decide) ?_
    refine lv_iload_n hx hb d_r_isSeen_15 rfl (lv_at hl 1 rfl) ?_
    refine nr_imul hx hb d_r_isSeen_16 ?_
    refine lv_aload_n hx hb d_r_isSeen_17 rfl (lv_at hl 0 rfl) ?_
    refine va_get (D := D) (ci := 1) (v := .ref (ad 1)) (C := "SightGraphModel") (T := T_r) (N := 10) hx hb htc in_r hown hK hP 0 rfl rfl 3 (by decide) (htc _ k_2_76) (fun _ h9 => h9) rfl d_r_isSeen_18 ?_
    refine lv_iload_n hx hb d_r_isSeen_21 rfl (lv_at hl 2 rfl) ?_
    refine nr_iald hx hb hK hP 1 0 rfl rfl (by omega) (by decide) (v := (nI (c y))) (hc y (by omega)) d_r_isSeen_22 ?_
    refine nr_iadd hx hb d_r_isSeen_23 ?_
    refine nr_zald hx hb hK hP 7 2 rfl rfl (by omega) (by decide) (v := (bI (fk x (c y)))) (hf x (by omega) (c y) (by omega)) d_r_isSeen_24 ?_
    refine nr_ifne_b (tgt := 32) hx hb d_r_isSeen_25 (by decide) (fun c_25 => ?_) (fun c_25 => ?_)
    · refine lv_iconst (v := (nI 0)) hx hb d_r_isSeen_32 (by decide) ?_
      refine nr_top (w := .int (bI false)) rfl ?_
      exact PM.zret hx hb hr hlocks d_r_isSeen_33 (by unfold se; rw [c_6, c_25]; rfl)
    · refine lv_iconst (v := (nI 1)) hx hb d_r_isSeen_28 (by decide) ?_
      refine lv_goto (tgt := 33) hx hb d_r_isSeen_29 (by decide) ?_
      refine nr_top (w := .int (bI true)) rfl ?_
      exact PM.zret hx hb hr hlocks d_r_isSeen_33 (by unfold se; rw [c_6, c_25]; rfl)
set_option maxHeartbeats 4000000 in
set_option maxRecDepth 100000 in
theorem c_r_strengthOf (l : Launch) (D : va_G) (cI cJ cZ : ClassId) (ad : Nat → Nat) (er : Int32) (n ev : Nat) (r : RA) (K : Nat) (hKb : K ≤ 120) (c : Nat → Nat) (hc : ∀ j, j < K → r.1 j = nI (c j)) (an : Nat → Nat → Bool) (ha : ∀ j, j < K → ∀ y, y < 120 → r.2.2.2.2.2.1 (120 * j + y) = bI (an j y)) (fk : Nat → Nat → Bool) (hf : ∀ j, j < K → ∀ m, m < 8 → r.2.2.2.2.2.2 (8 * j + m) = bI (fk j m)) (hc8 : ∀ j, j < K → c j < 8) (hn : n ≤ 8) (x y : Nat) (hx0 : x < K) (hy0 : y < K) : PM l D (tys cI cJ cZ) (rL cI cZ ad er n ev r) y_r_strengthOf b_r_strengthOf 7 (some .int) 2 44 [.ref (ad 0), .int (nI x), .int (nI y)] (nI (sn n an fk c x y)) := by
  refine PM.of (by decide) (Nat.le_of_ble_eq_true rfl) ?_
  intro p9 e9 s9 m args below meth c9 ls S hr hlocks hP hK hl
  obtain ⟨hx, hb, hml, hown, htc⟩ := id S
  have hl : lv_has ls 7 [(0, .ref (ad 0)), (1, .int (nI x)), (2, .int (nI y))] := hl
  refine lv_iconst (v := (nI 0)) hx hb d_r_strengthOf_0 (by decide) ?_
  refine lv_istore_n (lv' := [(3, .int (nI 0)), (0, .ref (ad 0)), (1, .int (nI x)), (2, .int (nI y))]) hx hb d_r_strengthOf_1 rfl hl (by decide) rfl (fun ls hl => ?_)
  refine lv_iconst (v := (nI 0)) hx hb d_r_strengthOf_2 (by decide) ?_
  refine lv_istore (lv' := [(4, .int (nI 0)), (3, .int (nI 0)), (0, .ref (ad 0)), (1, .int (nI x)), (2, .int (nI y))]) hx hb d_r_strengthOf_3 hl (by decide) rfl (fun ls hl => ?_)
  have loop1 : ∀ (d1 : Nat) (m9 : Nat) (ls : Array Slot), n - m9 < d1 → m9 ≤ n → lv_has ls 7 [(4, .int (nI m9)), (3, .int (nI (cn m9 (fun m9 => ex (x + 1) (fun z => c z == m9 && (se an fk c x z && se an fk c z y)))))), (2, .int (nI y)), (1, .int (nI x)), (0, .ref (ad 0))] → W p9 l e9 ({ frames := 2, cells := 0, slots := 0, locals := 44 }) s9 m args below meth c9 s9.heap [] 0 0 (MQ below (vp_Si (fun r9 => r9 = (nI (sn n an fk c x y)))) args s9 0 0 (fun _ => False)) (F0 m 5 ls []) := by
    intro d1
    induction d1 with
    | zero =>
      intro m9 ls hd1 hm9 hl
      exact absurd hd1 (by omega)
    | succ d1 ih1 =>
      intro m9 ls hd1 hm9 hl
      have hcb := cn_le m9 (fun m9 => ex (x + 1) (fun z => c z == m9 && (se an fk c x z && se an fk c z y)))
      refine lv_iload hx hb d_r_strengthOf_5 (lv_at hl 0 rfl) ?_
      refine lv_aload_n hx hb d_r_strengthOf_7 rfl (lv_at hl 4 rfl) ?_
      refine va_get (D := D) (ci := 1) (v := .int (nI n)) (C := "SightGraphModel") (T := T_r) (N := 10) hx hb htc in_r hown hK hP 0 rfl rfl 1 (by decide) (htc _ k_2_74) (fun _ h9 => h9) rfl d_r_strengthOf_8 ?_
      refine nr_icmp_ge (tgt := 90) hx hb (by omega) (by omega) d_r_strengthOf_11 (by decide) (fun c_11 => ?_) (fun c_11 => ?_)
      · refine lv_iload_n hx hb d_r_strengthOf_90 rfl (lv_at hl 1 rfl) ?_
        exact PM.iret hx hb hr hlocks d_r_strengthOf_91 (by rw [show m9 = n by omega]; rfl)
      · refine lv_iconst (v := (nI 0)) hx hb d_r_strengthOf_14 (by decide) ?_
        refine nr_top (w := .int (bI false)) rfl ?_
        refine lv_istore (lv' := [(5, .int (bI false)), (4, .int (nI m9)), (3, .int (nI (cn m9 (fun m9 => ex (x + 1) (fun z => c z == m9 && (se an fk c x z && se an fk c z y)))))), (2, .int (nI y)), (1, .int (nI x)), (0, .ref (ad 0))]) hx hb d_r_strengthOf_15 hl (by decide) rfl (fun ls hl => ?_)
        refine lv_iconst (v := (nI 0)) hx hb d_r_strengthOf_17 (by decide) ?_
        refine lv_istore (lv' := [(6, .int (nI 0)), (5, .int (bI false)), (4, .int (nI m9)), (3, .int (nI (cn m9 (fun m9 => ex (x + 1) (fun z => c z == m9 && (se an fk c x z && se an fk c z y)))))), (2, .int (nI y)), (1, .int (nI x)), (0, .ref (ad 0))]) hx hb d_r_strengthOf_18 hl (by decide) rfl (fun ls hl => ?_)
        have loop2 : ∀ (d2 : Nat) (z : Nat) (has : Bool) (ls : Array Slot), x + 1 - z < d2 → z ≤ x + 1 → has = ex z (fun z => c z == m9 && (se an fk c x z && se an fk c z y)) → lv_has ls 7 [(6, .int (nI z)), (5, .int (bI has)), (4, .int (nI m9)), (3, .int (nI (cn m9 (fun m9 => ex (x + 1) (fun z => c z == m9 && (se an fk c x z && se an fk c z y)))))), (2, .int (nI y)), (1, .int (nI x)), (0, .ref (ad 0))] → W p9 l e9 ({ frames := 2, cells := 0, slots := 0, locals := 44 }) s9 m args below meth c9 s9.heap [] 0 0 (MQ below (vp_Si (fun r9 => r9 = (nI (sn n an fk c x y)))) args s9 0 0 (fun _ => False)) (F0 m 20 ls []) := by
          intro d2
          induction d2 with
          | zero =>
            intro z has ls hd2 hz hhs hl
            exact absurd hd2 (by omega)
          | succ d2 ih2 =>
            intro z has ls hd2 hz hhs hl
            refine lv_iload hx hb d_r_strengthOf_20 (lv_at hl 0 rfl) ?_
            refine lv_iload_n hx hb d_r_strengthOf_22 rfl (lv_at hl 5 rfl) ?_
            refine nr_icmp_gt (tgt := 76) hx hb (by omega) (by omega) d_r_strengthOf_23 (by decide) (fun c_23 => ?_) (fun c_23 => ?_)
            · have hhas : has = ex (x + 1) (fun z => c z == m9 && (se an fk c x z && se an fk c z y)) := sn_step hhs (by omega) (Or.inl (by omega))
              refine lv_iload hx hb d_r_strengthOf_76 (lv_at hl 1 rfl) ?_
              refine nr_ifeq_b (tgt := 84) hx hb d_r_strengthOf_78 (by decide) (fun c_78 => ?_) (fun c_78 => ?_)
              · refine lv_iinc (v := (nI (m9 + 1))) (lv' := [(4, .int (nI (m9 + 1))), (6, .int (nI z)), (5, .int (bI has)), (3, .int (nI (cn m9 (fun m9 => ex (x + 1) (fun z => c z == m9 && (se an fk c x z && se an fk c z y)))))), (2, .int (nI y)), (1, .int (nI x)), (0, .ref (ad 0))]) hx hb d_r_strengthOf_84 hl (k := 2) rfl (nI_add m9 1) (by decide) rfl (fun ls hl => ?_)
                refine lv_goto (tgt := 5) hx hb d_r_strengthOf_87 (by decide) ?_
                exact ih1 (m9 + 1) ls (by omega) (by omega) (by rw [← cn_n (p := (fun m9 => ex (x + 1) (fun z => c z == m9 && (se an fk c x z && se an fk c z y)))) (show ex (x + 1) (fun z => c z == m9 && (se an fk c x z && se an fk c z y)) = false from hhas.symm.trans c_78)]; exact (lv_sub hl [0, 3, 4, 5, 6] rfl))
              · refine lv_iinc (v := (nI ((cn m9 (fun m9 => ex (x + 1) (fun z => c z == m9 && (se an fk c x z && se an fk c z y)))) + 1))) (lv' := [(3, .int (nI ((cn m9 (fun m9 => ex (x + 1) (fun z => c z == m9 && (se an fk c x z && se an fk c z y)))) + 1))), (6, .int (nI z)), (5, .int (bI has)), (4, .int (nI m9)), (2, .int (nI y)), (1, .int (nI x)), (0, .ref (ad 0))]) hx hb d_r_strengthOf_81 hl (k := 3) rfl (nI_add (cn m9 (fun m9 => ex (x + 1) (fun z => c z == m9 && (se an fk c x z && se an fk c z y)))) 1) (by decide) rfl (fun ls hl => ?_)
                refine lv_iinc (v := (nI (m9 + 1))) (lv' := [(4, .int (nI (m9 + 1))), (3, .int (nI ((cn m9 (fun m9 => ex (x + 1) (fun z => c z == m9 && (se an fk c x z && se an fk c z y)))) + 1))), (6, .int (nI z)), (5, .int (bI has)), (2, .int (nI y)), (1, .int (nI x)), (0, .ref (ad 0))]) hx hb d_r_strengthOf_84 hl (k := 3) rfl (nI_add m9 1) (by decide) rfl (fun ls hl => ?_)
                refine lv_goto (tgt := 5) hx hb d_r_strengthOf_87 (by decide) ?_
                exact ih1 (m9 + 1) ls (by omega) (by omega) (by rw [← cn_y (p := (fun m9 => ex (x + 1) (fun z => c z == m9 && (se an fk c x z && se an fk c z y)))) (show ex (x + 1) (fun z => c z == m9 && (se an fk c x z && se an fk c z y)) = true from hhas.symm.trans c_78)]; exact (lv_sub hl [0, 1, 4, 5, 6] rfl))
            · refine lv_iload hx hb d_r_strengthOf_26 (lv_at hl 1 rfl) ?_
              refine nr_ifne_b (tgt := 76) hx hb d_r_strengthOf_28 (by decide) (fun c_28 => ?_) (fun c_28 => ?_)
              · have hhas : has = ex (x + 1) (fun z => c z == m9 && (se an fk c x z && se an fk c z y)) := sn_step hhs (by omega) (Or.inr c_28)
                refine lv_iload hx hb d_r_strengthOf_76 (lv_at hl 1 rfl) ?_
                refine nr_ifeq_b (tgt := 84) hx hb d_r_strengthOf_78 (by decide) (fun c_78 => ?_) (fun c_78 => ?_)
                · refine lv_iinc (v := (nI (m9 + 1))) (lv' := [(4, .int (nI (m9 + 1))), (6, .int (nI z)), (5, .int (bI has)), (3, .int (nI (cn m9 (fun m9 => ex (x + 1) (fun z => c z == m9 && (se an fk c x z && se an fk c z y)))))), (2, .int (nI y)), (1, .int (nI x)), (0, .ref (ad 0))]) hx hb d_r_strengthOf_84 hl (k := 2) rfl (nI_add m9 1) (by decide) rfl (fun ls hl => ?_)
                  refine lv_goto (tgt := 5) hx hb d_r_strengthOf_87 (by decide) ?_
                  exact ih1 (m9 + 1) ls (by omega) (by omega) (by rw [← cn_n (p := (fun m9 => ex (x + 1) (fun z => c z == m9 && (se an fk c x z && se an fk c z y)))) (show ex (x + 1) (fun z => c z == m9 && (se an fk c x z && se an fk c z y)) = false from hhas.symm.trans c_78)]; exact (lv_sub hl [0, 3, 4, 5, 6] rfl))
                · refine lv_iinc (v := (nI ((cn m9 (fun m9 => ex (x + 1) (fun z => c z == m9 && (se an fk c x z && se an fk c z y)))) + 1))) (lv' := [(3, .int (nI ((cn m9 (fun m9 => ex (x + 1) (fun z => c z == m9 && (se an fk c x z && se an fk c z y)))) + 1))), (6, .int (nI z)), (5, .int (bI has)), (4, .int (nI m9)), (2, .int (nI y)), (1, .int (nI x)), (0, .ref (ad 0))]) hx hb d_r_strengthOf_81 hl (k := 3) rfl (nI_add (cn m9 (fun m9 => ex (x + 1) (fun z => c z == m9 && (se an fk c x z && se an fk c z y)))) 1) (by decide) rfl (fun ls hl => ?_)
                  refine lv_iinc (v := (nI (m9 + 1))) (lv' := [(4, .int (nI (m9 + 1))), (3, .int (nI ((cn m9 (fun m9 => ex (x + 1) (fun z => c z == m9 && (se an fk c x z && se an fk c z y)))) + 1))), (6, .int (nI z)), (5, .int (bI has)), (2, .int (nI y)), (1, .int (nI x)), (0, .ref (ad 0))]) hx hb d_r_strengthOf_84 hl (k := 3) rfl (nI_add m9 1) (by decide) rfl (fun ls hl => ?_)
                  refine lv_goto (tgt := 5) hx hb d_r_strengthOf_87 (by decide) ?_
                  exact ih1 (m9 + 1) ls (by omega) (by omega) (by rw [← cn_y (p := (fun m9 => ex (x + 1) (fun z => c z == m9 && (se an fk c x z && se an fk c z y)))) (show ex (x + 1) (fun z => c z == m9 && (se an fk c x z && se an fk c z y)) = true from hhas.symm.trans c_78)]; exact (lv_sub hl [0, 1, 4, 5, 6] rfl))
              · have hcz := hc8 z (by omega)
                refine lv_aload_n hx hb d_r_strengthOf_31 rfl (lv_at hl 6 rfl) ?_
                refine va_get (D := D) (ci := 1) (v := .ref (ad 1)) (C := "SightGraphModel") (T := T_r) (N := 10) hx hb htc in_r hown hK hP 0 rfl rfl 3 (by decide) (htc _ k_2_76) (fun _ h9 => h9) rfl d_r_strengthOf_32 ?_
                refine lv_iload hx hb d_r_strengthOf_35 (lv_at hl 0 rfl) ?_
                refine nr_iald hx hb hK hP 1 0 rfl rfl (by omega) (by decide) (v := (nI (c z))) (hc z (by omega)) d_r_strengthOf_37 ?_
                refine lv_iload hx hb d_r_strengthOf_38 (lv_at hl 2 rfl) ?_
                refine nr_icmp_ne (tgt := 67) hx hb (by omega) (by omega) d_r_strengthOf_40 (by decide) (fun c_40 => ?_) (fun c_40 => ?_)
                · refine lv_iconst (v := (nI 0)) hx hb d_r_strengthOf_67 (by decide) ?_
                  refine nr_top (w := .int (bI false)) rfl ?_
                  refine lv_istore (lv' := [(5, .int (bI false)), (6, .int (nI z)), (4, .int (nI m9)), (3, .int (nI (cn m9 (fun m9 => ex (x + 1) (fun z => c z == m9 && (se an fk c x z && se an fk c z y)))))), (2, .int (nI y)), (1, .int (nI x)), (0, .ref (ad 0))]) hx hb d_r_strengthOf_68 hl (by decide) rfl (fun ls hl => ?_)
                  refine lv_iinc (v := (nI (z + 1))) (lv' := [(6, .int (nI (z + 1))), (5, .int (bI false)), (4, .int (nI m9)), (3, .int (nI (cn m9 (fun m9 => ex (x + 1) (fun z => c z == m9 && (se an fk c x z && se an fk c z y)))))), (2, .int (nI y)), (1, .int (nI x)), (0, .ref (ad 0))]) hx hb d_r_strengthOf_70 hl (k := 1) rfl (nI_add z 1) (by decide) rfl (fun ls hl => ?_)
                  refine lv_goto (tgt := 20) hx hb d_r_strengthOf_73 (by decide) ?_
                  exact ih2 (z + 1) false ls (by omega) (by omega) (ex_hs (p := (fun z => c z == m9 && (se an fk c x z && se an fk c z y))) (hhs.symm.trans c_28) (by rw [show (c z == m9) = false from by simpa using c_40]; rfl)) (lv_sub hl [0, 1, 2, 3, 4, 5, 6] rfl)
                · refine lv_aload_n hx hb d_r_strengthOf_43 rfl (lv_at hl 6 rfl) ?_
                  refine lv_iload_n hx hb d_r_strengthOf_44 rfl (lv_at hl 5 rfl) ?_
                  refine lv_iload hx hb d_r_strengthOf_45 (lv_at hl 0 rfl) ?_
                  refine PM.callV (rest := []) S (c_r_isSeen l D cI cJ cZ ad er n ev r K hKb c hc an ha fk hf hc8 x z hx0 (by omega)) k_2_159 k_2_161 k_s_29 k_1_2 k_2_162 h_r_isSeen ⟨Nat.le_of_ble_eq_true rfl, Nat.le_of_ble_eq_true rfl⟩ ⟨Nat.le_of_ble_eq_true rfl, Nat.le_of_ble_eq_true rfl⟩ hP hK 0 1 rfl rfl rfl hl.1 (Nat.le_of_ble_eq_true rfl) rfl d_r_strengthOf_47 ?_
                  refine nr_ifeq_b (tgt := 67) hx hb d_r_strengthOf_50 (by decide) (fun c_50 => ?_) (fun c_50 => ?_)
                  · refine lv_iconst (v := (nI 0)) hx hb d_r_strengthOf_67 (by decide) ?_
                    refine nr_top (w := .int (bI false)) rfl ?_
                    refine lv_istore (lv' := [(5, .int (bI false)), (6, .int (nI z)), (4, .int (nI m9)), (3, .int (nI (cn m9 (fun m9 => ex (x + 1) (fun z => c z == m9 && (se an fk c x z && se an fk c z y)))))), (2, .int (nI y)), (1, .int (nI x)), (0, .ref (ad 0))]) hx hb d_r_strengthOf_68 hl (by decide) rfl (fun ls hl => ?_)
                    refine lv_iinc (v := (nI (z + 1))) (lv' := [(6, .int (nI (z + 1))), (5, .int (bI false)), (4, .int (nI m9)), (3, .int (nI (cn m9 (fun m9 => ex (x + 1) (fun z => c z == m9 && (se an fk c x z && se an fk c z y)))))), (2, .int (nI y)), (1, .int (nI x)), (0, .ref (ad 0))]) hx hb d_r_strengthOf_70 hl (k := 1) rfl (nI_add z 1) (by decide) rfl (fun ls hl => ?_)
                    refine lv_goto (tgt := 20) hx hb d_r_strengthOf_73 (by decide) ?_
                    exact ih2 (z + 1) false ls (by omega) (by omega) (ex_hs (p := (fun z => c z == m9 && (se an fk c x z && se an fk c z y))) (hhs.symm.trans c_28) (by rw [c_50]; simp)) (lv_sub hl [0, 1, 2, 3, 4, 5, 6] rfl)
                  · refine lv_aload_n hx hb d_r_strengthOf_53 rfl (lv_at hl 6 rfl) ?_
                    refine lv_iload hx hb d_r_strengthOf_54 (lv_at hl 0 rfl) ?_
                    refine lv_iload_n hx hb d_r_strengthOf_56 rfl (lv_at hl 4 rfl) ?_
                    refine PM.callV (rest := []) S (c_r_isSeen l D cI cJ cZ ad er n ev r K hKb c hc an ha fk hf hc8 z y (by omega) hy0) k_2_159 k_2_161 k_s_29 k_1_2 k_2_162 h_r_isSeen ⟨Nat.le_of_ble_eq_true rfl, Nat.le_of_ble_eq_true rfl⟩ ⟨Nat.le_of_ble_eq_true rfl, Nat.le_of_ble_eq_true rfl⟩ hP hK 0 1 rfl rfl rfl hl.1 (Nat.le_of_ble_eq_true rfl) rfl d_r_strengthOf_57 ?_
                    refine nr_ifeq_b (tgt := 67) hx hb d_r_strengthOf_60 (by decide) (fun c_60 => ?_) (fun c_60 => ?_)
                    · refine lv_iconst (v := (nI 0)) hx hb d_r_strengthOf_67 (by decide) ?_
                      refine nr_top (w := .int (bI false)) rfl ?_
                      refine lv_istore (lv' := [(5, .int (bI false)), (6, .int (nI z)), (4, .int (nI m9)), (3, .int (nI (cn m9 (fun m9 => ex (x + 1) (fun z => c z == m9 && (se an fk c x z && se an fk c z y)))))), (2, .int (nI y)), (1, .int (nI x)), (0, .ref (ad 0))]) hx hb d_r_strengthOf_68 hl (by decide) rfl (fun ls hl => ?_)
                      refine lv_iinc (v := (nI (z + 1))) (lv' := [(6, .int (nI (z + 1))), (5, .int (bI false)), (4, .int (nI m9)), (3, .int (nI (cn m9 (fun m9 => ex (x + 1) (fun z => c z == m9 && (se an fk c x z && se an fk c z y)))))), (2, .int (nI y)), (1, .int (nI x)), (0, .ref (ad 0))]) hx hb d_r_strengthOf_70 hl (k := 1) rfl (nI_add z 1) (by decide) rfl (fun ls hl => ?_)
                      refine lv_goto (tgt := 20) hx hb d_r_strengthOf_73 (by decide) ?_
                      exact ih2 (z + 1) false ls (by omega) (by omega) (ex_hs (p := (fun z => c z == m9 && (se an fk c x z && se an fk c z y))) (hhs.symm.trans c_28) (by rw [c_60]; simp)) (lv_sub hl [0, 1, 2, 3, 4, 5, 6] rfl)
                    · refine lv_iconst (v := (nI 1)) hx hb d_r_strengthOf_63 (by decide) ?_
                      refine lv_goto (tgt := 68) hx hb d_r_strengthOf_64 (by decide) ?_
                      refine nr_top (w := .int (bI true)) rfl ?_
                      refine lv_istore (lv' := [(5, .int (bI true)), (6, .int (nI z)), (4, .int (nI m9)), (3, .int (nI (cn m9 (fun m9 => ex (x + 1) (fun z => c z == m9 && (se an fk c x z && se an fk c z y)))))), (2, .int (nI y)), (1, .int (nI x)), (0, .ref (ad 0))]) hx hb d_r_strengthOf_68 hl (by decide) rfl (fun ls hl => ?_)
                      refine lv_iinc (v := (nI (z + 1))) (lv' := [(6, .int (nI (z + 1))), (5, .int (bI true)), (4, .int (nI m9)), (3, .int (nI (cn m9 (fun m9 => ex (x + 1) (fun z => c z == m9 && (se an fk c x z && se an fk c z y)))))), (2, .int (nI y)), (1, .int (nI x)), (0, .ref (ad 0))]) hx hb d_r_strengthOf_70 hl (k := 1) rfl (nI_add z 1) (by decide) rfl (fun ls hl => ?_)
                      refine lv_goto (tgt := 20) hx hb d_r_strengthOf_73 (by decide) ?_
                      exact ih2 (z + 1) true ls (by omega) (by omega) (ex_hs (p := (fun z => c z == m9 && (se an fk c x z && se an fk c z y))) (hhs.symm.trans c_28) (by rw [show (c z == m9) = true from by simpa using c_40, c_50, c_60]; rfl)) (lv_sub hl [0, 1, 2, 3, 4, 5, 6] rfl)
        exact loop2 (x + 2) 0 false ls (by omega) (by omega) rfl (lv_sub hl [0, 1, 2, 3, 4, 5, 6] rfl)
  exact loop1 (n + 1) 0 ls (by omega) (by omega) (lv_sub hl [0, 1, 4, 3, 2] rfl)
set_option maxHeartbeats 4000000 in
set_option maxRecDepth 100000 in
theorem c_r_isStrong (l : Launch) (D : va_G) (cI cJ cZ : ClassId) (ad : Nat → Nat) (er : Int32) (n ev : Nat) (r : RA) (K : Nat) (hKb : K ≤ 120) (c : Nat → Nat) (hc : ∀ j, j < K → r.1 j = nI (c j)) (an : Nat → Nat → Bool) (ha : ∀ j, j < K → ∀ y, y < 120 → r.2.2.2.2.2.1 (120 * j + y) = bI (an j y)) (fk : Nat → Nat → Bool) (hf : ∀ j, j < K → ∀ m, m < 8 → r.2.2.2.2.2.2 (8 * j + m) = bI (fk j m)) (hc8 : ∀ j, j < K → c j < 8) (hn : n ≤ 8) (x y : Nat) (hx0 : x < K) (hy0 : y < K) : PM l D (tys cI cJ cZ) (rL cI cZ ad er n ev r) y_r_isStrong b_r_isStrong 3 (some .boolean) 3 70 [.ref (ad 0), .int (nI x), .int (nI y)] (bI (mn n (sn n an fk c x y))) := by
  refine PM.of (by decide) (Nat.le_of_ble_eq_true rfl) ?_
  intro p9 e9 s9 m args below meth c9 ls S hr hlocks hP hK hl
  obtain ⟨hx, hb, hml, hown, htc⟩ := id S
  have hl : lv_has ls 3 [(0, .ref (ad 0)), (1, .int (nI x)), (2, .int (nI y))] := hl
  have hsb := sn_le n an fk c x y
  refine lv_iconst (v := (nI 3)) hx hb d_r_isStrong_0 (by decide) ?_
  refine lv_aload_n hx hb d_r_isStrong_1 rfl (lv_at hl 0 rfl) ?_
  refine lv_iload_n hx hb d_r_isStrong_2 rfl (lv_at hl 1 rfl) ?_
  refine lv_iload_n hx hb d_r_isStrong_3 rfl (lv_at hl 2 rfl) ?_
  refine PM.callV (rest := [.int (nI 3)]) S (c_r_strengthOf l D cI cJ cZ ad er n ev r K hKb c hc an ha fk hf hc8 hn x y hx0 hy0) k_2_155 k_2_157 k_s_28 k_1_2 k_2_158 h_r_strengthOf ⟨Nat.le_of_ble_eq_true rfl, Nat.le_of_ble_eq_true rfl⟩ ⟨Nat.le_of_ble_eq_true rfl, Nat.le_of_ble_eq_true rfl⟩ hP hK 0 1 rfl rfl rfl hl.1 (Nat.le_of_ble_eq_true rfl) rfl d_r_isStrong_4 ?_
  refine nr_imul hx hb d_r_isStrong_7 ?_
  refine lv_iconst (v := (nI 2)) hx hb d_r_isStrong_8 (by decide) ?_
  refine lv_aload_n hx hb d_r_isStrong_9 rfl (lv_at hl 0 rfl) ?_
  refine va_get (D := D) (ci := 1) (v := .int (nI n)) (C := "SightGraphModel") (T := T_r) (N := 10) hx hb htc in_r hown hK hP 0 rfl rfl 1 (by decide) (htc _ k_2_74) (fun _ h9 => h9) rfl d_r_isStrong_10 ?_
  refine nr_imul hx hb d_r_isStrong_13 ?_
  refine nr_icmp_le (tgt := 21) hx hb (by omega) (by omega) d_r_isStrong_14 (by decide) (fun c_14 => ?_) (fun c_14 => ?_)
  · refine lv_iconst (v := (nI 0)) hx hb d_r_isStrong_21 (by decide) ?_
    refine nr_top (w := .int (bI false)) rfl ?_
    exact PM.zret hx hb hr hlocks d_r_isStrong_22 (by rw [show mn n (sn n an fk c x y) = false from decide_eq_false (by omega)])
  · refine lv_iconst (v := (nI 1)) hx hb d_r_isStrong_17 (by decide) ?_
    refine lv_goto (tgt := 22) hx hb d_r_isStrong_18 (by decide) ?_
    refine nr_top (w := .int (bI true)) rfl ?_
    exact PM.zret hx hb hr hlocks d_r_isStrong_22 (by rw [show mn n (sn n an fk c x y) = true from decide_eq_true (by omega)])
set_option maxHeartbeats 4000000 in
set_option maxRecDepth 100000 in
theorem c_r_isWitness (l : Launch) (D : va_G) (cI cJ cZ : ClassId) (ad : Nat → Nat) (er : Int32) (n ev : Nat) (r : RA) (K : Nat) (hKb : K ≤ 120) (s : Nat → Nat) (hs : ∀ j, j < K → r.2.1 j = mI (s j)) (rd : Nat → Nat) (KR : Nat) (hKR : KR ≤ 120) (hR : ∀ j, j < KR → r.2.2.2.1 j = nI (rd j) ∧ rd j ≤ j + 1) (x : Nat) (hx0 : x < K) (hxR : x < KR) (hsx : s x ≤ x) : PM l D (tys cI cJ cZ) (rL cI cZ ad er n ev r) y_r_isWitness b_r_isWitness 2 (some .boolean) 0 0 [.ref (ad 0), .int (nI x)] (bI (wi s rd x)) := by
  refine PM.of (by decide) (Nat.le_of_ble_eq_true rfl) ?_
  intro p9 e9 s9 m args below meth c9 ls S hr hlocks hP hK hl
  obtain ⟨hx, hb, hml, hown, htc⟩ := id S
  have hl : lv_has ls 2 [(0, .ref (ad 0)), (1, .int (nI x))] := hl
  refine lv_aload_n hx hb d_r_isWitness_0 rfl (lv_at hl 0 rfl) ?_
  refine va_get (D := D) (ci := 1) (v := .ref (ad 2)) (C := "SightGraphModel") (T := T_r) (N := 10) hx hb htc in_r hown hK hP 0 rfl rfl 4 (by decide) (htc _ k_2_77) (fun _ h9 => h9) rfl d_r_isWitness_1 ?_
  refine lv_iload_n hx hb d_r_isWitness_4 rfl (lv_at hl 1 rfl) ?_
  refine nr_iald hx hb hK hP 2 0 rfl rfl (by omega) (by decide) (v := (mI (s x))) (hs x (by omega)) d_r_isWitness_5 ?_
  refine nr_iflt_m (tgt := 29) hx hb (by omega) d_r_isWitness_6 (by decide) (fun c_6 => ?_) (fun c_6 => ?_)
  · refine lv_iconst (v := (nI 1)) hx hb d_r_isWitness_29 (by decide) ?_
    refine lv_goto (tgt := 34) hx hb d_r_isWitness_30 (by decide) ?_
    refine nr_top (w := .int (bI true)) rfl ?_
    exact PM.zret hx hb hr hlocks d_r_isWitness_34 (by unfold wi; rw [show s x = 0 from c_6]; rfl)
  · refine lv_aload_n hx hb d_r_isWitness_9 rfl (lv_at hl 0 rfl) ?_
    refine va_get (D := D) (ci := 1) (v := .ref (ad 4)) (C := "SightGraphModel") (T := T_r) (N := 10) hx hb htc in_r hown hK hP 0 rfl rfl 6 (by decide) (htc _ k_2_79) (fun _ h9 => h9) rfl d_r_isWitness_10 ?_
    refine lv_aload_n hx hb d_r_isWitness_13 rfl (lv_at hl 0 rfl) ?_
    refine va_get (D := D) (ci := 1) (v := .ref (ad 2)) (C := "SightGraphModel") (T := T_r) (N := 10) hx hb htc in_r hown hK hP 0 rfl rfl 4 (by decide) (htc _ k_2_77) (fun _ h9 => h9) rfl d_r_isWitness_14 ?_
    refine lv_iload_n hx hb d_r_isWitness_17 rfl (lv_at hl 1 rfl) ?_
    refine nr_iald hx hb hK hP 2 0 rfl rfl (by omega) (by decide) (v := (mI (s x))) (hs x (by omega)) d_r_isWitness_18 ?_
    have hs1 : s x = (s x - 1) + 1 := by omega
    have hb9 := (hR (s x - 1) (by omega)).2
    have hb8 := (hR x (by omega)).2
    refine nr_top (w := .int (nI (s x - 1))) (congrArg Value.int (by rw [hs1]; rfl)) ?_
    refine nr_iald hx hb hK hP 4 0 rfl rfl (by omega) (by decide) (v := (nI (rd (s x - 1)))) (hR (s x - 1) (by omega)).1 d_r_isWitness_19 ?_
    refine lv_aload_n hx hb d_r_isWitness_20 rfl (lv_at hl 0 rfl) ?_
    refine va_get (D := D) (ci := 1) (v := .ref (ad 4)) (C := "SightGraphModel") (T := T_r) (N := 10) hx hb htc in_r hown hK hP 0 rfl rfl 6 (by decide) (htc _ k_2_79) (fun _ h9 => h9) rfl d_r_isWitness_21 ?_
    refine lv_iload_n hx hb d_r_isWitness_24 rfl (lv_at hl 1 rfl) ?_
    refine nr_iald hx hb hK hP 4 0 rfl rfl (by omega) (by decide) (v := (nI (rd x))) (hR x (by omega)).1 d_r_isWitness_25 ?_
    refine nr_icmp_ge (tgt := 33) hx hb (by omega) (by omega) d_r_isWitness_26 (by decide) (fun c_26 => ?_) (fun c_26 => ?_)
    · refine lv_iconst (v := (nI 0)) hx hb d_r_isWitness_33 (by decide) ?_
      refine nr_top (w := .int (bI false)) rfl ?_
      exact PM.zret hx hb hr hlocks d_r_isWitness_34 (by unfold wi; rw [show (s x == 0) = false from by simpa using c_6, show decide (rd (s x - 1) < rd x) = false from decide_eq_false (by omega)]; rfl)
    · refine lv_iconst (v := (nI 1)) hx hb d_r_isWitness_29 (by decide) ?_
      refine lv_goto (tgt := 34) hx hb d_r_isWitness_30 (by decide) ?_
      refine nr_top (w := .int (bI true)) rfl ?_
      exact PM.zret hx hb hr hlocks d_r_isWitness_34 (by unfold wi; rw [show (s x == 0) = false from by simpa using c_6, show decide (rd (s x - 1) < rd x) = true from decide_eq_true (by omega)]; rfl)
set_option maxHeartbeats 4000000 in
set_option maxRecDepth 100000 in
theorem c_r_thrown (l : Launch) (D : va_G) (cI cJ cZ : ClassId) (ad : Nat → Nat) (er : Int32) (n ev : Nat) (r : RA)  : PM l D (tys cI cJ cZ) (rL cI cZ ad er n ev r) y_r_thrown b_r_thrown 1 (some .int) 0 0 [.ref (ad 0)] (er) := by
  refine PM.of (by decide) (Nat.le_of_ble_eq_true rfl) ?_
  intro p9 e9 s9 m args below meth c9 ls S hr hlocks hP hK hl
  obtain ⟨hx, hb, hml, hown, htc⟩ := id S
  have hl : lv_has ls 1 [(0, .ref (ad 0))] := hl
  refine lv_aload_n hx hb d_r_thrown_0 rfl (lv_at hl 0 rfl) ?_
  refine va_get (D := D) (ci := 1) (v := .int er) (C := "SightGraphModel") (T := T_r) (N := 10) hx hb htc in_r hown hK hP 0 rfl rfl 0 (by decide) (htc _ k_2_73) (fun _ h9 => h9) rfl d_r_thrown_1 ?_
  exact PM.iret hx hb hr hlocks d_r_thrown_4 rfl
