theorem in28 (x : Int32) : decide ((2 : Int64) ≤ x.toInt64 ∧ x.toInt64 ≤ 8) = decide (nI 2 ≤ x ∧ x ≤ nI 8) := by
  rw [decide_eq_decide, Int64.le_iff_toInt_le, Int64.le_iff_toInt_le, t64, Int32.le_iff_toInt_le, Int32.le_iff_toInt_le, nI_toInt (by decide), nI_toInt (by decide), show (2 : Int64).toInt = 2 from by decide, show (8 : Int64).toInt = 8 from by decide]
  exact Iff.rfl
theorem in03 (x : Int32) : decide ((0 : Int64) ≤ x.toInt64 ∧ x.toInt64 ≤ 3) = iv 4 x := by
  unfold iv
  rw [decide_eq_decide, Int64.le_iff_toInt_le, Int64.le_iff_toInt_le, t64, Int32.le_iff_toInt_le, Int32.lt_iff_toInt_lt, nI_toInt (by decide), show (0 : Int64).toInt = 0 from by decide, show (3 : Int64).toInt = 3 from by decide, Int32.toInt_zero]
  omega
/-- a fork of m among the first N, as the reference counts it -/
def fm (ow : Nat → Nat → Bool) (c : Nat → Nat) (N m : Nat) : Bool := ex N (fun y => ex y (fun z => c y == m && (c y == c z && (!ow y z && !ow z y))))
set_option maxHeartbeats 4000000 in
set_option maxRecDepth 100000 in
theorem c_r_begin_ok (l : Launch) (D : va_G) (cI cJ cZ : ClassId) (ad : Nat → Nat) (er : Int32) (n ev : Nat) (r : RA) (v : Nat) (h1 : 2 ≤ v) (h2 : v ≤ 8) : WV (S := Unit) l D (tys cI cJ cZ) (rL cI cZ ad er n ev r) (fun _ => rL cI cZ ad 0 v 0 r) (fun _ => True) y_r_begin b_r_begin 2 1 25 [.ref (ad 0), .int (nI v)] := by
  refine WV.of (by decide) (Nat.le_of_ble_eq_true rfl) ?_
  intro p9 e9 s9 m args below meth c9 ls A S hr hlocks hA hP hK hD hl
  obtain ⟨hx, hb, hml, hown, htc⟩ := id S
  have hS : va_S A s9.heap s9.heap [] := va_S.rf
  have hl : lv_has ls 2 [(0, .ref (ad 0)), (1, .int (nI v))] := hl
  refine lv_aload_n hx hb d_r_begin_0 rfl (lv_at hl 0 rfl) ?_
  refine lv_iconst (v := (nI 0)) hx hb d_r_begin_1 (by decide) ?_
  refine va_put (D := D) (ci := 1) (v := .int (nI 0)) (ty := .int) (C := "SightGraphModel") (T := T_r) (N := 10) hx hb htc in_r t_r ft_r fn_r hown hK hP hD hS 0 rfl rfl 0 (by decide) (htc _ k_2_73) (fun _ h9 => h9) rfl (by decide +kernel) rfl rfl (Nat.le_of_ble_eq_true rfl) d_r_begin_2 (fun H locs hP hD hS => ?_)
  have hP : va_P D cls (rL cI cZ ad (nI 0) n ev r) H := hP
  have hD : va_D A (rL cI cZ ad (nI 0) n ev r) := hD
  refine lv_aload_n hx hb d_r_begin_5 rfl (lv_at hl 0 rfl) ?_
  refine lv_iload_n hx hb d_r_begin_6 rfl (lv_at hl 1 rfl) ?_
  refine lv_i2l hx hb d_r_begin_7 rfl ?_
  refine lv_ldc2 hx hb hown (htc _ k_2_113) d_r_begin_8 ?_
  refine lv_ldc2 hx hb hown (htc _ k_2_114) d_r_begin_11 ?_
  refine PM.callS (rest := [.ref (ad 0)]) S (c_r_in l D cI cJ cZ ad (nI 0) n ev r ((nI v).toInt64) (2) (8)) k_2_115 k_2_116 k_1_2 k_2_117 h_r_in ⟨Nat.le_of_ble_eq_true rfl, Nat.le_of_ble_eq_true rfl⟩ ⟨Nat.le_of_ble_eq_true rfl, Nat.le_of_ble_eq_true rfl⟩ hP hK hl.1 (Nat.le_of_ble_eq_true rfl) rfl d_r_begin_14 ?_
  refine nr_ifne_b (tgt := 24) hx hb d_r_begin_17 (by decide) (fun q9 => ?_) (fun q9 => absurd (show (decide ((2 : Int64) ≤ (nI v).toInt64 ∧ (nI v).toInt64 ≤ 8)) = true from by rw [in28]; exact decide_eq_true ⟨nI_le h1 (by omega), nI_le h2 (by decide)⟩) (by rw [q9]; decide))
  refine lv_iconst (v := (nI 0)) hx hb d_r_begin_24 (by decide) ?_
  refine nr_top (w := .int (bI false)) rfl ?_
  refine lv_iconst (v := (nI 1)) hx hb d_r_begin_25 (by decide) ?_
  refine WI.callV (wr := []) (rest := []) S (c_r_fails l D cI cJ cZ ad n ev r false 1 (by decide) (by decide)) k_2_118 k_2_120 k_s_20 k_1_2 k_2_121 h_r_fails ⟨Nat.le_of_ble_eq_true rfl, Nat.le_of_ble_eq_true rfl⟩ ⟨Nat.le_of_ble_eq_true rfl, Nat.le_of_ble_eq_true rfl⟩ hP hK hD hS hA [0, 1, 2, 3, 4, 5, 6, 7] [] rfl rfl (by decide) (by decide) (by decide) 0 1 rfl rfl rfl hl.1 (Nat.le_of_ble_eq_true rfl) rfl d_r_begin_26 (fun v9 u9 H locs hv9 hP hD hS => ?_)
  obtain rfl := hv9
  have hP : va_P D cls (rL cI cZ ad 0 n ev r) H := hP
  have hD : va_D A (rL cI cZ ad 0 n ev r) := hD
  refine nr_ifeq_b (tgt := 33) hx hb d_r_begin_29 (by decide) (fun q9 => ?_) (fun q9 => nomatch q9)
  refine lv_aload_n hx hb d_r_begin_33 rfl (lv_at hl 0 rfl) ?_
  refine lv_iload_n hx hb d_r_begin_34 rfl (lv_at hl 1 rfl) ?_
  refine va_put (D := D) (ci := 1) (v := .int (nI v)) (ty := .int) (C := "SightGraphModel") (T := T_r) (N := 10) hx hb htc in_r t_r ft_r fn_r hown hK hP hD hS 0 rfl rfl 1 (by decide) (htc _ k_2_74) (fun _ h9 => h9) rfl (by decide +kernel) rfl rfl (Nat.le_of_ble_eq_true rfl) d_r_begin_35 (fun H locs hP hD hS => ?_)
  have hP : va_P D cls (rL cI cZ ad 0 v ev r) H := hP
  have hD : va_D A (rL cI cZ ad 0 v ev r) := hD
  refine lv_aload_n hx hb d_r_begin_38 rfl (lv_at hl 0 rfl) ?_
  refine lv_iconst (v := (nI 0)) hx hb d_r_begin_39 (by decide) ?_
  refine va_put (D := D) (ci := 1) (v := .int (nI 0)) (ty := .int) (C := "SightGraphModel") (T := T_r) (N := 10) hx hb htc in_r t_r ft_r fn_r hown hK hP hD hS 0 rfl rfl 2 (by decide) (htc _ k_2_75) (fun _ h9 => h9) rfl (by decide +kernel) rfl rfl (Nat.le_of_ble_eq_true rfl) d_r_begin_40 (fun H locs hP hD hS => ?_)
  have hP : va_P D cls (rL cI cZ ad 0 v 0 r) H := hP
  have hD : va_D A (rL cI cZ ad 0 v 0 r) := hD
  exact WV.ret hx hb hr hlocks hK hS d_r_begin_43 () trivial hP hD
set_option maxHeartbeats 4000000 in
set_option maxRecDepth 100000 in
theorem c_r_begin_x (l : Launch) (D : va_G) (cI cJ cZ : ClassId) (ad : Nat → Nat) (er : Int32) (n ev : Nat) (r : RA) (x : Int32) (hv : ¬ (2 ≤ x ∧ x ≤ 8)) : WV (S := Unit) l D (tys cI cJ cZ) (rL cI cZ ad er n ev r) (fun _ => rL cI cZ ad (nI 1) n ev r) (fun _ => True) y_r_begin b_r_begin 2 1 25 [.ref (ad 0), .int x] := by
  refine WV.of (by decide) (Nat.le_of_ble_eq_true rfl) ?_
  intro p9 e9 s9 m args below meth c9 ls A S hr hlocks hA hP hK hD hl
  obtain ⟨hx, hb, hml, hown, htc⟩ := id S
  have hS : va_S A s9.heap s9.heap [] := va_S.rf
  have hl : lv_has ls 2 [(0, .ref (ad 0)), (1, .int x)] := hl
  refine lv_aload_n hx hb d_r_begin_0 rfl (lv_at hl 0 rfl) ?_
  refine lv_iconst (v := (nI 0)) hx hb d_r_begin_1 (by decide) ?_
  refine va_put (D := D) (ci := 1) (v := .int (nI 0)) (ty := .int) (C := "SightGraphModel") (T := T_r) (N := 10) hx hb htc in_r t_r ft_r fn_r hown hK hP hD hS 0 rfl rfl 0 (by decide) (htc _ k_2_73) (fun _ h9 => h9) rfl (by decide +kernel) rfl rfl (Nat.le_of_ble_eq_true rfl) d_r_begin_2 (fun H locs hP hD hS => ?_)
  have hP : va_P D cls (rL cI cZ ad (nI 0) n ev r) H := hP
  have hD : va_D A (rL cI cZ ad (nI 0) n ev r) := hD
  refine lv_aload_n hx hb d_r_begin_5 rfl (lv_at hl 0 rfl) ?_
  refine lv_iload_n hx hb d_r_begin_6 rfl (lv_at hl 1 rfl) ?_
  refine lv_i2l hx hb d_r_begin_7 rfl ?_
  refine lv_ldc2 hx hb hown (htc _ k_2_113) d_r_begin_8 ?_
  refine lv_ldc2 hx hb hown (htc _ k_2_114) d_r_begin_11 ?_
  refine PM.callS (rest := [.ref (ad 0)]) S (c_r_in l D cI cJ cZ ad (nI 0) n ev r (x.toInt64) (2) (8)) k_2_115 k_2_116 k_1_2 k_2_117 h_r_in ⟨Nat.le_of_ble_eq_true rfl, Nat.le_of_ble_eq_true rfl⟩ ⟨Nat.le_of_ble_eq_true rfl, Nat.le_of_ble_eq_true rfl⟩ hP hK hl.1 (Nat.le_of_ble_eq_true rfl) rfl d_r_begin_14 ?_
  refine nr_ifne_b (tgt := 24) hx hb d_r_begin_17 (by decide) (fun q9 => absurd (show (decide ((2 : Int64) ≤ x.toInt64 ∧ x.toInt64 ≤ 8)) = false from by rw [in28]; exact decide_eq_false hv) (by rw [q9]; decide)) (fun q9 => ?_)
  refine lv_iconst (v := (nI 1)) hx hb d_r_begin_20 (by decide) ?_
  refine lv_goto (tgt := 25) hx hb d_r_begin_21 (by decide) ?_
  refine nr_top (w := .int (bI true)) rfl ?_
  refine lv_iconst (v := (nI 1)) hx hb d_r_begin_25 (by decide) ?_
  refine WI.callV (wr := []) (rest := []) S (c_r_fails l D cI cJ cZ ad n ev r true 1 (by decide) (by decide)) k_2_118 k_2_120 k_s_20 k_1_2 k_2_121 h_r_fails ⟨Nat.le_of_ble_eq_true rfl, Nat.le_of_ble_eq_true rfl⟩ ⟨Nat.le_of_ble_eq_true rfl, Nat.le_of_ble_eq_true rfl⟩ hP hK hD hS hA [0, 1, 2, 3, 4, 5, 6, 7] [] rfl rfl (by decide) (by decide) (by decide) 0 1 rfl rfl rfl hl.1 (Nat.le_of_ble_eq_true rfl) rfl d_r_begin_26 (fun v9 u9 H locs hv9 hP hD hS => ?_)
  obtain rfl := hv9
  have hP : va_P D cls (rL cI cZ ad (nI 1) n ev r) H := hP
  have hD : va_D A (rL cI cZ ad (nI 1) n ev r) := hD
  refine nr_ifeq_b (tgt := 33) hx hb d_r_begin_29 (by decide) (fun q9 => nomatch q9) (fun q9 => ?_)
  exact WV.ret hx hb hr hlocks hK hS d_r_begin_32 () trivial hP hD
set_option maxHeartbeats 4000000 in
set_option maxRecDepth 100000 in
theorem c_r_forked_ok (l : Launch) (D : va_G) (cI cJ cZ : ClassId) (ad : Nat → Nat) (er : Int32) (n ev : Nat) (r : RA) (hev : ev ≤ 120) (K : Nat) (hKb : K ≤ 120) (fk : Nat → Nat → Bool) (hf : ∀ j, j < K → ∀ m, m < 8 → r.2.2.2.2.2.2 (8 * j + m) = bI (fk j m)) (hevK : ev ≤ K) (hn : n ≤ 8) (x v : Nat) (hx0 : x < ev) (hv : v < n) : WI (S := Unit) l D (tys cI cJ cZ) (rL cI cZ ad er n ev r) (fun _ => rL cI cZ ad 0 n ev r) (fun q _ => q = bI (fk x v)) y_r_forked b_r_forked 3 (some .boolean) 2 50 [.ref (ad 0), .int (nI x), .int (nI v)] := by
  refine WI.of (by decide) (Nat.le_of_ble_eq_true rfl) ?_
  intro p9 e9 s9 m args below meth c9 ls A S hr hlocks hA hP hK hD hl
  obtain ⟨hx, hb, hml, hown, htc⟩ := id S
  have hS : va_S A s9.heap s9.heap [] := va_S.rf
  have hl : lv_has ls 3 [(0, .ref (ad 0)), (1, .int (nI x)), (2, .int (nI v))] := hl
  refine lv_aload_n hx hb d_r_forked_0 rfl (lv_at hl 0 rfl) ?_
  refine lv_iconst (v := (nI 0)) hx hb d_r_forked_1 (by decide) ?_
  refine va_put (D := D) (ci := 1) (v := .int (nI 0)) (ty := .int) (C := "SightGraphModel") (T := T_r) (N := 10) hx hb htc in_r t_r ft_r fn_r hown hK hP hD hS 0 rfl rfl 0 (by decide) (htc _ k_2_73) (fun _ h9 => h9) rfl (by decide +kernel) rfl rfl (Nat.le_of_ble_eq_true rfl) d_r_forked_2 (fun H locs hP hD hS => ?_)
  have hP : va_P D cls (rL cI cZ ad (nI 0) n ev r) H := hP
  have hD : va_D A (rL cI cZ ad (nI 0) n ev r) := hD
  refine lv_aload_n hx hb d_r_forked_5 rfl (lv_at hl 0 rfl) ?_
  refine lv_iload_n hx hb d_r_forked_6 rfl (lv_at hl 2 rfl) ?_
  refine lv_i2l hx hb d_r_forked_7 rfl ?_
  refine lv_lconst (v := 0) hx hb d_r_forked_8 (by decide) ?_
  refine lv_aload_n hx hb d_r_forked_9 rfl (lv_at hl 0 rfl) ?_
  refine va_get (D := D) (ci := 1) (v := .int (nI n)) (C := "SightGraphModel") (T := T_r) (N := 10) hx hb htc in_r hown hK hP 0 rfl rfl 1 (by decide) (htc _ k_2_74) (fun _ h9 => h9) rfl d_r_forked_10 ?_
  refine lv_iconst (v := (nI 1)) hx hb d_r_forked_13 (by decide) ?_
  refine lv_isub hx hb d_r_forked_14 ?_
  refine lv_i2l hx hb d_r_forked_15 rfl ?_
  refine PM.callS (rest := [.ref (ad 0)]) S (c_r_in l D cI cJ cZ ad (nI 0) n ev r ((nI v).toInt64) (0) ((nI n - nI 1).toInt64)) k_2_115 k_2_116 k_1_2 k_2_117 h_r_in ⟨Nat.le_of_ble_eq_true rfl, Nat.le_of_ble_eq_true rfl⟩ ⟨Nat.le_of_ble_eq_true rfl, Nat.le_of_ble_eq_true rfl⟩ hP hK hl.1 (Nat.le_of_ble_eq_true rfl) rfl d_r_forked_16 ?_
  refine nr_ifne_b (tgt := 26) hx hb d_r_forked_19 (by decide) (fun q9 => ?_) (fun q9 => absurd (show (decide ((0 : Int64) ≤ (nI v).toInt64 ∧ (nI v).toInt64 ≤ (nI n - nI 1).toInt64)) = true from by rw [iv_l (by omega)]; exact iv_t hv (by omega)) (by rw [q9]; decide))
  refine lv_iconst (v := (nI 0)) hx hb d_r_forked_26 (by decide) ?_
  refine nr_top (w := .int (bI false)) rfl ?_
  refine lv_iconst (v := (nI 1)) hx hb d_r_forked_27 (by decide) ?_
  refine WI.callV (wr := []) (rest := []) S (c_r_fails l D cI cJ cZ ad n ev r false 1 (by decide) (by decide)) k_2_118 k_2_120 k_s_20 k_1_2 k_2_121 h_r_fails ⟨Nat.le_of_ble_eq_true rfl, Nat.le_of_ble_eq_true rfl⟩ ⟨Nat.le_of_ble_eq_true rfl, Nat.le_of_ble_eq_true rfl⟩ hP hK hD hS hA [0, 1, 2, 3, 4, 5, 6, 7] [] rfl rfl (by decide) (by decide) (by decide) 0 1 rfl rfl rfl hl.1 (Nat.le_of_ble_eq_true rfl) rfl d_r_forked_28 (fun v9 u9 H locs hv9 hP hD hS => ?_)
  obtain rfl := hv9
  have hP : va_P D cls (rL cI cZ ad 0 n ev r) H := hP
  have hD : va_D A (rL cI cZ ad 0 n ev r) := hD
  refine nr_ifne_b (tgt := 73) hx hb d_r_forked_31 (by decide) (fun q9 => nomatch q9) (fun q9 => ?_)
  refine lv_aload_n hx hb d_r_forked_34 rfl (lv_at hl 0 rfl) ?_
  refine lv_aload_n hx hb d_r_forked_35 rfl (lv_at hl 0 rfl) ?_
  refine lv_iload_n hx hb d_r_forked_36 rfl (lv_at hl 1 rfl) ?_
  refine PM.callV (rest := [.ref (ad 0)]) S (c_r_isEvent l D cI cJ cZ ad 0 n ev r (by omega) (nI x)) k_2_126 k_2_128 k_s_21 k_1_2 k_2_129 h_r_isEvent ⟨Nat.le_of_ble_eq_true rfl, Nat.le_of_ble_eq_true rfl⟩ ⟨Nat.le_of_ble_eq_true rfl, Nat.le_of_ble_eq_true rfl⟩ hP hK 0 1 rfl rfl rfl hl.1 (Nat.le_of_ble_eq_true rfl) rfl d_r_forked_37 ?_
  refine nr_ifne_b (tgt := 47) hx hb d_r_forked_40 (by decide) (fun q9 => ?_) (fun q9 => absurd (show (iv ev (nI x)) = true from iv_t hx0 hev) (by rw [q9]; decide))
  refine lv_iconst (v := (nI 0)) hx hb d_r_forked_47 (by decide) ?_
  refine nr_top (w := .int (bI false)) rfl ?_
  refine lv_iconst (v := (nI 2)) hx hb d_r_forked_48 (by decide) ?_
  refine WI.callV (wr := []) (rest := []) S (c_r_fails l D cI cJ cZ ad n ev r false 2 (by decide) (by decide)) k_2_118 k_2_120 k_s_20 k_1_2 k_2_121 h_r_fails ⟨Nat.le_of_ble_eq_true rfl, Nat.le_of_ble_eq_true rfl⟩ ⟨Nat.le_of_ble_eq_true rfl, Nat.le_of_ble_eq_true rfl⟩ hP hK hD hS hA [0, 1, 2, 3, 4, 5, 6, 7] [] rfl rfl (by decide) (by decide) (by decide) 0 1 rfl rfl rfl hl.1 (Nat.le_of_ble_eq_true rfl) rfl d_r_forked_49 (fun v9 u9 H locs hv9 hP hD hS => ?_)
  obtain rfl := hv9
  have hP : va_P D cls (rL cI cZ ad 0 n ev r) H := hP
  have hD : va_D A (rL cI cZ ad 0 n ev r) := hD
  refine nr_ifne_b (tgt := 73) hx hb d_r_forked_52 (by decide) (fun q9 => nomatch q9) (fun q9 => ?_)
  refine lv_aload_n hx hb d_r_forked_55 rfl (lv_at hl 0 rfl) ?_
  refine va_get (D := D) (ci := 1) (v := .ref (ad 7)) (C := "SightGraphModel") (T := T_r) (N := 10) hx hb htc in_r hown hK hP 0 rfl rfl 9 (by decide) (htc _ k_2_82) (fun _ h9 => h9) rfl d_r_forked_56 ?_
  refine lv_bipush (v := (nI 8)) hx hb d_r_forked_59 (by decide) ?_
  refine lv_iload_n hx hb d_r_forked_61 rfl (lv_at hl 1 rfl) ?_
  refine nr_imul hx hb d_r_forked_62 ?_
  refine lv_iload_n hx hb d_r_forked_63 rfl (lv_at hl 2 rfl) ?_
  refine nr_iadd hx hb d_r_forked_64 ?_
  refine nr_zald hx hb hK hP 7 2 rfl rfl (by omega) (by decide) (v := (bI (fk x v))) (hf x (by omega) v (by omega)) d_r_forked_65 ?_
  refine nr_ifeq_b (tgt := 73) hx hb d_r_forked_66 (by decide) (fun c_66 => ?_) (fun c_66 => ?_)
  · refine lv_iconst (v := (nI 0)) hx hb d_r_forked_73 (by decide) ?_
    refine nr_top (w := .int (bI false)) rfl ?_
    exact WI.zret hx hb hr hlocks hK hS d_r_forked_74 () (by rw [c_66]) hP hD
  · refine lv_iconst (v := (nI 1)) hx hb d_r_forked_69 (by decide) ?_
    refine lv_goto (tgt := 74) hx hb d_r_forked_70 (by decide) ?_
    refine nr_top (w := .int (bI true)) rfl ?_
    exact WI.zret hx hb hr hlocks hK hS d_r_forked_74 () (by rw [c_66]) hP hD
set_option maxHeartbeats 4000000 in
set_option maxRecDepth 100000 in
theorem c_r_forked_x1 (l : Launch) (D : va_G) (cI cJ cZ : ClassId) (ad : Nat → Nat) (er : Int32) (n ev : Nat) (r : RA) (hev : ev ≤ 120) (hn : n ≤ 8) (x v : Int32) (hv1 : iv n v = false) : WI (S := Unit) l D (tys cI cJ cZ) (rL cI cZ ad er n ev r) (fun _ => rL cI cZ ad (nI 1) n ev r) (fun _ _ => True) y_r_forked b_r_forked 3 (some .boolean) 2 50 [.ref (ad 0), .int x, .int v] := by
  refine WI.of (by decide) (Nat.le_of_ble_eq_true rfl) ?_
  intro p9 e9 s9 m args below meth c9 ls A S hr hlocks hA hP hK hD hl
  obtain ⟨hx, hb, hml, hown, htc⟩ := id S
  have hS : va_S A s9.heap s9.heap [] := va_S.rf
  have hl : lv_has ls 3 [(0, .ref (ad 0)), (1, .int x), (2, .int v)] := hl
  refine lv_aload_n hx hb d_r_forked_0 rfl (lv_at hl 0 rfl) ?_
  refine lv_iconst (v := (nI 0)) hx hb d_r_forked_1 (by decide) ?_
  refine va_put (D := D) (ci := 1) (v := .int (nI 0)) (ty := .int) (C := "SightGraphModel") (T := T_r) (N := 10) hx hb htc in_r t_r ft_r fn_r hown hK hP hD hS 0 rfl rfl 0 (by decide) (htc _ k_2_73) (fun _ h9 => h9) rfl (by decide +kernel) rfl rfl (Nat.le_of_ble_eq_true rfl) d_r_forked_2 (fun H locs hP hD hS => ?_)
  have hP : va_P D cls (rL cI cZ ad (nI 0) n ev r) H := hP
  have hD : va_D A (rL cI cZ ad (nI 0) n ev r) := hD
  refine lv_aload_n hx hb d_r_forked_5 rfl (lv_at hl 0 rfl) ?_
  refine lv_iload_n hx hb d_r_forked_6 rfl (lv_at hl 2 rfl) ?_
  refine lv_i2l hx hb d_r_forked_7 rfl ?_
  refine lv_lconst (v := 0) hx hb d_r_forked_8 (by decide) ?_
  refine lv_aload_n hx hb d_r_forked_9 rfl (lv_at hl 0 rfl) ?_
  refine va_get (D := D) (ci := 1) (v := .int (nI n)) (C := "SightGraphModel") (T := T_r) (N := 10) hx hb htc in_r hown hK hP 0 rfl rfl 1 (by decide) (htc _ k_2_74) (fun _ h9 => h9) rfl d_r_forked_10 ?_
  refine lv_iconst (v := (nI 1)) hx hb d_r_forked_13 (by decide) ?_
  refine lv_isub hx hb d_r_forked_14 ?_
  refine lv_i2l hx hb d_r_forked_15 rfl ?_
  refine PM.callS (rest := [.ref (ad 0)]) S (c_r_in l D cI cJ cZ ad (nI 0) n ev r (v.toInt64) (0) ((nI n - nI 1).toInt64)) k_2_115 k_2_116 k_1_2 k_2_117 h_r_in ⟨Nat.le_of_ble_eq_true rfl, Nat.le_of_ble_eq_true rfl⟩ ⟨Nat.le_of_ble_eq_true rfl, Nat.le_of_ble_eq_true rfl⟩ hP hK hl.1 (Nat.le_of_ble_eq_true rfl) rfl d_r_forked_16 ?_
  refine nr_ifne_b (tgt := 26) hx hb d_r_forked_19 (by decide) (fun q9 => absurd (show (decide ((0 : Int64) ≤ v.toInt64 ∧ v.toInt64 ≤ (nI n - nI 1).toInt64)) = false from by rw [iv_l (by omega)]; exact hv1) (by rw [q9]; decide)) (fun q9 => ?_)
  refine lv_iconst (v := (nI 1)) hx hb d_r_forked_22 (by decide) ?_
  refine lv_goto (tgt := 27) hx hb d_r_forked_23 (by decide) ?_
  refine nr_top (w := .int (bI true)) rfl ?_
  refine lv_iconst (v := (nI 1)) hx hb d_r_forked_27 (by decide) ?_
  refine WI.callV (wr := []) (rest := []) S (c_r_fails l D cI cJ cZ ad n ev r true 1 (by decide) (by decide)) k_2_118 k_2_120 k_s_20 k_1_2 k_2_121 h_r_fails ⟨Nat.le_of_ble_eq_true rfl, Nat.le_of_ble_eq_true rfl⟩ ⟨Nat.le_of_ble_eq_true rfl, Nat.le_of_ble_eq_true rfl⟩ hP hK hD hS hA [0, 1, 2, 3, 4, 5, 6, 7] [] rfl rfl (by decide) (by decide) (by decide) 0 1 rfl rfl rfl hl.1 (Nat.le_of_ble_eq_true rfl) rfl d_r_forked_28 (fun v9 u9 H locs hv9 hP hD hS => ?_)
  obtain rfl := hv9
  have hP : va_P D cls (rL cI cZ ad (nI 1) n ev r) H := hP
  have hD : va_D A (rL cI cZ ad (nI 1) n ev r) := hD
  refine nr_ifne_b (tgt := 73) hx hb d_r_forked_31 (by decide) (fun q9 => ?_) (fun q9 => nomatch q9)
  refine lv_iconst (v := (nI 0)) hx hb d_r_forked_73 (by decide) ?_
  refine nr_top (w := .int (bI false)) rfl ?_
  exact WI.zret hx hb hr hlocks hK hS d_r_forked_74 () trivial hP hD
set_option maxHeartbeats 4000000 in
set_option maxRecDepth 100000 in
theorem c_r_forked_x2 (l : Launch) (D : va_G) (cI cJ cZ : ClassId) (ad : Nat → Nat) (er : Int32) (n ev : Nat) (r : RA) (hev : ev ≤ 120) (hn : n ≤ 8) (x : Int32) (v : Nat) (hv : v < n) (hx1 : iv ev x = false) : WI (S := Unit) l D (tys cI cJ cZ) (rL cI cZ ad er n ev r) (fun _ => rL cI cZ ad (nI 2) n ev r) (fun _ _ => True) y_r_forked b_r_forked 3 (some .boolean) 2 50 [.ref (ad 0), .int x, .int (nI v)] := by
  refine WI.of (by decide) (Nat.le_of_ble_eq_true rfl) ?_
  intro p9 e9 s9 m args below meth c9 ls A S hr hlocks hA hP hK hD hl
  obtain ⟨hx, hb, hml, hown, htc⟩ := id S
  have hS : va_S A s9.heap s9.heap [] := va_S.rf
  have hl : lv_has ls 3 [(0, .ref (ad 0)), (1, .int x), (2, .int (nI v))] := hl
  refine lv_aload_n hx hb d_r_forked_0 rfl (lv_at hl 0 rfl) ?_
  refine lv_iconst (v := (nI 0)) hx hb d_r_forked_1 (by decide) ?_
  refine va_put (D := D) (ci := 1) (v := .int (nI 0)) (ty := .int) (C := "SightGraphModel") (T := T_r) (N := 10) hx hb htc in_r t_r ft_r fn_r hown hK hP hD hS 0 rfl rfl 0 (by decide) (htc _ k_2_73) (fun _ h9 => h9) rfl (by decide +kernel) rfl rfl (Nat.le_of_ble_eq_true rfl) d_r_forked_2 (fun H locs hP hD hS => ?_)
  have hP : va_P D cls (rL cI cZ ad (nI 0) n ev r) H := hP
  have hD : va_D A (rL cI cZ ad (nI 0) n ev r) := hD
  refine lv_aload_n hx hb d_r_forked_5 rfl (lv_at hl 0 rfl) ?_
  refine lv_iload_n hx hb d_r_forked_6 rfl (lv_at hl 2 rfl) ?_
  refine lv_i2l hx hb d_r_forked_7 rfl ?_
  refine lv_lconst (v := 0) hx hb d_r_forked_8 (by decide) ?_
  refine lv_aload_n hx hb d_r_forked_9 rfl (lv_at hl 0 rfl) ?_
  refine va_get (D := D) (ci := 1) (v := .int (nI n)) (C := "SightGraphModel") (T := T_r) (N := 10) hx hb htc in_r hown hK hP 0 rfl rfl 1 (by decide) (htc _ k_2_74) (fun _ h9 => h9) rfl d_r_forked_10 ?_
  refine lv_iconst (v := (nI 1)) hx hb d_r_forked_13 (by decide) ?_
  refine lv_isub hx hb d_r_forked_14 ?_
  refine lv_i2l hx hb d_r_forked_15 rfl ?_
  refine PM.callS (rest := [.ref (ad 0)]) S (c_r_in l D cI cJ cZ ad (nI 0) n ev r ((nI v).toInt64) (0) ((nI n - nI 1).toInt64)) k_2_115 k_2_116 k_1_2 k_2_117 h_r_in ⟨Nat.le_of_ble_eq_true rfl, Nat.le_of_ble_eq_true rfl⟩ ⟨Nat.le_of_ble_eq_true rfl, Nat.le_of_ble_eq_true rfl⟩ hP hK hl.1 (Nat.le_of_ble_eq_true rfl) rfl d_r_forked_16 ?_
  refine nr_ifne_b (tgt := 26) hx hb d_r_forked_19 (by decide) (fun q9 => ?_) (fun q9 => absurd (show (decide ((0 : Int64) ≤ (nI v).toInt64 ∧ (nI v).toInt64 ≤ (nI n - nI 1).toInt64)) = true from by rw [iv_l (by omega)]; exact iv_t hv (by omega)) (by rw [q9]; decide))
  refine lv_iconst (v := (nI 0)) hx hb d_r_forked_26 (by decide) ?_
  refine nr_top (w := .int (bI false)) rfl ?_
  refine lv_iconst (v := (nI 1)) hx hb d_r_forked_27 (by decide) ?_
  refine WI.callV (wr := []) (rest := []) S (c_r_fails l D cI cJ cZ ad n ev r false 1 (by decide) (by decide)) k_2_118 k_2_120 k_s_20 k_1_2 k_2_121 h_r_fails ⟨Nat.le_of_ble_eq_true rfl, Nat.le_of_ble_eq_true rfl⟩ ⟨Nat.le_of_ble_eq_true rfl, Nat.le_of_ble_eq_true rfl⟩ hP hK hD hS hA [0, 1, 2, 3, 4, 5, 6, 7] [] rfl rfl (by decide) (by decide) (by decide) 0 1 rfl rfl rfl hl.1 (Nat.le_of_ble_eq_true rfl) rfl d_r_forked_28 (fun v9 u9 H locs hv9 hP hD hS => ?_)
  obtain rfl := hv9
  have hP : va_P D cls (rL cI cZ ad 0 n ev r) H := hP
  have hD : va_D A (rL cI cZ ad 0 n ev r) := hD
  refine nr_ifne_b (tgt := 73) hx hb d_r_forked_31 (by decide) (fun q9 => nomatch q9) (fun q9 => ?_)
  refine lv_aload_n hx hb d_r_forked_34 rfl (lv_at hl 0 rfl) ?_
  refine lv_aload_n hx hb d_r_forked_35 rfl (lv_at hl 0 rfl) ?_
  refine lv_iload_n hx hb d_r_forked_36 rfl (lv_at hl 1 rfl) ?_
  refine PM.callV (rest := [.ref (ad 0)]) S (c_r_isEvent l D cI cJ cZ ad 0 n ev r (by omega) (x)) k_2_126 k_2_128 k_s_21 k_1_2 k_2_129 h_r_isEvent ⟨Nat.le_of_ble_eq_true rfl, Nat.le_of_ble_eq_true rfl⟩ ⟨Nat.le_of_ble_eq_true rfl, Nat.le_of_ble_eq_true rfl⟩ hP hK 0 1 rfl rfl rfl hl.1 (Nat.le_of_ble_eq_true rfl) rfl d_r_forked_37 ?_
  refine nr_ifne_b (tgt := 47) hx hb d_r_forked_40 (by decide) (fun q9 => absurd (show (iv ev (x)) = false from hx1) (by rw [q9]; decide)) (fun q9 => ?_)
  refine lv_iconst (v := (nI 1)) hx hb d_r_forked_43 (by decide) ?_
  refine lv_goto (tgt := 48) hx hb d_r_forked_44 (by decide) ?_
  refine nr_top (w := .int (bI true)) rfl ?_
  refine lv_iconst (v := (nI 2)) hx hb d_r_forked_48 (by decide) ?_
  refine WI.callV (wr := []) (rest := []) S (c_r_fails l D cI cJ cZ ad n ev r true 2 (by decide) (by decide)) k_2_118 k_2_120 k_s_20 k_1_2 k_2_121 h_r_fails ⟨Nat.le_of_ble_eq_true rfl, Nat.le_of_ble_eq_true rfl⟩ ⟨Nat.le_of_ble_eq_true rfl, Nat.le_of_ble_eq_true rfl⟩ hP hK hD hS hA [0, 1, 2, 3, 4, 5, 6, 7] [] rfl rfl (by decide) (by decide) (by decide) 0 1 rfl rfl rfl hl.1 (Nat.le_of_ble_eq_true rfl) rfl d_r_forked_49 (fun v9 u9 H locs hv9 hP hD hS => ?_)
  obtain rfl := hv9
  have hP : va_P D cls (rL cI cZ ad (nI 2) n ev r) H := hP
  have hD : va_D A (rL cI cZ ad (nI 2) n ev r) := hD
  refine nr_ifne_b (tgt := 73) hx hb d_r_forked_52 (by decide) (fun q9 => ?_) (fun q9 => nomatch q9)
  refine lv_iconst (v := (nI 0)) hx hb d_r_forked_73 (by decide) ?_
  refine nr_top (w := .int (bI false)) rfl ?_
  exact WI.zret hx hb hr hlocks hK hS d_r_forked_74 () trivial hP hD
set_option maxHeartbeats 4000000 in
set_option maxRecDepth 100000 in
theorem c_r_count_0 (l : Launch) (D : va_G) (cI cJ cZ : ClassId) (ad : Nat → Nat) (er : Int32) (n ev : Nat) (r : RA)  : WI (S := Unit) l D (tys cI cJ cZ) (rL cI cZ ad er n ev r) (fun _ => rL cI cZ ad 0 n ev r) (fun q _ => q = nI ev) y_r_count b_r_count 7 (some .int) 1 25 [.ref (ad 0), .int (nI 0)] := by
  refine WI.of (by decide) (Nat.le_of_ble_eq_true rfl) ?_
  intro p9 e9 s9 m args below meth c9 ls A S hr hlocks hA hP hK hD hl
  obtain ⟨hx, hb, hml, hown, htc⟩ := id S
  have hS : va_S A s9.heap s9.heap [] := va_S.rf
  have hl : lv_has ls 7 [(0, .ref (ad 0)), (1, .int (nI 0))] := hl
  refine lv_aload_n hx hb d_r_count_0 rfl (lv_at hl 0 rfl) ?_
  refine lv_iconst (v := (nI 0)) hx hb d_r_count_1 (by decide) ?_
  refine va_put (D := D) (ci := 1) (v := .int (nI 0)) (ty := .int) (C := "SightGraphModel") (T := T_r) (N := 10) hx hb htc in_r t_r ft_r fn_r hown hK hP hD hS 0 rfl rfl 0 (by decide) (htc _ k_2_73) (fun _ h9 => h9) rfl (by decide +kernel) rfl rfl (Nat.le_of_ble_eq_true rfl) d_r_count_2 (fun H locs hP hD hS => ?_)
  have hP : va_P D cls (rL cI cZ ad (nI 0) n ev r) H := hP
  have hD : va_D A (rL cI cZ ad (nI 0) n ev r) := hD
  refine lv_aload_n hx hb d_r_count_5 rfl (lv_at hl 0 rfl) ?_
  refine lv_iload_n hx hb d_r_count_6 rfl (lv_at hl 1 rfl) ?_
  refine lv_i2l hx hb d_r_count_7 rfl ?_
  refine lv_lconst (v := 0) hx hb d_r_count_8 (by decide) ?_
  refine lv_ldc2 hx hb hown (htc _ k_2_199) d_r_count_9 ?_
  refine PM.callS (rest := [.ref (ad 0)]) S (c_r_in l D cI cJ cZ ad (nI 0) n ev r ((nI 0).toInt64) (0) (3)) k_2_115 k_2_116 k_1_2 k_2_117 h_r_in ⟨Nat.le_of_ble_eq_true rfl, Nat.le_of_ble_eq_true rfl⟩ ⟨Nat.le_of_ble_eq_true rfl, Nat.le_of_ble_eq_true rfl⟩ hP hK hl.1 (Nat.le_of_ble_eq_true rfl) rfl d_r_count_12 ?_
  refine nr_ifne_b (tgt := 22) hx hb d_r_count_15 (by decide) (fun q9 => ?_) (fun q9 => absurd (show (decide ((0 : Int64) ≤ (nI 0).toInt64 ∧ (nI 0).toInt64 ≤ 3)) = true from by rw [in03]; decide) (by rw [q9]; decide))
  refine lv_iconst (v := (nI 0)) hx hb d_r_count_22 (by decide) ?_
  refine nr_top (w := .int (bI false)) rfl ?_
  refine lv_iconst (v := (nI 1)) hx hb d_r_count_23 (by decide) ?_
  refine WI.callV (wr := []) (rest := []) S (c_r_fails l D cI cJ cZ ad n ev r false 1 (by decide) (by decide)) k_2_118 k_2_120 k_s_20 k_1_2 k_2_121 h_r_fails ⟨Nat.le_of_ble_eq_true rfl, Nat.le_of_ble_eq_true rfl⟩ ⟨Nat.le_of_ble_eq_true rfl, Nat.le_of_ble_eq_true rfl⟩ hP hK hD hS hA [0, 1, 2, 3, 4, 5, 6, 7] [] rfl rfl (by decide) (by decide) (by decide) 0 1 rfl rfl rfl hl.1 (Nat.le_of_ble_eq_true rfl) rfl d_r_count_24 (fun v9 u9 H locs hv9 hP hD hS => ?_)
  obtain rfl := hv9
  have hP : va_P D cls (rL cI cZ ad 0 n ev r) H := hP
  have hD : va_D A (rL cI cZ ad 0 n ev r) := hD
  refine nr_ifeq_b (tgt := 32) hx hb d_r_count_27 (by decide) (fun q9 => ?_) (fun q9 => nomatch q9)
  refine lv_iload_n hx hb d_r_count_32 rfl (lv_at hl 1 rfl) ?_
  refine lv_iconst (v := (nI 2)) hx hb d_r_count_33 (by decide) ?_
  refine nr_icmp_ge (tgt := 53) hx hb (by decide) (by decide) d_r_count_34 (by decide) (fun q9 => absurd q9 (by decide)) (fun q9 => ?_)
  refine lv_iload_n hx hb d_r_count_37 rfl (lv_at hl 1 rfl) ?_
  refine lv_if_ne (tgt := 48) hx hb d_r_count_38 (by decide) (fun q9 => absurd rfl q9) (fun _ => ?_)
  refine lv_aload_n hx hb d_r_count_41 rfl (lv_at hl 0 rfl) ?_
  refine va_get (D := D) (ci := 1) (v := .int (nI ev)) (C := "SightGraphModel") (T := T_r) (N := 10) hx hb htc in_r hown hK hP 0 rfl rfl 2 (by decide) (htc _ k_2_75) (fun _ h9 => h9) rfl d_r_count_42 ?_
  refine lv_goto (tgt := 52) hx hb d_r_count_45 (by decide) ?_
  exact WI.iret hx hb hr hlocks hK hS d_r_count_52 () rfl hP hD
set_option maxHeartbeats 4000000 in
set_option maxRecDepth 100000 in
theorem c_r_count_1 (l : Launch) (D : va_G) (cI cJ cZ : ClassId) (ad : Nat → Nat) (er : Int32) (n ev : Nat) (r : RA)  : WI (S := Unit) l D (tys cI cJ cZ) (rL cI cZ ad er n ev r) (fun _ => rL cI cZ ad 0 n ev r) (fun q _ => q = nI n) y_r_count b_r_count 7 (some .int) 1 25 [.ref (ad 0), .int (nI 1)] := by
  refine WI.of (by decide) (Nat.le_of_ble_eq_true rfl) ?_
  intro p9 e9 s9 m args below meth c9 ls A S hr hlocks hA hP hK hD hl
  obtain ⟨hx, hb, hml, hown, htc⟩ := id S
  have hS : va_S A s9.heap s9.heap [] := va_S.rf
  have hl : lv_has ls 7 [(0, .ref (ad 0)), (1, .int (nI 1))] := hl
  refine lv_aload_n hx hb d_r_count_0 rfl (lv_at hl 0 rfl) ?_
  refine lv_iconst (v := (nI 0)) hx hb d_r_count_1 (by decide) ?_
  refine va_put (D := D) (ci := 1) (v := .int (nI 0)) (ty := .int) (C := "SightGraphModel") (T := T_r) (N := 10) hx hb htc in_r t_r ft_r fn_r hown hK hP hD hS 0 rfl rfl 0 (by decide) (htc _ k_2_73) (fun _ h9 => h9) rfl (by decide +kernel) rfl rfl (Nat.le_of_ble_eq_true rfl) d_r_count_2 (fun H locs hP hD hS => ?_)
  have hP : va_P D cls (rL cI cZ ad (nI 0) n ev r) H := hP
  have hD : va_D A (rL cI cZ ad (nI 0) n ev r) := hD
  refine lv_aload_n hx hb d_r_count_5 rfl (lv_at hl 0 rfl) ?_
  refine lv_iload_n hx hb d_r_count_6 rfl (lv_at hl 1 rfl) ?_
  refine lv_i2l hx hb d_r_count_7 rfl ?_
  refine lv_lconst (v := 0) hx hb d_r_count_8 (by decide) ?_
  refine lv_ldc2 hx hb hown (htc _ k_2_199) d_r_count_9 ?_
  refine PM.callS (rest := [.ref (ad 0)]) S (c_r_in l D cI cJ cZ ad (nI 0) n ev r ((nI 1).toInt64) (0) (3)) k_2_115 k_2_116 k_1_2 k_2_117 h_r_in ⟨Nat.le_of_ble_eq_true rfl, Nat.le_of_ble_eq_true rfl⟩ ⟨Nat.le_of_ble_eq_true rfl, Nat.le_of_ble_eq_true rfl⟩ hP hK hl.1 (Nat.le_of_ble_eq_true rfl) rfl d_r_count_12 ?_
  refine nr_ifne_b (tgt := 22) hx hb d_r_count_15 (by decide) (fun q9 => ?_) (fun q9 => absurd (show (decide ((0 : Int64) ≤ (nI 1).toInt64 ∧ (nI 1).toInt64 ≤ 3)) = true from by rw [in03]; decide) (by rw [q9]; decide))
  refine lv_iconst (v := (nI 0)) hx hb d_r_count_22 (by decide) ?_
  refine nr_top (w := .int (bI false)) rfl ?_
  refine lv_iconst (v := (nI 1)) hx hb d_r_count_23 (by decide) ?_
  refine WI.callV (wr := []) (rest := []) S (c_r_fails l D cI cJ cZ ad n ev r false 1 (by decide) (by decide)) k_2_118 k_2_120 k_s_20 k_1_2 k_2_121 h_r_fails ⟨Nat.le_of_ble_eq_true rfl, Nat.le_of_ble_eq_true rfl⟩ ⟨Nat.le_of_ble_eq_true rfl, Nat.le_of_ble_eq_true rfl⟩ hP hK hD hS hA [0, 1, 2, 3, 4, 5, 6, 7] [] rfl rfl (by decide) (by decide) (by decide) 0 1 rfl rfl rfl hl.1 (Nat.le_of_ble_eq_true rfl) rfl d_r_count_24 (fun v9 u9 H locs hv9 hP hD hS => ?_)
  obtain rfl := hv9
  have hP : va_P D cls (rL cI cZ ad 0 n ev r) H := hP
  have hD : va_D A (rL cI cZ ad 0 n ev r) := hD
  refine nr_ifeq_b (tgt := 32) hx hb d_r_count_27 (by decide) (fun q9 => ?_) (fun q9 => nomatch q9)
  refine lv_iload_n hx hb d_r_count_32 rfl (lv_at hl 1 rfl) ?_
  refine lv_iconst (v := (nI 2)) hx hb d_r_count_33 (by decide) ?_
  refine nr_icmp_ge (tgt := 53) hx hb (by decide) (by decide) d_r_count_34 (by decide) (fun q9 => absurd q9 (by decide)) (fun q9 => ?_)
  refine lv_iload_n hx hb d_r_count_37 rfl (lv_at hl 1 rfl) ?_
  refine lv_if_ne (tgt := 48) hx hb d_r_count_38 (by decide) (fun _ => ?_) (fun q9 => absurd q9 (by decide))
  refine lv_aload_n hx hb d_r_count_48 rfl (lv_at hl 0 rfl) ?_
  refine va_get (D := D) (ci := 1) (v := .int (nI n)) (C := "SightGraphModel") (T := T_r) (N := 10) hx hb htc in_r hown hK hP 0 rfl rfl 1 (by decide) (htc _ k_2_74) (fun _ h9 => h9) rfl d_r_count_49 ?_
  exact WI.iret hx hb hr hlocks hK hS d_r_count_52 () rfl hP hD
set_option maxHeartbeats 4000000 in
set_option maxRecDepth 100000 in
theorem c_r_count_3 (l : Launch) (D : va_G) (cI cJ cZ : ClassId) (ad : Nat → Nat) (er : Int32) (n ev : Nat) (r : RA) (rd : Nat → Nat) (KR : Nat) (hKR : KR ≤ 120) (hR : ∀ j, j < KR → r.2.2.2.1 j = nI (rd j) ∧ rd j ≤ j + 1) (hevR : ev ≤ KR) : WI (S := Unit) l D (tys cI cJ cZ) (rL cI cZ ad er n ev r) (fun _ => rL cI cZ ad 0 n ev r) (fun q _ => q = nI (gr rd ev)) y_r_count b_r_count 7 (some .int) 1 25 [.ref (ad 0), .int (nI 3)] := by
  refine WI.of (by decide) (Nat.le_of_ble_eq_true rfl) ?_
  intro p9 e9 s9 m args below meth c9 ls A S hr hlocks hA hP hK hD hl
  obtain ⟨hx, hb, hml, hown, htc⟩ := id S
  have hS : va_S A s9.heap s9.heap [] := va_S.rf
  have hl : lv_has ls 7 [(0, .ref (ad 0)), (1, .int (nI 3))] := hl
  refine lv_aload_n hx hb d_r_count_0 rfl (lv_at hl 0 rfl) ?_
  refine lv_iconst (v := (nI 0)) hx hb d_r_count_1 (by decide) ?_
  refine va_put (D := D) (ci := 1) (v := .int (nI 0)) (ty := .int) (C := "SightGraphModel") (T := T_r) (N := 10) hx hb htc in_r t_r ft_r fn_r hown hK hP hD hS 0 rfl rfl 0 (by decide) (htc _ k_2_73) (fun _ h9 => h9) rfl (by decide +kernel) rfl rfl (Nat.le_of_ble_eq_true rfl) d_r_count_2 (fun H locs hP hD hS => ?_)
  have hP : va_P D cls (rL cI cZ ad (nI 0) n ev r) H := hP
  have hD : va_D A (rL cI cZ ad (nI 0) n ev r) := hD
  refine lv_aload_n hx hb d_r_count_5 rfl (lv_at hl 0 rfl) ?_
  refine lv_iload_n hx hb d_r_count_6 rfl (lv_at hl 1 rfl) ?_
  refine lv_i2l hx hb d_r_count_7 rfl ?_
  refine lv_lconst (v := 0) hx hb d_r_count_8 (by decide) ?_
  refine lv_ldc2 hx hb hown (htc _ k_2_199) d_r_count_9 ?_
  refine PM.callS (rest := [.ref (ad 0)]) S (c_r_in l D cI cJ cZ ad (nI 0) n ev r ((nI 3).toInt64) (0) (3)) k_2_115 k_2_116 k_1_2 k_2_117 h_r_in ⟨Nat.le_of_ble_eq_true rfl, Nat.le_of_ble_eq_true rfl⟩ ⟨Nat.le_of_ble_eq_true rfl, Nat.le_of_ble_eq_true rfl⟩ hP hK hl.1 (Nat.le_of_ble_eq_true rfl) rfl d_r_count_12 ?_
  refine nr_ifne_b (tgt := 22) hx hb d_r_count_15 (by decide) (fun q9 => ?_) (fun q9 => absurd (show (decide ((0 : Int64) ≤ (nI 3).toInt64 ∧ (nI 3).toInt64 ≤ 3)) = true from by rw [in03]; decide) (by rw [q9]; decide))
  refine lv_iconst (v := (nI 0)) hx hb d_r_count_22 (by decide) ?_
  refine nr_top (w := .int (bI false)) rfl ?_
  refine lv_iconst (v := (nI 1)) hx hb d_r_count_23 (by decide) ?_
  refine WI.callV (wr := []) (rest := []) S (c_r_fails l D cI cJ cZ ad n ev r false 1 (by decide) (by decide)) k_2_118 k_2_120 k_s_20 k_1_2 k_2_121 h_r_fails ⟨Nat.le_of_ble_eq_true rfl, Nat.le_of_ble_eq_true rfl⟩ ⟨Nat.le_of_ble_eq_true rfl, Nat.le_of_ble_eq_true rfl⟩ hP hK hD hS hA [0, 1, 2, 3, 4, 5, 6, 7] [] rfl rfl (by decide) (by decide) (by decide) 0 1 rfl rfl rfl hl.1 (Nat.le_of_ble_eq_true rfl) rfl d_r_count_24 (fun v9 u9 H locs hv9 hP hD hS => ?_)
  obtain rfl := hv9
  have hP : va_P D cls (rL cI cZ ad 0 n ev r) H := hP
  have hD : va_D A (rL cI cZ ad 0 n ev r) := hD
  refine nr_ifeq_b (tgt := 32) hx hb d_r_count_27 (by decide) (fun q9 => ?_) (fun q9 => nomatch q9)
  refine lv_iload_n hx hb d_r_count_32 rfl (lv_at hl 1 rfl) ?_
  refine lv_iconst (v := (nI 2)) hx hb d_r_count_33 (by decide) ?_
  refine nr_icmp_ge (tgt := 53) hx hb (by decide) (by decide) d_r_count_34 (by decide) (fun q9 => ?_) (fun q9 => absurd q9 (by decide))
  refine lv_iconst (v := (nI 0)) hx hb d_r_count_53 (by decide) ?_
  refine lv_istore_n (lv' := [(2, .int (nI 0)), (0, .ref (ad 0)), (1, .int (nI 3))]) hx hb d_r_count_54 rfl hl (by decide) rfl (fun ls hl => ?_)
  refine lv_iload_n hx hb d_r_count_55 rfl (lv_at hl 2 rfl) ?_
  refine lv_iconst (v := (nI 3)) hx hb d_r_count_56 (by decide) ?_
  refine nr_icmp_ne (tgt := 89) hx hb (by decide) (by decide) d_r_count_57 (by decide) (fun q9 => absurd q9 (by decide)) (fun q9 => ?_)
  refine lv_iconst (v := (nI 0)) hx hb d_r_count_60 (by decide) ?_
  refine lv_istore_n (lv' := [(3, .int (nI 0)), (2, .int (nI 0)), (0, .ref (ad 0)), (1, .int (nI 3))]) hx hb d_r_count_61 rfl hl (by decide) rfl (fun ls hl => ?_)
  have loop1 : ∀ (d1 : Nat) (k : Nat) (ls : Array Slot), ev - k < d1 → k ≤ ev → lv_has ls 7 [(3, .int (nI k)), (2, .int (nI (gr rd k))), (1, .int (nI 3)), (0, .ref (ad 0))] → W p9 l e9 ({ frames := 1, cells := 0, slots := 0, locals := 25 }) s9 m args below meth c9 H locs 0 0 (MQ below (va_Qi (S := Unit) (fun q _ => q = nI (gr rd ev)) (wB D (tys cI cJ cZ) (fun _ => rL cI cZ ad 0 n ev r) A) A) args s9 0 0 A) (F0 m 62 ls []) := by
    intro d1
    induction d1 with
    | zero =>
      intro k ls hd1 hk hl
      exact absurd hd1 (by omega)
    | succ d1 ih1 =>
      intro k ls hd1 hk hl
      refine lv_iload_n hx hb d_r_count_62 rfl (lv_at hl 0 rfl) ?_
      refine lv_aload_n hx hb d_r_count_63 rfl (lv_at hl 3 rfl) ?_
      refine va_get (D := D) (ci := 1) (v := .int (nI ev)) (C := "SightGraphModel") (T := T_r) (N := 10) hx hb htc in_r hown hK hP 0 rfl rfl 2 (by decide) (htc _ k_2_75) (fun _ h9 => h9) rfl d_r_count_64 ?_
      refine nr_icmp_ge (tgt := 87) hx hb (by omega) (by omega) d_r_count_67 (by decide) (fun c_67 => ?_) (fun c_67 => ?_)
      · refine lv_iload_n hx hb d_r_count_87 rfl (lv_at hl 1 rfl) ?_
        exact WI.iret hx hb hr hlocks hK hS d_r_count_88 () (by rw [show k = ev by omega]) hP hD
      · have hb9 := (hR k (by omega)).2
        have hb8 : gr rd k ≤ 121 := gr_le (fun j hj => by have := (hR j (by omega)).2; omega)
        refine lv_iload_n hx hb d_r_count_70 rfl (lv_at hl 1 rfl) ?_
        refine lv_aload_n hx hb d_r_count_71 rfl (lv_at hl 3 rfl) ?_
        refine va_get (D := D) (ci := 1) (v := .ref (ad 4)) (C := "SightGraphModel") (T := T_r) (N := 10) hx hb htc in_r hown hK hP 0 rfl rfl 6 (by decide) (htc _ k_2_79) (fun _ h9 => h9) rfl d_r_count_72 ?_
        refine lv_iload_n hx hb d_r_count_75 rfl (lv_at hl 0 rfl) ?_
        refine nr_iald hx hb hK hP 4 0 rfl rfl (by omega) (by decide) (v := (nI (rd k))) (hR k (by omega)).1 d_r_count_76 ?_
        refine va_mmax hx hb (hml.trans hl.1.symm) hown (htc _ k_2_146) (htc _ k_1_191) (htc _ k_1_8) (htc _ k_1_192) (Nat.le_of_ble_eq_true rfl) (Nat.le_of_ble_eq_true rfl) (Nat.le_of_ble_eq_true rfl) (Nat.le_of_ble_eq_true rfl) d_r_count_77 ?_
        refine nr_top (w := .int (nI (max (gr rd k) (rd k)))) (congrArg Value.int (mx_I (by omega) (by omega))) ?_
        refine lv_istore_n (lv' := [(2, .int (nI (max (gr rd k) (rd k)))), (3, .int (nI k)), (1, .int (nI 3)), (0, .ref (ad 0))]) hx hb d_r_count_80 rfl hl (by decide) rfl (fun ls hl => ?_)
        refine lv_iinc (v := (nI (k + 1))) (lv' := [(3, .int (nI (k + 1))), (2, .int (nI (max (gr rd k) (rd k)))), (1, .int (nI 3)), (0, .ref (ad 0))]) hx hb d_r_count_81 hl (k := 1) rfl (nI_add k 1) (by decide) rfl (fun ls hl => ?_)
        refine lv_goto (tgt := 62) hx hb d_r_count_84 (by decide) ?_
        exact ih1 (k + 1) ls (by omega) (by omega) (lv_sub hl [0, 1, 2, 3] rfl)
  exact loop1 (ev + 1) 0 ls (by omega) (by omega) (lv_sub hl [0, 1, 3, 2] rfl)
set_option maxHeartbeats 4000000 in
set_option maxRecDepth 100000 in
theorem c_r_count_2 (l : Launch) (D : va_G) (cI cJ cZ : ClassId) (ad : Nat → Nat) (er : Int32) (n ev : Nat) (r : RA) (K : Nat) (hKb : K ≤ 120) (c : Nat → Nat) (hc : ∀ j, j < K → r.1 j = nI (c j)) (s : Nat → Nat) (hs : ∀ j, j < K → r.2.1 j = mI (s j)) (ow : Nat → Nat → Bool) (hLw : ∀ x, x < K → s x ≤ x ∧ ∀ y, ow x y = (x == y || pa ow (s x) y)) (hc8 : ∀ j, j < K → c j < 8) (hevK : ev ≤ K) (hn : n ≤ 8) : WI (S := Unit) l D (tys cI cJ cZ) (rL cI cZ ad er n ev r) (fun _ => rL cI cZ ad 0 n ev r) (fun q _ => q = nI (cn n (fm ow c ev))) y_r_count b_r_count 7 (some .int) 2 50 [.ref (ad 0), .int (nI 2)] := by
  refine WI.of (by decide) (Nat.le_of_ble_eq_true rfl) ?_
  intro p9 e9 s9 m args below meth c9 ls A S hr hlocks hA hP hK hD hl
  obtain ⟨hx, hb, hml, hown, htc⟩ := id S
  have hS : va_S A s9.heap s9.heap [] := va_S.rf
  have hl : lv_has ls 7 [(0, .ref (ad 0)), (1, .int (nI 2))] := hl
  refine lv_aload_n hx hb d_r_count_0 rfl (lv_at hl 0 rfl) ?_
  refine lv_iconst (v := (nI 0)) hx hb d_r_count_1 (by decide) ?_
  refine va_put (D := D) (ci := 1) (v := .int (nI 0)) (ty := .int) (C := "SightGraphModel") (T := T_r) (N := 10) hx hb htc in_r t_r ft_r fn_r hown hK hP hD hS 0 rfl rfl 0 (by decide) (htc _ k_2_73) (fun _ h9 => h9) rfl (by decide +kernel) rfl rfl (Nat.le_of_ble_eq_true rfl) d_r_count_2 (fun H locs hP hD hS => ?_)
  have hP : va_P D cls (rL cI cZ ad (nI 0) n ev r) H := hP
  have hD : va_D A (rL cI cZ ad (nI 0) n ev r) := hD
  refine lv_aload_n hx hb d_r_count_5 rfl (lv_at hl 0 rfl) ?_
  refine lv_iload_n hx hb d_r_count_6 rfl (lv_at hl 1 rfl) ?_
  refine lv_i2l hx hb d_r_count_7 rfl ?_
  refine lv_lconst (v := 0) hx hb d_r_count_8 (by decide) ?_
  refine lv_ldc2 hx hb hown (htc _ k_2_199) d_r_count_9 ?_
  refine PM.callS (rest := [.ref (ad 0)]) S (c_r_in l D cI cJ cZ ad (nI 0) n ev r ((nI 2).toInt64) (0) (3)) k_2_115 k_2_116 k_1_2 k_2_117 h_r_in ⟨Nat.le_of_ble_eq_true rfl, Nat.le_of_ble_eq_true rfl⟩ ⟨Nat.le_of_ble_eq_true rfl, Nat.le_of_ble_eq_true rfl⟩ hP hK hl.1 (Nat.le_of_ble_eq_true rfl) rfl d_r_count_12 ?_
  refine nr_ifne_b (tgt := 22) hx hb d_r_count_15 (by decide) (fun q9 => ?_) (fun q9 => absurd (show (decide ((0 : Int64) ≤ (nI 2).toInt64 ∧ (nI 2).toInt64 ≤ 3)) = true from by rw [in03]; decide) (by rw [q9]; decide))
  refine lv_iconst (v := (nI 0)) hx hb d_r_count_22 (by decide) ?_
  refine nr_top (w := .int (bI false)) rfl ?_
  refine lv_iconst (v := (nI 1)) hx hb d_r_count_23 (by decide) ?_
  refine WI.callV (wr := []) (rest := []) S (c_r_fails l D cI cJ cZ ad n ev r false 1 (by decide) (by decide)) k_2_118 k_2_120 k_s_20 k_1_2 k_2_121 h_r_fails ⟨Nat.le_of_ble_eq_true rfl, Nat.le_of_ble_eq_true rfl⟩ ⟨Nat.le_of_ble_eq_true rfl, Nat.le_of_ble_eq_true rfl⟩ hP hK hD hS hA [0, 1, 2, 3, 4, 5, 6, 7] [] rfl rfl (by decide) (by decide) (by decide) 0 1 rfl rfl rfl hl.1 (Nat.le_of_ble_eq_true rfl) rfl d_r_count_24 (fun v9 u9 H locs hv9 hP hD hS => ?_)
  obtain rfl := hv9
  have hP : va_P D cls (rL cI cZ ad 0 n ev r) H := hP
  have hD : va_D A (rL cI cZ ad 0 n ev r) := hD
  refine nr_ifeq_b (tgt := 32) hx hb d_r_count_27 (by decide) (fun q9 => ?_) (fun q9 => nomatch q9)
  refine lv_iload_n hx hb d_r_count_32 rfl (lv_at hl 1 rfl) ?_
  refine lv_iconst (v := (nI 2)) hx hb d_r_count_33 (by decide) ?_
  refine nr_icmp_ge (tgt := 53) hx hb (by decide) (by decide) d_r_count_34 (by decide) (fun q9 => ?_) (fun q9 => absurd q9 (by decide))
  refine lv_iconst (v := (nI 0)) hx hb d_r_count_53 (by decide) ?_
  refine lv_istore_n (lv' := [(2, .int (nI 0)), (0, .ref (ad 0)), (1, .int (nI 2))]) hx hb d_r_count_54 rfl hl (by decide) rfl (fun ls hl => ?_)
  refine lv_iload_n hx hb d_r_count_55 rfl (lv_at hl 2 rfl) ?_
  refine lv_iconst (v := (nI 3)) hx hb d_r_count_56 (by decide) ?_
  refine nr_icmp_ne (tgt := 89) hx hb (by decide) (by decide) d_r_count_57 (by decide) (fun q9 => ?_) (fun q9 => absurd q9 (by decide))
  refine lv_iconst (v := (nI 0)) hx hb d_r_count_89 (by decide) ?_
  refine lv_istore_n (lv' := [(3, .int (nI 0)), (2, .int (nI 0)), (0, .ref (ad 0)), (1, .int (nI 2))]) hx hb d_r_count_90 rfl hl (by decide) rfl (fun ls hl => ?_)
  have loop1 : ∀ (d1 : Nat) (m9 : Nat) (ls : Array Slot), n - m9 < d1 → m9 ≤ n → lv_has ls 7 [(3, .int (nI m9)), (2, .int (nI (cn m9 (fm ow c ev)))), (1, .int (nI 2)), (0, .ref (ad 0))] → W p9 l e9 ({ frames := 2, cells := 0, slots := 0, locals := 50 }) s9 m args below meth c9 H locs 0 0 (MQ below (va_Qi (S := Unit) (fun q _ => q = nI (cn n (fm ow c ev))) (wB D (tys cI cJ cZ) (fun _ => rL cI cZ ad 0 n ev r) A) A) args s9 0 0 A) (F0 m 91 ls []) := by
    intro d1
    induction d1 with
    | zero =>
      intro m9 ls hd1 hm9 hl
      exact absurd hd1 (by omega)
    | succ d1 ih1 =>
      intro m9 ls hd1 hm9 hl
      have hcb := cn_le m9 (fm ow c ev)
      refine lv_iload_n hx hb d_r_count_91 rfl (lv_at hl 0 rfl) ?_
      refine lv_aload_n hx hb d_r_count_92 rfl (lv_at hl 3 rfl) ?_
      refine va_get (D := D) (ci := 1) (v := .int (nI n)) (C := "SightGraphModel") (T := T_r) (N := 10) hx hb htc in_r hown hK hP 0 rfl rfl 1 (by decide) (htc _ k_2_74) (fun _ h9 => h9) rfl d_r_count_93 ?_
      refine nr_icmp_ge (tgt := 189) hx hb (by omega) (by omega) d_r_count_96 (by decide) (fun c_96 => ?_) (fun c_96 => ?_)
      · refine lv_iload_n hx hb d_r_count_189 rfl (lv_at hl 1 rfl) ?_
        exact WI.iret hx hb hr hlocks hK hS d_r_count_190 () (by rw [show m9 = n by omega]) hP hD
      · refine lv_iconst (v := (nI 0)) hx hb d_r_count_99 (by decide) ?_
        refine nr_top (w := .int (bI false)) rfl ?_
        refine lv_istore (lv' := [(4, .int (bI false)), (3, .int (nI m9)), (2, .int (nI (cn m9 (fm ow c ev)))), (1, .int (nI 2)), (0, .ref (ad 0))]) hx hb d_r_count_100 hl (by decide) rfl (fun ls hl => ?_)
        refine lv_iconst (v := (nI 0)) hx hb d_r_count_102 (by decide) ?_
        refine lv_istore (lv' := [(5, .int (nI 0)), (4, .int (bI false)), (3, .int (nI m9)), (2, .int (nI (cn m9 (fm ow c ev)))), (1, .int (nI 2)), (0, .ref (ad 0))]) hx hb d_r_count_103 hl (by decide) rfl (fun ls hl => ?_)
        have loop2 : ∀ (d2 : Nat) (y : Nat) (has : Bool) (ls : Array Slot), ev - y < d2 → y ≤ ev → has = ex y (fun y => ex y (fun z => c y == m9 && (c y == c z && (!ow y z && !ow z y)))) → lv_has ls 7 [(5, .int (nI y)), (4, .int (bI has)), (3, .int (nI m9)), (2, .int (nI (cn m9 (fm ow c ev)))), (1, .int (nI 2)), (0, .ref (ad 0))] → W p9 l e9 ({ frames := 2, cells := 0, slots := 0, locals := 50 }) s9 m args below meth c9 H locs 0 0 (MQ below (va_Qi (S := Unit) (fun q _ => q = nI (cn n (fm ow c ev))) (wB D (tys cI cJ cZ) (fun _ => rL cI cZ ad 0 n ev r) A) A) args s9 0 0 A) (F0 m 105 ls []) := by
          intro d2
          induction d2 with
          | zero =>
            intro y has ls hd2 hy hhs hl
            exact absurd hd2 (by omega)
          | succ d2 ih2 =>
            intro y has ls hd2 hy hhs hl
            refine lv_iload hx hb d_r_count_105 (lv_at hl 0 rfl) ?_
            refine lv_aload_n hx hb d_r_count_107 rfl (lv_at hl 5 rfl) ?_
            refine va_get (D := D) (ci := 1) (v := .int (nI ev)) (C := "SightGraphModel") (T := T_r) (N := 10) hx hb htc in_r hown hK hP 0 rfl rfl 2 (by decide) (htc _ k_2_75) (fun _ h9 => h9) rfl d_r_count_108 ?_
            refine nr_icmp_ge (tgt := 175) hx hb (by omega) (by omega) d_r_count_111 (by decide) (fun c_111 => ?_) (fun c_111 => ?_)
            · have hhas : has = fm ow c ev m9 := sn_step (p := (fun y => ex y (fun z => c y == m9 && (c y == c z && (!ow y z && !ow z y))))) hhs (by omega) (Or.inl (by omega))
              refine lv_iload hx hb d_r_count_175 (lv_at hl 1 rfl) ?_
              refine nr_ifeq_b (tgt := 183) hx hb d_r_count_177 (by decide) (fun c_177 => ?_) (fun c_177 => ?_)
              · refine lv_iinc (v := (nI (m9 + 1))) (lv' := [(3, .int (nI (m9 + 1))), (5, .int (nI y)), (4, .int (bI has)), (2, .int (nI (cn m9 (fm ow c ev)))), (1, .int (nI 2)), (0, .ref (ad 0))]) hx hb d_r_count_183 hl (k := 2) rfl (nI_add m9 1) (by decide) rfl (fun ls hl => ?_)
                refine lv_goto (tgt := 91) hx hb d_r_count_186 (by decide) ?_
                exact ih1 (m9 + 1) ls (by omega) (by omega) (by rw [← cn_n (p := fm ow c ev) (show fm ow c ev m9 = false from hhas.symm.trans c_177)]; exact (lv_sub hl [0, 3, 4, 5] rfl))
              · refine lv_iinc (v := (nI ((cn m9 (fm ow c ev)) + 1))) (lv' := [(2, .int (nI ((cn m9 (fm ow c ev)) + 1))), (5, .int (nI y)), (4, .int (bI has)), (3, .int (nI m9)), (1, .int (nI 2)), (0, .ref (ad 0))]) hx hb d_r_count_180 hl (k := 3) rfl (nI_add (cn m9 (fm ow c ev)) 1) (by decide) rfl (fun ls hl => ?_)
                refine lv_iinc (v := (nI (m9 + 1))) (lv' := [(3, .int (nI (m9 + 1))), (2, .int (nI ((cn m9 (fm ow c ev)) + 1))), (5, .int (nI y)), (4, .int (bI has)), (1, .int (nI 2)), (0, .ref (ad 0))]) hx hb d_r_count_183 hl (k := 3) rfl (nI_add m9 1) (by decide) rfl (fun ls hl => ?_)
                refine lv_goto (tgt := 91) hx hb d_r_count_186 (by decide) ?_
                exact ih1 (m9 + 1) ls (by omega) (by omega) (by rw [← cn_y (p := fm ow c ev) (show fm ow c ev m9 = true from hhas.symm.trans c_177)]; exact (lv_sub hl [0, 1, 4, 5] rfl))
            · refine lv_iload hx hb d_r_count_114 (lv_at hl 1 rfl) ?_
              refine nr_ifne_b (tgt := 175) hx hb d_r_count_116 (by decide) (fun c_116 => ?_) (fun c_116 => ?_)
              · have hhas : has = fm ow c ev m9 := sn_step (p := (fun y => ex y (fun z => c y == m9 && (c y == c z && (!ow y z && !ow z y))))) hhs (by omega) (Or.inr c_116)
                refine lv_iload hx hb d_r_count_175 (lv_at hl 1 rfl) ?_
                refine nr_ifeq_b (tgt := 183) hx hb d_r_count_177 (by decide) (fun c_177 => ?_) (fun c_177 => ?_)
                · refine lv_iinc (v := (nI (m9 + 1))) (lv' := [(3, .int (nI (m9 + 1))), (5, .int (nI y)), (4, .int (bI has)), (2, .int (nI (cn m9 (fm ow c ev)))), (1, .int (nI 2)), (0, .ref (ad 0))]) hx hb d_r_count_183 hl (k := 2) rfl (nI_add m9 1) (by decide) rfl (fun ls hl => ?_)
                  refine lv_goto (tgt := 91) hx hb d_r_count_186 (by decide) ?_
                  exact ih1 (m9 + 1) ls (by omega) (by omega) (by rw [← cn_n (p := fm ow c ev) (show fm ow c ev m9 = false from hhas.symm.trans c_177)]; exact (lv_sub hl [0, 3, 4, 5] rfl))
                · refine lv_iinc (v := (nI ((cn m9 (fm ow c ev)) + 1))) (lv' := [(2, .int (nI ((cn m9 (fm ow c ev)) + 1))), (5, .int (nI y)), (4, .int (bI has)), (3, .int (nI m9)), (1, .int (nI 2)), (0, .ref (ad 0))]) hx hb d_r_count_180 hl (k := 3) rfl (nI_add (cn m9 (fm ow c ev)) 1) (by decide) rfl (fun ls hl => ?_)
                  refine lv_iinc (v := (nI (m9 + 1))) (lv' := [(3, .int (nI (m9 + 1))), (2, .int (nI ((cn m9 (fm ow c ev)) + 1))), (5, .int (nI y)), (4, .int (bI has)), (1, .int (nI 2)), (0, .ref (ad 0))]) hx hb d_r_count_183 hl (k := 3) rfl (nI_add m9 1) (by decide) rfl (fun ls hl => ?_)
                  refine lv_goto (tgt := 91) hx hb d_r_count_186 (by decide) ?_
                  exact ih1 (m9 + 1) ls (by omega) (by omega) (by rw [← cn_y (p := fm ow c ev) (show fm ow c ev m9 = true from hhas.symm.trans c_177)]; exact (lv_sub hl [0, 1, 4, 5] rfl))
              · refine lv_iconst (v := (nI 0)) hx hb d_r_count_119 (by decide) ?_
                refine lv_istore (lv' := [(6, .int (nI 0)), (5, .int (nI y)), (4, .int (bI has)), (3, .int (nI m9)), (2, .int (nI (cn m9 (fm ow c ev)))), (1, .int (nI 2)), (0, .ref (ad 0))]) hx hb d_r_count_120 hl (by decide) rfl (fun ls hl => ?_)
                have loop3 : ∀ (d3 : Nat) (z : Nat) (hs2 : Bool) (ls : Array Slot), y - z < d3 → z ≤ y → hs2 = ex z (fun z => c y == m9 && (c y == c z && (!ow y z && !ow z y))) → lv_has ls 7 [(6, .int (nI z)), (5, .int (nI y)), (4, .int (bI hs2)), (3, .int (nI m9)), (2, .int (nI (cn m9 (fm ow c ev)))), (1, .int (nI 2)), (0, .ref (ad 0))] → W p9 l e9 ({ frames := 2, cells := 0, slots := 0, locals := 50 }) s9 m args below meth c9 H locs 0 0 (MQ below (va_Qi (S := Unit) (fun q _ => q = nI (cn n (fm ow c ev))) (wB D (tys cI cJ cZ) (fun _ => rL cI cZ ad 0 n ev r) A) A) args s9 0 0 A) (F0 m 122 ls []) := by
                  intro d3
                  induction d3 with
                  | zero =>
                    intro z hs2 ls hd3 hz hh2 hl
                    exact absurd hd3 (by omega)
                  | succ d3 ih3 =>
                    intro z hs2 ls hd3 hz hh2 hl
                    refine lv_iload hx hb d_r_count_122 (lv_at hl 0 rfl) ?_
                    refine lv_iload hx hb d_r_count_124 (lv_at hl 1 rfl) ?_
                    refine nr_icmp_ge (tgt := 169) hx hb (by omega) (by omega) d_r_count_126 (by decide) (fun c_126 => ?_) (fun c_126 => ?_)
                    · have hfin : hs2 = ex y (fun z => c y == m9 && (c y == c z && (!ow y z && !ow z y))) := sn_step hh2 (by omega) (Or.inl (by omega))
                      refine lv_iinc (v := (nI (y + 1))) (lv' := [(5, .int (nI (y + 1))), (6, .int (nI z)), (4, .int (bI hs2)), (3, .int (nI m9)), (2, .int (nI (cn m9 (fm ow c ev)))), (1, .int (nI 2)), (0, .ref (ad 0))]) hx hb d_r_count_169 hl (k := 1) rfl (nI_add y 1) (by decide) rfl (fun ls hl => ?_)
                      refine lv_goto (tgt := 105) hx hb d_r_count_172 (by decide) ?_
                      exact ih2 (y + 1) hs2 ls (by omega) (by omega) (ex_hs (p := (fun y => ex y (fun z => c y == m9 && (c y == c z && (!ow y z && !ow z y))))) (hhs.symm.trans c_116) hfin.symm) (lv_sub hl [0, 2, 3, 4, 5, 6] rfl)
                    · refine lv_iload hx hb d_r_count_129 (lv_at hl 2 rfl) ?_
                      refine nr_ifne_b (tgt := 169) hx hb d_r_count_131 (by decide) (fun c_131 => ?_) (fun c_131 => ?_)
                      · have hfin : hs2 = ex y (fun z => c y == m9 && (c y == c z && (!ow y z && !ow z y))) := sn_step hh2 (by omega) (Or.inr c_131)
                        refine lv_iinc (v := (nI (y + 1))) (lv' := [(5, .int (nI (y + 1))), (6, .int (nI z)), (4, .int (bI hs2)), (3, .int (nI m9)), (2, .int (nI (cn m9 (fm ow c ev)))), (1, .int (nI 2)), (0, .ref (ad 0))]) hx hb d_r_count_169 hl (k := 1) rfl (nI_add y 1) (by decide) rfl (fun ls hl => ?_)
                        refine lv_goto (tgt := 105) hx hb d_r_count_172 (by decide) ?_
                        exact ih2 (y + 1) hs2 ls (by omega) (by omega) (ex_hs (p := (fun y => ex y (fun z => c y == m9 && (c y == c z && (!ow y z && !ow z y))))) (hhs.symm.trans c_116) hfin.symm) (lv_sub hl [0, 2, 3, 4, 5, 6] rfl)
                      · have hcy := hc8 y (by omega)
                        refine lv_aload_n hx hb d_r_count_134 rfl (lv_at hl 6 rfl) ?_
                        refine va_get (D := D) (ci := 1) (v := .ref (ad 1)) (C := "SightGraphModel") (T := T_r) (N := 10) hx hb htc in_r hown hK hP 0 rfl rfl 3 (by decide) (htc _ k_2_76) (fun _ h9 => h9) rfl d_r_count_135 ?_
                        refine lv_iload hx hb d_r_count_138 (lv_at hl 1 rfl) ?_
                        refine nr_iald hx hb hK hP 1 0 rfl rfl (by omega) (by decide) (v := (nI (c y))) (hc y (by omega)) d_r_count_140 ?_
                        refine lv_iload_n hx hb d_r_count_141 rfl (lv_at hl 3 rfl) ?_
                        refine nr_icmp_ne (tgt := 160) hx hb (by omega) (by omega) d_r_count_142 (by decide) (fun c_142 => ?_) (fun c_142 => ?_)
                        · refine lv_iconst (v := (nI 0)) hx hb d_r_count_160 (by decide) ?_
                          refine nr_top (w := .int (bI false)) rfl ?_
                          refine lv_istore (lv' := [(4, .int (bI false)), (6, .int (nI z)), (5, .int (nI y)), (3, .int (nI m9)), (2, .int (nI (cn m9 (fm ow c ev)))), (1, .int (nI 2)), (0, .ref (ad 0))]) hx hb d_r_count_161 hl (by decide) rfl (fun ls hl => ?_)
                          refine lv_iinc (v := (nI (z + 1))) (lv' := [(6, .int (nI (z + 1))), (4, .int (bI false)), (5, .int (nI y)), (3, .int (nI m9)), (2, .int (nI (cn m9 (fm ow c ev)))), (1, .int (nI 2)), (0, .ref (ad 0))]) hx hb d_r_count_163 hl (k := 1) rfl (nI_add z 1) (by decide) rfl (fun ls hl => ?_)
                          refine lv_goto (tgt := 122) hx hb d_r_count_166 (by decide) ?_
                          exact ih3 (z + 1) false ls (by omega) (by omega) (ex_hs (p := (fun z => c y == m9 && (c y == c z && (!ow y z && !ow z y)))) (hh2.symm.trans c_131) (by rw [show (c y == m9) = false from by simpa using c_142]; rfl)) (lv_sub hl [0, 2, 1, 3, 4, 5, 6] rfl)
                        · refine lv_aload_n hx hb d_r_count_145 rfl (lv_at hl 6 rfl) ?_
                          refine lv_iload hx hb d_r_count_146 (lv_at hl 1 rfl) ?_
                          refine lv_iload hx hb d_r_count_148 (lv_at hl 0 rfl) ?_
                          refine PM.callV (rest := []) S (c_r_isFork l D cI cJ cZ ad 0 n ev r K hKb c hc s hs ow hLw hc8 y z (by omega) (by omega)) k_2_138 k_2_140 k_s_24 k_1_2 k_2_141 h_r_isFork ⟨Nat.le_of_ble_eq_true rfl, Nat.le_of_ble_eq_true rfl⟩ ⟨Nat.le_of_ble_eq_true rfl, Nat.le_of_ble_eq_true rfl⟩ hP hK 0 1 rfl rfl rfl hl.1 (Nat.le_of_ble_eq_true rfl) rfl d_r_count_150 ?_
                          refine nr_ifeq_b (tgt := 160) hx hb d_r_count_153 (by decide) (fun c_153 => ?_) (fun c_153 => ?_)
                          · refine lv_iconst (v := (nI 0)) hx hb d_r_count_160 (by decide) ?_
                            refine nr_top (w := .int (bI false)) rfl ?_
                            refine lv_istore (lv' := [(4, .int (bI false)), (6, .int (nI z)), (5, .int (nI y)), (3, .int (nI m9)), (2, .int (nI (cn m9 (fm ow c ev)))), (1, .int (nI 2)), (0, .ref (ad 0))]) hx hb d_r_count_161 hl (by decide) rfl (fun ls hl => ?_)
                            refine lv_iinc (v := (nI (z + 1))) (lv' := [(6, .int (nI (z + 1))), (4, .int (bI false)), (5, .int (nI y)), (3, .int (nI m9)), (2, .int (nI (cn m9 (fm ow c ev)))), (1, .int (nI 2)), (0, .ref (ad 0))]) hx hb d_r_count_163 hl (k := 1) rfl (nI_add z 1) (by decide) rfl (fun ls hl => ?_)
                            refine lv_goto (tgt := 122) hx hb d_r_count_166 (by decide) ?_
                            exact ih3 (z + 1) false ls (by omega) (by omega) (ex_hs (p := (fun z => c y == m9 && (c y == c z && (!ow y z && !ow z y)))) (hh2.symm.trans c_131) (by rw [c_153, Bool.and_false])) (lv_sub hl [0, 2, 1, 3, 4, 5, 6] rfl)
                          · refine lv_iconst (v := (nI 1)) hx hb d_r_count_156 (by decide) ?_
                            refine lv_goto (tgt := 161) hx hb d_r_count_157 (by decide) ?_
                            refine nr_top (w := .int (bI true)) rfl ?_
                            refine lv_istore (lv' := [(4, .int (bI true)), (6, .int (nI z)), (5, .int (nI y)), (3, .int (nI m9)), (2, .int (nI (cn m9 (fm ow c ev)))), (1, .int (nI 2)), (0, .ref (ad 0))]) hx hb d_r_count_161 hl (by decide) rfl (fun ls hl => ?_)
                            refine lv_iinc (v := (nI (z + 1))) (lv' := [(6, .int (nI (z + 1))), (4, .int (bI true)), (5, .int (nI y)), (3, .int (nI m9)), (2, .int (nI (cn m9 (fm ow c ev)))), (1, .int (nI 2)), (0, .ref (ad 0))]) hx hb d_r_count_163 hl (k := 1) rfl (nI_add z 1) (by decide) rfl (fun ls hl => ?_)
                            refine lv_goto (tgt := 122) hx hb d_r_count_166 (by decide) ?_
                            exact ih3 (z + 1) true ls (by omega) (by omega) (ex_hs (p := (fun z => c y == m9 && (c y == c z && (!ow y z && !ow z y)))) (hh2.symm.trans c_131) (by rw [show (c y == m9) = true from by simpa using c_142]; rw [Bool.true_and]; exact c_153)) (lv_sub hl [0, 2, 1, 3, 4, 5, 6] rfl)
                exact loop3 (y + 1) 0 has ls (by omega) (by omega) c_116 (lv_sub hl [0, 1, 2, 3, 4, 5, 6] rfl)
        exact loop2 (ev + 1) 0 false ls (by omega) (by omega) rfl (lv_sub hl [0, 1, 2, 3, 4, 5] rfl)
  exact loop1 (n + 1) 0 ls (by omega) (by omega) (lv_sub hl [0, 1, 3, 2] rfl)
set_option maxHeartbeats 4000000 in
set_option maxRecDepth 100000 in
theorem c_r_count_x (l : Launch) (D : va_G) (cI cJ cZ : ClassId) (ad : Nat → Nat) (er : Int32) (n ev : Nat) (r : RA) (x : Int32) (hx1 : iv 4 x = false) : WI (S := Unit) l D (tys cI cJ cZ) (rL cI cZ ad er n ev r) (fun _ => rL cI cZ ad (nI 1) n ev r) (fun _ _ => True) y_r_count b_r_count 7 (some .int) 1 25 [.ref (ad 0), .int x] := by
  refine WI.of (by decide) (Nat.le_of_ble_eq_true rfl) ?_
  intro p9 e9 s9 m args below meth c9 ls A S hr hlocks hA hP hK hD hl
  obtain ⟨hx, hb, hml, hown, htc⟩ := id S
  have hS : va_S A s9.heap s9.heap [] := va_S.rf
  have hl : lv_has ls 7 [(0, .ref (ad 0)), (1, .int x)] := hl
  refine lv_aload_n hx hb d_r_count_0 rfl (lv_at hl 0 rfl) ?_
  refine lv_iconst (v := (nI 0)) hx hb d_r_count_1 (by decide) ?_
  refine va_put (D := D) (ci := 1) (v := .int (nI 0)) (ty := .int) (C := "SightGraphModel") (T := T_r) (N := 10) hx hb htc in_r t_r ft_r fn_r hown hK hP hD hS 0 rfl rfl 0 (by decide) (htc _ k_2_73) (fun _ h9 => h9) rfl (by decide +kernel) rfl rfl (Nat.le_of_ble_eq_true rfl) d_r_count_2 (fun H locs hP hD hS => ?_)
  have hP : va_P D cls (rL cI cZ ad (nI 0) n ev r) H := hP
  have hD : va_D A (rL cI cZ ad (nI 0) n ev r) := hD
  refine lv_aload_n hx hb d_r_count_5 rfl (lv_at hl 0 rfl) ?_
  refine lv_iload_n hx hb d_r_count_6 rfl (lv_at hl 1 rfl) ?_
  refine lv_i2l hx hb d_r_count_7 rfl ?_
  refine lv_lconst (v := 0) hx hb d_r_count_8 (by decide) ?_
  refine lv_ldc2 hx hb hown (htc _ k_2_199) d_r_count_9 ?_
  refine PM.callS (rest := [.ref (ad 0)]) S (c_r_in l D cI cJ cZ ad (nI 0) n ev r (x.toInt64) (0) (3)) k_2_115 k_2_116 k_1_2 k_2_117 h_r_in ⟨Nat.le_of_ble_eq_true rfl, Nat.le_of_ble_eq_true rfl⟩ ⟨Nat.le_of_ble_eq_true rfl, Nat.le_of_ble_eq_true rfl⟩ hP hK hl.1 (Nat.le_of_ble_eq_true rfl) rfl d_r_count_12 ?_
  refine nr_ifne_b (tgt := 22) hx hb d_r_count_15 (by decide) (fun q9 => absurd (show (decide ((0 : Int64) ≤ x.toInt64 ∧ x.toInt64 ≤ 3)) = false from by rw [in03]; exact hx1) (by rw [q9]; decide)) (fun q9 => ?_)
  refine lv_iconst (v := (nI 1)) hx hb d_r_count_18 (by decide) ?_
  refine lv_goto (tgt := 23) hx hb d_r_count_19 (by decide) ?_
  refine nr_top (w := .int (bI true)) rfl ?_
  refine lv_iconst (v := (nI 1)) hx hb d_r_count_23 (by decide) ?_
  refine WI.callV (wr := []) (rest := []) S (c_r_fails l D cI cJ cZ ad n ev r true 1 (by decide) (by decide)) k_2_118 k_2_120 k_s_20 k_1_2 k_2_121 h_r_fails ⟨Nat.le_of_ble_eq_true rfl, Nat.le_of_ble_eq_true rfl⟩ ⟨Nat.le_of_ble_eq_true rfl, Nat.le_of_ble_eq_true rfl⟩ hP hK hD hS hA [0, 1, 2, 3, 4, 5, 6, 7] [] rfl rfl (by decide) (by decide) (by decide) 0 1 rfl rfl rfl hl.1 (Nat.le_of_ble_eq_true rfl) rfl d_r_count_24 (fun v9 u9 H locs hv9 hP hD hS => ?_)
  obtain rfl := hv9
  have hP : va_P D cls (rL cI cZ ad (nI 1) n ev r) H := hP
  have hD : va_D A (rL cI cZ ad (nI 1) n ev r) := hD
  refine nr_ifeq_b (tgt := 32) hx hb d_r_count_27 (by decide) (fun q9 => nomatch q9) (fun q9 => ?_)
  refine lv_iconst (v := (nI 0)) hx hb d_r_count_30 (by decide) ?_
  exact WI.iret hx hb hr hlocks hK hS d_r_count_31 () trivial hP hD
