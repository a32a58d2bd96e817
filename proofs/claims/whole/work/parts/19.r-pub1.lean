def fe (b : Bool) (k : Nat) : Int32 := if b then nI k else 0
set_option maxHeartbeats 4000000 in
set_option maxRecDepth 100000 in
theorem c_r_fails_t (l : Launch) (D : va_G) (cI cJ cZ : ClassId) (ad : Nat → Nat) (n ev : Nat) (r : RA) (k : Nat) (hk : 0 < k) (hk2 : k < 1000) : WI (S := Unit) l D (tys cI cJ cZ) (rL cI cZ ad 0 n ev r) (fun _ => rL cI cZ ad (fe true k) n ev r) (fun v _ => v = bI true) y_r_fails b_r_fails 3 (some .boolean) 0 0 [.ref (ad 0), .int (bI true), .int (nI k)] := by
  refine WI.of (by decide) (Nat.le_of_ble_eq_true rfl) ?_
  intro p9 e9 s9 m args below meth c9 ls A S hr hlocks hA hP hK hD hl
  obtain ⟨hx, hb, hml, hown, htc⟩ := id S
  have hS : va_S A s9.heap s9.heap [] := va_S.rf
  have hl : lv_has ls 3 [(0, .ref (ad 0)), (1, .int (bI true)), (2, .int (nI k))] := hl
  refine lv_iload_n hx hb d_r_fails_0 rfl (lv_at hl 1 rfl) ?_
  refine lv_if_eq (tgt := 16) hx hb d_r_fails_1 (by decide) (fun q => absurd q (by decide)) (fun _ => ?_)
  refine lv_aload_n hx hb d_r_fails_4 rfl (lv_at hl 0 rfl) ?_
  refine va_get (D := D) (ci := 1) (v := .int 0) (C := "SightGraphModel") (T := T_r) (N := 10) hx hb htc in_r hown hK hP 0 rfl rfl 0 (by decide) (htc _ k_2_73) (fun _ h9 => h9) rfl d_r_fails_5 ?_
  refine lv_if_ne (tgt := 16) hx hb d_r_fails_8 (by decide) (fun q => absurd rfl q) (fun _ => ?_)
  refine lv_aload_n hx hb d_r_fails_11 rfl (lv_at hl 0 rfl) ?_
  refine lv_iload_n hx hb d_r_fails_12 rfl (lv_at hl 2 rfl) ?_
  refine va_put (D := D) (ci := 1) (v := .int (nI k)) (ty := .int) (C := "SightGraphModel") (T := T_r) (N := 10) hx hb htc in_r t_r ft_r fn_r hown hK hP hD hS 0 rfl rfl 0 (by decide) (htc _ k_2_73) (fun _ h9 => h9) rfl (by decide +kernel) rfl rfl (Nat.le_of_ble_eq_true rfl) d_r_fails_13 (fun H locs hP hD hS => ?_)
  have hP : va_P D cls (rL cI cZ ad (nI k) n ev r) H := hP
  have hD : va_D A (rL cI cZ ad (nI k) n ev r) := hD
  refine lv_aload_n hx hb d_r_fails_16 rfl (lv_at hl 0 rfl) ?_
  refine va_get (D := D) (ci := 1) (v := .int (nI k)) (C := "SightGraphModel") (T := T_r) (N := 10) hx hb htc in_r hown hK hP 0 rfl rfl 0 (by decide) (htc _ k_2_73) (fun _ h9 => h9) rfl d_r_fails_17 ?_
  refine lv_if_eq (tgt := 27) hx hb d_r_fails_20 (by decide) (fun q => absurd q (nI_ne0 hk (by omega))) (fun _ => ?_)
  refine lv_iconst (v := (nI 1)) hx hb d_r_fails_23 (by decide) ?_
  refine lv_goto (tgt := 28) hx hb d_r_fails_24 (by decide) ?_
  refine nr_top (w := .int (bI true)) rfl ?_
  exact WI.zret hx hb hr hlocks hK hS d_r_fails_28 () rfl hP hD
set_option maxHeartbeats 4000000 in
set_option maxRecDepth 100000 in
theorem c_r_fails_f (l : Launch) (D : va_G) (cI cJ cZ : ClassId) (ad : Nat → Nat) (n ev : Nat) (r : RA) (k : Nat) (hk : 0 < k) (hk2 : k < 1000) : WI (S := Unit) l D (tys cI cJ cZ) (rL cI cZ ad 0 n ev r) (fun _ => rL cI cZ ad (fe false k) n ev r) (fun v _ => v = bI false) y_r_fails b_r_fails 3 (some .boolean) 0 0 [.ref (ad 0), .int (bI false), .int (nI k)] := by
  refine WI.of (by decide) (Nat.le_of_ble_eq_true rfl) ?_
  intro p9 e9 s9 m args below meth c9 ls A S hr hlocks hA hP hK hD hl
  obtain ⟨hx, hb, hml, hown, htc⟩ := id S
  have hS : va_S A s9.heap s9.heap [] := va_S.rf
  have hl : lv_has ls 3 [(0, .ref (ad 0)), (1, .int (bI false)), (2, .int (nI k))] := hl
  refine lv_iload_n hx hb d_r_fails_0 rfl (lv_at hl 1 rfl) ?_
  refine lv_if_eq (tgt := 16) hx hb d_r_fails_1 (by decide) (fun _ => ?_) (fun q => absurd rfl q)
  refine lv_aload_n hx hb d_r_fails_16 rfl (lv_at hl 0 rfl) ?_
  refine va_get (D := D) (ci := 1) (v := .int 0) (C := "SightGraphModel") (T := T_r) (N := 10) hx hb htc in_r hown hK hP 0 rfl rfl 0 (by decide) (htc _ k_2_73) (fun _ h9 => h9) rfl d_r_fails_17 ?_
  refine lv_if_eq (tgt := 27) hx hb d_r_fails_20 (by decide) (fun _ => ?_) (fun q => absurd rfl q)
  refine lv_iconst (v := (nI 0)) hx hb d_r_fails_27 (by decide) ?_
  refine nr_top (w := .int (bI false)) rfl ?_
  exact WI.zret hx hb hr hlocks hK hS d_r_fails_28 () rfl hP hD
theorem c_r_fails (l : Launch) (D : va_G) (cI cJ cZ : ClassId) (ad : Nat → Nat) (n ev : Nat) (r : RA) (b : Bool) (k : Nat) (hk : 0 < k) (hk2 : k < 1000) : WI (S := Unit) l D (tys cI cJ cZ) (rL cI cZ ad 0 n ev r) (fun _ => rL cI cZ ad (fe b k) n ev r) (fun v _ => v = bI b) y_r_fails b_r_fails 3 (some .boolean) 0 0 [.ref (ad 0), .int (bI b), .int (nI k)] := by
  cases b with
  | true => exact c_r_fails_t l D cI cJ cZ ad n ev r k hk hk2
  | false => exact c_r_fails_f l D cI cJ cZ ad n ev r k hk hk2
set_option maxHeartbeats 4000000 in
set_option maxRecDepth 100000 in
theorem c_r_ancestor_ok (l : Launch) (D : va_G) (cI cJ cZ : ClassId) (ad : Nat → Nat) (er : Int32) (n ev : Nat) (r : RA) (hev : ev ≤ 120) (K : Nat) (hKb : K ≤ 120) (an : Nat → Nat → Bool) (ha : ∀ j, j < K → ∀ y, y < 120 → r.2.2.2.2.2.1 (120 * j + y) = bI (an j y)) (hevK : ev ≤ K) (x y : Nat) (hx0 : x < ev) (hy0 : y < ev) : WI (S := Unit) l D (tys cI cJ cZ) (rL cI cZ ad er n ev r) (fun _ => rL cI cZ ad 0 n ev r) (fun v _ => v = bI (an x y)) y_r_ancestor b_r_ancestor 3 (some .boolean) 2 50 [.ref (ad 0), .int (nI x), .int (nI y)] := by
  refine WI.of (by decide) (Nat.le_of_ble_eq_true rfl) ?_
  intro p9 e9 s9 m args below meth c9 ls A S hr hlocks hA hP hK hD hl
  obtain ⟨hx, hb, hml, hown, htc⟩ := id S
  have hS : va_S A s9.heap s9.heap [] := va_S.rf
  have hl : lv_has ls 3 [(0, .ref (ad 0)), (1, .int (nI x)), (2, .int (nI y))] := hl
  refine lv_aload_n hx hb d_r_ancestor_0 rfl (lv_at hl 0 rfl) ?_
  refine lv_iconst (v := (nI 0)) hx hb d_r_ancestor_1 (by decide) ?_
  refine va_put (D := D) (ci := 1) (v := .int (nI 0)) (ty := .int) (C := "SightGraphModel") (T := T_r) (N := 10) hx hb htc in_r t_r ft_r fn_r hown hK hP hD hS 0 rfl rfl 0 (by decide) (htc _ k_2_73) (fun _ h9 => h9) rfl (by decide +kernel) rfl rfl (Nat.le_of_ble_eq_true rfl) d_r_ancestor_2 (fun H locs hP hD hS => ?_)
  have hP : va_P D cls (rL cI cZ ad (nI 0) n ev r) H := hP
  have hD : va_D A (rL cI cZ ad (nI 0) n ev r) := hD
  refine lv_aload_n hx hb d_r_ancestor_5 rfl (lv_at hl 0 rfl) ?_
  refine lv_aload_n hx hb d_r_ancestor_6 rfl (lv_at hl 0 rfl) ?_
  refine lv_iload_n hx hb d_r_ancestor_7 rfl (lv_at hl 1 rfl) ?_
  refine PM.callV (rest := [.ref (ad 0)]) S (c_r_isEvent l D cI cJ cZ ad (nI 0) n ev r (by omega) (nI x)) k_2_126 k_2_128 k_s_21 k_1_2 k_2_129 h_r_isEvent ⟨Nat.le_of_ble_eq_true rfl, Nat.le_of_ble_eq_true rfl⟩ ⟨Nat.le_of_ble_eq_true rfl, Nat.le_of_ble_eq_true rfl⟩ hP hK 0 1 rfl rfl rfl hl.1 (Nat.le_of_ble_eq_true rfl) rfl d_r_ancestor_8 ?_
  refine nr_ifeq_b (tgt := 22) hx hb d_r_ancestor_11 (by decide) (fun q9 => absurd (show (iv ev (nI x)) = true from iv_t hx0 hev) (by rw [q9]; decide)) (fun q9 => ?_)
  refine lv_aload_n hx hb d_r_ancestor_14 rfl (lv_at hl 0 rfl) ?_
  refine lv_iload_n hx hb d_r_ancestor_15 rfl (lv_at hl 2 rfl) ?_
  refine PM.callV (rest := [.ref (ad 0)]) S (c_r_isEvent l D cI cJ cZ ad (nI 0) n ev r (by omega) (nI y)) k_2_126 k_2_128 k_s_21 k_1_2 k_2_129 h_r_isEvent ⟨Nat.le_of_ble_eq_true rfl, Nat.le_of_ble_eq_true rfl⟩ ⟨Nat.le_of_ble_eq_true rfl, Nat.le_of_ble_eq_true rfl⟩ hP hK 0 1 rfl rfl rfl hl.1 (Nat.le_of_ble_eq_true rfl) rfl d_r_ancestor_16 ?_
  refine nr_ifne_b (tgt := 26) hx hb d_r_ancestor_19 (by decide) (fun q9 => ?_) (fun q9 => absurd (show (iv ev (nI y)) = true from iv_t hy0 hev) (by rw [q9]; decide))
  refine lv_iconst (v := (nI 0)) hx hb d_r_ancestor_26 (by decide) ?_
  refine nr_top (w := .int (bI false)) rfl ?_
  refine lv_iconst (v := (nI 1)) hx hb d_r_ancestor_27 (by decide) ?_
  refine WI.callV (wr := []) (rest := []) S (c_r_fails l D cI cJ cZ ad n ev r false 1 (by decide) (by decide)) k_2_118 k_2_120 k_s_20 k_1_2 k_2_121 h_r_fails ⟨Nat.le_of_ble_eq_true rfl, Nat.le_of_ble_eq_true rfl⟩ ⟨Nat.le_of_ble_eq_true rfl, Nat.le_of_ble_eq_true rfl⟩ hP hK hD hS hA [0, 1, 2, 3, 4, 5, 6, 7] [] rfl rfl (by decide) (by decide) (by decide) 0 1 rfl rfl rfl hl.1 (Nat.le_of_ble_eq_true rfl) rfl d_r_ancestor_28 (fun v9 u9 H locs hv9 hP hD hS => ?_)
  obtain rfl := hv9
  have hP : va_P D cls (rL cI cZ ad 0 n ev r) H := hP
  have hD : va_D A (rL cI cZ ad 0 n ev r) := hD
  refine nr_ifne_b (tgt := 47) hx hb d_r_ancestor_31 (by decide) (fun q9 => nomatch q9) (fun q9 => ?_)
  refine lv_aload_n hx hb d_r_ancestor_34 rfl (lv_at hl 0 rfl) ?_
  refine lv_iload_n hx hb d_r_ancestor_35 rfl (lv_at hl 2 rfl) ?_
  refine lv_iload_n hx hb d_r_ancestor_36 rfl (lv_at hl 1 rfl) ?_
  refine PM.callV (rest := []) S (c_r_isAbove l D cI cJ cZ ad 0 n ev r K hKb an ha x y (by omega) (by omega)) k_2_134 k_2_136 k_s_23 k_1_2 k_2_137 h_r_isAbove ⟨Nat.le_of_ble_eq_true rfl, Nat.le_of_ble_eq_true rfl⟩ ⟨Nat.le_of_ble_eq_true rfl, Nat.le_of_ble_eq_true rfl⟩ hP hK 0 1 rfl rfl rfl hl.1 (Nat.le_of_ble_eq_true rfl) rfl d_r_ancestor_37 ?_
  refine nr_ifeq_b (tgt := 47) hx hb d_r_ancestor_40 (by decide) (fun c_40 => ?_) (fun c_40 => ?_)
  · refine lv_iconst (v := (nI 0)) hx hb d_r_ancestor_47 (by decide) ?_
    refine nr_top (w := .int (bI false)) rfl ?_
    exact WI.zret hx hb hr hlocks hK hS d_r_ancestor_48 () (by rw [c_40]) hP hD
  · refine lv_iconst (v := (nI 1)) hx hb d_r_ancestor_43 (by decide) ?_
    refine lv_goto (tgt := 48) hx hb d_r_ancestor_44 (by decide) ?_
    refine nr_top (w := .int (bI true)) rfl ?_
    exact WI.zret hx hb hr hlocks hK hS d_r_ancestor_48 () (by rw [c_40]) hP hD
set_option maxHeartbeats 4000000 in
set_option maxRecDepth 100000 in
theorem c_r_ancestor_x (l : Launch) (D : va_G) (cI cJ cZ : ClassId) (ad : Nat → Nat) (er : Int32) (n ev : Nat) (r : RA) (hev : ev ≤ 120) (x y : Int32) (hy1 : iv ev x = true → iv ev y = false) : WI (S := Unit) l D (tys cI cJ cZ) (rL cI cZ ad er n ev r) (fun _ => rL cI cZ ad (nI 1) n ev r) (fun _ _ => True) y_r_ancestor b_r_ancestor 3 (some .boolean) 2 50 [.ref (ad 0), .int x, .int y] := by
  refine WI.of (by decide) (Nat.le_of_ble_eq_true rfl) ?_
  intro p9 e9 s9 m args below meth c9 ls A S hr hlocks hA hP hK hD hl
  obtain ⟨hx, hb, hml, hown, htc⟩ := id S
  have hS : va_S A s9.heap s9.heap [] := va_S.rf
  have hl : lv_has ls 3 [(0, .ref (ad 0)), (1, .int x), (2, .int y)] := hl
  refine lv_aload_n hx hb d_r_ancestor_0 rfl (lv_at hl 0 rfl) ?_
  refine lv_iconst (v := (nI 0)) hx hb d_r_ancestor_1 (by decide) ?_
  refine va_put (D := D) (ci := 1) (v := .int (nI 0)) (ty := .int) (C := "SightGraphModel") (T := T_r) (N := 10) hx hb htc in_r t_r ft_r fn_r hown hK hP hD hS 0 rfl rfl 0 (by decide) (htc _ k_2_73) (fun _ h9 => h9) rfl (by decide +kernel) rfl rfl (Nat.le_of_ble_eq_true rfl) d_r_ancestor_2 (fun H locs hP hD hS => ?_)
  have hP : va_P D cls (rL cI cZ ad (nI 0) n ev r) H := hP
  have hD : va_D A (rL cI cZ ad (nI 0) n ev r) := hD
  refine lv_aload_n hx hb d_r_ancestor_5 rfl (lv_at hl 0 rfl) ?_
  refine lv_aload_n hx hb d_r_ancestor_6 rfl (lv_at hl 0 rfl) ?_
  refine lv_iload_n hx hb d_r_ancestor_7 rfl (lv_at hl 1 rfl) ?_
  refine PM.callV (rest := [.ref (ad 0)]) S (c_r_isEvent l D cI cJ cZ ad (nI 0) n ev r (by omega) (x)) k_2_126 k_2_128 k_s_21 k_1_2 k_2_129 h_r_isEvent ⟨Nat.le_of_ble_eq_true rfl, Nat.le_of_ble_eq_true rfl⟩ ⟨Nat.le_of_ble_eq_true rfl, Nat.le_of_ble_eq_true rfl⟩ hP hK 0 1 rfl rfl rfl hl.1 (Nat.le_of_ble_eq_true rfl) rfl d_r_ancestor_8 ?_
  refine nr_ifeq_b (tgt := 22) hx hb d_r_ancestor_11 (by decide) (fun c_11 => ?_) (fun c_11 => ?_)
  · refine lv_iconst (v := (nI 1)) hx hb d_r_ancestor_22 (by decide) ?_
    refine lv_goto (tgt := 27) hx hb d_r_ancestor_23 (by decide) ?_
    refine nr_top (w := .int (bI true)) rfl ?_
    refine lv_iconst (v := (nI 1)) hx hb d_r_ancestor_27 (by decide) ?_
    refine WI.callV (wr := []) (rest := []) S (c_r_fails l D cI cJ cZ ad n ev r true 1 (by decide) (by decide)) k_2_118 k_2_120 k_s_20 k_1_2 k_2_121 h_r_fails ⟨Nat.le_of_ble_eq_true rfl, Nat.le_of_ble_eq_true rfl⟩ ⟨Nat.le_of_ble_eq_true rfl, Nat.le_of_ble_eq_true rfl⟩ hP hK hD hS hA [0, 1, 2, 3, 4, 5, 6, 7] [] rfl rfl (by decide) (by decide) (by decide) 0 1 rfl rfl rfl hl.1 (Nat.le_of_ble_eq_true rfl) rfl d_r_ancestor_28 (fun v9 u9 H locs hv9 hP hD hS => ?_)
    obtain rfl := hv9
    have hP : va_P D cls (rL cI cZ ad (nI 1) n ev r) H := hP
    have hD : va_D A (rL cI cZ ad (nI 1) n ev r) := hD
    refine nr_ifne_b (tgt := 47) hx hb d_r_ancestor_31 (by decide) (fun q9 => ?_) (fun q9 => nomatch q9)
    refine lv_iconst (v := (nI 0)) hx hb d_r_ancestor_47 (by decide) ?_
    refine nr_top (w := .int (bI false)) rfl ?_
    exact WI.zret hx hb hr hlocks hK hS d_r_ancestor_48 () trivial hP hD
  · refine lv_aload_n hx hb d_r_ancestor_14 rfl (lv_at hl 0 rfl) ?_
    refine lv_iload_n hx hb d_r_ancestor_15 rfl (lv_at hl 2 rfl) ?_
    refine PM.callV (rest := [.ref (ad 0)]) S (c_r_isEvent l D cI cJ cZ ad (nI 0) n ev r (by omega) (y)) k_2_126 k_2_128 k_s_21 k_1_2 k_2_129 h_r_isEvent ⟨Nat.le_of_ble_eq_true rfl, Nat.le_of_ble_eq_true rfl⟩ ⟨Nat.le_of_ble_eq_true rfl, Nat.le_of_ble_eq_true rfl⟩ hP hK 0 1 rfl rfl rfl hl.1 (Nat.le_of_ble_eq_true rfl) rfl d_r_ancestor_16 ?_
    refine nr_ifne_b (tgt := 26) hx hb d_r_ancestor_19 (by decide) (fun q9 => absurd (show (iv ev (y)) = false from hy1 c_11) (by rw [q9]; decide)) (fun q9 => ?_)
    refine lv_iconst (v := (nI 1)) hx hb d_r_ancestor_22 (by decide) ?_
    refine lv_goto (tgt := 27) hx hb d_r_ancestor_23 (by decide) ?_
    refine nr_top (w := .int (bI true)) rfl ?_
    refine lv_iconst (v := (nI 1)) hx hb d_r_ancestor_27 (by decide) ?_
    refine WI.callV (wr := []) (rest := []) S (c_r_fails l D cI cJ cZ ad n ev r true 1 (by decide) (by decide)) k_2_118 k_2_120 k_s_20 k_1_2 k_2_121 h_r_fails ⟨Nat.le_of_ble_eq_true rfl, Nat.le_of_ble_eq_true rfl⟩ ⟨Nat.le_of_ble_eq_true rfl, Nat.le_of_ble_eq_true rfl⟩ hP hK hD hS hA [0, 1, 2, 3, 4, 5, 6, 7] [] rfl rfl (by decide) (by decide) (by decide) 0 1 rfl rfl rfl hl.1 (Nat.le_of_ble_eq_true rfl) rfl d_r_ancestor_28 (fun v9 u9 H locs hv9 hP hD hS => ?_)
    obtain rfl := hv9
    have hP : va_P D cls (rL cI cZ ad (nI 1) n ev r) H := hP
    have hD : va_D A (rL cI cZ ad (nI 1) n ev r) := hD
    refine nr_ifne_b (tgt := 47) hx hb d_r_ancestor_31 (by decide) (fun q9 => ?_) (fun q9 => nomatch q9)
    refine lv_iconst (v := (nI 0)) hx hb d_r_ancestor_47 (by decide) ?_
    refine nr_top (w := .int (bI false)) rfl ?_
    exact WI.zret hx hb hr hlocks hK hS d_r_ancestor_48 () trivial hP hD
set_option maxHeartbeats 4000000 in
set_option maxRecDepth 100000 in
theorem c_r_own_ok (l : Launch) (D : va_G) (cI cJ cZ : ClassId) (ad : Nat → Nat) (er : Int32) (n ev : Nat) (r : RA) (hev : ev ≤ 120) (K : Nat) (hKb : K ≤ 120) (s : Nat → Nat) (hs : ∀ j, j < K → r.2.1 j = mI (s j)) (ow : Nat → Nat → Bool) (hLw : ∀ x, x < K → s x ≤ x ∧ ∀ y, ow x y = (x == y || pa ow (s x) y)) (hevK : ev ≤ K) (x y : Nat) (hx0 : x < ev) (hy0 : y < ev) : WI (S := Unit) l D (tys cI cJ cZ) (rL cI cZ ad er n ev r) (fun _ => rL cI cZ ad 0 n ev r) (fun v _ => v = bI (ow x y)) y_r_own b_r_own 3 (some .boolean) 2 50 [.ref (ad 0), .int (nI x), .int (nI y)] := by
  refine WI.of (by decide) (Nat.le_of_ble_eq_true rfl) ?_
  intro p9 e9 s9 m args below meth c9 ls A S hr hlocks hA hP hK hD hl
  obtain ⟨hx, hb, hml, hown, htc⟩ := id S
  have hS : va_S A s9.heap s9.heap [] := va_S.rf
  have hl : lv_has ls 3 [(0, .ref (ad 0)), (1, .int (nI x)), (2, .int (nI y))] := hl
  refine lv_aload_n hx hb d_r_own_0 rfl (lv_at hl 0 rfl) ?_
  refine lv_iconst (v := (nI 0)) hx hb d_r_own_1 (by decide) ?_
  refine va_put (D := D) (ci := 1) (v := .int (nI 0)) (ty := .int) (C := "SightGraphModel") (T := T_r) (N := 10) hx hb htc in_r t_r ft_r fn_r hown hK hP hD hS 0 rfl rfl 0 (by decide) (htc _ k_2_73) (fun _ h9 => h9) rfl (by decide +kernel) rfl rfl (Nat.le_of_ble_eq_true rfl) d_r_own_2 (fun H locs hP hD hS => ?_)
  have hP : va_P D cls (rL cI cZ ad (nI 0) n ev r) H := hP
  have hD : va_D A (rL cI cZ ad (nI 0) n ev r) := hD
  refine lv_aload_n hx hb d_r_own_5 rfl (lv_at hl 0 rfl) ?_
  refine lv_aload_n hx hb d_r_own_6 rfl (lv_at hl 0 rfl) ?_
  refine lv_iload_n hx hb d_r_own_7 rfl (lv_at hl 1 rfl) ?_
  refine PM.callV (rest := [.ref (ad 0)]) S (c_r_isEvent l D cI cJ cZ ad (nI 0) n ev r (by omega) (nI x)) k_2_126 k_2_128 k_s_21 k_1_2 k_2_129 h_r_isEvent ⟨Nat.le_of_ble_eq_true rfl, Nat.le_of_ble_eq_true rfl⟩ ⟨Nat.le_of_ble_eq_true rfl, Nat.le_of_ble_eq_true rfl⟩ hP hK 0 1 rfl rfl rfl hl.1 (Nat.le_of_ble_eq_true rfl) rfl d_r_own_8 ?_
  refine nr_ifeq_b (tgt := 22) hx hb d_r_own_11 (by decide) (fun q9 => absurd (show (iv ev (nI x)) = true from iv_t hx0 hev) (by rw [q9]; decide)) (fun q9 => ?_)
  refine lv_aload_n hx hb d_r_own_14 rfl (lv_at hl 0 rfl) ?_
  refine lv_iload_n hx hb d_r_own_15 rfl (lv_at hl 2 rfl) ?_
  refine PM.callV (rest := [.ref (ad 0)]) S (c_r_isEvent l D cI cJ cZ ad (nI 0) n ev r (by omega) (nI y)) k_2_126 k_2_128 k_s_21 k_1_2 k_2_129 h_r_isEvent ⟨Nat.le_of_ble_eq_true rfl, Nat.le_of_ble_eq_true rfl⟩ ⟨Nat.le_of_ble_eq_true rfl, Nat.le_of_ble_eq_true rfl⟩ hP hK 0 1 rfl rfl rfl hl.1 (Nat.le_of_ble_eq_true rfl) rfl d_r_own_16 ?_
  refine nr_ifne_b (tgt := 26) hx hb d_r_own_19 (by decide) (fun q9 => ?_) (fun q9 => absurd (show (iv ev (nI y)) = true from iv_t hy0 hev) (by rw [q9]; decide))
  refine lv_iconst (v := (nI 0)) hx hb d_r_own_26 (by decide) ?_
  refine nr_top (w := .int (bI false)) rfl ?_
  refine lv_iconst (v := (nI 1)) hx hb d_r_own_27 (by decide) ?_
  refine WI.callV (wr := []) (rest := []) S (c_r_fails l D cI cJ cZ ad n ev r false 1 (by decide) (by decide)) k_2_118 k_2_120 k_s_20 k_1_2 k_2_121 h_r_fails ⟨Nat.le_of_ble_eq_true rfl, Nat.le_of_ble_eq_true rfl⟩ ⟨Nat.le_of_ble_eq_true rfl, Nat.le_of_ble_eq_true rfl⟩ hP hK hD hS hA [0, 1, 2, 3, 4, 5, 6, 7] [] rfl rfl (by decide) (by decide) (by decide) 0 1 rfl rfl rfl hl.1 (Nat.le_of_ble_eq_true rfl) rfl d_r_own_28 (fun v9 u9 H locs hv9 hP hD hS => ?_)
  obtain rfl := hv9
  have hP : va_P D cls (rL cI cZ ad 0 n ev r) H := hP
  have hD : va_D A (rL cI cZ ad 0 n ev r) := hD
  refine nr_ifne_b (tgt := 47) hx hb d_r_own_31 (by decide) (fun q9 => nomatch q9) (fun q9 => ?_)
  refine lv_aload_n hx hb d_r_own_34 rfl (lv_at hl 0 rfl) ?_
  refine lv_iload_n hx hb d_r_own_35 rfl (lv_at hl 1 rfl) ?_
  refine lv_iload_n hx hb d_r_own_36 rfl (lv_at hl 2 rfl) ?_
  refine PM.callV (rest := []) S (c_r_isOwn l D cI cJ cZ ad 0 n ev r K hKb s hs ow hLw x y (by omega) (by omega)) k_2_142 k_2_144 k_s_25 k_1_2 k_2_145 h_r_isOwn ⟨Nat.le_of_ble_eq_true rfl, Nat.le_of_ble_eq_true rfl⟩ ⟨Nat.le_of_ble_eq_true rfl, Nat.le_of_ble_eq_true rfl⟩ hP hK 0 1 rfl rfl rfl hl.1 (Nat.le_of_ble_eq_true rfl) rfl d_r_own_37 ?_
  refine nr_ifeq_b (tgt := 47) hx hb d_r_own_40 (by decide) (fun c_40 => ?_) (fun c_40 => ?_)
  · refine lv_iconst (v := (nI 0)) hx hb d_r_own_47 (by decide) ?_
    refine nr_top (w := .int (bI false)) rfl ?_
    exact WI.zret hx hb hr hlocks hK hS d_r_own_48 () (by rw [c_40]) hP hD
  · refine lv_iconst (v := (nI 1)) hx hb d_r_own_43 (by decide) ?_
    refine lv_goto (tgt := 48) hx hb d_r_own_44 (by decide) ?_
    refine nr_top (w := .int (bI true)) rfl ?_
    exact WI.zret hx hb hr hlocks hK hS d_r_own_48 () (by rw [c_40]) hP hD
set_option maxHeartbeats 4000000 in
set_option maxRecDepth 100000 in
theorem c_r_own_x (l : Launch) (D : va_G) (cI cJ cZ : ClassId) (ad : Nat → Nat) (er : Int32) (n ev : Nat) (r : RA) (hev : ev ≤ 120) (x y : Int32) (hy1 : iv ev x = true → iv ev y = false) : WI (S := Unit) l D (tys cI cJ cZ) (rL cI cZ ad er n ev r) (fun _ => rL cI cZ ad (nI 1) n ev r) (fun _ _ => True) y_r_own b_r_own 3 (some .boolean) 2 50 [.ref (ad 0), .int x, .int y] := by
  refine WI.of (by decide) (Nat.le_of_ble_eq_true rfl) ?_
  intro p9 e9 s9 m args below meth c9 ls A S hr hlocks hA hP hK hD hl
  obtain ⟨hx, hb, hml, hown, htc⟩ := id S
  have hS : va_S A s9.heap s9.heap [] := va_S.rf
  have hl : lv_has ls 3 [(0, .ref (ad 0)), (1, .int x), (2, .int y)] := hl
  refine lv_aload_n hx hb d_r_own_0 rfl (lv_at hl 0 rfl) ?_
  refine lv_iconst (v := (nI 0)) hx hb d_r_own_1 (by decide) ?_
  refine va_put (D := D) (ci := 1) (v := .int (nI 0)) (ty := .int) (C := "SightGraphModel") (T := T_r) (N := 10) hx hb htc in_r t_r ft_r fn_r hown hK hP hD hS 0 rfl rfl 0 (by decide) (htc _ k_2_73) (fun _ h9 => h9) rfl (by decide +kernel) rfl rfl (Nat.le_of_ble_eq_true rfl) d_r_own_2 (fun H locs hP hD hS => ?_)
  have hP : va_P D cls (rL cI cZ ad (nI 0) n ev r) H := hP
  have hD : va_D A (rL cI cZ ad (nI 0) n ev r) := hD
  refine lv_aload_n hx hb d_r_own_5 rfl (lv_at hl 0 rfl) ?_
  refine lv_aload_n hx hb d_r_own_6 rfl (lv_at hl 0 rfl) ?_
  refine lv_iload_n hx hb d_r_own_7 rfl (lv_at hl 1 rfl) ?_
  refine PM.callV (rest := [.ref (ad 0)]) S (c_r_isEvent l D cI cJ cZ ad (nI 0) n ev r (by omega) (x)) k_2_126 k_2_128 k_s_21 k_1_2 k_2_129 h_r_isEvent ⟨Nat.le_of_ble_eq_true rfl, Nat.le_of_ble_eq_true rfl⟩ ⟨Nat.le_of_ble_eq_true rfl, Nat.le_of_ble_eq_true rfl⟩ hP hK 0 1 rfl rfl rfl hl.1 (Nat.le_of_ble_eq_true rfl) rfl d_r_own_8 ?_
  refine nr_ifeq_b (tgt := 22) hx hb d_r_own_11 (by decide) (fun c_11 => ?_) (fun c_11 => ?_)
  · refine lv_iconst (v := (nI 1)) hx hb d_r_own_22 (by decide) ?_
    refine lv_goto (tgt := 27) hx hb d_r_own_23 (by decide) ?_
    refine nr_top (w := .int (bI true)) rfl ?_
    refine lv_iconst (v := (nI 1)) hx hb d_r_own_27 (by decide) ?_
    refine WI.callV (wr := []) (rest := []) S (c_r_fails l D cI cJ cZ ad n ev r true 1 (by decide) (by decide)) k_2_118 k_2_120 k_s_20 k_1_2 k_2_121 h_r_fails ⟨Nat.le_of_ble_eq_true rfl, Nat.le_of_ble_eq_true rfl⟩ ⟨Nat.le_of_ble_eq_true rfl, Nat.le_of_ble_eq_true rfl⟩ hP hK hD hS hA [0, 1, 2, 3, 4, 5, 6, 7] [] rfl rfl (by decide) (by decide) (by decide) 0 1 rfl rfl rfl hl.1 (Nat.le_of_ble_eq_true rfl) rfl d_r_own_28 (fun v9 u9 H locs hv9 hP hD hS => ?_)
    obtain rfl := hv9
    have hP : va_P D cls (rL cI cZ ad (nI 1) n ev r) H := hP
    have hD : va_D A (rL cI cZ ad (nI 1) n ev r) := hD
    refine nr_ifne_b (tgt := 47) hx hb d_r_own_31 (by decide) (fun q9 => ?_) (fun q9 => nomatch q9)
    refine lv_iconst (v := (nI 0)) hx hb d_r_own_47 (by decide) ?_
    refine nr_top (w := .int (bI false)) rfl ?_
    exact WI.zret hx hb hr hlocks hK hS d_r_own_48 () trivial hP hD
  · refine lv_aload_n hx hb d_r_own_14 rfl (lv_at hl 0 rfl) ?_
    refine lv_iload_n hx hb d_r_own_15 rfl (lv_at hl 2 rfl) ?_
    refine PM.callV (rest := [.ref (ad 0)]) S (c_r_isEvent l D cI cJ cZ ad (nI 0) n ev r (by omega) (y)) k_2_126 k_2_128 k_s_21 k_1_2 k_2_129 h_r_isEvent ⟨Nat.le_of_ble_eq_true rfl, Nat.le_of_ble_eq_true rfl⟩ ⟨Nat.le_of_ble_eq_true rfl, Nat.le_of_ble_eq_true rfl⟩ hP hK 0 1 rfl rfl rfl hl.1 (Nat.le_of_ble_eq_true rfl) rfl d_r_own_16 ?_
    refine nr_ifne_b (tgt := 26) hx hb d_r_own_19 (by decide) (fun q9 => absurd (show (iv ev (y)) = false from hy1 c_11) (by rw [q9]; decide)) (fun q9 => ?_)
    refine lv_iconst (v := (nI 1)) hx hb d_r_own_22 (by decide) ?_
    refine lv_goto (tgt := 27) hx hb d_r_own_23 (by decide) ?_
    refine nr_top (w := .int (bI true)) rfl ?_
    refine lv_iconst (v := (nI 1)) hx hb d_r_own_27 (by decide) ?_
    refine WI.callV (wr := []) (rest := []) S (c_r_fails l D cI cJ cZ ad n ev r true 1 (by decide) (by decide)) k_2_118 k_2_120 k_s_20 k_1_2 k_2_121 h_r_fails ⟨Nat.le_of_ble_eq_true rfl, Nat.le_of_ble_eq_true rfl⟩ ⟨Nat.le_of_ble_eq_true rfl, Nat.le_of_ble_eq_true rfl⟩ hP hK hD hS hA [0, 1, 2, 3, 4, 5, 6, 7] [] rfl rfl (by decide) (by decide) (by decide) 0 1 rfl rfl rfl hl.1 (Nat.le_of_ble_eq_true rfl) rfl d_r_own_28 (fun v9 u9 H locs hv9 hP hD hS => ?_)
    obtain rfl := hv9
    have hP : va_P D cls (rL cI cZ ad (nI 1) n ev r) H := hP
    have hD : va_D A (rL cI cZ ad (nI 1) n ev r) := hD
    refine nr_ifne_b (tgt := 47) hx hb d_r_own_31 (by decide) (fun q9 => ?_) (fun q9 => nomatch q9)
    refine lv_iconst (v := (nI 0)) hx hb d_r_own_47 (by decide) ?_
    refine nr_top (w := .int (bI false)) rfl ?_
    exact WI.zret hx hb hr hlocks hK hS d_r_own_48 () trivial hP hD
set_option maxHeartbeats 4000000 in
set_option maxRecDepth 100000 in
theorem c_r_sees_ok (l : Launch) (D : va_G) (cI cJ cZ : ClassId) (ad : Nat → Nat) (er : Int32) (n ev : Nat) (r : RA) (hev : ev ≤ 120) (K : Nat) (hKb : K ≤ 120) (c : Nat → Nat) (hc : ∀ j, j < K → r.1 j = nI (c j)) (an : Nat → Nat → Bool) (ha : ∀ j, j < K → ∀ y, y < 120 → r.2.2.2.2.2.1 (120 * j + y) = bI (an j y)) (fk : Nat → Nat → Bool) (hf : ∀ j, j < K → ∀ m, m < 8 → r.2.2.2.2.2.2 (8 * j + m) = bI (fk j m)) (hc8 : ∀ j, j < K → c j < 8) (hevK : ev ≤ K) (x y : Nat) (hx0 : x < ev) (hy0 : y < ev) : WI (S := Unit) l D (tys cI cJ cZ) (rL cI cZ ad er n ev r) (fun _ => rL cI cZ ad 0 n ev r) (fun v _ => v = bI (se an fk c x y)) y_r_sees b_r_sees 3 (some .boolean) 2 50 [.ref (ad 0), .int (nI x), .int (nI y)] := by
  refine WI.of (by decide) (Nat.le_of_ble_eq_true rfl) ?_
  intro p9 e9 s9 m args below meth c9 ls A S hr hlocks hA hP hK hD hl
  obtain ⟨hx, hb, hml, hown, htc⟩ := id S
  have hS : va_S A s9.heap s9.heap [] := va_S.rf
  have hl : lv_has ls 3 [(0, .ref (ad 0)), (1, .int (nI x)), (2, .int (nI y))] := hl
  refine lv_aload_n hx hb d_r_sees_0 rfl (lv_at hl 0 rfl) ?_
  refine lv_iconst (v := (nI 0)) hx hb d_r_sees_1 (by decide) ?_
  refine va_put (D := D) (ci := 1) (v := .int (nI 0)) (ty := .int) (C := "SightGraphModel") (T := T_r) (N := 10) hx hb htc in_r t_r ft_r fn_r hown hK hP hD hS 0 rfl rfl 0 (by decide) (htc _ k_2_73) (fun _ h9 => h9) rfl (by decide +kernel) rfl rfl (Nat.le_of_ble_eq_true rfl) d_r_sees_2 (fun H locs hP hD hS => ?_)
  have hP : va_P D cls (rL cI cZ ad (nI 0) n ev r) H := hP
  have hD : va_D A (rL cI cZ ad (nI 0) n ev r) := hD
  refine lv_aload_n hx hb d_r_sees_5 rfl (lv_at hl 0 rfl) ?_
  refine lv_aload_n hx hb d_r_sees_6 rfl (lv_at hl 0 rfl) ?_
  refine lv_iload_n hx hb d_r_sees_7 rfl (lv_at hl 1 rfl) ?_
  refine PM.callV (rest := [.ref (ad 0)]) S (c_r_isEvent l D cI cJ cZ ad (nI 0) n ev r (by omega) (nI x)) k_2_126 k_2_128 k_s_21 k_1_2 k_2_129 h_r_isEvent ⟨Nat.le_of_ble_eq_true rfl, Nat.le_of_ble_eq_true rfl⟩ ⟨Nat.le_of_ble_eq_true rfl, Nat.le_of_ble_eq_true rfl⟩ hP hK 0 1 rfl rfl rfl hl.1 (Nat.le_of_ble_eq_true rfl) rfl d_r_sees_8 ?_
  refine nr_ifeq_b (tgt := 22) hx hb d_r_sees_11 (by decide) (fun q9 => absurd (show (iv ev (nI x)) = true from iv_t hx0 hev) (by rw [q9]; decide)) (fun q9 => ?_)
  refine lv_aload_n hx hb d_r_sees_14 rfl (lv_at hl 0 rfl) ?_
  refine lv_iload_n hx hb d_r_sees_15 rfl (lv_at hl 2 rfl) ?_
  refine PM.callV (rest := [.ref (ad 0)]) S (c_r_isEvent l D cI cJ cZ ad (nI 0) n ev r (by omega) (nI y)) k_2_126 k_2_128 k_s_21 k_1_2 k_2_129 h_r_isEvent ⟨Nat.le_of_ble_eq_true rfl, Nat.le_of_ble_eq_true rfl⟩ ⟨Nat.le_of_ble_eq_true rfl, Nat.le_of_ble_eq_true rfl⟩ hP hK 0 1 rfl rfl rfl hl.1 (Nat.le_of_ble_eq_true rfl) rfl d_r_sees_16 ?_
  refine nr_ifne_b (tgt := 26) hx hb d_r_sees_19 (by decide) (fun q9 => ?_) (fun q9 => absurd (show (iv ev (nI y)) = true from iv_t hy0 hev) (by rw [q9]; decide))
  refine lv_iconst (v := (nI 0)) hx hb d_r_sees_26 (by decide) ?_
  refine nr_top (w := .int (bI false)) rfl ?_
  refine lv_iconst (v := (nI 1)) hx hb d_r_sees_27 (by decide) ?_
  refine WI.callV (wr := []) (rest := []) S (c_r_fails l D cI cJ cZ ad n ev r false 1 (by decide) (by decide)) k_2_118 k_2_120 k_s_20 k_1_2 k_2_121 h_r_fails ⟨Nat.le_of_ble_eq_true rfl, Nat.le_of_ble_eq_true rfl⟩ ⟨Nat.le_of_ble_eq_true rfl, Nat.le_of_ble_eq_true rfl⟩ hP hK hD hS hA [0, 1, 2, 3, 4, 5, 6, 7] [] rfl rfl (by decide) (by decide) (by decide) 0 1 rfl rfl rfl hl.1 (Nat.le_of_ble_eq_true rfl) rfl d_r_sees_28 (fun v9 u9 H locs hv9 hP hD hS => ?_)
  obtain rfl := hv9
  have hP : va_P D cls (rL cI cZ ad 0 n ev r) H := hP
  have hD : va_D A (rL cI cZ ad 0 n ev r) := hD
  refine nr_ifne_b (tgt := 47) hx hb d_r_sees_31 (by decide) (fun q9 => nomatch q9) (fun q9 => ?_)
  refine lv_aload_n hx hb d_r_sees_34 rfl (lv_at hl 0 rfl) ?_
  refine lv_iload_n hx hb d_r_sees_35 rfl (lv_at hl 1 rfl) ?_
  refine lv_iload_n hx hb d_r_sees_36 rfl (lv_at hl 2 rfl) ?_
  refine PM.callV (rest := []) S (c_r_isSeen l D cI cJ cZ ad 0 n ev r K hKb c hc an ha fk hf hc8 x y (by omega) (by omega)) k_2_159 k_2_161 k_s_29 k_1_2 k_2_162 h_r_isSeen ⟨Nat.le_of_ble_eq_true rfl, Nat.le_of_ble_eq_true rfl⟩ ⟨Nat.le_of_ble_eq_true rfl, Nat.le_of_ble_eq_true rfl⟩ hP hK 0 1 rfl rfl rfl hl.1 (Nat.le_of_ble_eq_true rfl) rfl d_r_sees_37 ?_
  refine nr_ifeq_b (tgt := 47) hx hb d_r_sees_40 (by decide) (fun c_40 => ?_) (fun c_40 => ?_)
  · refine lv_iconst (v := (nI 0)) hx hb d_r_sees_47 (by decide) ?_
    refine nr_top (w := .int (bI false)) rfl ?_
    exact WI.zret hx hb hr hlocks hK hS d_r_sees_48 () (by rw [c_40]) hP hD
  · refine lv_iconst (v := (nI 1)) hx hb d_r_sees_43 (by decide) ?_
    refine lv_goto (tgt := 48) hx hb d_r_sees_44 (by decide) ?_
    refine nr_top (w := .int (bI true)) rfl ?_
    exact WI.zret hx hb hr hlocks hK hS d_r_sees_48 () (by rw [c_40]) hP hD
set_option maxHeartbeats 4000000 in
set_option maxRecDepth 100000 in
theorem c_r_sees_x (l : Launch) (D : va_G) (cI cJ cZ : ClassId) (ad : Nat → Nat) (er : Int32) (n ev : Nat) (r : RA) (hev : ev ≤ 120) (x y : Int32) (hy1 : iv ev x = true → iv ev y = false) : WI (S := Unit) l D (tys cI cJ cZ) (rL cI cZ ad er n ev r) (fun _ => rL cI cZ ad (nI 1) n ev r) (fun _ _ => True) y_r_sees b_r_sees 3 (some .boolean) 2 50 [.ref (ad 0), .int x, .int y] := by
  refine WI.of (by decide) (Nat.le_of_ble_eq_true rfl) ?_
  intro p9 e9 s9 m args below meth c9 ls A S hr hlocks hA hP hK hD hl
  obtain ⟨hx, hb, hml, hown, htc⟩ := id S
  have hS : va_S A s9.heap s9.heap [] := va_S.rf
  have hl : lv_has ls 3 [(0, .ref (ad 0)), (1, .int x), (2, .int y)] := hl
  refine lv_aload_n hx hb d_r_sees_0 rfl (lv_at hl 0 rfl) ?_
  refine lv_iconst (v := (nI 0)) hx hb d_r_sees_1 (by decide) ?_
  refine va_put (D := D) (ci := 1) (v := .int (nI 0)) (ty := .int) (C := "SightGraphModel") (T := T_r) (N := 10) hx hb htc in_r t_r ft_r fn_r hown hK hP hD hS 0 rfl rfl 0 (by decide) (htc _ k_2_73) (fun _ h9 => h9) rfl (by decide +kernel) rfl rfl (Nat.le_of_ble_eq_true rfl) d_r_sees_2 (fun H locs hP hD hS => ?_)
  have hP : va_P D cls (rL cI cZ ad (nI 0) n ev r) H := hP
  have hD : va_D A (rL cI cZ ad (nI 0) n ev r) := hD
  refine lv_aload_n hx hb d_r_sees_5 rfl (lv_at hl 0 rfl) ?_
  refine lv_aload_n hx hb d_r_sees_6 rfl (lv_at hl 0 rfl) ?_
  refine lv_iload_n hx hb d_r_sees_7 rfl (lv_at hl 1 rfl) ?_
  refine PM.callV (rest := [.ref (ad 0)]) S (c_r_isEvent l D cI cJ cZ ad (nI 0) n ev r (by omega) (x)) k_2_126 k_2_128 k_s_21 k_1_2 k_2_129 h_r_isEvent ⟨Nat.le_of_ble_eq_true rfl, Nat.le_of_ble_eq_true rfl⟩ ⟨Nat.le_of_ble_eq_true rfl, Nat.le_of_ble_eq_true rfl⟩ hP hK 0 1 rfl rfl rfl hl.1 (Nat.le_of_ble_eq_true rfl) rfl d_r_sees_8 ?_
  refine nr_ifeq_b (tgt := 22) hx hb d_r_sees_11 (by decide) (fun c_11 => ?_) (fun c_11 => ?_)
  · refine lv_iconst (v := (nI 1)) hx hb d_r_sees_22 (by decide) ?_
    refine lv_goto (tgt := 27) hx hb d_r_sees_23 (by decide) ?_
    refine nr_top (w := .int (bI true)) rfl ?_
    refine lv_iconst (v := (nI 1)) hx hb d_r_sees_27 (by decide) ?_
    refine WI.callV (wr := []) (rest := []) S (c_r_fails l D cI cJ cZ ad n ev r true 1 (by decide) (by decide)) k_2_118 k_2_120 k_s_20 k_1_2 k_2_121 h_r_fails ⟨Nat.le_of_ble_eq_true rfl, Nat.le_of_ble_eq_true rfl⟩ ⟨Nat.le_of_ble_eq_true rfl, Nat.le_of_ble_eq_true rfl⟩ hP hK hD hS hA [0, 1, 2, 3, 4, 5, 6, 7] [] rfl rfl (by decide) (by decide) (by decide) 0 1 rfl rfl rfl hl.1 (Nat.le_of_ble_eq_true rfl) rfl d_r_sees_28 (fun v9 u9 H locs hv9 hP hD hS => ?_)
    obtain rfl := hv9
    have hP : va_P D cls (rL cI cZ ad (nI 1) n ev r) H := hP
    have hD : va_D A (rL cI cZ ad (nI 1) n ev r) := hD
    refine nr_ifne_b (tgt := 47) hx hb d_r_sees_31 (by decide) (fun q9 => ?_) (fun q9 => nomatch q9)
    refine lv_iconst (v := (nI 0)) hx hb d_r_sees_47 (by decide) ?_
    refine nr_top (w := .int (bI false)) rfl ?_
    exact WI.zret hx hb hr hlocks hK hS d_r_sees_48 () trivial hP hD
  · refine lv_aload_n hx hb d_r_sees_14 rfl (lv_at hl 0 rfl) ?_
    refine lv_iload_n hx hb d_r_sees_15 rfl (lv_at hl 2 rfl) ?_
    refine PM.callV (rest := [.ref (ad 0)]) S (c_r_isEvent l D cI cJ cZ ad (nI 0) n ev r (by omega) (y)) k_2_126 k_2_128 k_s_21 k_1_2 k_2_129 h_r_isEvent ⟨Nat.le_of_ble_eq_true rfl, Nat.le_of_ble_eq_true rfl⟩ ⟨Nat.le_of_ble_eq_true rfl, Nat.le_of_ble_eq_true rfl⟩ hP hK 0 1 rfl rfl rfl hl.1 (Nat.le_of_ble_eq_true rfl) rfl d_r_sees_16 ?_
    refine nr_ifne_b (tgt := 26) hx hb d_r_sees_19 (by decide) (fun q9 => absurd (show (iv ev (y)) = false from hy1 c_11) (by rw [q9]; decide)) (fun q9 => ?_)
    refine lv_iconst (v := (nI 1)) hx hb d_r_sees_22 (by decide) ?_
    refine lv_goto (tgt := 27) hx hb d_r_sees_23 (by decide) ?_
    refine nr_top (w := .int (bI true)) rfl ?_
    refine lv_iconst (v := (nI 1)) hx hb d_r_sees_27 (by decide) ?_
    refine WI.callV (wr := []) (rest := []) S (c_r_fails l D cI cJ cZ ad n ev r true 1 (by decide) (by decide)) k_2_118 k_2_120 k_s_20 k_1_2 k_2_121 h_r_fails ⟨Nat.le_of_ble_eq_true rfl, Nat.le_of_ble_eq_true rfl⟩ ⟨Nat.le_of_ble_eq_true rfl, Nat.le_of_ble_eq_true rfl⟩ hP hK hD hS hA [0, 1, 2, 3, 4, 5, 6, 7] [] rfl rfl (by decide) (by decide) (by decide) 0 1 rfl rfl rfl hl.1 (Nat.le_of_ble_eq_true rfl) rfl d_r_sees_28 (fun v9 u9 H locs hv9 hP hD hS => ?_)
    obtain rfl := hv9
    have hP : va_P D cls (rL cI cZ ad (nI 1) n ev r) H := hP
    have hD : va_D A (rL cI cZ ad (nI 1) n ev r) := hD
    refine nr_ifne_b (tgt := 47) hx hb d_r_sees_31 (by decide) (fun q9 => ?_) (fun q9 => nomatch q9)
    refine lv_iconst (v := (nI 0)) hx hb d_r_sees_47 (by decide) ?_
    refine nr_top (w := .int (bI false)) rfl ?_
    exact WI.zret hx hb hr hlocks hK hS d_r_sees_48 () trivial hP hD
set_option maxHeartbeats 4000000 in
set_option maxRecDepth 100000 in
theorem c_r_strength_ok (l : Launch) (D : va_G) (cI cJ cZ : ClassId) (ad : Nat → Nat) (er : Int32) (n ev : Nat) (r : RA) (hev : ev ≤ 120) (K : Nat) (hKb : K ≤ 120) (c : Nat → Nat) (hc : ∀ j, j < K → r.1 j = nI (c j)) (an : Nat → Nat → Bool) (ha : ∀ j, j < K → ∀ y, y < 120 → r.2.2.2.2.2.1 (120 * j + y) = bI (an j y)) (fk : Nat → Nat → Bool) (hf : ∀ j, j < K → ∀ m, m < 8 → r.2.2.2.2.2.2 (8 * j + m) = bI (fk j m)) (hc8 : ∀ j, j < K → c j < 8) (hn : n ≤ 8) (hevK : ev ≤ K) (x y : Nat) (hx0 : x < ev) (hy0 : y < ev) : WI (S := Unit) l D (tys cI cJ cZ) (rL cI cZ ad er n ev r) (fun _ => rL cI cZ ad 0 n ev r) (fun v _ => v = nI (sn n an fk c x y)) y_r_strength b_r_strength 3 (some .int) 3 70 [.ref (ad 0), .int (nI x), .int (nI y)] := by
  refine WI.of (by decide) (Nat.le_of_ble_eq_true rfl) ?_
  intro p9 e9 s9 m args below meth c9 ls A S hr hlocks hA hP hK hD hl
  obtain ⟨hx, hb, hml, hown, htc⟩ := id S
  have hS : va_S A s9.heap s9.heap [] := va_S.rf
  have hl : lv_has ls 3 [(0, .ref (ad 0)), (1, .int (nI x)), (2, .int (nI y))] := hl
  refine lv_aload_n hx hb d_r_strength_0 rfl (lv_at hl 0 rfl) ?_
  refine lv_iconst (v := (nI 0)) hx hb d_r_strength_1 (by decide) ?_
  refine va_put (D := D) (ci := 1) (v := .int (nI 0)) (ty := .int) (C := "SightGraphModel") (T := T_r) (N := 10) hx hb htc in_r t_r ft_r fn_r hown hK hP hD hS 0 rfl rfl 0 (by decide) (htc _ k_2_73) (fun _ h9 => h9) rfl (by decide +kernel) rfl rfl (Nat.le_of_ble_eq_true rfl) d_r_strength_2 (fun H locs hP hD hS => ?_)
  have hP : va_P D cls (rL cI cZ ad (nI 0) n ev r) H := hP
  have hD : va_D A (rL cI cZ ad (nI 0) n ev r) := hD
  refine lv_aload_n hx hb d_r_strength_5 rfl (lv_at hl 0 rfl) ?_
  refine lv_aload_n hx hb d_r_strength_6 rfl (lv_at hl 0 rfl) ?_
  refine lv_iload_n hx hb d_r_strength_7 rfl (lv_at hl 1 rfl) ?_
  refine PM.callV (rest := [.ref (ad 0)]) S (c_r_isEvent l D cI cJ cZ ad (nI 0) n ev r (by omega) (nI x)) k_2_126 k_2_128 k_s_21 k_1_2 k_2_129 h_r_isEvent ⟨Nat.le_of_ble_eq_true rfl, Nat.le_of_ble_eq_true rfl⟩ ⟨Nat.le_of_ble_eq_true rfl, Nat.le_of_ble_eq_true rfl⟩ hP hK 0 1 rfl rfl rfl hl.1 (Nat.le_of_ble_eq_true rfl) rfl d_r_strength_8 ?_
  refine nr_ifeq_b (tgt := 22) hx hb d_r_strength_11 (by decide) (fun q9 => absurd (show (iv ev (nI x)) = true from iv_t hx0 hev) (by rw [q9]; decide)) (fun q9 => ?_)
  refine lv_aload_n hx hb d_r_strength_14 rfl (lv_at hl 0 rfl) ?_
  refine lv_iload_n hx hb d_r_strength_15 rfl (lv_at hl 2 rfl) ?_
  refine PM.callV (rest := [.ref (ad 0)]) S (c_r_isEvent l D cI cJ cZ ad (nI 0) n ev r (by omega) (nI y)) k_2_126 k_2_128 k_s_21 k_1_2 k_2_129 h_r_isEvent ⟨Nat.le_of_ble_eq_true rfl, Nat.le_of_ble_eq_true rfl⟩ ⟨Nat.le_of_ble_eq_true rfl, Nat.le_of_ble_eq_true rfl⟩ hP hK 0 1 rfl rfl rfl hl.1 (Nat.le_of_ble_eq_true rfl) rfl d_r_strength_16 ?_
  refine nr_ifne_b (tgt := 26) hx hb d_r_strength_19 (by decide) (fun q9 => ?_) (fun q9 => absurd (show (iv ev (nI y)) = true from iv_t hy0 hev) (by rw [q9]; decide))
  refine lv_iconst (v := (nI 0)) hx hb d_r_strength_26 (by decide) ?_
  refine nr_top (w := .int (bI false)) rfl ?_
  refine lv_iconst (v := (nI 1)) hx hb d_r_strength_27 (by decide) ?_
  refine WI.callV (wr := []) (rest := []) S (c_r_fails l D cI cJ cZ ad n ev r false 1 (by decide) (by decide)) k_2_118 k_2_120 k_s_20 k_1_2 k_2_121 h_r_fails ⟨Nat.le_of_ble_eq_true rfl, Nat.le_of_ble_eq_true rfl⟩ ⟨Nat.le_of_ble_eq_true rfl, Nat.le_of_ble_eq_true rfl⟩ hP hK hD hS hA [0, 1, 2, 3, 4, 5, 6, 7] [] rfl rfl (by decide) (by decide) (by decide) 0 1 rfl rfl rfl hl.1 (Nat.le_of_ble_eq_true rfl) rfl d_r_strength_28 (fun v9 u9 H locs hv9 hP hD hS => ?_)
  obtain rfl := hv9
  have hP : va_P D cls (rL cI cZ ad 0 n ev r) H := hP
  have hD : va_D A (rL cI cZ ad 0 n ev r) := hD
  refine nr_ifeq_b (tgt := 38) hx hb d_r_strength_31 (by decide) (fun q9 => ?_) (fun q9 => nomatch q9)
  refine lv_aload_n hx hb d_r_strength_38 rfl (lv_at hl 0 rfl) ?_
  refine lv_iload_n hx hb d_r_strength_39 rfl (lv_at hl 1 rfl) ?_
  refine lv_iload_n hx hb d_r_strength_40 rfl (lv_at hl 2 rfl) ?_
  refine PM.callV (rest := []) S (c_r_strengthOf l D cI cJ cZ ad 0 n ev r K hKb c hc an ha fk hf hc8 hn x y (by omega) (by omega)) k_2_155 k_2_157 k_s_28 k_1_2 k_2_158 h_r_strengthOf ⟨Nat.le_of_ble_eq_true rfl, Nat.le_of_ble_eq_true rfl⟩ ⟨Nat.le_of_ble_eq_true rfl, Nat.le_of_ble_eq_true rfl⟩ hP hK 0 1 rfl rfl rfl hl.1 (Nat.le_of_ble_eq_true rfl) rfl d_r_strength_41 ?_
  exact WI.iret hx hb hr hlocks hK hS d_r_strength_44 () rfl hP hD
set_option maxHeartbeats 4000000 in
set_option maxRecDepth 100000 in
theorem c_r_strength_x (l : Launch) (D : va_G) (cI cJ cZ : ClassId) (ad : Nat → Nat) (er : Int32) (n ev : Nat) (r : RA) (hev : ev ≤ 120) (x y : Int32) (hy1 : iv ev x = true → iv ev y = false) : WI (S := Unit) l D (tys cI cJ cZ) (rL cI cZ ad er n ev r) (fun _ => rL cI cZ ad (nI 1) n ev r) (fun _ _ => True) y_r_strength b_r_strength 3 (some .int) 2 50 [.ref (ad 0), .int x, .int y] := by
  refine WI.of (by decide) (Nat.le_of_ble_eq_true rfl) ?_
  intro p9 e9 s9 m args below meth c9 ls A S hr hlocks hA hP hK hD hl
  obtain ⟨hx, hb, hml, hown, htc⟩ := id S
  have hS : va_S A s9.heap s9.heap [] := va_S.rf
  have hl : lv_has ls 3 [(0, .ref (ad 0)), (1, .int x), (2, .int y)] := hl
  refine lv_aload_n hx hb d_r_strength_0 rfl (lv_at hl 0 rfl) ?_
  refine lv_iconst (v := (nI 0)) hx hb d_r_strength_1 (by decide) ?_
  refine va_put (D := D) (ci := 1) (v := .int (nI 0)) (ty := .int) (C := "SightGraphModel") (T := T_r) (N := 10) hx hb htc in_r t_r ft_r fn_r hown hK hP hD hS 0 rfl rfl 0 (by decide) (htc _ k_2_73) (fun _ h9 => h9) rfl (by decide +kernel) rfl rfl (Nat.le_of_ble_eq_true rfl) d_r_strength_2 (fun H locs hP hD hS => ?_)
  have hP : va_P D cls (rL cI cZ ad (nI 0) n ev r) H := hP
  have hD : va_D A (rL cI cZ ad (nI 0) n ev r) := hD
  refine lv_aload_n hx hb d_r_strength_5 rfl (lv_at hl 0 rfl) ?_
  refine lv_aload_n hx hb d_r_strength_6 rfl (lv_at hl 0 rfl) ?_
  refine lv_iload_n hx hb d_r_strength_7 rfl (lv_at hl 1 rfl) ?_
  refine PM.callV (rest := [.ref (ad 0)]) S (c_r_isEvent l D cI cJ cZ ad (nI 0) n ev r (by omega) (x)) k_2_126 k_2_128 k_s_21 k_1_2 k_2_129 h_r_isEvent ⟨Nat.le_of_ble_eq_true rfl, Nat.le_of_ble_eq_true rfl⟩ ⟨Nat.le_of_ble_eq_true rfl, Nat.le_of_ble_eq_true rfl⟩ hP hK 0 1 rfl rfl rfl hl.1 (Nat.le_of_ble_eq_true rfl) rfl d_r_strength_8 ?_
  refine nr_ifeq_b (tgt := 22) hx hb d_r_strength_11 (by decide) (fun c_11 => ?_) (fun c_11 => ?_)
  · refine lv_iconst (v := (nI 1)) hx hb d_r_strength_22 (by decide) ?_
    refine lv_goto (tgt := 27) hx hb d_r_strength_23 (by decide) ?_
    refine nr_top (w := .int (bI true)) rfl ?_
    refine lv_iconst (v := (nI 1)) hx hb d_r_strength_27 (by decide) ?_
    refine WI.callV (wr := []) (rest := []) S (c_r_fails l D cI cJ cZ ad n ev r true 1 (by decide) (by decide)) k_2_118 k_2_120 k_s_20 k_1_2 k_2_121 h_r_fails ⟨Nat.le_of_ble_eq_true rfl, Nat.le_of_ble_eq_true rfl⟩ ⟨Nat.le_of_ble_eq_true rfl, Nat.le_of_ble_eq_true rfl⟩ hP hK hD hS hA [0, 1, 2, 3, 4, 5, 6, 7] [] rfl rfl (by decide) (by decide) (by decide) 0 1 rfl rfl rfl hl.1 (Nat.le_of_ble_eq_true rfl) rfl d_r_strength_28 (fun v9 u9 H locs hv9 hP hD hS => ?_)
    obtain rfl := hv9
    have hP : va_P D cls (rL cI cZ ad (nI 1) n ev r) H := hP
    have hD : va_D A (rL cI cZ ad (nI 1) n ev r) := hD
    refine nr_ifeq_b (tgt := 38) hx hb d_r_strength_31 (by decide) (fun q9 => nomatch q9) (fun q9 => ?_)
    refine lv_iconst (v := (nI 0)) hx hb d_r_strength_34 (by decide) ?_
    refine lv_goto (tgt := 44) hx hb d_r_strength_35 (by decide) ?_
    exact WI.iret hx hb hr hlocks hK hS d_r_strength_44 () trivial hP hD
  · refine lv_aload_n hx hb d_r_strength_14 rfl (lv_at hl 0 rfl) ?_
    refine lv_iload_n hx hb d_r_strength_15 rfl (lv_at hl 2 rfl) ?_
    refine PM.callV (rest := [.ref (ad 0)]) S (c_r_isEvent l D cI cJ cZ ad (nI 0) n ev r (by omega) (y)) k_2_126 k_2_128 k_s_21 k_1_2 k_2_129 h_r_isEvent ⟨Nat.le_of_ble_eq_true rfl, Nat.le_of_ble_eq_true rfl⟩ ⟨Nat.le_of_ble_eq_true rfl, Nat.le_of_ble_eq_true rfl⟩ hP hK 0 1 rfl rfl rfl hl.1 (Nat.le_of_ble_eq_true rfl) rfl d_r_strength_16 ?_
    refine nr_ifne_b (tgt := 26) hx hb d_r_strength_19 (by decide) (fun q9 => absurd (show (iv ev (y)) = false from hy1 c_11) (by rw [q9]; decide)) (fun q9 => ?_)
    refine lv_iconst (v := (nI 1)) hx hb d_r_strength_22 (by decide) ?_
    refine lv_goto (tgt := 27) hx hb d_r_strength_23 (by decide) ?_
    refine nr_top (w := .int (bI true)) rfl ?_
    refine lv_iconst (v := (nI 1)) hx hb d_r_strength_27 (by decide) ?_
    refine WI.callV (wr := []) (rest := []) S (c_r_fails l D cI cJ cZ ad n ev r true 1 (by decide) (by decide)) k_2_118 k_2_120 k_s_20 k_1_2 k_2_121 h_r_fails ⟨Nat.le_of_ble_eq_true rfl, Nat.le_of_ble_eq_true rfl⟩ ⟨Nat.le_of_ble_eq_true rfl, Nat.le_of_ble_eq_true rfl⟩ hP hK hD hS hA [0, 1, 2, 3, 4, 5, 6, 7] [] rfl rfl (by decide) (by decide) (by decide) 0 1 rfl rfl rfl hl.1 (Nat.le_of_ble_eq_true rfl) rfl d_r_strength_28 (fun v9 u9 H locs hv9 hP hD hS => ?_)
    obtain rfl := hv9
    have hP : va_P D cls (rL cI cZ ad (nI 1) n ev r) H := hP
    have hD : va_D A (rL cI cZ ad (nI 1) n ev r) := hD
    refine nr_ifeq_b (tgt := 38) hx hb d_r_strength_31 (by decide) (fun q9 => nomatch q9) (fun q9 => ?_)
    refine lv_iconst (v := (nI 0)) hx hb d_r_strength_34 (by decide) ?_
    refine lv_goto (tgt := 44) hx hb d_r_strength_35 (by decide) ?_
    exact WI.iret hx hb hr hlocks hK hS d_r_strength_44 () trivial hP hD
set_option maxHeartbeats 4000000 in
set_option maxRecDepth 100000 in
theorem c_r_strongly_ok (l : Launch) (D : va_G) (cI cJ cZ : ClassId) (ad : Nat → Nat) (er : Int32) (n ev : Nat) (r : RA) (hev : ev ≤ 120) (K : Nat) (hKb : K ≤ 120) (c : Nat → Nat) (hc : ∀ j, j < K → r.1 j = nI (c j)) (an : Nat → Nat → Bool) (ha : ∀ j, j < K → ∀ y, y < 120 → r.2.2.2.2.2.1 (120 * j + y) = bI (an j y)) (fk : Nat → Nat → Bool) (hf : ∀ j, j < K → ∀ m, m < 8 → r.2.2.2.2.2.2 (8 * j + m) = bI (fk j m)) (hc8 : ∀ j, j < K → c j < 8) (hn : n ≤ 8) (hevK : ev ≤ K) (x y : Nat) (hx0 : x < ev) (hy0 : y < ev) : WI (S := Unit) l D (tys cI cJ cZ) (rL cI cZ ad er n ev r) (fun _ => rL cI cZ ad 0 n ev r) (fun v _ => v = bI (mn n (sn n an fk c x y))) y_r_strongly b_r_strongly 3 (some .boolean) 4 92 [.ref (ad 0), .int (nI x), .int (nI y)] := by
  refine WI.of (by decide) (Nat.le_of_ble_eq_true rfl) ?_
  intro p9 e9 s9 m args below meth c9 ls A S hr hlocks hA hP hK hD hl
  obtain ⟨hx, hb, hml, hown, htc⟩ := id S
  have hS : va_S A s9.heap s9.heap [] := va_S.rf
  have hl : lv_has ls 3 [(0, .ref (ad 0)), (1, .int (nI x)), (2, .int (nI y))] := hl
  refine lv_aload_n hx hb d_r_strongly_0 rfl (lv_at hl 0 rfl) ?_
  refine lv_iconst (v := (nI 0)) hx hb d_r_strongly_1 (by decide) ?_
  refine va_put (D := D) (ci := 1) (v := .int (nI 0)) (ty := .int) (C := "SightGraphModel") (T := T_r) (N := 10) hx hb htc in_r t_r ft_r fn_r hown hK hP hD hS 0 rfl rfl 0 (by decide) (htc _ k_2_73) (fun _ h9 => h9) rfl (by decide +kernel) rfl rfl (Nat.le_of_ble_eq_true rfl) d_r_strongly_2 (fun H locs hP hD hS => ?_)
  have hP : va_P D cls (rL cI cZ ad (nI 0) n ev r) H := hP
  have hD : va_D A (rL cI cZ ad (nI 0) n ev r) := hD
  refine lv_aload_n hx hb d_r_strongly_5 rfl (lv_at hl 0 rfl) ?_
  refine lv_aload_n hx hb d_r_strongly_6 rfl (lv_at hl 0 rfl) ?_
  refine lv_iload_n hx hb d_r_strongly_7 rfl (lv_at hl 1 rfl) ?_
  refine PM.callV (rest := [.ref (ad 0)]) S (c_r_isEvent l D cI cJ cZ ad (nI 0) n ev r (by omega) (nI x)) k_2_126 k_2_128 k_s_21 k_1_2 k_2_129 h_r_isEvent ⟨Nat.le_of_ble_eq_true rfl, Nat.le_of_ble_eq_true rfl⟩ ⟨Nat.le_of_ble_eq_true rfl, Nat.le_of_ble_eq_true rfl⟩ hP hK 0 1 rfl rfl rfl hl.1 (Nat.le_of_ble_eq_true rfl) rfl d_r_strongly_8 ?_
  refine nr_ifeq_b (tgt := 22) hx hb d_r_strongly_11 (by decide) (fun q9 => absurd (show (iv ev (nI x)) = true from iv_t hx0 hev) (by rw [q9]; decide)) (fun q9 => ?_)
  refine lv_aload_n hx hb d_r_strongly_14 rfl (lv_at hl 0 rfl) ?_
  refine lv_iload_n hx hb d_r_strongly_15 rfl (lv_at hl 2 rfl) ?_
  refine PM.callV (rest := [.ref (ad 0)]) S (c_r_isEvent l D cI cJ cZ ad (nI 0) n ev r (by omega) (nI y)) k_2_126 k_2_128 k_s_21 k_1_2 k_2_129 h_r_isEvent ⟨Nat.le_of_ble_eq_true rfl, Nat.le_of_ble_eq_true rfl⟩ ⟨Nat.le_of_ble_eq_true rfl, Nat.le_of_ble_eq_true rfl⟩ hP hK 0 1 rfl rfl rfl hl.1 (Nat.le_of_ble_eq_true rfl) rfl d_r_strongly_16 ?_
  refine nr_ifne_b (tgt := 26) hx hb d_r_strongly_19 (by decide) (fun q9 => ?_) (fun q9 => absurd (show (iv ev (nI y)) = true from iv_t hy0 hev) (by rw [q9]; decide))
  refine lv_iconst (v := (nI 0)) hx hb d_r_strongly_26 (by decide) ?_
  refine nr_top (w := .int (bI false)) rfl ?_
  refine lv_iconst (v := (nI 1)) hx hb d_r_strongly_27 (by decide) ?_
  refine WI.callV (wr := []) (rest := []) S (c_r_fails l D cI cJ cZ ad n ev r false 1 (by decide) (by decide)) k_2_118 k_2_120 k_s_20 k_1_2 k_2_121 h_r_fails ⟨Nat.le_of_ble_eq_true rfl, Nat.le_of_ble_eq_true rfl⟩ ⟨Nat.le_of_ble_eq_true rfl, Nat.le_of_ble_eq_true rfl⟩ hP hK hD hS hA [0, 1, 2, 3, 4, 5, 6, 7] [] rfl rfl (by decide) (by decide) (by decide) 0 1 rfl rfl rfl hl.1 (Nat.le_of_ble_eq_true rfl) rfl d_r_strongly_28 (fun v9 u9 H locs hv9 hP hD hS => ?_)
  obtain rfl := hv9
  have hP : va_P D cls (rL cI cZ ad 0 n ev r) H := hP
  have hD : va_D A (rL cI cZ ad 0 n ev r) := hD
  refine nr_ifne_b (tgt := 47) hx hb d_r_strongly_31 (by decide) (fun q9 => nomatch q9) (fun q9 => ?_)
  refine lv_aload_n hx hb d_r_strongly_34 rfl (lv_at hl 0 rfl) ?_
  refine lv_iload_n hx hb d_r_strongly_35 rfl (lv_at hl 1 rfl) ?_
  refine lv_iload_n hx hb d_r_strongly_36 rfl (lv_at hl 2 rfl) ?_
  refine PM.callV (rest := []) S (c_r_isStrong l D cI cJ cZ ad 0 n ev r K hKb c hc an ha fk hf hc8 hn x y (by omega) (by omega)) k_2_151 k_2_153 k_s_27 k_1_2 k_2_154 h_r_isStrong ⟨Nat.le_of_ble_eq_true rfl, Nat.le_of_ble_eq_true rfl⟩ ⟨Nat.le_of_ble_eq_true rfl, Nat.le_of_ble_eq_true rfl⟩ hP hK 0 1 rfl rfl rfl hl.1 (Nat.le_of_ble_eq_true rfl) rfl d_r_strongly_37 ?_
  refine nr_ifeq_b (tgt := 47) hx hb d_r_strongly_40 (by decide) (fun c_40 => ?_) (fun c_40 => ?_)
  · refine lv_iconst (v := (nI 0)) hx hb d_r_strongly_47 (by decide) ?_
    refine nr_top (w := .int (bI false)) rfl ?_
    exact WI.zret hx hb hr hlocks hK hS d_r_strongly_48 () (by rw [c_40]) hP hD
  · refine lv_iconst (v := (nI 1)) hx hb d_r_strongly_43 (by decide) ?_
    refine lv_goto (tgt := 48) hx hb d_r_strongly_44 (by decide) ?_
    refine nr_top (w := .int (bI true)) rfl ?_
    exact WI.zret hx hb hr hlocks hK hS d_r_strongly_48 () (by rw [c_40]) hP hD
set_option maxHeartbeats 4000000 in
set_option maxRecDepth 100000 in
theorem c_r_strongly_x (l : Launch) (D : va_G) (cI cJ cZ : ClassId) (ad : Nat → Nat) (er : Int32) (n ev : Nat) (r : RA) (hev : ev ≤ 120) (x y : Int32) (hy1 : iv ev x = true → iv ev y = false) : WI (S := Unit) l D (tys cI cJ cZ) (rL cI cZ ad er n ev r) (fun _ => rL cI cZ ad (nI 1) n ev r) (fun _ _ => True) y_r_strongly b_r_strongly 3 (some .boolean) 2 50 [.ref (ad 0), .int x, .int y] := by
  refine WI.of (by decide) (Nat.le_of_ble_eq_true rfl) ?_
  intro p9 e9 s9 m args below meth c9 ls A S hr hlocks hA hP hK hD hl
  obtain ⟨hx, hb, hml, hown, htc⟩ := id S
  have hS : va_S A s9.heap s9.heap [] := va_S.rf
  have hl : lv_has ls 3 [(0, .ref (ad 0)), (1, .int x), (2, .int y)] := hl
  refine lv_aload_n hx hb d_r_strongly_0 rfl (lv_at hl 0 rfl) ?_
  refine lv_iconst (v := (nI 0)) hx hb d_r_strongly_1 (by decide) ?_
  refine va_put (D := D) (ci := 1) (v := .int (nI 0)) (ty := .int) (C := "SightGraphModel") (T := T_r) (N := 10) hx hb htc in_r t_r ft_r fn_r hown hK hP hD hS 0 rfl rfl 0 (by decide) (htc _ k_2_73) (fun _ h9 => h9) rfl (by decide +kernel) rfl rfl (Nat.le_of_ble_eq_true rfl) d_r_strongly_2 (fun H locs hP hD hS => ?_)
  have hP : va_P D cls (rL cI cZ ad (nI 0) n ev r) H := hP
  have hD : va_D A (rL cI cZ ad (nI 0) n ev r) := hD
  refine lv_aload_n hx hb d_r_strongly_5 rfl (lv_at hl 0 rfl) ?_
  refine lv_aload_n hx hb d_r_strongly_6 rfl (lv_at hl 0 rfl) ?_
  refine lv_iload_n hx hb d_r_strongly_7 rfl (lv_at hl 1 rfl) ?_
  refine PM.callV (rest := [.ref (ad 0)]) S (c_r_isEvent l D cI cJ cZ ad (nI 0) n ev r (by omega) (x)) k_2_126 k_2_128 k_s_21 k_1_2 k_2_129 h_r_isEvent ⟨Nat.le_of_ble_eq_true rfl, Nat.le_of_ble_eq_true rfl⟩ ⟨Nat.le_of_ble_eq_true rfl, Nat.le_of_ble_eq_true rfl⟩ hP hK 0 1 rfl rfl rfl hl.1 (Nat.le_of_ble_eq_true rfl) rfl d_r_strongly_8 ?_
  refine nr_ifeq_b (tgt := 22) hx hb d_r_strongly_11 (by decide) (fun c_11 => ?_) (fun c_11 => ?_)
  · refine lv_iconst (v := (nI 1)) hx hb d_r_strongly_22 (by decide) ?_
    refine lv_goto (tgt := 27) hx hb d_r_strongly_23 (by decide) ?_
    refine nr_top (w := .int (bI true)) rfl ?_
    refine lv_iconst (v := (nI 1)) hx hb d_r_strongly_27 (by decide) ?_
    refine WI.callV (wr := []) (rest := []) S (c_r_fails l D cI cJ cZ ad n ev r true 1 (by decide) (by decide)) k_2_118 k_2_120 k_s_20 k_1_2 k_2_121 h_r_fails ⟨Nat.le_of_ble_eq_true rfl, Nat.le_of_ble_eq_true rfl⟩ ⟨Nat.le_of_ble_eq_true rfl, Nat.le_of_ble_eq_true rfl⟩ hP hK hD hS hA [0, 1, 2, 3, 4, 5, 6, 7] [] rfl rfl (by decide) (by decide) (by decide) 0 1 rfl rfl rfl hl.1 (Nat.le_of_ble_eq_true rfl) rfl d_r_strongly_28 (fun v9 u9 H locs hv9 hP hD hS => ?_)
    obtain rfl := hv9
    have hP : va_P D cls (rL cI cZ ad (nI 1) n ev r) H := hP
    have hD : va_D A (rL cI cZ ad (nI 1) n ev r) := hD
    refine nr_ifne_b (tgt := 47) hx hb d_r_strongly_31 (by decide) (fun q9 => ?_) (fun q9 => nomatch q9)
    refine lv_iconst (v := (nI 0)) hx hb d_r_strongly_47 (by decide) ?_
    refine nr_top (w := .int (bI false)) rfl ?_
    exact WI.zret hx hb hr hlocks hK hS d_r_strongly_48 () trivial hP hD
  · refine lv_aload_n hx hb d_r_strongly_14 rfl (lv_at hl 0 rfl) ?_
    refine lv_iload_n hx hb d_r_strongly_15 rfl (lv_at hl 2 rfl) ?_
    refine PM.callV (rest := [.ref (ad 0)]) S (c_r_isEvent l D cI cJ cZ ad (nI 0) n ev r (by omega) (y)) k_2_126 k_2_128 k_s_21 k_1_2 k_2_129 h_r_isEvent ⟨Nat.le_of_ble_eq_true rfl, Nat.le_of_ble_eq_true rfl⟩ ⟨Nat.le_of_ble_eq_true rfl, Nat.le_of_ble_eq_true rfl⟩ hP hK 0 1 rfl rfl rfl hl.1 (Nat.le_of_ble_eq_true rfl) rfl d_r_strongly_16 ?_
    refine nr_ifne_b (tgt := 26) hx hb d_r_strongly_19 (by decide) (fun q9 => absurd (show (iv ev (y)) = false from hy1 c_11) (by rw [q9]; decide)) (fun q9 => ?_)
    refine lv_iconst (v := (nI 1)) hx hb d_r_strongly_22 (by decide) ?_
    refine lv_goto (tgt := 27) hx hb d_r_strongly_23 (by decide) ?_
    refine nr_top (w := .int (bI true)) rfl ?_
    refine lv_iconst (v := (nI 1)) hx hb d_r_strongly_27 (by decide) ?_
    refine WI.callV (wr := []) (rest := []) S (c_r_fails l D cI cJ cZ ad n ev r true 1 (by decide) (by decide)) k_2_118 k_2_120 k_s_20 k_1_2 k_2_121 h_r_fails ⟨Nat.le_of_ble_eq_true rfl, Nat.le_of_ble_eq_true rfl⟩ ⟨Nat.le_of_ble_eq_true rfl, Nat.le_of_ble_eq_true rfl⟩ hP hK hD hS hA [0, 1, 2, 3, 4, 5, 6, 7] [] rfl rfl (by decide) (by decide) (by decide) 0 1 rfl rfl rfl hl.1 (Nat.le_of_ble_eq_true rfl) rfl d_r_strongly_28 (fun v9 u9 H locs hv9 hP hD hS => ?_)
    obtain rfl := hv9
    have hP : va_P D cls (rL cI cZ ad (nI 1) n ev r) H := hP
    have hD : va_D A (rL cI cZ ad (nI 1) n ev r) := hD
    refine nr_ifne_b (tgt := 47) hx hb d_r_strongly_31 (by decide) (fun q9 => ?_) (fun q9 => nomatch q9)
    refine lv_iconst (v := (nI 0)) hx hb d_r_strongly_47 (by decide) ?_
    refine nr_top (w := .int (bI false)) rfl ?_
    exact WI.zret hx hb hr hlocks hK hS d_r_strongly_48 () trivial hP hD
set_option maxHeartbeats 4000000 in
set_option maxRecDepth 100000 in
theorem c_r_round_ok (l : Launch) (D : va_G) (cI cJ cZ : ClassId) (ad : Nat → Nat) (er : Int32) (n ev : Nat) (r : RA) (hev : ev ≤ 120) (rd : Nat → Nat) (KR : Nat) (hKR : KR ≤ 120) (hR : ∀ j, j < KR → r.2.2.2.1 j = nI (rd j) ∧ rd j ≤ j + 1) (hevR : ev ≤ KR) (x : Nat) (hx0 : x < ev) : WI (S := Unit) l D (tys cI cJ cZ) (rL cI cZ ad er n ev r) (fun _ => rL cI cZ ad 0 n ev r) (fun v _ => v = nI (rd x)) y_r_round b_r_round 2 (some .int) 2 50 [.ref (ad 0), .int (nI x)] := by
  refine WI.of (by decide) (Nat.le_of_ble_eq_true rfl) ?_
  intro p9 e9 s9 m args below meth c9 ls A S hr hlocks hA hP hK hD hl
  obtain ⟨hx, hb, hml, hown, htc⟩ := id S
  have hS : va_S A s9.heap s9.heap [] := va_S.rf
  have hl : lv_has ls 2 [(0, .ref (ad 0)), (1, .int (nI x))] := hl
  refine lv_aload_n hx hb d_r_round_0 rfl (lv_at hl 0 rfl) ?_
  refine lv_iconst (v := (nI 0)) hx hb d_r_round_1 (by decide) ?_
  refine va_put (D := D) (ci := 1) (v := .int (nI 0)) (ty := .int) (C := "SightGraphModel") (T := T_r) (N := 10) hx hb htc in_r t_r ft_r fn_r hown hK hP hD hS 0 rfl rfl 0 (by decide) (htc _ k_2_73) (fun _ h9 => h9) rfl (by decide +kernel) rfl rfl (Nat.le_of_ble_eq_true rfl) d_r_round_2 (fun H locs hP hD hS => ?_)
  have hP : va_P D cls (rL cI cZ ad (nI 0) n ev r) H := hP
  have hD : va_D A (rL cI cZ ad (nI 0) n ev r) := hD
  refine lv_aload_n hx hb d_r_round_5 rfl (lv_at hl 0 rfl) ?_
  refine lv_aload_n hx hb d_r_round_6 rfl (lv_at hl 0 rfl) ?_
  refine lv_iload_n hx hb d_r_round_7 rfl (lv_at hl 1 rfl) ?_
  refine PM.callV (rest := [.ref (ad 0)]) S (c_r_isEvent l D cI cJ cZ ad (nI 0) n ev r (by omega) (nI x)) k_2_126 k_2_128 k_s_21 k_1_2 k_2_129 h_r_isEvent ⟨Nat.le_of_ble_eq_true rfl, Nat.le_of_ble_eq_true rfl⟩ ⟨Nat.le_of_ble_eq_true rfl, Nat.le_of_ble_eq_true rfl⟩ hP hK 0 1 rfl rfl rfl hl.1 (Nat.le_of_ble_eq_true rfl) rfl d_r_round_8 ?_
  refine nr_ifne_b (tgt := 18) hx hb d_r_round_11 (by decide) (fun q9 => ?_) (fun q9 => absurd (show (iv ev (nI x)) = true from iv_t hx0 hev) (by rw [q9]; decide))
  refine lv_iconst (v := (nI 0)) hx hb d_r_round_18 (by decide) ?_
  refine nr_top (w := .int (bI false)) rfl ?_
  refine lv_iconst (v := (nI 1)) hx hb d_r_round_19 (by decide) ?_
  refine WI.callV (wr := []) (rest := []) S (c_r_fails l D cI cJ cZ ad n ev r false 1 (by decide) (by decide)) k_2_118 k_2_120 k_s_20 k_1_2 k_2_121 h_r_fails ⟨Nat.le_of_ble_eq_true rfl, Nat.le_of_ble_eq_true rfl⟩ ⟨Nat.le_of_ble_eq_true rfl, Nat.le_of_ble_eq_true rfl⟩ hP hK hD hS hA [0, 1, 2, 3, 4, 5, 6, 7] [] rfl rfl (by decide) (by decide) (by decide) 0 1 rfl rfl rfl hl.1 (Nat.le_of_ble_eq_true rfl) rfl d_r_round_20 (fun v9 u9 H locs hv9 hP hD hS => ?_)
  obtain rfl := hv9
  have hP : va_P D cls (rL cI cZ ad 0 n ev r) H := hP
  have hD : va_D A (rL cI cZ ad 0 n ev r) := hD
  refine nr_ifeq_b (tgt := 30) hx hb d_r_round_23 (by decide) (fun q9 => ?_) (fun q9 => nomatch q9)
  refine lv_aload_n hx hb d_r_round_30 rfl (lv_at hl 0 rfl) ?_
  refine va_get (D := D) (ci := 1) (v := .ref (ad 4)) (C := "SightGraphModel") (T := T_r) (N := 10) hx hb htc in_r hown hK hP 0 rfl rfl 6 (by decide) (htc _ k_2_79) (fun _ h9 => h9) rfl d_r_round_31 ?_
  refine lv_iload_n hx hb d_r_round_34 rfl (lv_at hl 1 rfl) ?_
  refine nr_iald hx hb hK hP 4 0 rfl rfl (by omega) (by decide) (v := (nI (rd x))) (hR x (by omega)).1 d_r_round_35 ?_
  exact WI.iret hx hb hr hlocks hK hS d_r_round_36 () rfl hP hD
set_option maxHeartbeats 4000000 in
set_option maxRecDepth 100000 in
theorem c_r_round_x (l : Launch) (D : va_G) (cI cJ cZ : ClassId) (ad : Nat → Nat) (er : Int32) (n ev : Nat) (r : RA) (hev : ev ≤ 120) (x : Int32) (hx1 : iv ev x = false) : WI (S := Unit) l D (tys cI cJ cZ) (rL cI cZ ad er n ev r) (fun _ => rL cI cZ ad (nI 1) n ev r) (fun _ _ => True) y_r_round b_r_round 2 (some .int) 2 50 [.ref (ad 0), .int x] := by
  refine WI.of (by decide) (Nat.le_of_ble_eq_true rfl) ?_
  intro p9 e9 s9 m args below meth c9 ls A S hr hlocks hA hP hK hD hl
  obtain ⟨hx, hb, hml, hown, htc⟩ := id S
  have hS : va_S A s9.heap s9.heap [] := va_S.rf
  have hl : lv_has ls 2 [(0, .ref (ad 0)), (1, .int x)] := hl
  refine lv_aload_n hx hb d_r_round_0 rfl (lv_at hl 0 rfl) ?_
  refine lv_iconst (v := (nI 0)) hx hb d_r_round_1 (by decide) ?_
  refine va_put (D := D) (ci := 1) (v := .int (nI 0)) (ty := .int) (C := "SightGraphModel") (T := T_r) (N := 10) hx hb htc in_r t_r ft_r fn_r hown hK hP hD hS 0 rfl rfl 0 (by decide) (htc _ k_2_73) (fun _ h9 => h9) rfl (by decide +kernel) rfl rfl (Nat.le_of_ble_eq_true rfl) d_r_round_2 (fun H locs hP hD hS => ?_)
  have hP : va_P D cls (rL cI cZ ad (nI 0) n ev r) H := hP
  have hD : va_D A (rL cI cZ ad (nI 0) n ev r) := hD
  refine lv_aload_n hx hb d_r_round_5 rfl (lv_at hl 0 rfl) ?_
  refine lv_aload_n hx hb d_r_round_6 rfl (lv_at hl 0 rfl) ?_
  refine lv_iload_n hx hb d_r_round_7 rfl (lv_at hl 1 rfl) ?_
  refine PM.callV (rest := [.ref (ad 0)]) S (c_r_isEvent l D cI cJ cZ ad (nI 0) n ev r (by omega) (x)) k_2_126 k_2_128 k_s_21 k_1_2 k_2_129 h_r_isEvent ⟨Nat.le_of_ble_eq_true rfl, Nat.le_of_ble_eq_true rfl⟩ ⟨Nat.le_of_ble_eq_true rfl, Nat.le_of_ble_eq_true rfl⟩ hP hK 0 1 rfl rfl rfl hl.1 (Nat.le_of_ble_eq_true rfl) rfl d_r_round_8 ?_
  refine nr_ifne_b (tgt := 18) hx hb d_r_round_11 (by decide) (fun q9 => absurd (show (iv ev (x)) = false from hx1) (by rw [q9]; decide)) (fun q9 => ?_)
  refine lv_iconst (v := (nI 1)) hx hb d_r_round_14 (by decide) ?_
  refine lv_goto (tgt := 19) hx hb d_r_round_15 (by decide) ?_
  refine nr_top (w := .int (bI true)) rfl ?_
  refine lv_iconst (v := (nI 1)) hx hb d_r_round_19 (by decide) ?_
  refine WI.callV (wr := []) (rest := []) S (c_r_fails l D cI cJ cZ ad n ev r true 1 (by decide) (by decide)) k_2_118 k_2_120 k_s_20 k_1_2 k_2_121 h_r_fails ⟨Nat.le_of_ble_eq_true rfl, Nat.le_of_ble_eq_true rfl⟩ ⟨Nat.le_of_ble_eq_true rfl, Nat.le_of_ble_eq_true rfl⟩ hP hK hD hS hA [0, 1, 2, 3, 4, 5, 6, 7] [] rfl rfl (by decide) (by decide) (by decide) 0 1 rfl rfl rfl hl.1 (Nat.le_of_ble_eq_true rfl) rfl d_r_round_20 (fun v9 u9 H locs hv9 hP hD hS => ?_)
  obtain rfl := hv9
  have hP : va_P D cls (rL cI cZ ad (nI 1) n ev r) H := hP
  have hD : va_D A (rL cI cZ ad (nI 1) n ev r) := hD
  refine nr_ifeq_b (tgt := 30) hx hb d_r_round_23 (by decide) (fun q9 => nomatch q9) (fun q9 => ?_)
  refine lv_iconst (v := (nI 0)) hx hb d_r_round_26 (by decide) ?_
  refine lv_goto (tgt := 36) hx hb d_r_round_27 (by decide) ?_
  exact WI.iret hx hb hr hlocks hK hS d_r_round_36 () trivial hP hD
set_option maxHeartbeats 4000000 in
set_option maxRecDepth 100000 in
theorem c_r_witness_ok (l : Launch) (D : va_G) (cI cJ cZ : ClassId) (ad : Nat → Nat) (er : Int32) (n ev : Nat) (r : RA) (hev : ev ≤ 120) (K : Nat) (hKb : K ≤ 120) (s : Nat → Nat) (hs : ∀ j, j < K → r.2.1 j = mI (s j)) (rd : Nat → Nat) (KR : Nat) (hKR : KR ≤ 120) (hR : ∀ j, j < KR → r.2.2.2.1 j = nI (rd j) ∧ rd j ≤ j + 1) (hevK : ev ≤ K) (hevR : ev ≤ KR) (hsx : ∀ i, i < K → s i ≤ i) (x : Nat) (hx0 : x < ev) : WI (S := Unit) l D (tys cI cJ cZ) (rL cI cZ ad er n ev r) (fun _ => rL cI cZ ad 0 n ev r) (fun v _ => v = bI (wi s rd x)) y_r_witness b_r_witness 2 (some .boolean) 2 50 [.ref (ad 0), .int (nI x)] := by
  refine WI.of (by decide) (Nat.le_of_ble_eq_true rfl) ?_
  intro p9 e9 s9 m args below meth c9 ls A S hr hlocks hA hP hK hD hl
  obtain ⟨hx, hb, hml, hown, htc⟩ := id S
  have hS : va_S A s9.heap s9.heap [] := va_S.rf
  have hl : lv_has ls 2 [(0, .ref (ad 0)), (1, .int (nI x))] := hl
  refine lv_aload_n hx hb d_r_witness_0 rfl (lv_at hl 0 rfl) ?_
  refine lv_iconst (v := (nI 0)) hx hb d_r_witness_1 (by decide) ?_
  refine va_put (D := D) (ci := 1) (v := .int (nI 0)) (ty := .int) (C := "SightGraphModel") (T := T_r) (N := 10) hx hb htc in_r t_r ft_r fn_r hown hK hP hD hS 0 rfl rfl 0 (by decide) (htc _ k_2_73) (fun _ h9 => h9) rfl (by decide +kernel) rfl rfl (Nat.le_of_ble_eq_true rfl) d_r_witness_2 (fun H locs hP hD hS => ?_)
  have hP : va_P D cls (rL cI cZ ad (nI 0) n ev r) H := hP
  have hD : va_D A (rL cI cZ ad (nI 0) n ev r) := hD
  refine lv_aload_n hx hb d_r_witness_5 rfl (lv_at hl 0 rfl) ?_
  refine lv_aload_n hx hb d_r_witness_6 rfl (lv_at hl 0 rfl) ?_
  refine lv_iload_n hx hb d_r_witness_7 rfl (lv_at hl 1 rfl) ?_
  refine PM.callV (rest := [.ref (ad 0)]) S (c_r_isEvent l D cI cJ cZ ad (nI 0) n ev r (by omega) (nI x)) k_2_126 k_2_128 k_s_21 k_1_2 k_2_129 h_r_isEvent ⟨Nat.le_of_ble_eq_true rfl, Nat.le_of_ble_eq_true rfl⟩ ⟨Nat.le_of_ble_eq_true rfl, Nat.le_of_ble_eq_true rfl⟩ hP hK 0 1 rfl rfl rfl hl.1 (Nat.le_of_ble_eq_true rfl) rfl d_r_witness_8 ?_
  refine nr_ifne_b (tgt := 18) hx hb d_r_witness_11 (by decide) (fun q9 => ?_) (fun q9 => absurd (show (iv ev (nI x)) = true from iv_t hx0 hev) (by rw [q9]; decide))
  refine lv_iconst (v := (nI 0)) hx hb d_r_witness_18 (by decide) ?_
  refine nr_top (w := .int (bI false)) rfl ?_
  refine lv_iconst (v := (nI 1)) hx hb d_r_witness_19 (by decide) ?_
  refine WI.callV (wr := []) (rest := []) S (c_r_fails l D cI cJ cZ ad n ev r false 1 (by decide) (by decide)) k_2_118 k_2_120 k_s_20 k_1_2 k_2_121 h_r_fails ⟨Nat.le_of_ble_eq_true rfl, Nat.le_of_ble_eq_true rfl⟩ ⟨Nat.le_of_ble_eq_true rfl, Nat.le_of_ble_eq_true rfl⟩ hP hK hD hS hA [0, 1, 2, 3, 4, 5, 6, 7] [] rfl rfl (by decide) (by decide) (by decide) 0 1 rfl rfl rfl hl.1 (Nat.le_of_ble_eq_true rfl) rfl d_r_witness_20 (fun v9 u9 H locs hv9 hP hD hS => ?_)
  obtain rfl := hv9
  have hP : va_P D cls (rL cI cZ ad 0 n ev r) H := hP
  have hD : va_D A (rL cI cZ ad 0 n ev r) := hD
  refine nr_ifne_b (tgt := 38) hx hb d_r_witness_23 (by decide) (fun q9 => nomatch q9) (fun q9 => ?_)
  refine lv_aload_n hx hb d_r_witness_26 rfl (lv_at hl 0 rfl) ?_
  refine lv_iload_n hx hb d_r_witness_27 rfl (lv_at hl 1 rfl) ?_
  refine PM.callV (rest := []) S (c_r_isWitness l D cI cJ cZ ad 0 n ev r K hKb s hs rd KR hKR hR x (by omega) (by omega) (hsx x (by omega))) k_2_147 k_2_149 k_s_26 k_1_2 k_2_150 h_r_isWitness ⟨Nat.le_of_ble_eq_true rfl, Nat.le_of_ble_eq_true rfl⟩ ⟨Nat.le_of_ble_eq_true rfl, Nat.le_of_ble_eq_true rfl⟩ hP hK 0 1 rfl rfl rfl hl.1 (Nat.le_of_ble_eq_true rfl) rfl d_r_witness_28 ?_
  refine nr_ifeq_b (tgt := 38) hx hb d_r_witness_31 (by decide) (fun c_31 => ?_) (fun c_31 => ?_)
  · refine lv_iconst (v := (nI 0)) hx hb d_r_witness_38 (by decide) ?_
    refine nr_top (w := .int (bI false)) rfl ?_
    exact WI.zret hx hb hr hlocks hK hS d_r_witness_39 () (by rw [c_31]) hP hD
  · refine lv_iconst (v := (nI 1)) hx hb d_r_witness_34 (by decide) ?_
    refine lv_goto (tgt := 39) hx hb d_r_witness_35 (by decide) ?_
    refine nr_top (w := .int (bI true)) rfl ?_
    exact WI.zret hx hb hr hlocks hK hS d_r_witness_39 () (by rw [c_31]) hP hD
set_option maxHeartbeats 4000000 in
set_option maxRecDepth 100000 in
theorem c_r_witness_x (l : Launch) (D : va_G) (cI cJ cZ : ClassId) (ad : Nat → Nat) (er : Int32) (n ev : Nat) (r : RA) (hev : ev ≤ 120) (x : Int32) (hx1 : iv ev x = false) : WI (S := Unit) l D (tys cI cJ cZ) (rL cI cZ ad er n ev r) (fun _ => rL cI cZ ad (nI 1) n ev r) (fun _ _ => True) y_r_witness b_r_witness 2 (some .boolean) 2 50 [.ref (ad 0), .int x] := by
  refine WI.of (by decide) (Nat.le_of_ble_eq_true rfl) ?_
  intro p9 e9 s9 m args below meth c9 ls A S hr hlocks hA hP hK hD hl
  obtain ⟨hx, hb, hml, hown, htc⟩ := id S
  have hS : va_S A s9.heap s9.heap [] := va_S.rf
  have hl : lv_has ls 2 [(0, .ref (ad 0)), (1, .int x)] := hl
  refine lv_aload_n hx hb d_r_witness_0 rfl (lv_at hl 0 rfl) ?_
  refine lv_iconst (v := (nI 0)) hx hb d_r_witness_1 (by decide) ?_
  refine va_put (D := D) (ci := 1) (v := .int (nI 0)) (ty := .int) (C := "SightGraphModel") (T := T_r) (N := 10) hx hb htc in_r t_r ft_r fn_r hown hK hP hD hS 0 rfl rfl 0 (by decide) (htc _ k_2_73) (fun _ h9 => h9) rfl (by decide +kernel) rfl rfl (Nat.le_of_ble_eq_true rfl) d_r_witness_2 (fun H locs hP hD hS => ?_)
  have hP : va_P D cls (rL cI cZ ad (nI 0) n ev r) H := hP
  have hD : va_D A (rL cI cZ ad (nI 0) n ev r) := hD
  refine lv_aload_n hx hb d_r_witness_5 rfl (lv_at hl 0 rfl) ?_
  refine lv_aload_n hx hb d_r_witness_6 rfl (lv_at hl 0 rfl) ?_
  refine lv_iload_n hx hb d_r_witness_7 rfl (lv_at hl 1 rfl) ?_
  refine PM.callV (rest := [.ref (ad 0)]) S (c_r_isEvent l D cI cJ cZ ad (nI 0) n ev r (by omega) (x)) k_2_126 k_2_128 k_s_21 k_1_2 k_2_129 h_r_isEvent ⟨Nat.le_of_ble_eq_true rfl, Nat.le_of_ble_eq_true rfl⟩ ⟨Nat.le_of_ble_eq_true rfl, Nat.le_of_ble_eq_true rfl⟩ hP hK 0 1 rfl rfl rfl hl.1 (Nat.le_of_ble_eq_true rfl) rfl d_r_witness_8 ?_
  refine nr_ifne_b (tgt := 18) hx hb d_r_witness_11 (by decide) (fun q9 => absurd (show (iv ev (x)) = false from hx1) (by rw [q9]; decide)) (fun q9 => ?_)
  refine lv_iconst (v := (nI 1)) hx hb d_r_witness_14 (by decide) ?_
  refine lv_goto (tgt := 19) hx hb d_r_witness_15 (by decide) ?_
  refine nr_top (w := .int (bI true)) rfl ?_
  refine lv_iconst (v := (nI 1)) hx hb d_r_witness_19 (by decide) ?_
  refine WI.callV (wr := []) (rest := []) S (c_r_fails l D cI cJ cZ ad n ev r true 1 (by decide) (by decide)) k_2_118 k_2_120 k_s_20 k_1_2 k_2_121 h_r_fails ⟨Nat.le_of_ble_eq_true rfl, Nat.le_of_ble_eq_true rfl⟩ ⟨Nat.le_of_ble_eq_true rfl, Nat.le_of_ble_eq_true rfl⟩ hP hK hD hS hA [0, 1, 2, 3, 4, 5, 6, 7] [] rfl rfl (by decide) (by decide) (by decide) 0 1 rfl rfl rfl hl.1 (Nat.le_of_ble_eq_true rfl) rfl d_r_witness_20 (fun v9 u9 H locs hv9 hP hD hS => ?_)
  obtain rfl := hv9
  have hP : va_P D cls (rL cI cZ ad (nI 1) n ev r) H := hP
  have hD : va_D A (rL cI cZ ad (nI 1) n ev r) := hD
  refine nr_ifne_b (tgt := 38) hx hb d_r_witness_23 (by decide) (fun q9 => ?_) (fun q9 => nomatch q9)
  refine lv_iconst (v := (nI 0)) hx hb d_r_witness_38 (by decide) ?_
  refine nr_top (w := .int (bI false)) rfl ?_
  exact WI.zret hx hb hr hlocks hK hS d_r_witness_39 () trivial hP hD
