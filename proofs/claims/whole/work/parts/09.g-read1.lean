set_option maxHeartbeats 4000000 in
set_option maxRecDepth 100000 in
theorem c_g_isEvent (l : Launch) (D : va_G) (cI cJ cZ : ClassId) (ad : Nat → Nat) (n ev : Nat) (g : GA) (x : Int32) : PM l D (tys cI cJ cZ) (gL cI cJ ad n ev g) y_g_isEvent b_g_isEvent 2 (some .boolean) 0 0 [.ref (ad 0), .int x] (bI (iv ev x)) := by
  refine PM.of (by decide) (Nat.le_of_ble_eq_true rfl) ?_
  intro p9 e9 s9 m args below meth c9 ls S hr hlocks hP hK hl
  obtain ⟨hx, hb, hml, hown, htc⟩ := id S
  have hl : lv_has ls 2 [(0, .ref (ad 0)), (1, .int x)] := hl
  refine lv_iload_n hx hb d_g_isEvent_0 rfl (lv_at hl 1 rfl) ?_
  refine lv_if_lt (tgt := 16) hx hb d_g_isEvent_1 (by decide) (fun c_1 => ?_) (fun c_1 => ?_)
  · refine lv_iconst (v := (nI 0)) hx hb d_g_isEvent_16 (by decide) ?_
    refine nr_top (w := .int (bI false)) rfl ?_
    exact PM.zret hx hb hr hlocks d_g_isEvent_17 (by rw [show iv ev x = false from decide_eq_false (fun q => absurd q.1 (by have z := Int32.not_le.mpr c_1; exact z))])
  · refine lv_iload_n hx hb d_g_isEvent_4 rfl (lv_at hl 1 rfl) ?_
    refine lv_aload_n hx hb d_g_isEvent_5 rfl (lv_at hl 0 rfl) ?_
    refine va_get (D := D) (ci := 0) (v := .int (nI ev)) (C := "SightGraph") (T := T_g) (N := 8) hx hb htc in_g hown hK hP 0 rfl rfl 1 (by decide) (htc _ k_1_19) (fun _ h9 => h9) rfl d_g_isEvent_6 ?_
    refine lv_icmp_ge (tgt := 16) hx hb d_g_isEvent_9 (by decide) (fun c_9 => ?_) (fun c_9 => ?_)
    · refine lv_iconst (v := (nI 0)) hx hb d_g_isEvent_16 (by decide) ?_
      refine nr_top (w := .int (bI false)) rfl ?_
      exact PM.zret hx hb hr hlocks d_g_isEvent_17 (by rw [show iv ev x = false from decide_eq_false (fun q => absurd q.2 (Int32.not_lt.mpr c_9))])
    · refine lv_iconst (v := (nI 1)) hx hb d_g_isEvent_12 (by decide) ?_
      refine lv_goto (tgt := 17) hx hb d_g_isEvent_13 (by decide) ?_
      refine nr_top (w := .int (bI true)) rfl ?_
      exact PM.zret hx hb hr hlocks d_g_isEvent_17 (by rw [show iv ev x = true from decide_eq_true ⟨Int32.not_lt.mp c_1, Int32.not_le.mp c_9⟩])
set_option maxHeartbeats 4000000 in
set_option maxRecDepth 100000 in
theorem c_g_isWithin (l : Launch) (D : va_G) (cI cJ cZ : ClassId) (ad : Nat → Nat) (n ev : Nat) (g : GA) (A B e : Nat) (hA : A < 2 ^ 64) (hB : B < 2 ^ 64) (he : e < 128) : PM l D (tys cI cJ cZ) (gL cI cJ ad n ev g) y_g_isWithin b_g_isWithin 7 (some .boolean) 0 0 [.long (lN A), .long (lN B), .int (nI e)] (bI (wt A B e)) := by
  refine PM.of (by decide) (Nat.le_of_ble_eq_true rfl) ?_
  intro p9 e9 s9 m args below meth c9 ls S hr hlocks hP hK hl
  obtain ⟨hx, hb, hml, hown, htc⟩ := id S
  have hl : lv_has ls 7 [(0, .long (lN A)), (2, .long (lN B)), (4, .int (nI e))] := hl
  refine lv_iload hx hb d_g_isWithin_0 (lv_at hl 2 rfl) ?_
  refine lv_bipush (v := (nI 64)) hx hb d_g_isWithin_2 (by decide) ?_
  refine nr_icmp_ge (tgt := 14) hx hb (by omega) (by omega) d_g_isWithin_4 (by decide) (fun c_4 => ?_) (fun c_4 => ?_)
  · refine lv_lload_n hx hb d_g_isWithin_14 rfl (lv_at hl 1 rfl) ?_
    refine lv_iload hx hb d_g_isWithin_15 (lv_at hl 2 rfl) ?_
    refine lv_bipush (v := (nI 64)) hx hb d_g_isWithin_17 (by decide) ?_
    refine nr_isub hx hb d_g_isWithin_19 (by omega) ?_
    refine lv_lushr hx hb d_g_isWithin_20 rfl ?_
    refine nr_top (w := .long (lN (B / 2 ^ (e - 64)))) (congrArg Value.long (wb_shr hB (by omega))) ?_
    refine lv_lstore (lv' := [(5, .long (lN (B / 2 ^ (e - 64)))), (0, .long (lN A)), (2, .long (lN B)), (4, .int (nI e))]) hx hb d_g_isWithin_21 hl (by decide) rfl (fun ls hl => ?_)
    refine lv_lload hx hb d_g_isWithin_23 (lv_at hl 0 rfl) ?_
    refine lv_lconst (v := 1) hx hb d_g_isWithin_25 (by decide) ?_
    refine lv_land hx hb d_g_isWithin_26 ?_
    refine nr_top (w := .long (lN (B / 2 ^ (e - 64) % 2))) (congrArg Value.long (wb_a1 (Nat.lt_of_le_of_lt (Nat.div_le_self _ _) hB))) ?_
    refine lv_lconst (v := 0) hx hb d_g_isWithin_27 (by decide) ?_
    refine W.lcmp hx hb d_g_isWithin_28 ?_
    refine nr_top (w := .int (bI (B.testBit (e - 64)))) (congrArg Value.int (lg_bit _ _)) ?_
    refine nr_ifeq_b (tgt := 36) hx hb d_g_isWithin_29 (by decide) (fun c_29 => ?_) (fun c_29 => ?_)
    · refine lv_iconst (v := (nI 0)) hx hb d_g_isWithin_36 (by decide) ?_
      refine nr_top (w := .int (bI false)) rfl ?_
      exact PM.zret hx hb hr hlocks d_g_isWithin_37 (by rw [show wt A B e = false from by unfold wt; rw [if_neg (by omega)]; exact c_29])
    · refine lv_iconst (v := (nI 1)) hx hb d_g_isWithin_32 (by decide) ?_
      refine lv_goto (tgt := 37) hx hb d_g_isWithin_33 (by decide) ?_
      refine nr_top (w := .int (bI true)) rfl ?_
      exact PM.zret hx hb hr hlocks d_g_isWithin_37 (by rw [show wt A B e = true from by unfold wt; rw [if_neg (by omega)]; exact c_29])
  · refine lv_lload_n hx hb d_g_isWithin_7 rfl (lv_at hl 0 rfl) ?_
    refine lv_iload hx hb d_g_isWithin_8 (lv_at hl 2 rfl) ?_
    refine lv_lushr hx hb d_g_isWithin_10 rfl ?_
    refine lv_goto (tgt := 21) hx hb d_g_isWithin_11 (by decide) ?_
    refine nr_top (w := .long (lN (A / 2 ^ e))) (congrArg Value.long (wb_shr hA (by omega))) ?_
    refine lv_lstore (lv' := [(5, .long (lN (A / 2 ^ e))), (0, .long (lN A)), (2, .long (lN B)), (4, .int (nI e))]) hx hb d_g_isWithin_21 hl (by decide) rfl (fun ls hl => ?_)
    refine lv_lload hx hb d_g_isWithin_23 (lv_at hl 0 rfl) ?_
    refine lv_lconst (v := 1) hx hb d_g_isWithin_25 (by decide) ?_
    refine lv_land hx hb d_g_isWithin_26 ?_
    refine nr_top (w := .long (lN (A / 2 ^ e % 2))) (congrArg Value.long (wb_a1 (Nat.lt_of_le_of_lt (Nat.div_le_self _ _) hA))) ?_
    refine lv_lconst (v := 0) hx hb d_g_isWithin_27 (by decide) ?_
    refine W.lcmp hx hb d_g_isWithin_28 ?_
    refine nr_top (w := .int (bI (A.testBit e))) (congrArg Value.int (lg_bit _ _)) ?_
    refine nr_ifeq_b (tgt := 36) hx hb d_g_isWithin_29 (by decide) (fun c_29 => ?_) (fun c_29 => ?_)
    · refine lv_iconst (v := (nI 0)) hx hb d_g_isWithin_36 (by decide) ?_
      refine nr_top (w := .int (bI false)) rfl ?_
      exact PM.zret hx hb hr hlocks d_g_isWithin_37 (by rw [show wt A B e = false from by unfold wt; rw [if_pos c_4]; exact c_29])
    · refine lv_iconst (v := (nI 1)) hx hb d_g_isWithin_32 (by decide) ?_
      refine lv_goto (tgt := 37) hx hb d_g_isWithin_33 (by decide) ?_
      refine nr_top (w := .int (bI true)) rfl ?_
      exact PM.zret hx hb hr hlocks d_g_isWithin_37 (by rw [show wt A B e = true from by unfold wt; rw [if_pos c_4]; exact c_29])
set_option maxHeartbeats 4000000 in
set_option maxRecDepth 100000 in
theorem c_g_hasBit (l : Launch) (D : va_G) (cI cJ cZ : ClassId) (ad : Nat → Nat) (n ev : Nat) (g : GA) (F e : Nat) (hF : F < 256) (he : e < 8) : PM l D (tys cI cJ cZ) (gL cI cJ ad n ev g) y_g_hasBit b_g_hasBit 2 (some .boolean) 0 0 [.int (nI F), .int (nI e)] (bI (F.testBit e)) := by
  refine PM.of (by decide) (Nat.le_of_ble_eq_true rfl) ?_
  intro p9 e9 s9 m args below meth c9 ls S hr hlocks hP hK hl
  obtain ⟨hx, hb, hml, hown, htc⟩ := id S
  have hl : lv_has ls 2 [(0, .int (nI F)), (1, .int (nI e))] := hl
  refine lv_iload_n hx hb d_g_hasBit_0 rfl (lv_at hl 0 rfl) ?_
  refine lv_iload_n hx hb d_g_hasBit_1 rfl (lv_at hl 1 rfl) ?_
  refine lv_iushr hx hb d_g_hasBit_2 rfl ?_
  refine lv_iconst (v := (nI 1)) hx hb d_g_hasBit_3 (by decide) ?_
  refine lv_iand hx hb d_g_hasBit_4 ?_
  refine nr_top (w := .int (bI (F.testBit e))) (congrArg Value.int (hb_I F hF e he)) ?_
  refine nr_ifeq_b (tgt := 12) hx hb d_g_hasBit_5 (by decide) (fun c_5 => ?_) (fun c_5 => ?_)
  · refine lv_iconst (v := (nI 0)) hx hb d_g_hasBit_12 (by decide) ?_
    refine nr_top (w := .int (bI false)) rfl ?_
    exact PM.zret hx hb hr hlocks d_g_hasBit_13 (by rw [c_5])
  · refine lv_iconst (v := (nI 1)) hx hb d_g_hasBit_8 (by decide) ?_
    refine lv_goto (tgt := 13) hx hb d_g_hasBit_9 (by decide) ?_
    refine nr_top (w := .int (bI true)) rfl ?_
    exact PM.zret hx hb hr hlocks d_g_hasBit_13 (by rw [c_5])
set_option maxHeartbeats 4000000 in
set_option maxRecDepth 100000 in
theorem c_g_hasAncestor (l : Launch) (D : va_G) (cI cJ cZ : ClassId) (ad : Nat → Nat) (n ev : Nat) (g : GA) (c s : Nat → Nat) (an fk : Nat → Nat → Bool) (K : Nat) (hKb : K ≤ 120) (hC : gC K g c s an fk) (x y : Nat) (hx0 : x < K) (hy0 : y < K) : PM l D (tys cI cJ cZ) (gL cI cJ ad n ev g) y_g_hasAncestor b_g_hasAncestor 3 (some .boolean) 1 26 [.ref (ad 0), .int (nI x), .int (nI y)] (bI (an x y)) := by
  refine PM.of (by decide) (Nat.le_of_ble_eq_true rfl) ?_
  intro p9 e9 s9 m args below meth c9 ls S hr hlocks hP hK hl
  obtain ⟨hx, hb, hml, hown, htc⟩ := id S
  have hl : lv_has ls 3 [(0, .ref (ad 0)), (1, .int (nI x)), (2, .int (nI y))] := hl
  refine lv_aload_n hx hb d_g_hasAncestor_0 rfl (lv_at hl 0 rfl) ?_
  refine va_get (D := D) (ci := 0) (v := .ref (ad 5)) (C := "SightGraph") (T := T_g) (N := 8) hx hb htc in_g hown hK hP 0 rfl rfl 6 (by decide) (htc _ k_1_24) (fun _ h9 => h9) rfl d_g_hasAncestor_1 ?_
  refine lv_iload_n hx hb d_g_hasAncestor_4 rfl (lv_at hl 1 rfl) ?_
  refine nr_lald hx hb hK hP 5 1 rfl rfl (by omega) (by decide) (v := (lN (bs (an x) 64))) (hC x (by omega)).2.2.2.1 d_g_hasAncestor_5 ?_
  refine lv_aload_n hx hb d_g_hasAncestor_6 rfl (lv_at hl 0 rfl) ?_
  refine va_get (D := D) (ci := 0) (v := .ref (ad 6)) (C := "SightGraph") (T := T_g) (N := 8) hx hb htc in_g hown hK hP 0 rfl rfl 7 (by decide) (htc _ k_1_25) (fun _ h9 => h9) rfl d_g_hasAncestor_7 ?_
  refine lv_iload_n hx hb d_g_hasAncestor_10 rfl (lv_at hl 1 rfl) ?_
  refine nr_lald hx hb hK hP 6 1 rfl rfl (by omega) (by decide) (v := (lN (bs (fun i => an x (64 + i)) 64))) (hC x (by omega)).2.2.2.2 d_g_hasAncestor_11 ?_
  refine lv_iload_n hx hb d_g_hasAncestor_12 rfl (lv_at hl 2 rfl) ?_
  refine PM.callS (rest := []) S (c_g_isWithin l D cI cJ cZ ad n ev g _ _ y (bs_lt _ 64) (bs_lt _ 64) (by omega)) k_1_179 k_1_180 k_1_1 k_1_181 h_g_isWithin ⟨Nat.le_of_ble_eq_true rfl, Nat.le_of_ble_eq_true rfl⟩ ⟨Nat.le_of_ble_eq_true rfl, Nat.le_of_ble_eq_true rfl⟩ hP hK hl.1 (Nat.le_of_ble_eq_true rfl) rfl d_g_hasAncestor_13 ?_
  exact PM.zret hx hb hr hlocks d_g_hasAncestor_16 (by rw [wt_an (by omega)])
set_option maxHeartbeats 4000000 in
set_option maxRecDepth 100000 in
theorem c_g_hasSight (l : Launch) (D : va_G) (cI cJ cZ : ClassId) (ad : Nat → Nat) (n ev : Nat) (g : GA) (c s : Nat → Nat) (an fk : Nat → Nat → Bool) (K : Nat) (hKb : K ≤ 120) (hC : gC K g c s an fk) (x y : Nat) (hx0 : x < K) (hy0 : y < K) (hcy : c y < 8) : PM l D (tys cI cJ cZ) (gL cI cJ ad n ev g) y_g_hasSight b_g_hasSight 3 (some .boolean) 2 48 [.ref (ad 0), .int (nI x), .int (nI y)] (bI (se an fk c x y)) := by
  refine PM.of (by decide) (Nat.le_of_ble_eq_true rfl) ?_
  intro p9 e9 s9 m args below meth c9 ls S hr hlocks hP hK hl
  obtain ⟨hx, hb, hml, hown, htc⟩ := id S
  have hl : lv_has ls 3 [(0, .ref (ad 0)), (1, .int (nI x)), (2, .int (nI y))] := hl
  refine lv_aload_n hx hb d_g_hasSight_0 rfl (lv_at hl 0 rfl) ?_
  refine lv_iload_n hx hb d_g_hasSight_1 rfl (lv_at hl 1 rfl) ?_
  refine lv_iload_n hx hb d_g_hasSight_2 rfl (lv_at hl 2 rfl) ?_
  refine PM.callV (rest := []) S (c_g_hasAncestor l D cI cJ cZ ad n ev g c s an fk K hKb hC x y hx0 hy0) k_1_209 k_1_211 k_s_15 k_1_1 k_1_212 h_g_hasAncestor ⟨Nat.le_of_ble_eq_true rfl, Nat.le_of_ble_eq_true rfl⟩ ⟨Nat.le_of_ble_eq_true rfl, Nat.le_of_ble_eq_true rfl⟩ hP hK 0 0 rfl rfl rfl hl.1 (Nat.le_of_ble_eq_true rfl) rfl d_g_hasSight_3 ?_
  refine nr_ifeq_b (tgt := 31) hx hb d_g_hasSight_6 (by decide) (fun c_6 => ?_) (fun c_6 => ?_)
  · refine lv_iconst (v := (nI 0)) hx hb d_g_hasSight_31 (by decide) ?_
    refine nr_top (w := .int (bI false)) rfl ?_
    exact PM.zret hx hb hr hlocks d_g_hasSight_32 (by unfold se; rw [c_6]; rfl)
  · refine lv_aload_n hx hb d_g_hasSight_9 rfl (lv_at hl 0 rfl) ?_
    refine va_get (D := D) (ci := 0) (v := .ref (ad 4)) (C := "SightGraph") (T := T_g) (N := 8) hx hb htc in_g hown hK hP 0 rfl rfl 5 (by decide) (htc _ k_1_23) (fun _ h9 => h9) rfl d_g_hasSight_10 ?_
    refine lv_iload_n hx hb d_g_hasSight_13 rfl (lv_at hl 1 rfl) ?_
    refine nr_iald hx hb hK hP 4 0 rfl rfl (by omega) (by decide) (v := (nI (bs (fk x) 8))) (hC x (by omega)).2.2.1 d_g_hasSight_14 ?_
    refine lv_aload_n hx hb d_g_hasSight_15 rfl (lv_at hl 0 rfl) ?_
    refine va_get (D := D) (ci := 0) (v := .ref (ad 1)) (C := "SightGraph") (T := T_g) (N := 8) hx hb htc in_g hown hK hP 0 rfl rfl 2 (by decide) (htc _ k_1_20) (fun _ h9 => h9) rfl d_g_hasSight_16 ?_
    refine lv_iload_n hx hb d_g_hasSight_19 rfl (lv_at hl 2 rfl) ?_
    refine nr_iald hx hb hK hP 1 0 rfl rfl (by omega) (by decide) (v := (nI (c y))) (hC y (by omega)).1 d_g_hasSight_20 ?_
    refine PM.callS (rest := []) S (c_g_hasBit l D cI cJ cZ ad n ev g _ _ (bs_lt _ 8) hcy) k_1_213 k_1_214 k_1_1 k_1_215 h_g_hasBit ⟨Nat.le_of_ble_eq_true rfl, Nat.le_of_ble_eq_true rfl⟩ ⟨Nat.le_of_ble_eq_true rfl, Nat.le_of_ble_eq_true rfl⟩ hP hK hl.1 (Nat.le_of_ble_eq_true rfl) rfl d_g_hasSight_21 ?_
    refine nr_ifne_b (tgt := 31) hx hb d_g_hasSight_24 (by decide) (fun c_24 => ?_) (fun c_24 => ?_)
    · refine lv_iconst (v := (nI 0)) hx hb d_g_hasSight_31 (by decide) ?_
      refine nr_top (w := .int (bI false)) rfl ?_
      exact PM.zret hx hb hr hlocks d_g_hasSight_32 (by have q := c_24; rw [bs_tb] at q; simp [hcy] at q; unfold se; rw [c_6, q]; rfl)
    · refine lv_iconst (v := (nI 1)) hx hb d_g_hasSight_27 (by decide) ?_
      refine lv_goto (tgt := 32) hx hb d_g_hasSight_28 (by decide) ?_
      refine nr_top (w := .int (bI true)) rfl ?_
      exact PM.zret hx hb hr hlocks d_g_hasSight_32 (by have q := c_24; rw [bs_tb] at q; simp [hcy] at q; unfold se; rw [c_6, q]; rfl)
set_option maxHeartbeats 4000000 in
set_option maxRecDepth 100000 in
theorem c_g_isMany (l : Launch) (D : va_G) (cI cJ cZ : ClassId) (ad : Nat → Nat) (n ev : Nat) (g : GA) (k : Nat) (hk : k ≤ 200) (hn : n ≤ 8) : PM l D (tys cI cJ cZ) (gL cI cJ ad n ev g) y_g_isMany b_g_isMany 2 (some .boolean) 0 0 [.ref (ad 0), .int (nI k)] (bI (mn n k)) := by
  refine PM.of (by decide) (Nat.le_of_ble_eq_true rfl) ?_
  intro p9 e9 s9 m args below meth c9 ls S hr hlocks hP hK hl
  obtain ⟨hx, hb, hml, hown, htc⟩ := id S
  have hl : lv_has ls 2 [(0, .ref (ad 0)), (1, .int (nI k))] := hl
  refine lv_iconst (v := (nI 3)) hx hb d_g_isMany_0 (by decide) ?_
  refine lv_iload_n hx hb d_g_isMany_1 rfl (lv_at hl 1 rfl) ?_
  refine nr_imul hx hb d_g_isMany_2 ?_
  refine lv_iconst (v := (nI 2)) hx hb d_g_isMany_3 (by decide) ?_
  refine lv_aload_n hx hb d_g_isMany_4 rfl (lv_at hl 0 rfl) ?_
  refine va_get (D := D) (ci := 0) (v := .int (nI n)) (C := "SightGraph") (T := T_g) (N := 8) hx hb htc in_g hown hK hP 0 rfl rfl 0 (by decide) (htc _ k_1_18) (fun _ h9 => h9) rfl d_g_isMany_5 ?_
  refine nr_imul hx hb d_g_isMany_8 ?_
  refine nr_icmp_le (tgt := 16) hx hb (by omega) (by omega) d_g_isMany_9 (by decide) (fun c_9 => ?_) (fun c_9 => ?_)
  · refine lv_iconst (v := (nI 0)) hx hb d_g_isMany_16 (by decide) ?_
    refine nr_top (w := .int (bI false)) rfl ?_
    exact PM.zret hx hb hr hlocks d_g_isMany_17 (by rw [show mn n k = false from decide_eq_false (by omega)])
  · refine lv_iconst (v := (nI 1)) hx hb d_g_isMany_12 (by decide) ?_
    refine lv_goto (tgt := 17) hx hb d_g_isMany_13 (by decide) ?_
    refine nr_top (w := .int (bI true)) rfl ?_
    exact PM.zret hx hb hr hlocks d_g_isMany_17 (by rw [show mn n k = true from decide_eq_true (by omega)])
set_option maxHeartbeats 4000000 in
set_option maxRecDepth 100000 in
theorem c_g_opensRound (l : Launch) (D : va_G) (cI cJ cZ : ClassId) (ad : Nat → Nat) (n ev : Nat) (g : GA) (c s : Nat → Nat) (an fk : Nat → Nat → Bool) (K : Nat) (hKb : K ≤ 120) (hC : gC K g c s an fk) (rd : Nat → Nat) (KR : Nat) (hKR : KR ≤ 120) (hR : gR KR g rd) (x : Nat) (hx0 : x < K) (hxR : x < KR) (hsx : s x ≤ x) : PM l D (tys cI cJ cZ) (gL cI cJ ad n ev g) y_g_opensRound b_g_opensRound 3 (some .boolean) 0 0 [.ref (ad 0), .int (nI x)] (bI (wi s rd x)) := by
  refine PM.of (by decide) (Nat.le_of_ble_eq_true rfl) ?_
  intro p9 e9 s9 m args below meth c9 ls S hr hlocks hP hK hl
  obtain ⟨hx, hb, hml, hown, htc⟩ := id S
  have hl : lv_has ls 3 [(0, .ref (ad 0)), (1, .int (nI x))] := hl
  refine lv_aload_n hx hb d_g_opensRound_0 rfl (lv_at hl 0 rfl) ?_
  refine va_get (D := D) (ci := 0) (v := .ref (ad 2)) (C := "SightGraph") (T := T_g) (N := 8) hx hb htc in_g hown hK hP 0 rfl rfl 3 (by decide) (htc _ k_1_21) (fun _ h9 => h9) rfl d_g_opensRound_1 ?_
  refine lv_iload_n hx hb d_g_opensRound_4 rfl (lv_at hl 1 rfl) ?_
  refine nr_iald hx hb hK hP 2 0 rfl rfl (by omega) (by decide) (v := (mI (s x))) (hC x (by omega)).2.1 d_g_opensRound_5 ?_
  refine lv_istore_n (lv' := [(2, .int (mI (s x))), (0, .ref (ad 0)), (1, .int (nI x))]) hx hb d_g_opensRound_6 rfl hl (by decide) rfl (fun ls hl => ?_)
  refine lv_iload_n hx hb d_g_opensRound_7 rfl (lv_at hl 0 rfl) ?_
  refine lv_iconst (v := (-1)) hx hb d_g_opensRound_8 (by decide) ?_
  refine lv_icmp_eq (tgt := 27) hx hb d_g_opensRound_9 (by decide) (fun c_9 => ?_) (fun c_9 => ?_)
  · refine lv_iconst (v := (nI 1)) hx hb d_g_opensRound_27 (by decide) ?_
    refine lv_goto (tgt := 32) hx hb d_g_opensRound_28 (by decide) ?_
    refine nr_top (w := .int (bI true)) rfl ?_
    exact PM.zret hx hb hr hlocks d_g_opensRound_32 (by unfold wi; rw [show s x = 0 from (mI_m1 (by omega)).mp c_9]; rfl)
  · have hs1 : s x = (s x - 1) + 1 := by have q : s x ≠ 0 := fun z => c_9 (by rw [z]; rfl); omega
    have hl : lv_has ls 3 [(2, .int (nI (s x - 1))), (0, .ref (ad 0)), (1, .int (nI x))] := by rw [hs1] at hl; exact hl
    have hb9 := (hR (s x - 1) (by omega)).2
    have hb8 := (hR x (by omega)).2
    refine lv_aload_n hx hb d_g_opensRound_12 rfl (lv_at hl 1 rfl) ?_
    refine va_get (D := D) (ci := 0) (v := .ref (ad 3)) (C := "SightGraph") (T := T_g) (N := 8) hx hb htc in_g hown hK hP 0 rfl rfl 4 (by decide) (htc _ k_1_22) (fun _ h9 => h9) rfl d_g_opensRound_13 ?_
    refine lv_iload_n hx hb d_g_opensRound_16 rfl (lv_at hl 0 rfl) ?_
    refine nr_iald hx hb hK hP 3 0 rfl rfl (by omega) (by decide) (v := (nI (rd (s x - 1)))) (hR (s x - 1) (by omega)).1 d_g_opensRound_17 ?_
    refine lv_aload_n hx hb d_g_opensRound_18 rfl (lv_at hl 1 rfl) ?_
    refine va_get (D := D) (ci := 0) (v := .ref (ad 3)) (C := "SightGraph") (T := T_g) (N := 8) hx hb htc in_g hown hK hP 0 rfl rfl 4 (by decide) (htc _ k_1_22) (fun _ h9 => h9) rfl d_g_opensRound_19 ?_
    refine lv_iload_n hx hb d_g_opensRound_22 rfl (lv_at hl 2 rfl) ?_
    refine nr_iald hx hb hK hP 3 0 rfl rfl (by omega) (by decide) (v := (nI (rd x))) (hR x (by omega)).1 d_g_opensRound_23 ?_
    refine nr_icmp_ge (tgt := 31) hx hb (by omega) (by omega) d_g_opensRound_24 (by decide) (fun c_24 => ?_) (fun c_24 => ?_)
    · refine lv_iconst (v := (nI 0)) hx hb d_g_opensRound_31 (by decide) ?_
      refine nr_top (w := .int (bI false)) rfl ?_
      exact PM.zret hx hb hr hlocks d_g_opensRound_32 (by unfold wi; rw [show (s x == 0) = false from by simp; omega, show decide (rd (s x - 1) < rd x) = false from decide_eq_false (by omega)]; rfl)
    · refine lv_iconst (v := (nI 1)) hx hb d_g_opensRound_27 (by decide) ?_
      refine lv_goto (tgt := 32) hx hb d_g_opensRound_28 (by decide) ?_
      refine nr_top (w := .int (bI true)) rfl ?_
      exact PM.zret hx hb hr hlocks d_g_opensRound_32 (by unfold wi; rw [show (s x == 0) = false from by simp; omega, show decide (rd (s x - 1) < rd x) = true from decide_eq_true (by omega)]; rfl)
set_option maxHeartbeats 4000000 in
set_option maxRecDepth 100000 in
theorem c_g_roundOfParent (l : Launch) (D : va_G) (cI cJ cZ : ClassId) (ad : Nat → Nat) (n ev : Nat) (g : GA) (rd : Nat → Nat) (KR : Nat) (hKR : KR ≤ 120) (hR : gR KR g rd) (t : Nat) (htR : t ≤ KR) : PM l D (tys cI cJ cZ) (gL cI cJ ad n ev g) y_g_roundOfParent b_g_roundOfParent 2 (some .int) 0 0 [.ref (ad 0), .int (mI t)] (nI (pr rd t)) := by
  refine PM.of (by decide) (Nat.le_of_ble_eq_true rfl) ?_
  intro p9 e9 s9 m args below meth c9 ls S hr hlocks hP hK hl
  obtain ⟨hx, hb, hml, hown, htc⟩ := id S
  have hl : lv_has ls 2 [(0, .ref (ad 0)), (1, .int (mI t))] := hl
  refine lv_iload_n hx hb d_g_roundOfParent_0 rfl (lv_at hl 1 rfl) ?_
  refine lv_iconst (v := (-1)) hx hb d_g_roundOfParent_1 (by decide) ?_
  refine lv_icmp_ne (tgt := 9) hx hb d_g_roundOfParent_2 (by decide) (fun c_2 => ?_) (fun c_2 => ?_)
  · have ht1 : t = (t - 1) + 1 := by have q : t ≠ 0 := fun z => c_2 (by rw [z]; rfl); omega
    have hl : lv_has ls 2 [(0, .ref (ad 0)), (1, .int (nI (t - 1)))] := by rw [ht1] at hl; exact hl
    refine lv_aload_n hx hb d_g_roundOfParent_9 rfl (lv_at hl 0 rfl) ?_
    refine va_get (D := D) (ci := 0) (v := .ref (ad 3)) (C := "SightGraph") (T := T_g) (N := 8) hx hb htc in_g hown hK hP 0 rfl rfl 4 (by decide) (htc _ k_1_22) (fun _ h9 => h9) rfl d_g_roundOfParent_10 ?_
    refine lv_iload_n hx hb d_g_roundOfParent_13 rfl (lv_at hl 1 rfl) ?_
    refine nr_iald hx hb hK hP 3 0 rfl rfl (by omega) (by decide) (v := (nI (rd (t - 1)))) (hR (t - 1) (by omega)).1 d_g_roundOfParent_14 ?_
    exact PM.iret hx hb hr hlocks d_g_roundOfParent_15 (by unfold pr; rw [if_neg (show ¬ t = 0 by omega)])
  · refine lv_iconst (v := (nI 0)) hx hb d_g_roundOfParent_5 (by decide) ?_
    refine lv_goto (tgt := 15) hx hb d_g_roundOfParent_6 (by decide) ?_
    exact PM.iret hx hb hr hlocks d_g_roundOfParent_15 (by unfold pr; rw [if_pos ((mI_m1 (by omega)).mp (by first | exact c_2 | exact Classical.not_not.mp c_2))])
