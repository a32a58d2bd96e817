def nb (an fk : Nat → Nat → Bool) (c : Nat → Nat) (x y z : Nat) : Nat → Bool := fun m => ex z (fun w => c w == m && (se an fk c x w && se an fk c w y))
theorem nb_s (an fk : Nat → Nat → Bool) (c : Nat → Nat) (x y z m : Nat) : nb an fk c x y (z + 1) m = (nb an fk c x y z m || (c z == m && (se an fk c x z && se an fk c z y))) := rfl
theorem nb_y {an fk : Nat → Nat → Bool} {c : Nat → Nat} {x y z : Nat} (h : ∀ w, w < z → an w y = true → y ≤ w) (hz : z ≤ y) : bs (nb an fk c x y z) 8 = 0 := by
  rw [← bs_none 8]
  refine bs_congr (fun m _ => ?_)
  refine ex_f.mpr (fun w hw => ?_)
  cases ha : an w y with
  | false => simp [se, ha]
  | true => have := h w hw ha; omega
theorem nb_x {an fk : Nat → Nat → Bool} {c : Nat → Nat} {x y z m : Nat} (h : ∀ w, an x w = true → w ≤ x) (hz : x + 1 ≤ z) : nb an fk c x y z m = nb an fk c x y (x + 1) m := by
  unfold nb
  rw [Bool.eq_iff_iff, ex_t, ex_t]
  constructor
  · rintro ⟨w, h1, h2⟩
    simp only [Bool.and_eq_true, se] at h2
    exact ⟨w, by have := h w h2.2.1.1; omega, by simp only [Bool.and_eq_true, se]; exact h2⟩
  · rintro ⟨w, h1, h2⟩
    exact ⟨w, by omega, h2⟩
theorem nb_n {an fk : Nat → Nat → Bool} {c : Nat → Nat} {x y z n m : Nat} (h : ∀ w, w < z → c w < n) (hm : n ≤ m) : nb an fk c x y z m = false := by
  refine ex_f.mpr (fun w hw => ?_)
  have := h w hw
  simp [show ¬ c w = m by omega]
theorem nb_end {an fk : Nat → Nat → Bool} {c : Nat → Nat} {x y z n : Nat} (hn : n ≤ 8) (h : ∀ w, an x w = true → w ≤ x) (hz : x + 1 ≤ z) (hc : ∀ w, w < x + 1 → c w < n) : cn 8 (bs (nb an fk c x y z) 8).testBit = sn n an fk c x y := by
  rw [show bs (nb an fk c x y z) 8 = bs (nb an fk c x y (x + 1)) 8 from bs_congr (fun m _ => nb_x h hz)]
  exact cn_bs hn (fun m h1 _ => nb_n hc h1)
def wb9 (n : Nat) (an fk : Nat → Nat → Bool) (c s rd : Nat → Nat) (x r w : Nat) : Nat → Bool := fun m => ex w (fun v => c v == m && (rd v == r && (wi s rd v && mn n (sn n an fk c x v))))
theorem wb9_s (n : Nat) (an fk : Nat → Nat → Bool) (c s rd : Nat → Nat) (x r w m : Nat) : wb9 n an fk c s rd x r (w + 1) m = (wb9 n an fk c s rd x r w m || (c w == m && (rd w == r && (wi s rd w && mn n (sn n an fk c x w))))) := rfl
theorem wb9_0 (n : Nat) (an fk : Nat → Nat → Bool) (c s rd : Nat → Nat) (x r : Nat) : bs (wb9 n an fk c s rd x r 0) 8 = 0 := bs_none 8
theorem wb9_end {n : Nat} {an fk : Nat → Nat → Bool} {c s rd : Nat → Nat} {x r : Nat} (hn : n ≤ 8) (hc : ∀ w, w < x → c w < n) : cn 8 (bs (wb9 n an fk c s rd x r x) 8).testBit = wn n an fk c s rd x r := by
  refine cn_bs hn (fun m h1 _ => ex_f.mpr (fun w hw => ?_))
  have := hc w hw
  simp [show ¬ c w = m by omega]
/-- the search for a fork, as the class does it: from above, j places left, met: one was met, t: what must come next -/
def fw (p : Nat → Bool) (s : Nat → Nat) : Nat → Bool → Nat → Bool
  | 0, _, _ => false
  | j + 1, met, t => if p j = true then (if met = true ∧ t ≠ j + 1 then true else fw p s j true (s j)) else fw p s j met t
def fa (A B : Nat) (c s : Nat → Nat) (m : Nat) : Bool := fw (fun i => wt A B i && c i == m) s 120 false 0
def bc1 (x : Int32) : Int32 := x - ((x.toUInt32 >>> ((1 : Int32).toUInt32 &&& Int32.toUInt32 31)).toInt32 &&& 1431655765)
def bc2 (x : Int32) : Int32 := (x &&& 858993459) + ((x.toUInt32 >>> ((2 : Int32).toUInt32 &&& Int32.toUInt32 31)).toInt32 &&& 858993459)
def bc3 (x : Int32) : Int32 := (x + (x.toUInt32 >>> ((4 : Int32).toUInt32 &&& Int32.toUInt32 31)).toInt32) &&& 252645135
def bc4 (x : Int32) : Int32 := x + (x.toUInt32 >>> ((8 : Int32).toUInt32 &&& Int32.toUInt32 31)).toInt32
def bc5 (x : Int32) : Int32 := x + (x.toUInt32 >>> ((16 : Int32).toUInt32 &&& Int32.toUInt32 31)).toInt32
theorem bc_ok : ∀ F, F < 256 → bc5 (bc4 (bc3 (bc2 (bc1 (nI F))))) &&& 63 = nI (cn 8 F.testBit) := by decide +kernel
def gr (rd : Nat → Nat) : Nat → Nat
  | 0 => 0
  | k + 1 => max (gr rd k) (rd k)
theorem gr_le {rd : Nat → Nat} {k B : Nat} (h : ∀ j, j < k → rd j ≤ B) : gr rd k ≤ B := by
  induction k with
  | zero => exact Nat.zero_le _
  | succ k ih =>
    show max (gr rd k) (rd k) ≤ B
    exact Nat.max_le.mpr ⟨ih (fun j hj => h j (by omega)), h k (by omega)⟩
theorem sn_le (n : Nat) (an fk : Nat → Nat → Bool) (c : Nat → Nat) (x y : Nat) : sn n an fk c x y ≤ n := cn_le _ _
theorem wn_le (n : Nat) (an fk : Nat → Nat → Bool) (c s rd : Nat → Nat) (x r : Nat) : wn n an fk c s rd x r ≤ n := cn_le _ _
theorem pr_le {rd : Nat → Nat} {t B : Nat} (h : t ≠ 0 → rd (t - 1) ≤ B) : pr rd t ≤ B := by
  unfold pr
  by_cases q : t = 0
  · rw [if_pos q]; omega
  · rw [if_neg q]; exact h q
set_option maxHeartbeats 4000000 in
set_option maxRecDepth 100000 in
theorem c_j_bitCount (l : Launch) (D : va_G) (cI cJ cZ : ClassId) (ad : Nat → Nat) (n ev : Nat) (g : GA) (F : Nat) (hF : F < 256) : PM l D (tys cI cJ cZ) (gL cI cJ ad n ev g) y_j_bitCount b_j_bitCount 1 (some .int) 0 0 [.int (nI F)] (nI (cn 8 F.testBit)) := by
  refine PM.of (by decide) (Nat.le_of_ble_eq_true rfl) ?_
  intro p9 e9 s9 m args below meth c9 ls S hr hlocks hP hK hl
  obtain ⟨hx, hb, hml, hown, htc⟩ := id S
  have hl : lv_has ls 1 [(0, .int (nI F))] := hl
  refine lv_iload_n hx hb d_j_bitCount_0 rfl (lv_at hl 0 rfl) ?_
  refine lv_iload_n hx hb d_j_bitCount_1 rfl (lv_at hl 0 rfl) ?_
  refine lv_iconst (v := 1) hx hb d_j_bitCount_2 (by decide) ?_
  refine lv_iushr hx hb d_j_bitCount_3 rfl ?_
  refine lv_ldcw hx hb hown (htc _ k_1_219) d_j_bitCount_4 ?_
  refine lv_iand hx hb d_j_bitCount_7 ?_
  refine lv_isub hx hb d_j_bitCount_8 ?_
  refine lv_topi (fun x1 e1 => ?_)
  refine lv_istore_n (lv' := [(0, .int x1)]) hx hb d_j_bitCount_9 rfl hl (by decide) rfl (fun ls hl => ?_)
  refine lv_iload_n hx hb d_j_bitCount_10 rfl (lv_at hl 0 rfl) ?_
  refine lv_ldcw hx hb hown (htc _ k_1_220) d_j_bitCount_11 ?_
  refine lv_iand hx hb d_j_bitCount_14 ?_
  refine lv_iload_n hx hb d_j_bitCount_15 rfl (lv_at hl 0 rfl) ?_
  refine lv_iconst (v := 2) hx hb d_j_bitCount_16 (by decide) ?_
  refine lv_iushr hx hb d_j_bitCount_17 rfl ?_
  refine lv_ldcw hx hb hown (htc _ k_1_220) d_j_bitCount_18 ?_
  refine lv_iand hx hb d_j_bitCount_21 ?_
  refine lv_iadd hx hb d_j_bitCount_22 ?_
  refine lv_topi (fun x2 e2 => ?_)
  refine lv_istore_n (lv' := [(0, .int x2)]) hx hb d_j_bitCount_23 rfl hl (by decide) rfl (fun ls hl => ?_)
  refine lv_iload_n hx hb d_j_bitCount_24 rfl (lv_at hl 0 rfl) ?_
  refine lv_iload_n hx hb d_j_bitCount_25 rfl (lv_at hl 0 rfl) ?_
  refine lv_iconst (v := 4) hx hb d_j_bitCount_26 (by decide) ?_
  refine lv_iushr hx hb d_j_bitCount_27 rfl ?_
  refine lv_iadd hx hb d_j_bitCount_28 ?_
  refine lv_ldcw hx hb hown (htc _ k_1_221) d_j_bitCount_29 ?_
  refine lv_iand hx hb d_j_bitCount_32 ?_
  refine lv_topi (fun x3 e3 => ?_)
  refine lv_istore_n (lv' := [(0, .int x3)]) hx hb d_j_bitCount_33 rfl hl (by decide) rfl (fun ls hl => ?_)
  refine lv_iload_n hx hb d_j_bitCount_34 rfl (lv_at hl 0 rfl) ?_
  refine lv_iload_n hx hb d_j_bitCount_35 rfl (lv_at hl 0 rfl) ?_
  refine lv_bipush (v := 8) hx hb d_j_bitCount_36 (by decide) ?_
  refine lv_iushr hx hb d_j_bitCount_38 rfl ?_
  refine lv_iadd hx hb d_j_bitCount_39 ?_
  refine lv_topi (fun x4 e4 => ?_)
  refine lv_istore_n (lv' := [(0, .int x4)]) hx hb d_j_bitCount_40 rfl hl (by decide) rfl (fun ls hl => ?_)
  refine lv_iload_n hx hb d_j_bitCount_41 rfl (lv_at hl 0 rfl) ?_
  refine lv_iload_n hx hb d_j_bitCount_42 rfl (lv_at hl 0 rfl) ?_
  refine lv_bipush (v := 16) hx hb d_j_bitCount_43 (by decide) ?_
  refine lv_iushr hx hb d_j_bitCount_45 rfl ?_
  refine lv_iadd hx hb d_j_bitCount_46 ?_
  refine lv_topi (fun x5 e5 => ?_)
  refine lv_istore_n (lv' := [(0, .int x5)]) hx hb d_j_bitCount_47 rfl hl (by decide) rfl (fun ls hl => ?_)
  refine lv_iload_n hx hb d_j_bitCount_48 rfl (lv_at hl 0 rfl) ?_
  refine lv_bipush (v := 63) hx hb d_j_bitCount_49 (by decide) ?_
  refine lv_iand hx hb d_j_bitCount_51 ?_
  exact PM.iret hx hb hr hlocks d_j_bitCount_52 (by rw [e5, e4, e3, e2, e1]; exact bc_ok F hF)
set_option maxHeartbeats 4000000 in
set_option maxRecDepth 100000 in
theorem c_g_nodesBetween (l : Launch) (D : va_G) (cI cJ cZ : ClassId) (ad : Nat → Nat) (n ev : Nat) (g : GA) (c s : Nat → Nat) (an fk : Nat → Nat → Bool) (K : Nat) (hKb : K ≤ 120) (hC : gC K g c s an fk) (o : Nat → Nat) (ow : Nat → Nat → Bool) (hLw : Lw K n c s o an ow) (hn : n ≤ 8) (x y : Nat) (hx0 : x < K) (hy0 : y < K) : PM l D (tys cI cJ cZ) (gL cI cJ ad n ev g) y_g_nodesBetween b_g_nodesBetween 5 (some .int) 3 70 [.ref (ad 0), .int (nI x), .int (nI y)] (nI (sn n an fk c x y)) := by
  refine PM.of (by decide) (Nat.le_of_ble_eq_true rfl) ?_
  intro p9 e9 s9 m args below meth c9 ls S hr hlocks hP hK hl
  obtain ⟨hx, hb, hml, hown, htc⟩ := id S
  have hl : lv_has ls 5 [(0, .ref (ad 0)), (1, .int (nI x)), (2, .int (nI y))] := hl
  refine lv_iconst (v := (nI 0)) hx hb d_g_nodesBetween_0 (by decide) ?_
  refine lv_istore_n (lv' := [(3, .int (nI 0)), (0, .ref (ad 0)), (1, .int (nI x)), (2, .int (nI y))]) hx hb d_g_nodesBetween_1 rfl hl (by decide) rfl (fun ls hl => ?_)
  refine lv_iload_n hx hb d_g_nodesBetween_2 rfl (lv_at hl 3 rfl) ?_
  refine lv_istore (lv' := [(4, .int (nI y)), (3, .int (nI 0)), (0, .ref (ad 0)), (1, .int (nI x)), (2, .int (nI y))]) hx hb d_g_nodesBetween_3 hl (by decide) rfl (fun ls hl => ?_)
  have loop : ∀ (d : Nat) (z : Nat) (ls : Array Slot), x + 1 - z < d → y ≤ z → z ≤ K → lv_has ls 5 [(4, .int (nI z)), (3, .int (nI (bs (nb an fk c x y z) 8))), (2, .int (nI y)), (1, .int (nI x)), (0, .ref (ad 0))] → W p9 l e9 ({ frames := 3, cells := 0, slots := 0, locals := 70 }) s9 m args below meth c9 s9.heap [] 0 0 (MQ below (vp_Si (fun r9 => r9 = (nI (sn n an fk c x y)))) args s9 0 0 (fun _ => False)) (F0 m 5 ls []) := by
    intro d
    induction d with
    | zero =>
      intro z ls hd hz hzK hl
      exact absurd hd (by omega)
    | succ d ih =>
      intro z ls hd hz hzK hl
      refine lv_iload hx hb d_g_nodesBetween_5 (lv_at hl 0 rfl) ?_
      refine lv_iload_n hx hb d_g_nodesBetween_7 rfl (lv_at hl 3 rfl) ?_
      refine nr_icmp_gt (tgt := 49) hx hb (by omega) (by omega) d_g_nodesBetween_8 (by decide) (fun c_8 => ?_) (fun c_8 => ?_)
      · refine lv_iload_n hx hb d_g_nodesBetween_49 rfl (lv_at hl 1 rfl) ?_
        refine PM.callS (rest := []) S (c_j_bitCount l D cI cJ cZ ad n ev g _ (bs_lt _ 8)) k_1_216 k_1_217 k_1_9 k_1_218 h_j_bitCount ⟨Nat.le_of_ble_eq_true rfl, Nat.le_of_ble_eq_true rfl⟩ ⟨Nat.le_of_ble_eq_true rfl, Nat.le_of_ble_eq_true rfl⟩ hP hK hl.1 (Nat.le_of_ble_eq_true rfl) rfl d_g_nodesBetween_50 ?_
        exact PM.iret hx hb hr hlocks d_g_nodesBetween_53 (by rw [nb_end hn (hLw.an_le x hx0) (by omega) (fun w hw => (hLw w (by omega)).1)])
      · have hcz := (hLw z (by omega)).1
        have hcy := (hLw y hy0).1
        refine lv_aload_n hx hb d_g_nodesBetween_11 rfl (lv_at hl 4 rfl) ?_
        refine lv_iload_n hx hb d_g_nodesBetween_12 rfl (lv_at hl 3 rfl) ?_
        refine lv_iload hx hb d_g_nodesBetween_13 (lv_at hl 0 rfl) ?_
        refine PM.callV (rest := []) S (c_g_hasSight l D cI cJ cZ ad n ev g c s an fk K hKb hC x z hx0 (by omega) (by omega)) k_1_205 k_1_207 k_s_14 k_1_1 k_1_208 h_g_hasSight ⟨Nat.le_of_ble_eq_true rfl, Nat.le_of_ble_eq_true rfl⟩ ⟨Nat.le_of_ble_eq_true rfl, Nat.le_of_ble_eq_true rfl⟩ hP hK 0 0 rfl rfl rfl hl.1 (Nat.le_of_ble_eq_true rfl) rfl d_g_nodesBetween_15 ?_
        refine nr_ifeq_b (tgt := 43) hx hb d_g_nodesBetween_18 (by decide) (fun c_18 => ?_) (fun c_18 => ?_)
        · refine lv_iinc (v := (nI (z + 1))) (lv' := [(4, .int (nI (z + 1))), (3, .int (nI (bs (nb an fk c x y z) 8))), (2, .int (nI y)), (1, .int (nI x)), (0, .ref (ad 0))]) hx hb d_g_nodesBetween_43 hl (k := 0) rfl (nI_add z 1) (by decide) rfl (fun ls hl => ?_)
          refine lv_goto (tgt := 5) hx hb d_g_nodesBetween_46 (by decide) ?_
          exact ih (z + 1) ls (by omega) (by omega) (by omega) (by rw [show bs (nb an fk c x y (z + 1)) 8 = bs (nb an fk c x y z) 8 from bs_congr (fun m _ => by rw [nb_s, c_18]; simp)]; exact (lv_sub hl [0, 1, 2, 3, 4] rfl))
        · refine lv_aload_n hx hb d_g_nodesBetween_21 rfl (lv_at hl 4 rfl) ?_
          refine lv_iload hx hb d_g_nodesBetween_22 (lv_at hl 0 rfl) ?_
          refine lv_iload_n hx hb d_g_nodesBetween_24 rfl (lv_at hl 2 rfl) ?_
          refine PM.callV (rest := []) S (c_g_hasSight l D cI cJ cZ ad n ev g c s an fk K hKb hC z y (by omega) hy0 (by omega)) k_1_205 k_1_207 k_s_14 k_1_1 k_1_208 h_g_hasSight ⟨Nat.le_of_ble_eq_true rfl, Nat.le_of_ble_eq_true rfl⟩ ⟨Nat.le_of_ble_eq_true rfl, Nat.le_of_ble_eq_true rfl⟩ hP hK 0 0 rfl rfl rfl hl.1 (Nat.le_of_ble_eq_true rfl) rfl d_g_nodesBetween_25 ?_
          refine nr_ifeq_b (tgt := 43) hx hb d_g_nodesBetween_28 (by decide) (fun c_28 => ?_) (fun c_28 => ?_)
          · refine lv_iinc (v := (nI (z + 1))) (lv' := [(4, .int (nI (z + 1))), (3, .int (nI (bs (nb an fk c x y z) 8))), (2, .int (nI y)), (1, .int (nI x)), (0, .ref (ad 0))]) hx hb d_g_nodesBetween_43 hl (k := 0) rfl (nI_add z 1) (by decide) rfl (fun ls hl => ?_)
            refine lv_goto (tgt := 5) hx hb d_g_nodesBetween_46 (by decide) ?_
            exact ih (z + 1) ls (by omega) (by omega) (by omega) (by rw [show bs (nb an fk c x y (z + 1)) 8 = bs (nb an fk c x y z) 8 from bs_congr (fun m _ => by rw [nb_s, c_28]; simp)]; exact (lv_sub hl [0, 1, 2, 3, 4] rfl))
          · refine lv_iload_n hx hb d_g_nodesBetween_31 rfl (lv_at hl 1 rfl) ?_
            refine lv_iconst (v := (nI 1)) hx hb d_g_nodesBetween_32 (by decide) ?_
            refine lv_aload_n hx hb d_g_nodesBetween_33 rfl (lv_at hl 4 rfl) ?_
            refine va_get (D := D) (ci := 0) (v := .ref (ad 1)) (C := "SightGraph") (T := T_g) (N := 8) hx hb htc in_g hown hK hP 0 rfl rfl 2 (by decide) (htc _ k_1_20) (fun _ h9 => h9) rfl d_g_nodesBetween_34 ?_
            refine lv_iload hx hb d_g_nodesBetween_37 (lv_at hl 0 rfl) ?_
            refine nr_iald hx hb hK hP 1 0 rfl rfl (by omega) (by decide) (v := (nI (c z))) (hC z (by omega)).1 d_g_nodesBetween_39 ?_
            refine lv_ishl hx hb d_g_nodesBetween_40 ?_
            refine lv_ior hx hb d_g_nodesBetween_41 ?_
            refine nr_top (w := .int (nI (bs (fun m => nb an fk c x y z m || c z == m) 8))) (congrArg Value.int (bs_add (by omega))) ?_
            refine lv_istore_n (lv' := [(3, .int (nI (bs (fun m => nb an fk c x y z m || c z == m) 8))), (4, .int (nI z)), (2, .int (nI y)), (1, .int (nI x)), (0, .ref (ad 0))]) hx hb d_g_nodesBetween_42 rfl hl (by decide) rfl (fun ls hl => ?_)
            refine lv_iinc (v := (nI (z + 1))) (lv' := [(4, .int (nI (z + 1))), (3, .int (nI (bs (fun m => nb an fk c x y z m || c z == m) 8))), (2, .int (nI y)), (1, .int (nI x)), (0, .ref (ad 0))]) hx hb d_g_nodesBetween_43 hl (k := 1) rfl (nI_add z 1) (by decide) rfl (fun ls hl => ?_)
            refine lv_goto (tgt := 5) hx hb d_g_nodesBetween_46 (by decide) ?_
            exact ih (z + 1) ls (by omega) (by omega) (by omega) (by rw [show bs (nb an fk c x y (z + 1)) 8 = bs (fun m => nb an fk c x y z m || c z == m) 8 from bs_congr (fun m _ => by rw [nb_s, c_18, c_28]; simp)]; exact (lv_sub hl [0, 1, 2, 3, 4] rfl))
  exact loop (x + 2) y ls (by omega) (Nat.le_refl y) (by omega) (by rw [show bs (nb an fk c x y y) 8 = 0 from nb_y (fun w hw => hLw.an_le w (by omega) y) (Nat.le_refl y)]; exact (lv_sub hl [0, 1, 4, 3, 2] rfl))
set_option maxHeartbeats 4000000 in
set_option maxRecDepth 100000 in
theorem c_g_nodesWithWitnessFor (l : Launch) (D : va_G) (cI cJ cZ : ClassId) (ad : Nat → Nat) (n ev : Nat) (g : GA) (c s : Nat → Nat) (an fk : Nat → Nat → Bool) (K : Nat) (hKb : K ≤ 120) (hC : gC K g c s an fk) (o : Nat → Nat) (ow : Nat → Nat → Bool) (hLw : Lw K n c s o an ow) (hn : n ≤ 8) (rd : Nat → Nat) (KR : Nat) (hKR : KR ≤ 120) (hR : gR KR g rd) (x r : Nat) (hx0 : x < K) (hxR : x ≤ KR) (hr0 : r < 1000) : PM l D (tys cI cJ cZ) (gL cI cJ ad n ev g) y_g_nodesWithWitnessFor b_g_nodesWithWitnessFor 5 (some .int) 4 94 [.ref (ad 0), .int (nI x), .int (nI r)] (nI (wn n an fk c s rd x r)) := by
  refine PM.of (by decide) (Nat.le_of_ble_eq_true rfl) ?_
  intro p9 e9 s9 m args below meth c9 ls S hr hlocks hP hK hl
  obtain ⟨hx, hb, hml, hown, htc⟩ := id S
  have hl : lv_has ls 5 [(0, .ref (ad 0)), (1, .int (nI x)), (2, .int (nI r))] := hl
  refine lv_iconst (v := (nI 0)) hx hb d_g_nodesWithWitnessFor_0 (by decide) ?_
  refine lv_istore_n (lv' := [(3, .int (nI 0)), (0, .ref (ad 0)), (1, .int (nI x)), (2, .int (nI r))]) hx hb d_g_nodesWithWitnessFor_1 rfl hl (by decide) rfl (fun ls hl => ?_)
  refine lv_iconst (v := (nI 0)) hx hb d_g_nodesWithWitnessFor_2 (by decide) ?_
  refine lv_istore (lv' := [(4, .int (nI 0)), (3, .int (nI 0)), (0, .ref (ad 0)), (1, .int (nI x)), (2, .int (nI r))]) hx hb d_g_nodesWithWitnessFor_3 hl (by decide) rfl (fun ls hl => ?_)
  have loop : ∀ (d : Nat) (v : Nat) (ls : Array Slot), x - v < d → v ≤ x → lv_has ls 5 [(4, .int (nI v)), (3, .int (nI (bs (wb9 n an fk c s rd x r v) 8))), (2, .int (nI r)), (1, .int (nI x)), (0, .ref (ad 0))] → W p9 l e9 ({ frames := 4, cells := 0, slots := 0, locals := 94 }) s9 m args below meth c9 s9.heap [] 0 0 (MQ below (vp_Si (fun r9 => r9 = (nI (wn n an fk c s rd x r)))) args s9 0 0 (fun _ => False)) (F0 m 5 ls []) := by
    intro d
    induction d with
    | zero =>
      intro v ls hd hv hl
      exact absurd hd (by omega)
    | succ d ih =>
      intro v ls hd hv hl
      refine lv_iload hx hb d_g_nodesWithWitnessFor_5 (lv_at hl 0 rfl) ?_
      refine lv_iload_n hx hb d_g_nodesWithWitnessFor_7 rfl (lv_at hl 3 rfl) ?_
      refine nr_icmp_ge (tgt := 63) hx hb (by omega) (by omega) d_g_nodesWithWitnessFor_8 (by decide) (fun c_8 => ?_) (fun c_8 => ?_)
      · refine lv_iload_n hx hb d_g_nodesWithWitnessFor_63 rfl (lv_at hl 1 rfl) ?_
        refine PM.callS (rest := []) S (c_j_bitCount l D cI cJ cZ ad n ev g _ (bs_lt _ 8)) k_1_216 k_1_217 k_1_9 k_1_218 h_j_bitCount ⟨Nat.le_of_ble_eq_true rfl, Nat.le_of_ble_eq_true rfl⟩ ⟨Nat.le_of_ble_eq_true rfl, Nat.le_of_ble_eq_true rfl⟩ hP hK hl.1 (Nat.le_of_ble_eq_true rfl) rfl d_g_nodesWithWitnessFor_64 ?_
        exact PM.iret hx hb hr hlocks d_g_nodesWithWitnessFor_67 (by rw [show v = x by omega, wb9_end hn (fun w hw => (hLw w (by omega)).1)])
      · have hcz := (hLw v (by omega)).1
        have hb9 := (hR v (by omega)).2
        refine lv_aload_n hx hb d_g_nodesWithWitnessFor_11 rfl (lv_at hl 4 rfl) ?_
        refine va_get (D := D) (ci := 0) (v := .ref (ad 3)) (C := "SightGraph") (T := T_g) (N := 8) hx hb htc in_g hown hK hP 0 rfl rfl 4 (by decide) (htc _ k_1_22) (fun _ h9 => h9) rfl d_g_nodesWithWitnessFor_12 ?_
        refine lv_iload hx hb d_g_nodesWithWitnessFor_15 (lv_at hl 0 rfl) ?_
        refine nr_iald hx hb hK hP 3 0 rfl rfl (by omega) (by decide) (v := (nI (rd v))) (hR v (by omega)).1 d_g_nodesWithWitnessFor_17 ?_
        refine lv_iload_n hx hb d_g_nodesWithWitnessFor_18 rfl (lv_at hl 2 rfl) ?_
        refine nr_icmp_ne (tgt := 57) hx hb (by omega) (by omega) d_g_nodesWithWitnessFor_19 (by decide) (fun c_19 => ?_) (fun c_19 => ?_)
        · refine lv_iinc (v := (nI (v + 1))) (lv' := [(4, .int (nI (v + 1))), (3, .int (nI (bs (wb9 n an fk c s rd x r v) 8))), (2, .int (nI r)), (1, .int (nI x)), (0, .ref (ad 0))]) hx hb d_g_nodesWithWitnessFor_57 hl (k := 0) rfl (nI_add v 1) (by decide) rfl (fun ls hl => ?_)
          refine lv_goto (tgt := 5) hx hb d_g_nodesWithWitnessFor_60 (by decide) ?_
          exact ih (v + 1) ls (by omega) (by omega) (by rw [show bs (wb9 n an fk c s rd x r (v + 1)) 8 = bs (wb9 n an fk c s rd x r v) 8 from bs_congr (fun m _ => by rw [wb9_s, show (rd v == r) = false from by simpa using c_19]; simp)]; exact (lv_sub hl [0, 1, 2, 3, 4] rfl))
        · refine lv_aload_n hx hb d_g_nodesWithWitnessFor_22 rfl (lv_at hl 4 rfl) ?_
          refine lv_iload hx hb d_g_nodesWithWitnessFor_23 (lv_at hl 0 rfl) ?_
          refine PM.callV (rest := []) S (c_g_opensRound l D cI cJ cZ ad n ev g c s an fk K hKb hC rd KR hKR hR v (by omega) (by omega) (hLw v (by omega)).2.1) k_1_197 k_1_199 k_s_12 k_1_1 k_1_200 h_g_opensRound ⟨Nat.le_of_ble_eq_true rfl, Nat.le_of_ble_eq_true rfl⟩ ⟨Nat.le_of_ble_eq_true rfl, Nat.le_of_ble_eq_true rfl⟩ hP hK 0 0 rfl rfl rfl hl.1 (Nat.le_of_ble_eq_true rfl) rfl d_g_nodesWithWitnessFor_25 ?_
          refine nr_ifeq_b (tgt := 57) hx hb d_g_nodesWithWitnessFor_28 (by decide) (fun c_28 => ?_) (fun c_28 => ?_)
          · refine lv_iinc (v := (nI (v + 1))) (lv' := [(4, .int (nI (v + 1))), (3, .int (nI (bs (wb9 n an fk c s rd x r v) 8))), (2, .int (nI r)), (1, .int (nI x)), (0, .ref (ad 0))]) hx hb d_g_nodesWithWitnessFor_57 hl (k := 0) rfl (nI_add v 1) (by decide) rfl (fun ls hl => ?_)
            refine lv_goto (tgt := 5) hx hb d_g_nodesWithWitnessFor_60 (by decide) ?_
            exact ih (v + 1) ls (by omega) (by omega) (by rw [show bs (wb9 n an fk c s rd x r (v + 1)) 8 = bs (wb9 n an fk c s rd x r v) 8 from bs_congr (fun m _ => by rw [wb9_s, c_28]; simp)]; exact (lv_sub hl [0, 1, 2, 3, 4] rfl))
          · refine lv_aload_n hx hb d_g_nodesWithWitnessFor_31 rfl (lv_at hl 4 rfl) ?_
            refine lv_aload_n hx hb d_g_nodesWithWitnessFor_32 rfl (lv_at hl 4 rfl) ?_
            refine lv_iload_n hx hb d_g_nodesWithWitnessFor_33 rfl (lv_at hl 3 rfl) ?_
            refine lv_iload hx hb d_g_nodesWithWitnessFor_34 (lv_at hl 0 rfl) ?_
            refine PM.callV (rest := [.ref (ad 0)]) S (c_g_nodesBetween l D cI cJ cZ ad n ev g c s an fk K hKb hC o ow hLw hn x v hx0 (by omega)) k_1_201 k_1_203 k_s_13 k_1_1 k_1_204 h_g_nodesBetween ⟨Nat.le_of_ble_eq_true rfl, Nat.le_of_ble_eq_true rfl⟩ ⟨Nat.le_of_ble_eq_true rfl, Nat.le_of_ble_eq_true rfl⟩ hP hK 0 0 rfl rfl rfl hl.1 (Nat.le_of_ble_eq_true rfl) rfl d_g_nodesWithWitnessFor_36 ?_
            refine PM.callV (rest := []) S (c_g_isMany l D cI cJ cZ ad n ev g (sn n an fk c x v) (Nat.le_trans (sn_le n an fk c x v) (by omega)) hn) k_1_222 k_1_224 k_s_16 k_1_1 k_1_225 h_g_isMany ⟨Nat.le_of_ble_eq_true rfl, Nat.le_of_ble_eq_true rfl⟩ ⟨Nat.le_of_ble_eq_true rfl, Nat.le_of_ble_eq_true rfl⟩ hP hK 0 0 rfl rfl rfl hl.1 (Nat.le_of_ble_eq_true rfl) rfl d_g_nodesWithWitnessFor_39 ?_
            refine nr_ifeq_b (tgt := 57) hx hb d_g_nodesWithWitnessFor_42 (by decide) (fun c_42 => ?_) (fun c_42 => ?_)
            · refine lv_iinc (v := (nI (v + 1))) (lv' := [(4, .int (nI (v + 1))), (3, .int (nI (bs (wb9 n an fk c s rd x r v) 8))), (2, .int (nI r)), (1, .int (nI x)), (0, .ref (ad 0))]) hx hb d_g_nodesWithWitnessFor_57 hl (k := 0) rfl (nI_add v 1) (by decide) rfl (fun ls hl => ?_)
              refine lv_goto (tgt := 5) hx hb d_g_nodesWithWitnessFor_60 (by decide) ?_
              exact ih (v + 1) ls (by omega) (by omega) (by rw [show bs (wb9 n an fk c s rd x r (v + 1)) 8 = bs (wb9 n an fk c s rd x r v) 8 from bs_congr (fun m _ => by rw [wb9_s, c_42]; simp)]; exact (lv_sub hl [0, 1, 2, 3, 4] rfl))
            · refine lv_iload_n hx hb d_g_nodesWithWitnessFor_45 rfl (lv_at hl 1 rfl) ?_
              refine lv_iconst (v := (nI 1)) hx hb d_g_nodesWithWitnessFor_46 (by decide) ?_
              refine lv_aload_n hx hb d_g_nodesWithWitnessFor_47 rfl (lv_at hl 4 rfl) ?_
              refine va_get (D := D) (ci := 0) (v := .ref (ad 1)) (C := "SightGraph") (T := T_g) (N := 8) hx hb htc in_g hown hK hP 0 rfl rfl 2 (by decide) (htc _ k_1_20) (fun _ h9 => h9) rfl d_g_nodesWithWitnessFor_48 ?_
              refine lv_iload hx hb d_g_nodesWithWitnessFor_51 (lv_at hl 0 rfl) ?_
              refine nr_iald hx hb hK hP 1 0 rfl rfl (by omega) (by decide) (v := (nI (c v))) (hC v (by omega)).1 d_g_nodesWithWitnessFor_53 ?_
              refine lv_ishl hx hb d_g_nodesWithWitnessFor_54 ?_
              refine lv_ior hx hb d_g_nodesWithWitnessFor_55 ?_
              refine nr_top (w := .int (nI (bs (fun m => wb9 n an fk c s rd x r v m || c v == m) 8))) (congrArg Value.int (bs_add (by omega))) ?_
              refine lv_istore_n (lv' := [(3, .int (nI (bs (fun m => wb9 n an fk c s rd x r v m || c v == m) 8))), (4, .int (nI v)), (2, .int (nI r)), (1, .int (nI x)), (0, .ref (ad 0))]) hx hb d_g_nodesWithWitnessFor_56 rfl hl (by decide) rfl (fun ls hl => ?_)
              refine lv_iinc (v := (nI (v + 1))) (lv' := [(4, .int (nI (v + 1))), (3, .int (nI (bs (fun m => wb9 n an fk c s rd x r v m || c v == m) 8))), (2, .int (nI r)), (1, .int (nI x)), (0, .ref (ad 0))]) hx hb d_g_nodesWithWitnessFor_57 hl (k := 1) rfl (nI_add v 1) (by decide) rfl (fun ls hl => ?_)
              refine lv_goto (tgt := 5) hx hb d_g_nodesWithWitnessFor_60 (by decide) ?_
              exact ih (v + 1) ls (by omega) (by omega) (by rw [show bs (wb9 n an fk c s rd x r (v + 1)) 8 = bs (fun m => wb9 n an fk c s rd x r v m || c v == m) 8 from bs_congr (fun m _ => by rw [wb9_s, c_28, c_42]; simp [c_19])]; exact (lv_sub hl [0, 1, 2, 3, 4] rfl))
  exact loop (x + 1) 0 ls (by omega) (by omega) (by rw [wb9_0]; exact (lv_sub hl [0, 1, 4, 3, 2] rfl))
set_option maxHeartbeats 4000000 in
set_option maxRecDepth 100000 in
theorem c_g_roundFrom (l : Launch) (D : va_G) (cI cJ cZ : ClassId) (ad : Nat → Nat) (n ev : Nat) (g : GA) (c s : Nat → Nat) (an fk : Nat → Nat → Bool) (K : Nat) (hKb : K ≤ 120) (hC : gC K g c s an fk) (o : Nat → Nat) (ow : Nat → Nat → Bool) (hLw : Lw K n c s o an ow) (hn : n ≤ 8) (rd : Nat → Nat) (KR : Nat) (hKR : KR ≤ 120) (hR : gR KR g rd) (x : Nat) (hx0 : x < K) (hxR : x ≤ KR) : PM l D (tys cI cJ cZ) (gL cI cJ ad n ev g) y_g_roundFrom b_g_roundFrom 5 (some .int) 5 118 [.ref (ad 0), .int (nI x), .int (mI (s x)), .int (mI (o x))] (nI (ro n an fk c s o rd x)) := by
  refine PM.of (by decide) (Nat.le_of_ble_eq_true rfl) ?_
  intro p9 e9 s9 m args below meth c9 ls S hr hlocks hP hK hl
  obtain ⟨hx, hb, hml, hown, htc⟩ := id S
  have hl : lv_has ls 5 [(0, .ref (ad 0)), (1, .int (nI x)), (2, .int (mI (s x))), (3, .int (mI (o x)))] := hl
  have hsx := (hLw x hx0).2.1
  have hox := (hLw x hx0).2.2.1
  refine lv_iload_n hx hb d_g_roundFrom_0 rfl (lv_at hl 2 rfl) ?_
  refine lv_iconst (v := (-1)) hx hb d_g_roundFrom_1 (by decide) ?_
  refine lv_icmp_ne (tgt := 12) hx hb d_g_roundFrom_2 (by decide) (fun c_2 => ?_) (fun c_2 => ?_)
  · have hp1 : pr rd (s x) ≤ 121 := pr_le (fun q => by have := (hR (s x - 1) (by omega)).2; omega)
    have hp2 : pr rd (o x) ≤ 121 := pr_le (fun q => by have := (hR (o x - 1) (by omega)).2; omega)
    have hp3 : max (pr rd (s x)) (pr rd (o x)) ≤ 121 := Nat.max_le.mpr ⟨hp1, hp2⟩
    refine lv_aload_n hx hb d_g_roundFrom_12 rfl (lv_at hl 0 rfl) ?_
    refine lv_iload_n hx hb d_g_roundFrom_13 rfl (lv_at hl 2 rfl) ?_
    refine PM.callV (rest := []) S (c_g_roundOfParent l D cI cJ cZ ad n ev g rd KR hKR hR (s x) (by omega)) k_1_186 k_1_188 k_s_10 k_1_1 k_1_189 h_g_roundOfParent ⟨Nat.le_of_ble_eq_true rfl, Nat.le_of_ble_eq_true rfl⟩ ⟨Nat.le_of_ble_eq_true rfl, Nat.le_of_ble_eq_true rfl⟩ hP hK 0 0 rfl rfl rfl hl.1 (Nat.le_of_ble_eq_true rfl) rfl d_g_roundFrom_14 ?_
    refine lv_aload_n hx hb d_g_roundFrom_17 rfl (lv_at hl 0 rfl) ?_
    refine lv_iload_n hx hb d_g_roundFrom_18 rfl (lv_at hl 3 rfl) ?_
    refine PM.callV (rest := [.int (nI (pr rd (s x)))]) S (c_g_roundOfParent l D cI cJ cZ ad n ev g rd KR hKR hR (o x) (by omega)) k_1_186 k_1_188 k_s_10 k_1_1 k_1_189 h_g_roundOfParent ⟨Nat.le_of_ble_eq_true rfl, Nat.le_of_ble_eq_true rfl⟩ ⟨Nat.le_of_ble_eq_true rfl, Nat.le_of_ble_eq_true rfl⟩ hP hK 0 0 rfl rfl rfl hl.1 (Nat.le_of_ble_eq_true rfl) rfl d_g_roundFrom_19 ?_
    refine va_mmax hx hb (hml.trans hl.1.symm) hown (htc _ k_1_190) (htc _ k_1_191) (htc _ k_1_8) (htc _ k_1_192) (Nat.le_of_ble_eq_true rfl) (Nat.le_of_ble_eq_true rfl) (Nat.le_of_ble_eq_true rfl) (Nat.le_of_ble_eq_true rfl) d_g_roundFrom_22 ?_
    refine nr_top (w := .int (nI (max (pr rd (s x)) (pr rd (o x))))) (congrArg Value.int (mx_I (by omega) (by omega))) ?_
    refine lv_istore (lv' := [(4, .int (nI (max (pr rd (s x)) (pr rd (o x))))), (0, .ref (ad 0)), (1, .int (nI x)), (2, .int (mI (s x))), (3, .int (mI (o x)))]) hx hb d_g_roundFrom_25 hl (by decide) rfl (fun ls hl => ?_)
    refine lv_aload_n hx hb d_g_roundFrom_27 rfl (lv_at hl 1 rfl) ?_
    refine lv_aload_n hx hb d_g_roundFrom_28 rfl (lv_at hl 1 rfl) ?_
    refine lv_iload_n hx hb d_g_roundFrom_29 rfl (lv_at hl 2 rfl) ?_
    refine lv_iload hx hb d_g_roundFrom_30 (lv_at hl 0 rfl) ?_
    refine PM.callV (rest := [.ref (ad 0)]) S (c_g_nodesWithWitnessFor l D cI cJ cZ ad n ev g c s an fk K hKb hC o ow hLw hn rd KR hKR hR x (max (pr rd (s x)) (pr rd (o x))) hx0 hxR (by omega)) k_1_193 k_1_195 k_s_11 k_1_1 k_1_196 h_g_nodesWithWitnessFor ⟨Nat.le_of_ble_eq_true rfl, Nat.le_of_ble_eq_true rfl⟩ ⟨Nat.le_of_ble_eq_true rfl, Nat.le_of_ble_eq_true rfl⟩ hP hK 0 0 rfl rfl rfl hl.1 (Nat.le_of_ble_eq_true rfl) rfl d_g_roundFrom_32 ?_
    refine PM.callV (rest := []) S (c_g_isMany l D cI cJ cZ ad n ev g (wn n an fk c s rd x (max (pr rd (s x)) (pr rd (o x)))) (Nat.le_trans (wn_le n an fk c s rd x (max (pr rd (s x)) (pr rd (o x)))) (by omega)) hn) k_1_222 k_1_224 k_s_16 k_1_1 k_1_225 h_g_isMany ⟨Nat.le_of_ble_eq_true rfl, Nat.le_of_ble_eq_true rfl⟩ ⟨Nat.le_of_ble_eq_true rfl, Nat.le_of_ble_eq_true rfl⟩ hP hK 0 0 rfl rfl rfl hl.1 (Nat.le_of_ble_eq_true rfl) rfl d_g_roundFrom_35 ?_
    refine nr_ifeq_b (tgt := 48) hx hb d_g_roundFrom_38 (by decide) (fun c_38 => ?_) (fun c_38 => ?_)
    · refine lv_iload hx hb d_g_roundFrom_48 (lv_at hl 0 rfl) ?_
      exact PM.iret hx hb hr hlocks d_g_roundFrom_50 (by unfold ro; rw [if_neg (fun q => c_2 (by rw [q.1]; rfl)), if_neg (by rw [c_38]; decide)])
    · refine lv_iload hx hb d_g_roundFrom_41 (lv_at hl 0 rfl) ?_
      refine lv_iconst (v := (nI 1)) hx hb d_g_roundFrom_43 (by decide) ?_
      refine nr_iadd hx hb d_g_roundFrom_44 ?_
      refine lv_goto (tgt := 50) hx hb d_g_roundFrom_45 (by decide) ?_
      exact PM.iret hx hb hr hlocks d_g_roundFrom_50 (by unfold ro; rw [if_neg (fun q => c_2 (by rw [q.1]; rfl)), if_pos c_38])
  · refine lv_iload_n hx hb d_g_roundFrom_5 rfl (lv_at hl 3 rfl) ?_
    refine lv_iconst (v := (-1)) hx hb d_g_roundFrom_6 (by decide) ?_
    refine lv_icmp_ne (tgt := 12) hx hb d_g_roundFrom_7 (by decide) (fun c_7 => ?_) (fun c_7 => ?_)
    · have hp1 : pr rd (s x) ≤ 121 := pr_le (fun q => by have := (hR (s x - 1) (by omega)).2; omega)
      have hp2 : pr rd (o x) ≤ 121 := pr_le (fun q => by have := (hR (o x - 1) (by omega)).2; omega)
      have hp3 : max (pr rd (s x)) (pr rd (o x)) ≤ 121 := Nat.max_le.mpr ⟨hp1, hp2⟩
      refine lv_aload_n hx hb d_g_roundFrom_12 rfl (lv_at hl 0 rfl) ?_
      refine lv_iload_n hx hb d_g_roundFrom_13 rfl (lv_at hl 2 rfl) ?_
      refine PM.callV (rest := []) S (c_g_roundOfParent l D cI cJ cZ ad n ev g rd KR hKR hR (s x) (by omega)) k_1_186 k_1_188 k_s_10 k_1_1 k_1_189 h_g_roundOfParent ⟨Nat.le_of_ble_eq_true rfl, Nat.le_of_ble_eq_true rfl⟩ ⟨Nat.le_of_ble_eq_true rfl, Nat.le_of_ble_eq_true rfl⟩ hP hK 0 0 rfl rfl rfl hl.1 (Nat.le_of_ble_eq_true rfl) rfl d_g_roundFrom_14 ?_
      refine lv_aload_n hx hb d_g_roundFrom_17 rfl (lv_at hl 0 rfl) ?_
      refine lv_iload_n hx hb d_g_roundFrom_18 rfl (lv_at hl 3 rfl) ?_
      refine PM.callV (rest := [.int (nI (pr rd (s x)))]) S (c_g_roundOfParent l D cI cJ cZ ad n ev g rd KR hKR hR (o x) (by omega)) k_1_186 k_1_188 k_s_10 k_1_1 k_1_189 h_g_roundOfParent ⟨Nat.le_of_ble_eq_true rfl, Nat.le_of_ble_eq_true rfl⟩ ⟨Nat.le_of_ble_eq_true rfl, Nat.le_of_ble_eq_true rfl⟩ hP hK 0 0 rfl rfl rfl hl.1 (Nat.le_of_ble_eq_true rfl) rfl d_g_roundFrom_19 ?_
      refine va_mmax hx hb (hml.trans hl.1.symm) hown (htc _ k_1_190) (htc _ k_1_191) (htc _ k_1_8) (htc _ k_1_192) (Nat.le_of_ble_eq_true rfl) (Nat.le_of_ble_eq_true rfl) (Nat.le_of_ble_eq_true rfl) (Nat.le_of_ble_eq_true rfl) d_g_roundFrom_22 ?_
      refine nr_top (w := .int (nI (max (pr rd (s x)) (pr rd (o x))))) (congrArg Value.int (mx_I (by omega) (by omega))) ?_
      refine lv_istore (lv' := [(4, .int (nI (max (pr rd (s x)) (pr rd (o x))))), (0, .ref (ad 0)), (1, .int (nI x)), (2, .int (mI (s x))), (3, .int (mI (o x)))]) hx hb d_g_roundFrom_25 hl (by decide) rfl (fun ls hl => ?_)
      refine lv_aload_n hx hb d_g_roundFrom_27 rfl (lv_at hl 1 rfl) ?_
      refine lv_aload_n hx hb d_g_roundFrom_28 rfl (lv_at hl 1 rfl) ?_
      refine lv_iload_n hx hb d_g_roundFrom_29 rfl (lv_at hl 2 rfl) ?_
      refine lv_iload hx hb d_g_roundFrom_30 (lv_at hl 0 rfl) ?_
      refine PM.callV (rest := [.ref (ad 0)]) S (c_g_nodesWithWitnessFor l D cI cJ cZ ad n ev g c s an fk K hKb hC o ow hLw hn rd KR hKR hR x (max (pr rd (s x)) (pr rd (o x))) hx0 hxR (by omega)) k_1_193 k_1_195 k_s_11 k_1_1 k_1_196 h_g_nodesWithWitnessFor ⟨Nat.le_of_ble_eq_true rfl, Nat.le_of_ble_eq_true rfl⟩ ⟨Nat.le_of_ble_eq_true rfl, Nat.le_of_ble_eq_true rfl⟩ hP hK 0 0 rfl rfl rfl hl.1 (Nat.le_of_ble_eq_true rfl) rfl d_g_roundFrom_32 ?_
      refine PM.callV (rest := []) S (c_g_isMany l D cI cJ cZ ad n ev g (wn n an fk c s rd x (max (pr rd (s x)) (pr rd (o x)))) (Nat.le_trans (wn_le n an fk c s rd x (max (pr rd (s x)) (pr rd (o x)))) (by omega)) hn) k_1_222 k_1_224 k_s_16 k_1_1 k_1_225 h_g_isMany ⟨Nat.le_of_ble_eq_true rfl, Nat.le_of_ble_eq_true rfl⟩ ⟨Nat.le_of_ble_eq_true rfl, Nat.le_of_ble_eq_true rfl⟩ hP hK 0 0 rfl rfl rfl hl.1 (Nat.le_of_ble_eq_true rfl) rfl d_g_roundFrom_35 ?_
      refine nr_ifeq_b (tgt := 48) hx hb d_g_roundFrom_38 (by decide) (fun c_38 => ?_) (fun c_38 => ?_)
      · refine lv_iload hx hb d_g_roundFrom_48 (lv_at hl 0 rfl) ?_
        exact PM.iret hx hb hr hlocks d_g_roundFrom_50 (by unfold ro; rw [if_neg (fun q => c_7 (by rw [q.2]; rfl)), if_neg (by rw [c_38]; decide)])
      · refine lv_iload hx hb d_g_roundFrom_41 (lv_at hl 0 rfl) ?_
        refine lv_iconst (v := (nI 1)) hx hb d_g_roundFrom_43 (by decide) ?_
        refine nr_iadd hx hb d_g_roundFrom_44 ?_
        refine lv_goto (tgt := 50) hx hb d_g_roundFrom_45 (by decide) ?_
        exact PM.iret hx hb hr hlocks d_g_roundFrom_50 (by unfold ro; rw [if_neg (fun q => c_7 (by rw [q.2]; rfl)), if_pos c_38])
    · refine lv_iconst (v := (nI 1)) hx hb d_g_roundFrom_10 (by decide) ?_
      exact PM.iret hx hb hr hlocks d_g_roundFrom_11 (by unfold ro; rw [if_pos ⟨(mI_m1 (by omega)).mp (by first | exact c_2 | exact Classical.not_not.mp c_2), (mI_m1 (by omega)).mp (by first | exact c_7 | exact Classical.not_not.mp c_7)⟩])
