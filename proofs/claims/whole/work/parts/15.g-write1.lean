theorem fw_iff {p : Nat → Bool} {s : Nat → Nat} {ow : Nat → Nat → Bool} {N : Nat} (hp : ∀ y, p y = true → y < N ∧ s y ≤ y ∧ (s y ≠ 0 → p (s y - 1) = true) ∧ ∀ z, ow y z = (y == z || pa ow (s y) z)) (hle : ∀ y z, y < N → ow y z = true → z ≤ y) :
    ∀ (j : Nat) (met : Bool) (t : Nat), (met = true → t ≠ 0 → t - 1 < j ∧ p (t - 1) = true) → (fw p s j met t = true ↔ (∃ y z, y < j ∧ z < y ∧ p y = true ∧ p z = true ∧ ow y z = false) ∨ (met = true ∧ ∃ z, z < j ∧ p z = true ∧ pa ow t z = false)) := by
  intro j
  induction j with
  | zero =>
    intro met t _
    constructor
    · intro h; cases h
    · rintro (⟨y, z, h, -⟩ | ⟨-, z, h, -⟩) <;> omega
  | succ j ih =>
    intro met t hm
    by_cases hj : p j = true
    · obtain ⟨hjN, hsj, hcl, how⟩ := hp j hj
      by_cases hc : met = true ∧ t ≠ j + 1
      · have e : fw p s (j + 1) met t = true := by rw [hc.1]; exact fw_hit hj hc.2
        refine iff_of_true e (Or.inr ⟨hc.1, j, by omega, hj, ?_⟩)
        unfold pa
        by_cases ht : t = 0
        · subst ht; rfl
        · obtain ⟨h1, h2⟩ := hm hc.1 ht
          cases ho : ow (t - 1) j with
          | false => rw [Bool.and_false]
          | true => have := hle (t - 1) j (hp _ h2).1 ho; omega
      · have hc2 : met = false ∨ t = j + 1 := by
          cases hmet : met with
          | false => exact Or.inl rfl
          | true => exact Or.inr (by by_cases q : t = j + 1; · exact q
                                     · exact absurd ⟨hmet, q⟩ hc)
        rw [fw_on hj hc2, ih true (s j) (fun _ q => ⟨by omega, hcl q⟩)]
        constructor
        · rintro (⟨y, z, h1, h2, h3, h4, h5⟩ | ⟨-, z, h1, h2, h3⟩)
          · exact Or.inl ⟨y, z, by omega, h2, h3, h4, h5⟩
          · refine Or.inl ⟨j, z, by omega, h1, hj, h2, ?_⟩
            rw [how z, h3]; simp; omega
        · rintro (⟨y, z, h1, h2, h3, h4, h5⟩ | ⟨hmt, z, h1, h2, h3⟩)
          · by_cases e : y = j
            · subst e
              refine Or.inr ⟨rfl, z, h2, h4, ?_⟩
              rw [how z] at h5
              cases hz : pa ow (s y) z with
              | false => rfl
              | true => rw [hz, Bool.or_true] at h5; cases h5
            · exact Or.inl ⟨y, z, by omega, h2, h3, h4, h5⟩
          · rcases hc2 with q | q
            · rw [q] at hmt; cases hmt
            · subst q
              have h3' : ow j z = false := h3
              have hzj : z ≠ j := fun e => by rw [e, how j] at h3'; simp at h3'
              refine Or.inr ⟨rfl, z, by omega, h2, ?_⟩
              rw [how z] at h3'
              cases hz : pa ow (s j) z with
              | false => rfl
              | true => rw [hz, Bool.or_true] at h3'; cases h3'
    · have hj' : p j = false := by simpa using hj
      rw [fw_no hj', ih met t (fun q1 q2 => by
        obtain ⟨h1, h2⟩ := hm q1 q2
        refine ⟨?_, h2⟩
        by_cases e : t - 1 = j
        · rw [e, hj'] at h2; cases h2
        · omega)]
      constructor
      · rintro (⟨y, z, h1, h2, h3, h4, h5⟩ | ⟨hmt, z, h1, h2, h3⟩)
        · exact Or.inl ⟨y, z, by omega, h2, h3, h4, h5⟩
        · exact Or.inr ⟨hmt, z, by omega, h2, h3⟩
      · rintro (⟨y, z, h1, h2, h3, h4, h5⟩ | ⟨hmt, z, h1, h2, h3⟩)
        · have : y ≠ j := fun e => by rw [e, hj'] at h3; cases h3
          exact Or.inl ⟨y, z, by omega, h2, h3, h4, h5⟩
        · have : z ≠ j := fun e => by rw [e, hj'] at h2; cases h2
          exact Or.inr ⟨hmt, z, by omega, h2, h3⟩
/-- the class's search finds just the forks -/
theorem fa_fo {A B N n : Nat} {c s o : Nat → Nat} {an ow : Nat → Nat → Bool} {a : Nat → Bool} (h : Lw N n c s o an ow) (hN : N ≤ 120) (hw : ∀ i, i < 128 → wt A B i = a i) (ha : ∀ i, a i = true → i < N) (hcl : ∀ i, a i = true → s i ≠ 0 → a (s i - 1) = true) (m : Nat) : fa A B c s m = fo a ow c N m := by
  have hpe : ∀ i, i < 120 → (wt A B i && c i == m) = (a i && c i == m) := fun i hi => by rw [hw i (by omega)]
  have e1 : ∀ (j : Nat) (met : Bool) (t : Nat), j ≤ 120 → fw (fun i => wt A B i && c i == m) s j met t = fw (fun i => a i && c i == m) s j met t := by
    intro j
    induction j with
    | zero => intro met t _; rfl
    | succ j ih =>
      intro met t hj
      show (if (wt A B j && c j == m) = true then _ else _) = (if (a j && c j == m) = true then _ else _)
      rw [hpe j (by omega), ih _ _ (by omega), ih _ _ (by omega)]
  have hle : ∀ y z, y < N → ow y z = true → z ≤ y := fun y z hy => h.ow_le y hy z
  have hp : ∀ y, (a y && c y == m) = true → y < N ∧ s y ≤ y ∧ (s y ≠ 0 → (a (s y - 1) && c (s y - 1) == m) = true) ∧ ∀ z, ow y z = (y == z || pa ow (s y) z) := by
    intro y hy
    simp only [Bool.and_eq_true, beq_iff_eq] at hy
    have hyN := ha y hy.1
    obtain ⟨-, h2, -, h4, -, -, h7⟩ := h y hyN
    exact ⟨hyN, h2, fun q => by simp only [Bool.and_eq_true, beq_iff_eq]; exact ⟨hcl y hy.1 q, by rw [h4 q]; exact hy.2⟩, h7⟩
  unfold fa fo
  rw [e1 120 false 0 (Nat.le_refl _), Bool.eq_iff_iff, fw_iff (ow := ow) (N := N) hp hle 120 false 0 (fun q => nomatch q), ex_t]
  constructor
  · rintro (⟨y, z, h1, h2, h3, h4, h5⟩ | ⟨q, -⟩)
    · refine ⟨y, (hp y h3).1, ex_t.mpr ⟨z, h2, ?_⟩⟩
      rw [h3, h4, h5]; rfl
    · cases q
  · rintro ⟨y, hy, hq⟩
    obtain ⟨z, hz, hq⟩ := ex_t.mp hq
    simp only [Bool.and_eq_true, Bool.not_eq_true'] at hq
    exact Or.inl ⟨y, z, by omega, hz, by simp only [Bool.and_eq_true]; exact hq.1, by simp only [Bool.and_eq_true]; exact hq.2.1, hq.2.2⟩
theorem fo_n {a : Nat → Bool} {ow : Nat → Nat → Bool} {c : Nat → Nat} {N n m : Nat} (hc : ∀ i, i < N → c i < n) (hm : n ≤ m) : fo a ow c N m = false := by
  refine ex_f.mpr (fun y hy => ex_f.mpr (fun z hz => ?_))
  have := hc y hy
  simp [show ¬ c y = m by omega]
/-- the class's row of forkers -/
theorem fF_fo {A B N n : Nat} {c s o : Nat → Nat} {an ow : Nat → Nat → Bool} {a : Nat → Bool} (h : Lw N n c s o an ow) (hN : N ≤ 120) (hw : ∀ i, i < 128 → wt A B i = a i) (ha : ∀ i, a i = true → i < N) (hcl : ∀ i, a i = true → s i ≠ 0 → a (s i - 1) = true) : bs (fF A B c s n) 8 = bs (fun m => fo a ow c N m) 8 := by
  refine bs_congr (fun m _ => ?_)
  unfold fF
  by_cases q : m < n
  · rw [fa_fo h hN hw ha hcl m]; simp [q]
  · rw [fo_n (fun i hi => (h i hi).1) (by omega)]; simp [q]
theorem mI_max {t : Nat} (h : t ≤ 200) : mI t < nI 200 := by
  cases t with
  | zero => decide
  | succ i => rw [mI_s]; exact nI_lt (by omega) (by decide)
theorem ga_lo1 {k : Nat} (h : k < 64) : (1 : Int64) <<< ((nI k).toInt64 &&& 63) = lN (bs (fun i => k == i) 64) := by
  rw [bs_one 64 k h]; exact (wb_shl 1 h).trans (by rw [Nat.one_mul])
theorem ga_lo0 {k : Nat} (h : 64 ≤ k) : (0 : Int64) = lN (bs (fun i => k == i) 64) := by
  rw [show bs (fun i => k == i) 64 = 0 from (bs_congr (fun i hi => by simp; omega)).trans (bs_none 64)]; rfl
theorem ga_hi0 {k : Nat} (h : k < 64) : (0 : Int64) = lN (bs (fun i => k == 64 + i) 64) := by
  rw [show bs (fun i => k == 64 + i) 64 = 0 from (bs_congr (fun i hi => by simp; omega)).trans (bs_none 64)]; rfl
theorem ga_hi1 {k : Nat} (h : 64 ≤ k) (h2 : k < 128) : (1 : Int64) <<< ((nI (k - 64)).toInt64 &&& 63) = lN (bs (fun i => k == 64 + i) 64) := by
  rw [show bs (fun i => k == 64 + i) 64 = bs (fun i => (k - 64) == i) 64 from bs_congr (fun i hi => by rw [Bool.eq_iff_iff]; simp; omega), bs_one 64 (k - 64) (by omega)]
  exact (wb_shl 1 (by omega)).trans (by rw [Nat.one_mul])
theorem pa_n {f : Nat → Nat → Bool} {t y : Nat} (h : t ≠ 0) : pa f t y = f (t - 1) y := by
  unfold pa
  rw [show (t == 0) = false from by simpa using h]; rfl
set_option maxHeartbeats 4000000 in
set_option maxRecDepth 100000 in
theorem c_g_addAncestorsOf (l : Launch) (D : va_G) (cI cJ cZ : ClassId) (ad : Nat → Nat) (n ev : Nat) (g : GA) (an : Nat → Nat → Bool) (k t : Nat) (P1 P2 : Nat → Bool) (hk : k < 120) (htk : t ≤ k) (hP1 : g.2.2.2.2.1 k = lN (bs P1 64)) (hP2 : g.2.2.2.2.2 k = lN (bs P2 64)) (hB : t ≠ 0 → g.2.2.2.2.1 (t - 1) = lN (bs (an (t - 1)) 64) ∧ g.2.2.2.2.2 (t - 1) = lN (bs (fun i => an (t - 1) (64 + i)) 64)) : WV (S := GA) l D (tys cI cJ cZ) (gL cI cJ ad n ev g) (fun u => gL cI cJ ad n ev u) (fun u => gA k g u (fun i => P1 i || pa an t i) (fun i => P2 i || pa an t (64 + i))) y_g_addAncestorsOf b_g_addAncestorsOf 3 0 0 [.ref (ad 0), .int (nI k), .int (mI t)] := by
  refine WV.of (by decide) (Nat.le_of_ble_eq_true rfl) ?_
  intro p9 e9 s9 m args below meth c9 ls A S hr hlocks hA hP hK hD hl
  obtain ⟨hx, hb, hml, hown, htc⟩ := id S
  have hS : va_S A s9.heap s9.heap [] := va_S.rf
  have hl : lv_has ls 3 [(0, .ref (ad 0)), (1, .int (nI k)), (2, .int (mI t))] := hl
  refine lv_iload_n hx hb d_g_addAncestorsOf_0 rfl (lv_at hl 2 rfl) ?_
  refine lv_iconst (v := (-1)) hx hb d_g_addAncestorsOf_1 (by decide) ?_
  refine lv_icmp_eq (tgt := 35) hx hb d_g_addAncestorsOf_2 (by decide) (fun c_2 => ?_) (fun c_2 => ?_)
  · exact WV.ret hx hb hr hlocks hK hS d_g_addAncestorsOf_35 g (by have z : t = 0 := (mI_m1 (by omega)).mp c_2; subst z; exact ⟨rfl, rfl, rfl, rfl, fun _ _ => ⟨rfl, rfl⟩, by rw [hP1]; congr 1; exact bs_congr (fun i _ => by simp [pa]), by rw [hP2]; congr 1; exact bs_congr (fun i _ => by simp [pa])⟩) hP hD
  · have ht1 : t = (t - 1) + 1 := by have q : t ≠ 0 := fun z => c_2 (by rw [z]; rfl); omega
    obtain ⟨hb1, hb2⟩ := hB (by omega)
    have hl : lv_has ls 3 [(0, .ref (ad 0)), (1, .int (nI k)), (2, .int (nI (t - 1)))] := by rw [ht1] at hl; exact hl
    refine lv_aload_n hx hb d_g_addAncestorsOf_5 rfl (lv_at hl 0 rfl) ?_
    refine va_get (D := D) (ci := 0) (v := .ref (ad 5)) (C := "SightGraph") (T := T_g) (N := 8) hx hb htc in_g hown hK hP 0 rfl rfl 6 (by decide) (htc _ k_1_24) (fun _ h9 => h9) rfl d_g_addAncestorsOf_6 ?_
    refine lv_iload_n hx hb d_g_addAncestorsOf_9 rfl (lv_at hl 1 rfl) ?_
    refine lv_dup2_11 hx hb d_g_addAncestorsOf_10 rfl rfl ?_
    refine nr_lald hx hb hK hP 5 1 rfl rfl (by omega) (by decide) (v := (lN (bs P1 64))) hP1 d_g_addAncestorsOf_11 ?_
    refine lv_aload_n hx hb d_g_addAncestorsOf_12 rfl (lv_at hl 0 rfl) ?_
    refine va_get (D := D) (ci := 0) (v := .ref (ad 5)) (C := "SightGraph") (T := T_g) (N := 8) hx hb htc in_g hown hK hP 0 rfl rfl 6 (by decide) (htc _ k_1_24) (fun _ h9 => h9) rfl d_g_addAncestorsOf_13 ?_
    refine lv_iload_n hx hb d_g_addAncestorsOf_16 rfl (lv_at hl 2 rfl) ?_
    refine nr_lald hx hb hK hP 5 1 rfl rfl (by omega) (by decide) (v := (lN (bs (an (t - 1)) 64))) hb1 d_g_addAncestorsOf_17 ?_
    refine lv_lor hx hb d_g_addAncestorsOf_18 ?_
    refine nr_top (w := .long (lN (bs (fun i => P1 i || pa an t i) 64))) (congrArg Value.long (by rw [wb_or (bs_lt _ 64) (bs_lt _ 64), bs_or]; congr 1; exact bs_congr (fun i _ => by rw [pa_n (show t ≠ 0 by omega)]))) ?_
    refine nr_last hx hb hK hP hD hS 5 1 rfl rfl (by omega) (by decide) d_g_addAncestorsOf_19 (fun H locs hP hD hS => ?_)
    have hP : va_P D cls (gL cI cJ ad n ev (g.1, g.2.1, g.2.2.1, g.2.2.2.1, vp_updL g.2.2.2.2.1 k (lN (bs (fun i => P1 i || pa an t i) 64)), g.2.2.2.2.2)) H := hP
    have hD : va_D A (gL cI cJ ad n ev (g.1, g.2.1, g.2.2.1, g.2.2.2.1, vp_updL g.2.2.2.2.1 k (lN (bs (fun i => P1 i || pa an t i) 64)), g.2.2.2.2.2)) := hD
    refine lv_aload_n hx hb d_g_addAncestorsOf_20 rfl (lv_at hl 0 rfl) ?_
    refine va_get (D := D) (ci := 0) (v := .ref (ad 6)) (C := "SightGraph") (T := T_g) (N := 8) hx hb htc in_g hown hK hP 0 rfl rfl 7 (by decide) (htc _ k_1_25) (fun _ h9 => h9) rfl d_g_addAncestorsOf_21 ?_
    refine lv_iload_n hx hb d_g_addAncestorsOf_24 rfl (lv_at hl 1 rfl) ?_
    refine lv_dup2_11 hx hb d_g_addAncestorsOf_25 rfl rfl ?_
    refine nr_lald hx hb hK hP 6 1 rfl rfl (by omega) (by decide) (v := (lN (bs P2 64))) hP2 d_g_addAncestorsOf_26 ?_
    refine lv_aload_n hx hb d_g_addAncestorsOf_27 rfl (lv_at hl 0 rfl) ?_
    refine va_get (D := D) (ci := 0) (v := .ref (ad 6)) (C := "SightGraph") (T := T_g) (N := 8) hx hb htc in_g hown hK hP 0 rfl rfl 7 (by decide) (htc _ k_1_25) (fun _ h9 => h9) rfl d_g_addAncestorsOf_28 ?_
    refine lv_iload_n hx hb d_g_addAncestorsOf_31 rfl (lv_at hl 2 rfl) ?_
    refine nr_lald hx hb hK hP 6 1 rfl rfl (by omega) (by decide) (v := (lN (bs (fun i => an (t - 1) (64 + i)) 64))) hb2 d_g_addAncestorsOf_32 ?_
    refine lv_lor hx hb d_g_addAncestorsOf_33 ?_
    refine nr_top (w := .long (lN (bs (fun i => P2 i || pa an t (64 + i)) 64))) (congrArg Value.long (by rw [wb_or (bs_lt _ 64) (bs_lt _ 64), bs_or]; congr 1; exact bs_congr (fun i _ => by rw [pa_n (show t ≠ 0 by omega)]))) ?_
    refine nr_last hx hb hK hP hD hS 6 1 rfl rfl (by omega) (by decide) d_g_addAncestorsOf_34 (fun H locs hP hD hS => ?_)
    have hP : va_P D cls (gL cI cJ ad n ev (g.1, g.2.1, g.2.2.1, g.2.2.2.1, vp_updL g.2.2.2.2.1 k (lN (bs (fun i => P1 i || pa an t i) 64)), vp_updL g.2.2.2.2.2 k (lN (bs (fun i => P2 i || pa an t (64 + i)) 64)))) H := hP
    have hD : va_D A (gL cI cJ ad n ev (g.1, g.2.1, g.2.2.1, g.2.2.2.1, vp_updL g.2.2.2.2.1 k (lN (bs (fun i => P1 i || pa an t i) 64)), vp_updL g.2.2.2.2.2 k (lN (bs (fun i => P2 i || pa an t (64 + i)) 64)))) := hD
    exact WV.ret hx hb hr hlocks hK hS d_g_addAncestorsOf_35 (g.1, g.2.1, g.2.2.1, g.2.2.2.1, vp_updL g.2.2.2.2.1 k (lN (bs (fun i => P1 i || pa an t i) 64)), vp_updL g.2.2.2.2.2 k (lN (bs (fun i => P2 i || pa an t (64 + i)) 64))) ⟨rfl, rfl, rfl, rfl, fun j hj => ⟨pk_uLn hj, pk_uLn hj⟩, pk_uLs, pk_uLs⟩ hP hD
set_option maxHeartbeats 4000000 in
set_option maxRecDepth 100000 in
theorem c_g_gatherAncestors (l : Launch) (D : va_G) (cI cJ cZ : ClassId) (ad : Nat → Nat) (n ev : Nat) (g : GA) (an : Nat → Nat → Bool) (k a b : Nat) (hk : k < 120) (hak : a ≤ k) (hbk : b ≤ k) (hB : ∀ j, j < k → g.2.2.2.2.1 j = lN (bs (an j) 64) ∧ g.2.2.2.2.2 j = lN (bs (fun i => an j (64 + i)) 64)) : WV (S := GA) l D (tys cI cJ cZ) (gL cI cJ ad n ev g) (fun u => gL cI cJ ad n ev u) (fun u => gA k g u (fun i => k == i || (pa an a i || pa an b i)) (fun i => k == 64 + i || (pa an a (64 + i) || pa an b (64 + i)))) y_g_gatherAncestors b_g_gatherAncestors 4 1 22 [.ref (ad 0), .int (nI k), .int (mI a), .int (mI b)] := by
  refine WV.of (by decide) (Nat.le_of_ble_eq_true rfl) ?_
  intro p9 e9 s9 m args below meth c9 ls A S hr hlocks hA hP hK hD hl
  obtain ⟨hx, hb, hml, hown, htc⟩ := id S
  have hS : va_S A s9.heap s9.heap [] := va_S.rf
  have hl : lv_has ls 4 [(0, .ref (ad 0)), (1, .int (nI k)), (2, .int (mI a)), (3, .int (mI b))] := hl
  refine lv_aload_n hx hb d_g_gatherAncestors_0 rfl (lv_at hl 0 rfl) ?_
  refine va_get (D := D) (ci := 0) (v := .ref (ad 5)) (C := "SightGraph") (T := T_g) (N := 8) hx hb htc in_g hown hK hP 0 rfl rfl 6 (by decide) (htc _ k_1_24) (fun _ h9 => h9) rfl d_g_gatherAncestors_1 ?_
  refine lv_iload_n hx hb d_g_gatherAncestors_4 rfl (lv_at hl 1 rfl) ?_
  refine lv_iload_n hx hb d_g_gatherAncestors_5 rfl (lv_at hl 1 rfl) ?_
  refine lv_bipush (v := (nI 64)) hx hb d_g_gatherAncestors_6 (by decide) ?_
  refine nr_icmp_ge (tgt := 17) hx hb (by omega) (by omega) d_g_gatherAncestors_8 (by decide) (fun c_8 => ?_) (fun c_8 => ?_)
  · refine lv_lconst (v := 0) hx hb d_g_gatherAncestors_17 (by decide) ?_
    refine nr_top (w := .long (lN (bs (fun i => k == i) 64))) (congrArg Value.long (ga_lo0 (by omega))) ?_
    refine nr_last hx hb hK hP hD hS 5 1 rfl rfl (by omega) (by decide) d_g_gatherAncestors_18 (fun H locs hP hD hS => ?_)
    have hP : va_P D cls (gL cI cJ ad n ev (g.1, g.2.1, g.2.2.1, g.2.2.2.1, vp_updL g.2.2.2.2.1 k (lN (bs (fun i => k == i) 64)), g.2.2.2.2.2)) H := hP
    have hD : va_D A (gL cI cJ ad n ev (g.1, g.2.1, g.2.2.1, g.2.2.2.1, vp_updL g.2.2.2.2.1 k (lN (bs (fun i => k == i) 64)), g.2.2.2.2.2)) := hD
    refine lv_aload_n hx hb d_g_gatherAncestors_19 rfl (lv_at hl 0 rfl) ?_
    refine va_get (D := D) (ci := 0) (v := .ref (ad 6)) (C := "SightGraph") (T := T_g) (N := 8) hx hb htc in_g hown hK hP 0 rfl rfl 7 (by decide) (htc _ k_1_25) (fun _ h9 => h9) rfl d_g_gatherAncestors_20 ?_
    refine lv_iload_n hx hb d_g_gatherAncestors_23 rfl (lv_at hl 1 rfl) ?_
    refine lv_iload_n hx hb d_g_gatherAncestors_24 rfl (lv_at hl 1 rfl) ?_
    refine lv_bipush (v := (nI 64)) hx hb d_g_gatherAncestors_25 (by decide) ?_
    refine nr_icmp_ge (tgt := 34) hx hb (by omega) (by omega) d_g_gatherAncestors_27 (by decide) (fun c_27 => ?_) (fun c_27 => ?_)
    · refine lv_lconst (v := 1) hx hb d_g_gatherAncestors_34 (by decide) ?_
      refine lv_iload_n hx hb d_g_gatherAncestors_35 rfl (lv_at hl 1 rfl) ?_
      refine lv_bipush (v := (nI 64)) hx hb d_g_gatherAncestors_36 (by decide) ?_
      refine nr_isub hx hb d_g_gatherAncestors_38 (by omega) ?_
      refine lv_lshl hx hb d_g_gatherAncestors_39 rfl ?_
      refine nr_top (w := .long (lN (bs (fun i => k == 64 + i) 64))) (congrArg Value.long (ga_hi1 (by omega) (by omega))) ?_
      refine nr_last hx hb hK hP hD hS 6 1 rfl rfl (by omega) (by decide) d_g_gatherAncestors_40 (fun H locs hP hD hS => ?_)
      have hP : va_P D cls (gL cI cJ ad n ev (g.1, g.2.1, g.2.2.1, g.2.2.2.1, vp_updL g.2.2.2.2.1 k (lN (bs (fun i => k == i) 64)), vp_updL g.2.2.2.2.2 k (lN (bs (fun i => k == 64 + i) 64)))) H := hP
      have hD : va_D A (gL cI cJ ad n ev (g.1, g.2.1, g.2.2.1, g.2.2.2.1, vp_updL g.2.2.2.2.1 k (lN (bs (fun i => k == i) 64)), vp_updL g.2.2.2.2.2 k (lN (bs (fun i => k == 64 + i) 64)))) := hD
      refine lv_aload_n hx hb d_g_gatherAncestors_41 rfl (lv_at hl 0 rfl) ?_
      refine lv_iload_n hx hb d_g_gatherAncestors_42 rfl (lv_at hl 1 rfl) ?_
      refine lv_iload_n hx hb d_g_gatherAncestors_43 rfl (lv_at hl 2 rfl) ?_
      refine WV.callV (wr := []) (rest := []) S (c_g_addAncestorsOf l D cI cJ cZ ad n ev (g.1, g.2.1, g.2.2.1, g.2.2.2.1, vp_updL g.2.2.2.2.1 k (lN (bs (fun i => k == i) 64)), vp_updL g.2.2.2.2.2 k (lN (bs (fun i => k == 64 + i) 64))) an k a (fun i => k == i) (fun i => k == 64 + i) hk hak pk_uLs pk_uLs (fun q => ⟨(pk_uLn (by omega)).trans (hB (a - 1) (by omega)).1, (pk_uLn (by omega)).trans (hB (a - 1) (by omega)).2⟩)) k_1_167 k_1_169 k_s_6 k_1_1 k_1_170 h_g_addAncestorsOf ⟨Nat.le_of_ble_eq_true rfl, Nat.le_of_ble_eq_true rfl⟩ ⟨Nat.le_of_ble_eq_true rfl, Nat.le_of_ble_eq_true rfl⟩ hP hK hD hS hA [0, 1, 2, 3, 4, 5, 6] [] rfl rfl (by decide) (by decide) (by decide) 0 0 rfl rfl rfl hl.1 (Nat.le_of_ble_eq_true rfl) rfl d_g_gatherAncestors_44 (fun u44 H locs hu44 hP hD hS => ?_)
      have hP : va_P D cls (gL cI cJ ad n ev u44) H := hP
      have hD : va_D A (gL cI cJ ad n ev u44) := hD
      refine lv_aload_n hx hb d_g_gatherAncestors_47 rfl (lv_at hl 0 rfl) ?_
      refine lv_iload_n hx hb d_g_gatherAncestors_48 rfl (lv_at hl 1 rfl) ?_
      refine lv_iload_n hx hb d_g_gatherAncestors_49 rfl (lv_at hl 3 rfl) ?_
      refine WV.callV (wr := []) (rest := []) S (c_g_addAncestorsOf l D cI cJ cZ ad n ev u44 an k b (fun i => k == i || pa an a i) (fun i => k == 64 + i || pa an a (64 + i)) hk hbk hu44.2.2.2.2.2.1 hu44.2.2.2.2.2.2 (fun q => ⟨(hu44.2.2.2.2.1 (b - 1) (by omega)).1.trans ((pk_uLn (by omega)).trans (hB (b - 1) (by omega)).1), (hu44.2.2.2.2.1 (b - 1) (by omega)).2.trans ((pk_uLn (by omega)).trans (hB (b - 1) (by omega)).2)⟩)) k_1_167 k_1_169 k_s_6 k_1_1 k_1_170 h_g_addAncestorsOf ⟨Nat.le_of_ble_eq_true rfl, Nat.le_of_ble_eq_true rfl⟩ ⟨Nat.le_of_ble_eq_true rfl, Nat.le_of_ble_eq_true rfl⟩ hP hK hD hS hA [0, 1, 2, 3, 4, 5, 6] [] rfl rfl (by decide) (by decide) (by decide) 0 0 rfl rfl rfl hl.1 (Nat.le_of_ble_eq_true rfl) rfl d_g_gatherAncestors_50 (fun u50 H locs hu50 hP hD hS => ?_)
      have hP : va_P D cls (gL cI cJ ad n ev u50) H := hP
      have hD : va_D A (gL cI cJ ad n ev u50) := hD
      exact WV.ret hx hb hr hlocks hK hS d_g_gatherAncestors_53 u50 ⟨hu50.1.trans hu44.1, hu50.2.1.trans hu44.2.1, hu50.2.2.1.trans hu44.2.2.1, hu50.2.2.2.1.trans hu44.2.2.2.1, fun j hj => ⟨(hu50.2.2.2.2.1 j hj).1.trans ((hu44.2.2.2.2.1 j hj).1.trans (pk_uLn hj)), (hu50.2.2.2.2.1 j hj).2.trans ((hu44.2.2.2.2.1 j hj).2.trans (pk_uLn hj))⟩, hu50.2.2.2.2.2.1.trans (congrArg lN (bs_congr (fun i _ => by rw [Bool.or_assoc]))), hu50.2.2.2.2.2.2.trans (congrArg lN (bs_congr (fun i _ => by rw [Bool.or_assoc])))⟩ hP hD
    · refine lv_lconst (v := 0) hx hb d_g_gatherAncestors_30 (by decide) ?_
      refine lv_goto (tgt := 40) hx hb d_g_gatherAncestors_31 (by decide) ?_
      refine nr_top (w := .long (lN (bs (fun i => k == 64 + i) 64))) (congrArg Value.long (ga_hi0 (by omega))) ?_
      refine nr_last hx hb hK hP hD hS 6 1 rfl rfl (by omega) (by decide) d_g_gatherAncestors_40 (fun H locs hP hD hS => ?_)
      have hP : va_P D cls (gL cI cJ ad n ev (g.1, g.2.1, g.2.2.1, g.2.2.2.1, vp_updL g.2.2.2.2.1 k (lN (bs (fun i => k == i) 64)), vp_updL g.2.2.2.2.2 k (lN (bs (fun i => k == 64 + i) 64)))) H := hP
      have hD : va_D A (gL cI cJ ad n ev (g.1, g.2.1, g.2.2.1, g.2.2.2.1, vp_updL g.2.2.2.2.1 k (lN (bs (fun i => k == i) 64)), vp_updL g.2.2.2.2.2 k (lN (bs (fun i => k == 64 + i) 64)))) := hD
      refine lv_aload_n hx hb d_g_gatherAncestors_41 rfl (lv_at hl 0 rfl) ?_
      refine lv_iload_n hx hb d_g_gatherAncestors_42 rfl (lv_at hl 1 rfl) ?_
      refine lv_iload_n hx hb d_g_gatherAncestors_43 rfl (lv_at hl 2 rfl) ?_
      refine WV.callV (wr := []) (rest := []) S (c_g_addAncestorsOf l D cI cJ cZ ad n ev (g.1, g.2.1, g.2.2.1, g.2.2.2.1, vp_updL g.2.2.2.2.1 k (lN (bs (fun i => k == i) 64)), vp_updL g.2.2.2.2.2 k (lN (bs (fun i => k == 64 + i) 64))) an k a (fun i => k == i) (fun i => k == 64 + i) hk hak pk_uLs pk_uLs (fun q => ⟨(pk_uLn (by omega)).trans (hB (a - 1) (by omega)).1, (pk_uLn (by omega)).trans (hB (a - 1) (by omega)).2⟩)) k_1_167 k_1_169 k_s_6 k_1_1 k_1_170 h_g_addAncestorsOf ⟨Nat.le_of_ble_eq_true rfl, Nat.le_of_ble_eq_true rfl⟩ ⟨Nat.le_of_ble_eq_true rfl, Nat.le_of_ble_eq_true rfl⟩ hP hK hD hS hA [0, 1, 2, 3, 4, 5, 6] [] rfl rfl (by decide) (by decide) (by decide) 0 0 rfl rfl rfl hl.1 (Nat.le_of_ble_eq_true rfl) rfl d_g_gatherAncestors_44 (fun u44 H locs hu44 hP hD hS => ?_)
      have hP : va_P D cls (gL cI cJ ad n ev u44) H := hP
      have hD : va_D A (gL cI cJ ad n ev u44) := hD
      refine lv_aload_n hx hb d_g_gatherAncestors_47 rfl (lv_at hl 0 rfl) ?_
      refine lv_iload_n hx hb d_g_gatherAncestors_48 rfl (lv_at hl 1 rfl) ?_
      refine lv_iload_n hx hb d_g_gatherAncestors_49 rfl (lv_at hl 3 rfl) ?_
      refine WV.callV (wr := []) (rest := []) S (c_g_addAncestorsOf l D cI cJ cZ ad n ev u44 an k b (fun i => k == i || pa an a i) (fun i => k == 64 + i || pa an a (64 + i)) hk hbk hu44.2.2.2.2.2.1 hu44.2.2.2.2.2.2 (fun q => ⟨(hu44.2.2.2.2.1 (b - 1) (by omega)).1.trans ((pk_uLn (by omega)).trans (hB (b - 1) (by omega)).1), (hu44.2.2.2.2.1 (b - 1) (by omega)).2.trans ((pk_uLn (by omega)).trans (hB (b - 1) (by omega)).2)⟩)) k_1_167 k_1_169 k_s_6 k_1_1 k_1_170 h_g_addAncestorsOf ⟨Nat.le_of_ble_eq_true rfl, Nat.le_of_ble_eq_true rfl⟩ ⟨Nat.le_of_ble_eq_true rfl, Nat.le_of_ble_eq_true rfl⟩ hP hK hD hS hA [0, 1, 2, 3, 4, 5, 6] [] rfl rfl (by decide) (by decide) (by decide) 0 0 rfl rfl rfl hl.1 (Nat.le_of_ble_eq_true rfl) rfl d_g_gatherAncestors_50 (fun u50 H locs hu50 hP hD hS => ?_)
      have hP : va_P D cls (gL cI cJ ad n ev u50) H := hP
      have hD : va_D A (gL cI cJ ad n ev u50) := hD
      exact WV.ret hx hb hr hlocks hK hS d_g_gatherAncestors_53 u50 ⟨hu50.1.trans hu44.1, hu50.2.1.trans hu44.2.1, hu50.2.2.1.trans hu44.2.2.1, hu50.2.2.2.1.trans hu44.2.2.2.1, fun j hj => ⟨(hu50.2.2.2.2.1 j hj).1.trans ((hu44.2.2.2.2.1 j hj).1.trans (pk_uLn hj)), (hu50.2.2.2.2.1 j hj).2.trans ((hu44.2.2.2.2.1 j hj).2.trans (pk_uLn hj))⟩, hu50.2.2.2.2.2.1.trans (congrArg lN (bs_congr (fun i _ => by rw [Bool.or_assoc]))), hu50.2.2.2.2.2.2.trans (congrArg lN (bs_congr (fun i _ => by rw [Bool.or_assoc])))⟩ hP hD
  · refine lv_lconst (v := 1) hx hb d_g_gatherAncestors_11 (by decide) ?_
    refine lv_iload_n hx hb d_g_gatherAncestors_12 rfl (lv_at hl 1 rfl) ?_
    refine lv_lshl hx hb d_g_gatherAncestors_13 rfl ?_
    refine lv_goto (tgt := 18) hx hb d_g_gatherAncestors_14 (by decide) ?_
    refine nr_top (w := .long (lN (bs (fun i => k == i) 64))) (congrArg Value.long (ga_lo1 (by omega))) ?_
    refine nr_last hx hb hK hP hD hS 5 1 rfl rfl (by omega) (by decide) d_g_gatherAncestors_18 (fun H locs hP hD hS => ?_)
    have hP : va_P D cls (gL cI cJ ad n ev (g.1, g.2.1, g.2.2.1, g.2.2.2.1, vp_updL g.2.2.2.2.1 k (lN (bs (fun i => k == i) 64)), g.2.2.2.2.2)) H := hP
    have hD : va_D A (gL cI cJ ad n ev (g.1, g.2.1, g.2.2.1, g.2.2.2.1, vp_updL g.2.2.2.2.1 k (lN (bs (fun i => k == i) 64)), g.2.2.2.2.2)) := hD
    refine lv_aload_n hx hb d_g_gatherAncestors_19 rfl (lv_at hl 0 rfl) ?_
    refine va_get (D := D) (ci := 0) (v := .ref (ad 6)) (C := "SightGraph") (T := T_g) (N := 8) hx hb htc in_g hown hK hP 0 rfl rfl 7 (by decide) (htc _ k_1_25) (fun _ h9 => h9) rfl d_g_gatherAncestors_20 ?_
    refine lv_iload_n hx hb d_g_gatherAncestors_23 rfl (lv_at hl 1 rfl) ?_
    refine lv_iload_n hx hb d_g_gatherAncestors_24 rfl (lv_at hl 1 rfl) ?_
    refine lv_bipush (v := (nI 64)) hx hb d_g_gatherAncestors_25 (by decide) ?_
    refine nr_icmp_ge (tgt := 34) hx hb (by omega) (by omega) d_g_gatherAncestors_27 (by decide) (fun c_27 => ?_) (fun c_27 => ?_)
    · refine lv_lconst (v := 1) hx hb d_g_gatherAncestors_34 (by decide) ?_
      refine lv_iload_n hx hb d_g_gatherAncestors_35 rfl (lv_at hl 1 rfl) ?_
      refine lv_bipush (v := (nI 64)) hx hb d_g_gatherAncestors_36 (by decide) ?_
      refine nr_isub hx hb d_g_gatherAncestors_38 (by omega) ?_
      refine lv_lshl hx hb d_g_gatherAncestors_39 rfl ?_
      refine nr_top (w := .long (lN (bs (fun i => k == 64 + i) 64))) (congrArg Value.long (ga_hi1 (by omega) (by omega))) ?_
      refine nr_last hx hb hK hP hD hS 6 1 rfl rfl (by omega) (by decide) d_g_gatherAncestors_40 (fun H locs hP hD hS => ?_)
      have hP : va_P D cls (gL cI cJ ad n ev (g.1, g.2.1, g.2.2.1, g.2.2.2.1, vp_updL g.2.2.2.2.1 k (lN (bs (fun i => k == i) 64)), vp_updL g.2.2.2.2.2 k (lN (bs (fun i => k == 64 + i) 64)))) H := hP
      have hD : va_D A (gL cI cJ ad n ev (g.1, g.2.1, g.2.2.1, g.2.2.2.1, vp_updL g.2.2.2.2.1 k (lN (bs (fun i => k == i) 64)), vp_updL g.2.2.2.2.2 k (lN (bs (fun i => k == 64 + i) 64)))) := hD
      refine lv_aload_n hx hb d_g_gatherAncestors_41 rfl (lv_at hl 0 rfl) ?_
      refine lv_iload_n hx hb d_g_gatherAncestors_42 rfl (lv_at hl 1 rfl) ?_
      refine lv_iload_n hx hb d_g_gatherAncestors_43 rfl (lv_at hl 2 rfl) ?_
      refine WV.callV (wr := []) (rest := []) S (c_g_addAncestorsOf l D cI cJ cZ ad n ev (g.1, g.2.1, g.2.2.1, g.2.2.2.1, vp_updL g.2.2.2.2.1 k (lN (bs (fun i => k == i) 64)), vp_updL g.2.2.2.2.2 k (lN (bs (fun i => k == 64 + i) 64))) an k a (fun i => k == i) (fun i => k == 64 + i) hk hak pk_uLs pk_uLs (fun q => ⟨(pk_uLn (by omega)).trans (hB (a - 1) (by omega)).1, (pk_uLn (by omega)).trans (hB (a - 1) (by omega)).2⟩)) k_1_167 k_1_169 k_s_6 k_1_1 k_1_170 h_g_addAncestorsOf ⟨Nat.le_of_ble_eq_true rfl, Nat.le_of_ble_eq_true rfl⟩ ⟨Nat.le_of_ble_eq_true rfl, Nat.le_of_ble_eq_true rfl⟩ hP hK hD hS hA [0, 1, 2, 3, 4, 5, 6] [] rfl rfl (by decide) (by decide) (by decide) 0 0 rfl rfl rfl hl.1 (Nat.le_of_ble_eq_true rfl) rfl d_g_gatherAncestors_44 (fun u44 H locs hu44 hP hD hS => ?_)
      have hP : va_P D cls (gL cI cJ ad n ev u44) H := hP
      have hD : va_D A (gL cI cJ ad n ev u44) := hD
      refine lv_aload_n hx hb d_g_gatherAncestors_47 rfl (lv_at hl 0 rfl) ?_
      refine lv_iload_n hx hb d_g_gatherAncestors_48 rfl (lv_at hl 1 rfl) ?_
      refine lv_iload_n hx hb d_g_gatherAncestors_49 rfl (lv_at hl 3 rfl) ?_
      refine WV.callV (wr := []) (rest := []) S (c_g_addAncestorsOf l D cI cJ cZ ad n ev u44 an k b (fun i => k == i || pa an a i) (fun i => k == 64 + i || pa an a (64 + i)) hk hbk hu44.2.2.2.2.2.1 hu44.2.2.2.2.2.2 (fun q => ⟨(hu44.2.2.2.2.1 (b - 1) (by omega)).1.trans ((pk_uLn (by omega)).trans (hB (b - 1) (by omega)).1), (hu44.2.2.2.2.1 (b - 1) (by omega)).2.trans ((pk_uLn (by omega)).trans (hB (b - 1) (by omega)).2)⟩)) k_1_167 k_1_169 k_s_6 k_1_1 k_1_170 h_g_addAncestorsOf ⟨Nat.le_of_ble_eq_true rfl, Nat.le_of_ble_eq_true rfl⟩ ⟨Nat.le_of_ble_eq_true rfl, Nat.le_of_ble_eq_true rfl⟩ hP hK hD hS hA [0, 1, 2, 3, 4, 5, 6] [] rfl rfl (by decide) (by decide) (by decide) 0 0 rfl rfl rfl hl.1 (Nat.le_of_ble_eq_true rfl) rfl d_g_gatherAncestors_50 (fun u50 H locs hu50 hP hD hS => ?_)
      have hP : va_P D cls (gL cI cJ ad n ev u50) H := hP
      have hD : va_D A (gL cI cJ ad n ev u50) := hD
      exact WV.ret hx hb hr hlocks hK hS d_g_gatherAncestors_53 u50 ⟨hu50.1.trans hu44.1, hu50.2.1.trans hu44.2.1, hu50.2.2.1.trans hu44.2.2.1, hu50.2.2.2.1.trans hu44.2.2.2.1, fun j hj => ⟨(hu50.2.2.2.2.1 j hj).1.trans ((hu44.2.2.2.2.1 j hj).1.trans (pk_uLn hj)), (hu50.2.2.2.2.1 j hj).2.trans ((hu44.2.2.2.2.1 j hj).2.trans (pk_uLn hj))⟩, hu50.2.2.2.2.2.1.trans (congrArg lN (bs_congr (fun i _ => by rw [Bool.or_assoc]))), hu50.2.2.2.2.2.2.trans (congrArg lN (bs_congr (fun i _ => by rw [Bool.or_assoc])))⟩ hP hD
    · refine lv_lconst (v := 0) hx hb d_g_gatherAncestors_30 (by decide) ?_
      refine lv_goto (tgt := 40) hx hb d_g_gatherAncestors_31 (by decide) ?_
      refine nr_top (w := .long (lN (bs (fun i => k == 64 + i) 64))) (congrArg Value.long (ga_hi0 (by omega))) ?_
      refine nr_last hx hb hK hP hD hS 6 1 rfl rfl (by omega) (by decide) d_g_gatherAncestors_40 (fun H locs hP hD hS => ?_)
      have hP : va_P D cls (gL cI cJ ad n ev (g.1, g.2.1, g.2.2.1, g.2.2.2.1, vp_updL g.2.2.2.2.1 k (lN (bs (fun i => k == i) 64)), vp_updL g.2.2.2.2.2 k (lN (bs (fun i => k == 64 + i) 64)))) H := hP
      have hD : va_D A (gL cI cJ ad n ev (g.1, g.2.1, g.2.2.1, g.2.2.2.1, vp_updL g.2.2.2.2.1 k (lN (bs (fun i => k == i) 64)), vp_updL g.2.2.2.2.2 k (lN (bs (fun i => k == 64 + i) 64)))) := hD
      refine lv_aload_n hx hb d_g_gatherAncestors_41 rfl (lv_at hl 0 rfl) ?_
      refine lv_iload_n hx hb d_g_gatherAncestors_42 rfl (lv_at hl 1 rfl) ?_
      refine lv_iload_n hx hb d_g_gatherAncestors_43 rfl (lv_at hl 2 rfl) ?_
      refine WV.callV (wr := []) (rest := []) S (c_g_addAncestorsOf l D cI cJ cZ ad n ev (g.1, g.2.1, g.2.2.1, g.2.2.2.1, vp_updL g.2.2.2.2.1 k (lN (bs (fun i => k == i) 64)), vp_updL g.2.2.2.2.2 k (lN (bs (fun i => k == 64 + i) 64))) an k a (fun i => k == i) (fun i => k == 64 + i) hk hak pk_uLs pk_uLs (fun q => ⟨(pk_uLn (by omega)).trans (hB (a - 1) (by omega)).1, (pk_uLn (by omega)).trans (hB (a - 1) (by omega)).2⟩)) k_1_167 k_1_169 k_s_6 k_1_1 k_1_170 h_g_addAncestorsOf ⟨Nat.le_of_ble_eq_true rfl, Nat.le_of_ble_eq_true rfl⟩ ⟨Nat.le_of_ble_eq_true rfl, Nat.le_of_ble_eq_true rfl⟩ hP hK hD hS hA [0, 1, 2, 3, 4, 5, 6] [] rfl rfl (by decide) (by decide) (by decide) 0 0 rfl rfl rfl hl.1 (Nat.le_of_ble_eq_true rfl) rfl d_g_gatherAncestors_44 (fun u44 H locs hu44 hP hD hS => ?_)
      have hP : va_P D cls (gL cI cJ ad n ev u44) H := hP
      have hD : va_D A (gL cI cJ ad n ev u44) := hD
      refine lv_aload_n hx hb d_g_gatherAncestors_47 rfl (lv_at hl 0 rfl) ?_
      refine lv_iload_n hx hb d_g_gatherAncestors_48 rfl (lv_at hl 1 rfl) ?_
      refine lv_iload_n hx hb d_g_gatherAncestors_49 rfl (lv_at hl 3 rfl) ?_
      refine WV.callV (wr := []) (rest := []) S (c_g_addAncestorsOf l D cI cJ cZ ad n ev u44 an k b (fun i => k == i || pa an a i) (fun i => k == 64 + i || pa an a (64 + i)) hk hbk hu44.2.2.2.2.2.1 hu44.2.2.2.2.2.2 (fun q => ⟨(hu44.2.2.2.2.1 (b - 1) (by omega)).1.trans ((pk_uLn (by omega)).trans (hB (b - 1) (by omega)).1), (hu44.2.2.2.2.1 (b - 1) (by omega)).2.trans ((pk_uLn (by omega)).trans (hB (b - 1) (by omega)).2)⟩)) k_1_167 k_1_169 k_s_6 k_1_1 k_1_170 h_g_addAncestorsOf ⟨Nat.le_of_ble_eq_true rfl, Nat.le_of_ble_eq_true rfl⟩ ⟨Nat.le_of_ble_eq_true rfl, Nat.le_of_ble_eq_true rfl⟩ hP hK hD hS hA [0, 1, 2, 3, 4, 5, 6] [] rfl rfl (by decide) (by decide) (by decide) 0 0 rfl rfl rfl hl.1 (Nat.le_of_ble_eq_true rfl) rfl d_g_gatherAncestors_50 (fun u50 H locs hu50 hP hD hS => ?_)
      have hP : va_P D cls (gL cI cJ ad n ev u50) H := hP
      have hD : va_D A (gL cI cJ ad n ev u50) := hD
      exact WV.ret hx hb hr hlocks hK hS d_g_gatherAncestors_53 u50 ⟨hu50.1.trans hu44.1, hu50.2.1.trans hu44.2.1, hu50.2.2.1.trans hu44.2.2.1, hu50.2.2.2.1.trans hu44.2.2.2.1, fun j hj => ⟨(hu50.2.2.2.2.1 j hj).1.trans ((hu44.2.2.2.2.1 j hj).1.trans (pk_uLn hj)), (hu50.2.2.2.2.1 j hj).2.trans ((hu44.2.2.2.2.1 j hj).2.trans (pk_uLn hj))⟩, hu50.2.2.2.2.2.1.trans (congrArg lN (bs_congr (fun i _ => by rw [Bool.or_assoc]))), hu50.2.2.2.2.2.2.trans (congrArg lN (bs_congr (fun i _ => by rw [Bool.or_assoc])))⟩ hP hD
set_option maxHeartbeats 4000000 in
set_option maxRecDepth 100000 in
theorem c_g_begin_ok (l : Launch) (D : va_G) (cI cJ cZ : ClassId) (ad : Nat → Nat) (n ev : Nat) (g : GA) (v : Nat) (h1 : 2 ≤ v) (h2 : v ≤ 8) : WV (S := Unit) l D (tys cI cJ cZ) (gL cI cJ ad n ev g) (fun _ => gL cI cJ ad v 0 g) (fun _ => True) y_g_begin b_g_begin 2 0 0 [.ref (ad 0), .int (nI v)] := by
  refine WV.of (by decide) (Nat.le_of_ble_eq_true rfl) ?_
  intro p9 e9 s9 m args below meth c9 ls A S hr hlocks hA hP hK hD hl
  obtain ⟨hx, hb, hml, hown, htc⟩ := id S
  have hS : va_S A s9.heap s9.heap [] := va_S.rf
  have hl : lv_has ls 2 [(0, .ref (ad 0)), (1, .int (nI v))] := hl
  refine lv_iload_n hx hb d_g_begin_0 rfl (lv_at hl 1 rfl) ?_
  refine lv_iconst (v := (nI 2)) hx hb d_g_begin_1 (by decide) ?_
  refine nr_icmp_lt (tgt := 11) hx hb (by omega) (by omega) d_g_begin_2 (by decide) (fun c_2 => ?_) (fun c_2 => ?_)
  · exact absurd h1 (by omega)
  · refine lv_iload_n hx hb d_g_begin_5 rfl (lv_at hl 1 rfl) ?_
    refine lv_bipush (v := (nI 8)) hx hb d_g_begin_6 (by decide) ?_
    refine nr_icmp_le (tgt := 21) hx hb (by omega) (by omega) d_g_begin_8 (by decide) (fun c_8 => ?_) (fun c_8 => ?_)
    · refine lv_aload_n hx hb d_g_begin_21 rfl (lv_at hl 0 rfl) ?_
      refine lv_iload_n hx hb d_g_begin_22 rfl (lv_at hl 1 rfl) ?_
      refine va_put (D := D) (ci := 0) (v := .int (nI v)) (ty := .int) (C := "SightGraph") (T := T_g) (N := 8) hx hb htc in_g t_g ft_g fn_g hown hK hP hD hS 0 rfl rfl 0 (by decide) (htc _ k_1_18) (fun _ h9 => h9) rfl (by decide +kernel) rfl rfl (Nat.le_of_ble_eq_true rfl) d_g_begin_23 (fun H locs hP hD hS => ?_)
      have hP : va_P D cls (gL cI cJ ad v ev g) H := hP
      have hD : va_D A (gL cI cJ ad v ev g) := hD
      refine lv_aload_n hx hb d_g_begin_26 rfl (lv_at hl 0 rfl) ?_
      refine lv_iconst (v := (nI 0)) hx hb d_g_begin_27 (by decide) ?_
      refine va_put (D := D) (ci := 0) (v := .int (nI 0)) (ty := .int) (C := "SightGraph") (T := T_g) (N := 8) hx hb htc in_g t_g ft_g fn_g hown hK hP hD hS 0 rfl rfl 1 (by decide) (htc _ k_1_19) (fun _ h9 => h9) rfl (by decide +kernel) rfl rfl (Nat.le_of_ble_eq_true rfl) d_g_begin_28 (fun H locs hP hD hS => ?_)
      have hP : va_P D cls (gL cI cJ ad v 0 g) H := hP
      have hD : va_D A (gL cI cJ ad v 0 g) := hD
      exact WV.ret hx hb hr hlocks hK hS d_g_begin_31 () trivial hP hD
    · exact absurd h1 (by omega)
set_option maxHeartbeats 4000000 in
set_option maxRecDepth 100000 in
theorem c_g_begin_x (l : Launch) (D : va_G) (cI cJ cZ : ClassId) (ad : Nat → Nat) (n ev : Nat) (g : GA) (hl0 : l.stackTraces = false) (sa : Nat → Nat) (x : Int32) (hv : ¬ (2 ≤ x ∧ x ≤ 8)) : XT l D (tys cI cJ cZ) (gL cI cJ ad n ev g) sa y_g_begin b_g_begin 2 none 6 82 [.ref (ad 0), .int x] "java/lang/IllegalArgumentException" := by
  refine XT.of (by decide) (Nat.le_of_ble_eq_true rfl) ?_
  intro p9 e9 s9 m args below meth c9 ls S hr hlocks ht hP hK hTE hl
  obtain ⟨hx, hb, hml, hown, htc⟩ := id S
  have hl : lv_has ls 2 [(0, .ref (ad 0)), (1, .int x)] := hl
  refine lv_iload_n hx hb d_g_begin_0 rfl (lv_at hl 1 rfl) ?_
  refine lv_iconst (v := (nI 2)) hx hb d_g_begin_1 (by decide) ?_
  refine lv_icmp_lt (tgt := 11) hx hb d_g_begin_2 (by decide) (fun c_2 => ?_) (fun c_2 => ?_)
  · exact XT.thI hl0 S ht hTE hlocks hl.1 0 rfl ⟨Nat.le_of_ble_eq_true rfl, Nat.le_of_ble_eq_true rfl, Nat.le_of_ble_eq_true rfl, Nat.le_of_ble_eq_true rfl⟩ d_g_begin_11 d_g_begin_14 d_g_begin_15 d_g_begin_17 d_g_begin_20
  · refine lv_iload_n hx hb d_g_begin_5 rfl (lv_at hl 1 rfl) ?_
    refine lv_bipush (v := (nI 8)) hx hb d_g_begin_6 (by decide) ?_
    refine lv_icmp_le (tgt := 21) hx hb d_g_begin_8 (by decide) (fun c_8 => ?_) (fun c_8 => ?_)
    · exact absurd (⟨Int32.not_lt.mp c_2, c_8⟩ : nI 2 ≤ x ∧ x ≤ nI 8) hv
    · exact XT.thI hl0 S ht hTE hlocks hl.1 0 rfl ⟨Nat.le_of_ble_eq_true rfl, Nat.le_of_ble_eq_true rfl, Nat.le_of_ble_eq_true rfl, Nat.le_of_ble_eq_true rfl⟩ d_g_begin_11 d_g_begin_14 d_g_begin_15 d_g_begin_17 d_g_begin_20
