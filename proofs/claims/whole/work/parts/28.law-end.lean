/-! THE CLAIM OUT OF ONE WALK OF THE LAW'S BODY. Your part is whole_start (and what it stands on); all else here is the same for every law, but numbers. -/
def R_law : String := "SightGraphLaw"
def lw_P (b : Addr) (xs : List Int32) (args : Array Value) (s : State) : Prop := args = #[.ref b] ∧ s.IntsAt b xs ∧ xs.length ≤ 2048 ∧ (Jvm.Cond.and given_1 narrow_1).before args s = true
def lw_Q (_ : Array Value) (s : State) (o : Outcome) (t : State) : Prop := o = .returned (some (.int 1)) ∧ Framed s o t [] 1047 25055
def lw_Z (below : List Frame) (a : Array Value) (s : State) : State → Prop := fun t => ∃ o, t.status = .running ∧ Ended t below o ∧ lw_Q a s o t
/-- the law's own end, with 1 on the stack, nothing written that was there before, its room as the claim has it -/
theorem lw_ret {p : Program} {l : Launch} {e : Env} {s : State} {m : MethodId} {below : List Frame} {meth : Method} {c : Code} {b : Nat} (hx : p.tables.exec = Jvm.exec) (hb : c.code = code) (hr : meth.sig.returnType = ret) (hlocks : meth.locks = false) {pc : Nat} {H : Heap} {ls : Array Slot} (hdg : decode code pc = .ok (.ireturn, 1)) : W p l e room_1 s m #[Value.ref b] below meth c H [] 1047 25055 (lw_Z below #[Value.ref b] s) (F0 m pc ls [.int 1]) := by
  intro T hT X
  obtain ⟨fs, hret, hrun, hended, hW, hframe⟩ := X.leave (v := some (.int 1)) (hlocks := hlocks) (fun h => by rw [hr] at h; cases h)
  have hmeth' : T.vm.method? m = some meth := X.method'
  refine ⟨T.setFrames fs, ?_, .returned (some (.int 1)), hrun, hended, rfl, ⟨_, rfl⟩, hW, hframe⟩
  jvm_step X.here [X.here.top, hx, hb, hdg, hmeth', hr, ret, narrow_b1]
  (try refine ⟨rfl, ?_⟩); (try refine ⟨rfl, ?_⟩)
  first | (intro acts; rw [hret _ acts rfl rfl rfl]) | rw [hret _ _ rfl rfl rfl]
  exact Steps.refl _
/-- what holds at the law's entry: the machine, the code, the tables' words (any of lw_tbl by 'hts w (by decide +kernel)'), the script of L ints xs at the cell b, what the Statement gives of the start (any of its parts by flat_of_before) -/
def lw_At (p : Program) (s : State) (m : MethodId) (meth : Method) (c : Code) (b L : Nat) (xs : Nat → Int32) : Prop :=
  p.tables.exec = Jvm.exec ∧ c.code = code ∧ meth.sig.returnType = ret ∧ c.maxLocals = 7 ∧ s.vm.findClass R_law = some m.cls ∧ (∀ w ∈ lw_tbl, w.before #[Value.ref b] s = true) ∧ va_X b L xs s s.heap ∧ b < s.heap.size ∧ meth.locks = false ∧ (Jvm.Cond.and given_1 narrow_1).before #[Value.ref b] s = true
set_option maxHeartbeats 4000000 in
set_option maxRecDepth 100000 in
theorem law_head {p : Program} {l : Launch} {e : Env} {s : State} {m : MethodId} {below : List Frame} {meth : Method} {c : Code} {b L : Nat} {xs : Nat → Int32} {D : va_G} {cI cJ cZ : ClassId} {sa ad bd : Nat → Nat} {oa : Nat} (C0 : LC p l s m c b L xs D cI cJ cZ sa) (hr : meth.sig.returnType = ret) (hlocks : meth.locks = false) {er : Int32} {n ev t : Nat} {g : GA} {r : RA} {w : Nat → Int64} {H : Heap} {locs : List Loc} {ls : Array Slot} (ht : 4 * t ≤ 2048) (hS : va_S (nA s) s.heap H locs) (hl : lv_has ls 7 (LV b ad bd oa (4 * t)))
    (kk : 4 * t + 3 < L → W p l e room_1 s m #[Value.ref b] below meth c H locs (16 + t) (16821 + 6 * t) (lw_Z below #[Value.ref b] s) (F0 m 39 ls [.int (xs (4 * t) &&& nI 15)])) : W p l e room_1 s m #[Value.ref b] below meth c H locs (16 + t) (16821 + 6 * t) (lw_Z below #[Value.ref b] s) (F0 m 23 ls []) := by
  obtain ⟨S0, hX, hbl, hK, hT, hNc, hL9, hl0⟩ := id C0
  obtain ⟨hx, hb, hml, hown, htc⟩ := id S0
  have hbA : ¬ nA s b := Nat.not_le.mpr hbl
  have hl : lv_has ls 7 [(4, .int (nI (4 * t))), (3, .ref oa), (2, .ref (bd 0)), (1, .ref (ad 0)), (0, .ref b)] := hl
  refine lv_iload hx hb d_l_law_23 (lv_at hl 0 rfl) ?_
  refine lv_aload_n hx hb d_l_law_25 rfl (lv_at hl 4 rfl) ?_
  refine va_slen hx hb hX hbl hbA hS d_l_law_26 ?_
  refine lv_iconst (v := nI 4) hx hb d_l_law_27 (by decide) ?_
  refine lv_isub hx hb d_l_law_28 ?_
  refine lv_icmp_gt (tgt := 836) hx hb d_l_law_29 (by decide) (fun c9 => ?_) (fun c9 => ?_)
  · refine lv_iconst (v := 1) hx hb d_l_law_836 (by decide) ?_
    exact va_forget (fun q hq => hS.2.2 q hq) (W.widen (k := 1047) (n := 25055) (by omega) (by omega) (lw_ret hx hb hr hlocks d_l_law_837))
  · have hi : 4 * t + 3 < L := by
      have := mt (nI_sub4 (i := 4 * t) (L := L) (by omega) (by omega)).mpr c9
      omega
    refine lv_aload_n hx hb d_l_law_32 rfl (lv_at hl 4 rfl) ?_
    refine lv_iload hx hb d_l_law_33 (lv_at hl 0 rfl) ?_
    refine nr_sld hx hb hX hbl hbA hS (by omega) (by omega) d_l_law_35 ?_
    refine lv_bipush (v := nI 15) hx hb d_l_law_36 (by decide) ?_
    refine lv_iand hx hb d_l_law_38 ?_
    exact kk hi
set_option maxHeartbeats 4000000 in
set_option maxRecDepth 100000 in
theorem law_loop {p : Program} {l : Launch} {e : Env} {s : State} {m : MethodId} {below : List Frame} {meth : Method} {c : Code} {b L : Nat} {xs : Nat → Int32} {D : va_G} {cI cJ cZ : ClassId} {sa ad bd : Nat → Nat} {oa : Nat} (C0 : LC p l s m c b L xs D cI cJ cZ sa) (hr : meth.sig.returnType = ret) (hlocks : meth.locks = false) : ∀ (k t : Nat) (er : Int32) (n ev : Nat) (g : GA) (r : RA) (w : Nat → Int64) (H : Heap) (locs : List Loc) (ls : Array Slot), L < 4 * (t + k) + 4 → 4 * t ≤ 2048 → IV n ev g r → va_P D cls (LW cI cJ cZ ad bd oa er n ev g r w) H → va_D (nA s) (LW cI cJ cZ ad bd oa er n ev g r w) → va_S (nA s) s.heap H locs → lv_has ls 7 (LV b ad bd oa (4 * t)) → W p l e room_1 s m #[Value.ref b] below meth c H locs (16 + t) (16821 + 6 * t) (lw_Z below #[Value.ref b] s) (F0 m 23 ls []) := by
  obtain ⟨S0, hX, hbl, hK, hT, hNc, hL9, hl0⟩ := id C0
  obtain ⟨hx, hb, hml, hown, htc⟩ := id S0
  intro k
  induction k with
  | zero =>
    intro t er n ev g r w H locs ls hk ht hI hP hD hS hl
    exact law_head C0 hr hlocks (er := er) (n := n) (ev := ev) (g := g) (r := r) (w := w) ht hS hl (fun h => absurd h (by omega))
  | succ k ih =>
    intro t er n ev g r w H locs ls hk ht hI hP hD hS hl
    refine law_head C0 hr hlocks (er := er) (n := n) (ev := ev) (g := g) (r := r) (w := w) ht hS hl (fun hi => ?_)
    have hf : 16 + t + 1 ≤ room_1.cells ∧ 16821 + 6 * t + 6 ≤ room_1.slots := ⟨show 16 + t + 1 ≤ 1047 by omega, show 16821 + 6 * t + 6 ≤ 25055 by omega⟩
    have hk9 : ∀ (er : Int32) (n ev : Nat) (g : GA) (r : RA) (w : Nat → Int64) (H : Heap) (locs : List Loc) (ls : Array Slot), IV n ev g r → va_P D cls (LW cI cJ cZ ad bd oa er n ev g r w) H → va_D (nA s) (LW cI cJ cZ ad bd oa er n ev g r w) → va_S (nA s) s.heap H locs → lv_has ls 7 (LV b ad bd oa (4 * t)) → W p l e room_1 s m #[Value.ref b] below meth c H locs (16 + t + 1) (16821 + 6 * t + 6) (lw_Z below #[Value.ref b] s) (F0 m 830 ls []) := by
      intro er n ev g r w H locs ls hI hP hD hS hl
      have hl : lv_has ls 7 [(4, .int (nI (4 * t))), (3, .ref oa), (2, .ref (bd 0)), (1, .ref (ad 0)), (0, .ref b)] := hl
      refine lv_iinc (v := nI (4 * t + 4)) (lv' := [(4, .int (nI (4 * t + 4))), (3, .ref oa), (2, .ref (bd 0)), (1, .ref (ad 0)), (0, .ref b)]) hx hb d_l_law_830 hl (k := 0) rfl (nI_add (4 * t) 4) (by decide) rfl (fun ls hl => ?_)
      refine lv_goto (tgt := 23) hx hb d_l_law_833 (by decide) ?_
      refine W.widen (k := 16 + (t + 1)) (n := 16821 + 6 * (t + 1)) (by omega) (by omega) ?_
      exact ih (t + 1) er n ev g r w H locs ls (by omega) (by omega) hI hP hD hS hl
    obtain ⟨j, hj, ej⟩ := pk_andE (xs (4 * t)) (m := nI 15) 4 (by decide)
    refine nr_top (congrArg Value.int ej) ?_
    have hj9 : j = 0 ∨ j = 1 ∨ j = 2 ∨ j = 3 ∨ j = 4 ∨ j = 5 ∨ j = 6 ∨ j = 7 ∨ j = 8 ∨ j = 9 ∨ j = 10 ∨ 11 ≤ j := by omega
    rcases hj9 with rfl | rfl | rfl | rfl | rfl | rfl | rfl | rfl | rfl | rfl | rfl | h11
    · exact lv_tableIn (off := 57) (tgt := 96) hx hb d_l_law_39 (by decide +kernel) (by decide +kernel) (by decide +kernel) (by decide) (step_begin C0 hi hf hP hD hS hl hI hk9)
    · exact lv_tableIn (off := 93) (tgt := 132) hx hb d_l_law_39 (by decide +kernel) (by decide +kernel) (by decide +kernel) (by decide) (step_event C0 hi hf hP hD hS hl hI hk9)
    · exact lv_tableIn (off := 173) (tgt := 212) hx hb d_l_law_39 (by decide +kernel) (by decide +kernel) (by decide +kernel) (by decide) (step_ancestor C0 hi hf hP hD hS hl hI hk9)
    · exact lv_tableIn (off := 248) (tgt := 287) hx hb d_l_law_39 (by decide +kernel) (by decide +kernel) (by decide +kernel) (by decide) (step_own C0 hi hf hP hD hS hl hI hk9)
    · exact lv_tableIn (off := 323) (tgt := 362) hx hb d_l_law_39 (by decide +kernel) (by decide +kernel) (by decide +kernel) (by decide) (step_forked C0 hi hf hP hD hS hl hI hk9)
    · exact lv_tableIn (off := 398) (tgt := 437) hx hb d_l_law_39 (by decide +kernel) (by decide +kernel) (by decide +kernel) (by decide) (step_sees C0 hi hf hP hD hS hl hI hk9)
    · exact lv_tableIn (off := 473) (tgt := 512) hx hb d_l_law_39 (by decide +kernel) (by decide +kernel) (by decide +kernel) (by decide) (step_strength C0 hi hf hP hD hS hl hI hk9)
    · exact lv_tableIn (off := 541) (tgt := 580) hx hb d_l_law_39 (by decide +kernel) (by decide +kernel) (by decide +kernel) (by decide) (step_strongly C0 hi hf hP hD hS hl hI hk9)
    · exact lv_tableIn (off := 616) (tgt := 655) hx hb d_l_law_39 (by decide +kernel) (by decide +kernel) (by decide +kernel) (by decide) (step_round C0 hi hf hP hD hS hl hI hk9)
    · exact lv_tableIn (off := 672) (tgt := 711) hx hb d_l_law_39 (by decide +kernel) (by decide +kernel) (by decide +kernel) (by decide) (step_witness C0 hi hf hP hD hS hl hI hk9)
    · exact lv_tableIn (off := 735) (tgt := 774) hx hb d_l_law_39 (by decide +kernel) (by decide +kernel) (by decide +kernel) (by decide) (step_count C0 hi hf hP hD hS hl hI hk9)
    · exact lv_tableOut (tgt := 830) hx hb d_l_law_39 (Or.inr (by rw [nI_toInt (by omega)]; omega)) (by decide) (W.widen (k := 16 + t + 1) (n := 16821 + 6 * t + 6) (by omega) (by omega) (hk9 er n ev g r w H locs ls hI hP hD hS hl))
theorem hB_tbl : ∀ w ∈ BW, w ∈ lw_tbl := by decide +kernel
theorem hB_on : ∀ w ∈ BW, w.onTables = true := by decide +kernel
theorem te_start {b : Nat} {s : State} (hts : ∀ w ∈ lw_tbl, w.before #[Value.ref b] s = true) (hgv : (Jvm.Cond.and given_1 narrow_1).before #[Value.ref b] s = true) : ∃ sa : Nat → Nat, TE (fun q => s.heap.size ≤ q) sa s s.heap := by
  have hfl := flat_of_before _ hgv
  obtain ⟨a0, _, _, _, h0, -⟩ := Cond.exactly_spec (hfl (.exactly (.string "SightGraph" 38) "java/lang/String") (by decide +kernel))
  obtain ⟨a1, _, _, _, h1, -⟩ := Cond.exactly_spec (hfl (.exactly (.string "SightGraph" 113) "java/lang/String") (by decide +kernel))
  obtain ⟨a2, _, _, _, h2, -⟩ := Cond.exactly_spec (hfl (.exactly (.string "SightGraph" 51) "java/lang/String") (by decide +kernel))
  obtain ⟨a3, _, _, _, h3, -⟩ := Cond.exactly_spec (hfl (.exactly (.string "SightGraph" 56) "java/lang/String") (by decide +kernel))
  obtain ⟨a4, _, _, _, h4, -⟩ := Cond.exactly_spec (hfl (.exactly (.string "SightGraph" 60) "java/lang/String") (by decide +kernel))
  obtain ⟨a5, _, _, _, h5, -⟩ := Cond.exactly_spec (hfl (.exactly (.string "SightGraph" 118) "java/lang/String") (by decide +kernel))
  obtain ⟨a6, _, _, _, h6, -⟩ := Cond.exactly_spec (hfl (.exactly (.string "SightGraph" 111) "java/lang/String") (by decide +kernel))
  refine ⟨fun i => [a0, a1, a2, a3, a4, a5, a6].getD i 0, ⟨vx_Zqof (hts (.laysStatic Bundle.tN "UNASSIGNED_STACK" Bundle.steD) (by decide +kernel)) (hts (.initialized Bundle.tN) (by decide +kernel)) (hfl (.isRef (.static Bundle.tN "UNASSIGNED_STACK" Bundle.steD)) (by decide +kernel)) (fun a h => Nat.not_le.mpr h), vx_Zqof (hts (.laysStatic Bundle.tN "SUPPRESSED_SENTINEL" Bundle.listD) (by decide +kernel)) (hts (.initialized Bundle.tN) (by decide +kernel)) (hfl (.isRef (.static Bundle.tN "SUPPRESSED_SENTINEL" Bundle.listD)) (by decide +kernel)) (fun a h => Nat.not_le.mpr h)⟩, fun w hw => va_Nw.of (hB_on w hw) (hts w (hB_tbl w hw)), ?_⟩
  intro i q hq
  match i, hq with
  | 0, hq => cases hq; exact vk_R.of (hts (.stringRef "SightGraph" 38 "the number of nodes is not 2 to 8") (by decide +kernel)) h0
  | 1, hq => cases hq; exact vk_R.of (hts (.stringRef "SightGraph" 113 "there is no such node") (by decide +kernel)) h1
  | 2, hq => cases hq; exact vk_R.of (hts (.stringRef "SightGraph" 51 "the self-parent is no event of the node") (by decide +kernel)) h2
  | 3, hq => cases hq; exact vk_R.of (hts (.stringRef "SightGraph" 56 "the other-parent is no event of another node") (by decide +kernel)) h3
  | 4, hq => cases hq; exact vk_R.of (hts (.stringRef "SightGraph" 60 "there are 120 events") (by decide +kernel)) h4
  | 5, hq => cases hq; exact vk_R.of (hts (.stringRef "SightGraph" 118 "there is no such event") (by decide +kernel)) h5
  | 6, hq => cases hq; exact vk_R.of (hts (.stringRef "SightGraph" 111 "there is no such count") (by decide +kernel)) h6
  | i + 7, hq => simp [sT] at hq
set_option maxHeartbeats 4000000 in
set_option maxRecDepth 100000 in
theorem whole_start {p : Program} {e : Env} {s : State} {m : MethodId} {below : List Frame} {meth : Method} {c : Code} (l : Launch) (hl0 : l.stackTraces = false) {b L : Nat} {xs : Nat → Int32} (hL : L ≤ 2048) (C0 : lw_At p s m meth c b L xs) : W p l e room_1 s m #[Value.ref b] below meth c s.heap [] 0 0 (lw_Z below #[Value.ref b] s) (entryFrame m ([Value.ref b] : List Value).toArray 7) := by
  obtain ⟨hx, hb, hr, hml, hown, hts, hX, hbl, hlocks, hgv⟩ := id C0
  have htc : ∀ w ∈ Cw, w.before #[Value.ref b] s = true := fun w hw => hts w (List.mem_filter.mp hw).1
  have S0 : CallFix p m c code 7 s #[Value.ref b] Cw "SightGraphLaw" := ⟨hx, hb, hml, hown, htc⟩
  have hA : ∀ q : Nat, s.heap.size ≤ q → nA s q := fun _ h => h
  obtain ⟨c0, iS0, hKn0⟩ := u_known (C := "SightGraph") (T := T_g) (N := 8) (n := 8) htc in_g (htc _ k_1_11)
  obtain ⟨c1, iS1, hKn1⟩ := u_known (C := "SightGraphModel") (T := T_r) (N := 10) (n := 10) htc in_r (htc _ k_2_68)
  obtain ⟨cI, kI, pI, hI1, hI2, hI3⟩ := Cond.arrayClass_spec (htc _ k_1_43)
  obtain ⟨cJ, kJ, pJ, hJ1, hJ2, hJ3⟩ := Cond.arrayClass_spec (htc _ k_1_44)
  obtain ⟨cZ, kZ, pZ, hZ1, hZ2, hZ3⟩ := Cond.arrayClass_spec (htc _ k_2_104)
  obtain ⟨D, hKc⟩ : ∃ D : va_G, ∀ (k : Nat) (q : vw_C), cls[k]? = some q → u_Kn s q.1 q.2.1 q.2.2 (D.1 k) (D.2 k) := by
    refine ⟨(fun k => if k = 0 then c0 else c1, fun k => if k = 0 then iS0 else iS1), ?_⟩
    intro k q hq
    match k, hq with
    | 0, hq => cases hq; exact hKn0
    | 1, hq => cases hq; exact hKn1
    | k + 2, hq => simp [cls] at hq
  have hK : va_K D cls (tys cI cJ cZ) s := by
    refine ⟨hKc, ?_⟩
    intro k q hq
    match k, hq with
    | 0, hq => cases hq; exact ⟨fun n z => ⟨fun k h => (by cases h), kI, hI2, pI, hI3⟩, hI1⟩
    | 1, hq => cases hq; exact ⟨fun n z => ⟨fun k h => (by cases h), kJ, hJ2, pJ, hJ3⟩, hJ1⟩
    | 2, hq => cases hq; exact ⟨fun n z => ⟨fun k h => (by cases h), kZ, hZ2, pZ, hZ3⟩, hZ1⟩
    | k + 3, hq => simp [tys] at hq
  obtain ⟨sa, hTE⟩ := te_start hts hgv
  have hNc : va_Nc "java/lang/IndexOutOfBoundsException" "java/lang/IllegalArgumentException" s := va_Nc.of (flat_of_before _ hgv (.not (.castable "java/lang/IndexOutOfBoundsException" "java/lang/IllegalArgumentException")) (by decide +kernel))
  have C1 : LC p l s m c b L xs D cI cJ cZ sa := ⟨S0, hX, hbl, hK, hTE, hNc, hL, hl0⟩
  have hS : va_S (nA s) s.heap s.heap [] := va_S.rf
  have hP : va_P D cls [] s.heap := fun k q h => by simp at h
  have hD : va_D (nA s) [] := ⟨fun i j p q h => by simp at h, fun k q h => by simp at h⟩
  have hl := lv_entry ([.ref b]) (n := 7) (Nat.le_of_ble_eq_true rfl)
  rw [lg_entry_eq]
  generalize (lg_sl ([.ref b]) ++ List.replicate (7 - (lg_sl ([.ref b])).length) Slot.unset).toArray = ls at hl ⊢
  have hl : lv_has ls 7 [(0, .ref b)] := hl
  refine va_new (D := D) (ci := 0) (fs := [.int 0, .int 0, .null, .null, .null, .null, .null, .null]) (C := "SightGraph") (T := T_g) (N := 8) hx hb htc in_g t_g ft_g hown (htc _ k_1_10) (htc _ k_1_11) (htc _ k_1_1) hK hP hD hS hA rfl (fun j hj => by rcases (show j = 0 ∨ j = 1 ∨ j = 2 ∨ j = 3 ∨ j = 4 ∨ j = 5 ∨ j = 6 ∨ j = 7 by omega) with rfl | rfl | rfl | rfl | rfl | rfl | rfl | rfl <;> rfl) (Nat.le_of_ble_eq_true rfl) (Nat.le_of_ble_eq_true rfl) d_l_law_0 (fun q0 H hP hD hS => ?_)
  have hP : va_P D cls [(q0, .inr (0, [.int 0, .int 0, .null, .null, .null, .null, .null, .null]))] H := hP
  have hD : va_D (nA s) [(q0, .inr (0, [.int 0, .int 0, .null, .null, .null, .null, .null, .null]))] := hD
  refine lv_dup hx hb d_l_law_3 rfl ?_
  refine WN.callI (wr := []) (rest := [.ref q0]) S0 (c_g_init l D cI cJ cZ q0) k_1_12 k_1_13 k_1_1 k_1_14 rfl (by decide +kernel) ⟨Nat.le_of_ble_eq_true rfl, Nat.le_of_ble_eq_true rfl⟩ ⟨Nat.le_of_ble_eq_true rfl, Nat.le_of_ble_eq_true rfl⟩ hP hK hD hS hA [0] [] rfl rfl (by decide) (by decide) (by decide) hl.1 (Nat.le_of_ble_eq_true rfl) rfl d_l_law_4 (fun ad H2 locs2 hu hP2 hD2 hS2 => ?_)
  subst hu
  have hP : va_P D cls (gL cI cJ ad 4 0 zg) H2 := hP2
  have hD : va_D (nA s) (gL cI cJ ad 4 0 zg) := hD2
  have hS := hS2
  refine lv_astore_n (lv' := [(1, .ref (ad 0)), (0, .ref b)]) hx hb d_l_law_7 rfl hl (by decide) rfl (fun ls hl => ?_)
  refine va_new (D := D) (ci := 1) (fs := [.int 0, .int 0, .int 0, .null, .null, .null, .null, .null, .null, .null]) (C := "SightGraphModel") (T := T_r) (N := 10) hx hb htc in_r t_r ft_r hown (htc _ k_2_67) (htc _ k_2_68) (htc _ k_1_2) hK hP hD hS hA rfl (fun j hj => by rcases (show j = 0 ∨ j = 1 ∨ j = 2 ∨ j = 3 ∨ j = 4 ∨ j = 5 ∨ j = 6 ∨ j = 7 ∨ j = 8 ∨ j = 9 by omega) with rfl | rfl | rfl | rfl | rfl | rfl | rfl | rfl | rfl | rfl <;> rfl) (Nat.le_of_ble_eq_true rfl) (Nat.le_of_ble_eq_true rfl) d_l_law_8 (fun q1 H hP hD hS => ?_)
  refine lv_dup hx hb d_l_law_11 rfl ?_
  refine WN.callI (wr := gL cI cJ ad 4 0 zg) (rest := [.ref q1]) S0 (c_r_init l D cI cJ cZ q1) k_2_69 k_2_70 k_1_2 k_2_71 rfl (by decide +kernel) ⟨Nat.le_of_ble_eq_true rfl, Nat.le_of_ble_eq_true rfl⟩ ⟨Nat.le_of_ble_eq_true rfl, Nat.le_of_ble_eq_true rfl⟩ hP hK hD hS hA [7] [0, 1, 2, 3, 4, 5, 6] rfl rfl (by decide) (by decide) (by decide) hl.1 (Nat.le_of_ble_eq_true rfl) rfl d_l_law_12 (fun bd H3 locs3 hu hP3 hD3 hS3 => ?_)
  subst hu
  have hP := hP3
  have hD := hD3
  have hS := hS3
  refine lv_astore_n (lv' := [(2, .ref (bd 0)), (1, .ref (ad 0)), (0, .ref b)]) hx hb d_l_law_15 rfl hl (by decide) rfl (fun ls hl => ?_)
  refine lv_iconst (v := nI 1) hx hb d_l_law_16 (by decide) ?_
  refine nr_newa hx hb (atype := .long) (htc _ k_1_44) rfl hK hP hD hS hA 1 rfl (fun cA h => ra_l h (hK.2 1 _ rfl).2) (N := 1) (a0 := (1, .inr (.inl (fun _ => 0)))) (fun _ => rfl) (by decide) (by decide) (Nat.le_of_ble_eq_true rfl) (Nat.le_of_ble_eq_true rfl) d_l_law_17 (fun oa H hP hD hS => ?_)
  refine lv_astore_n (lv' := [(3, .ref oa), (2, .ref (bd 0)), (1, .ref (ad 0)), (0, .ref b)]) hx hb d_l_law_19 rfl hl (by decide) rfl (fun ls hl => ?_)
  refine lv_iconst (v := nI 0) hx hb d_l_law_20 (by decide) ?_
  refine lv_istore (lv' := [(4, .int (nI 0)), (3, .ref oa), (2, .ref (bd 0)), (1, .ref (ad 0)), (0, .ref b)]) hx hb d_l_law_21 hl (by decide) rfl (fun ls hl => ?_)
  refine W.widen (k := 16 + 0) (n := 16821 + 6 * 0) (Nat.le_of_ble_eq_true rfl) (Nat.le_of_ble_eq_true rfl) ?_
  have hP : va_P D cls (LW cI cJ cZ ad bd oa 0 4 0 zg zr (fun _ => 0)) H := hP.sub [0, 1, 2, 3, 4, 5, 6, 7, 8, 9, 10, 11, 12, 13, 14, 15] rfl
  have hD : va_D (nA s) (LW cI cJ cZ ad bd oa 0 4 0 zg zr (fun _ => 0)) := hD.sub [0, 1, 2, 3, 4, 5, 6, 7, 8, 9, 10, 11, 12, 13, 14, 15] (by decide) rfl
  exact law_loop C1 hr hlocks (L + 1) 0 0 4 0 zg zr _ H _ ls (by omega) (by omega) (IV.zero (by decide)) hP hD hS hl
set_option maxHeartbeats 4000000 in
theorem lw_walk (l : Launch) (hl0 : l.stackTraces = false) (b : Addr) (xs : List Int32) : MetFree l x (headSpec (Jvm.Cond.code x code maxLocals ret :: tables_1) room_1) (lw_P b xs) (fun _ _ _ _ _ => True) lw_Q := by
  refine MetFree.of_bodyS (code := code) (maxLocals := maxLocals) (ret := ret) (by decide) ?_ ?_
  · intro args s m h hn
    obtain ⟨meth, c, h1, h2, h3, h4, h5, h6, -, -⟩ := Cond.code_spec hn (atoms_spec (ws := Jvm.Cond.code x code maxLocals ret :: tables_1) h _ List.mem_cons_self)
    exact ⟨meth, c, h1, h2, h3, h4, h5, h6⟩
  · intro p e s m args below meth c s₁ B hml0 hP _
    obtain ⟨rfl, hx, hbd, hgv⟩ := hP
    obtain ⟨scr, harrAt, hlist, hof, hsmall⟩ := hx
    obtain ⟨hcb, hkn, -, -⟩ := State.arrayAt?_spec harrAt
    have hown : s.vm.findClass R_law = some m.cls := findClass_of_methodNamed B.named
    have hts0 : ∀ c ∈ (Jvm.Cond.code x code maxLocals ret :: tables_1), c.before #[Value.ref b] s = true := atoms_spec (ws := Jvm.Cond.code x code maxLocals ret :: tables_1) B.pre
    have hts : ∀ w ∈ lw_tbl, w.before #[Value.ref b] s = true := k2_hts_sels lw_privs (fun w hw => hts0 w (List.mem_cons_of_mem _ hw)) lw_privs_ok
    have hml : c.maxLocals = 7 := B.maxLocals_eq (hts0 _ List.mem_cons_self)
    have X₀ : Stand p l e room_1 s m #[Value.ref b] below meth c s₁ [] 0 0 := Stand.of_body B
    have hh0 : s₁.heap = s.heap := by rw [B.state]; rfl
    have hsz : scr.slots.size = xs.length := by rw [← Array.length_toList, hlist, List.length_map]
    have hval : ∀ j : Nat, j < xs.length → scr.slots[j]? = some (.int (xs.getD j 0)) := fun j hj => by
      rw [← Array.getElem?_toList, hlist]
      simp [hj]
    have hbl : b < s.heap.size := (Array.getElem?_eq_some_iff.mp hcb).1
    have hX : va_X b xs.length (fun j => xs.getD j 0) s s.heap := ⟨scr, hcb, hof, hkn, hsz, hval⟩
    have K : W p l e room_1 s m #[Value.ref b] below meth c s₁.heap [] 0 0 (lw_Z below #[Value.ref b] s) (entryFrame m ([Value.ref b] : List Value).toArray 7) := by
      rw [hh0]
      exact whole_start l hl0 hbd ⟨B.exec, B.bytes, B.returns, hml, hown, hts, hX, hbl, B.notSynchronized, hgv⟩
    obtain ⟨t, a1, o, b1, b2, b3⟩ := K s₁ rfl X₀
    exact ⟨t, o, a1, b1, b2, b3⟩
theorem lw_pre_spec {args : Array Value} {s : State} (h : (Jvm.Cond.and given_1 narrow_1).before args s = true) (hr : rest_1_c.before args s = true) : ∃ (b : Addr) (xs : List Int32), lw_P b xs args s := by
  have hs := flat_of_before _ h
  have hq := flat_of_before _ hr
  have hc : (Cond.count 1).before args s = true := hs _ (by decide +kernel)
  have harr : (Cond.arrayOf (.arg 0) .int).before args s = true := hs _ (by decide +kernel)
  have hle : (Cond.le (.length (.arg 0)) (.int 2048)).before args s = true := hs _ (by decide +kernel)
  have hlen : (Cond.isInt (.length (.arg 0))).before args s = true := hq _ (by decide +kernel)
  have hall : (Cond.all (.arg 0) (.isInt (.elem (.arg 0) (.index 0)))).before args s = true := hq _ (by decide +kernel)
  obtain ⟨b, xs, hb, hx⟩ := State.ints_of_pre rfl harr hlen hall
  have hsm : xs.length < 2 ^ 31 := hx.choose_spec.2.2.2
  have hev : (Term.length (.arg 0)).eval args s none [] s = some (.int xs.length.toInt32) := hx.length_eval hb
  have hv := Cond.le_ints hev (show (Term.int 2048).eval args s none [] s = some (.int 2048) from rfl)
  have hd : xs.length.toInt32 ≤ 2048 := by
    simpa [Cond.before, Cond.holds, hv] using hle
  have hN : xs.length ≤ 2048 := (Int32.ofNat_le_ofNat hsm (by decide)).mp (show Int32.ofNat xs.length ≤ Int32.ofNat 2048 from hd)
  exact ⟨b, xs, Cond.one_arg hc (show args[0]? = some (.ref b) from hb), hx, hN, h⟩
theorem lw_comes (l : Launch) (hl0 : l.stackTraces = false) : Comes l x (Jvm.Cond.code x code maxLocals ret :: tables_1) room_1 (fun tb e args s => Calls_1 tb e args s ∧ rest_1 tb e args s ∧ Pre_1 tb e args s)
    (fun _ _ args s o t => lw_Q args s o t) := by
  intro p e ha hc hk s m args below hf hfit hheap happ hpre
  obtain ⟨b, xs, hP⟩ := lw_pre_spec hpre.2.2 hpre.2.1
  obtain ⟨k, o, h1, h2, h3, hQ⟩ := lw_walk l hl0 b xs p e ha hc hk s m args below hf ((Spec.applies_iff_loose hf).mp happ).1 hP trivial
  exact ⟨k, o, h1, h2, h3, hQ⟩
theorem lw_frame {s t : State} {o : Outcome} {args : Array Value} (h : Framed s o t [] 1047 25055) :
    Framed s o t (fieldLocs frame_1_writes args s ++ arrayLocs frame_1_arrays args s ++ staticLocs frame_1_statics s) 1047 25055 := h
theorem lw_limb (L : Cond) (hL : ∀ (args : Array Value) (s t : State), L.after args s (.returned (some (.int 1))) t = true) :
    ArmFor flags0 classFile x code maxLocals ret World_1 tables_1 room_1 Calls_1 rest_1 Pre_1
      (fun tb e a s o t => postC L tb e a s o t ∧ Framed s o t (fieldLocs frame_1_writes a s ++ arrayLocs frame_1_arrays a s ++ staticLocs frame_1_statics s) 1047 25055) := by
  intro l hfl _ _ p e ha hc hk s m args below hf hfit hheap happ hpre
  obtain ⟨k, o, h1, h2, h3, rfl, hF⟩ := lw_comes l (by unfold Launch.stackTraces; rw [hfl]; decide +kernel) p e ha hc hk s m args below hf hfit hheap happ hpre
  exact ⟨k, _, h1, h2, h3, hL args s _, lw_frame hF⟩
theorem i_vc : Claimed_1_1 ∧ Claimed_1_2 := ⟨lw_limb limb_1_1 (fun args s t => by simp [limb_1_1, Cond.after, Cond.holds, Cond.value]), lw_limb limb_1_2 (fun args s t => Cond.after_iff.mpr (by
  first | (rw [show limb_1_2 = Cond.eq .result (.int 1) from rfl, Cond.eq_ints (x := 1) (y := 1) rfl rfl]; simp; done) | (simp [limb_1_2, Cond.value, Term.eval]; done)))⟩
