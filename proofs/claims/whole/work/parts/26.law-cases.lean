set_option maxHeartbeats 4000000 in
set_option maxRecDepth 100000 in
theorem law_begin_ok {p : Program} {l : Launch} {e : Env} {s : State} {m : MethodId} {below : List Frame} {meth : Method} {c : Code} {b L : Nat} {xs : Nat → Int32} {D : va_G} {cI cJ cZ : ClassId} {sa ad bd : Nat → Nat} {oa : Nat} (C0 : LC p l s m c b L xs D cI cJ cZ sa) {H : Heap} {locs : List Loc} {cells slots : Nat} {Q : State → Prop} {ls : Array Slot} {er : Int32} {n ev i : Nat} {g : GA} {r : RA} {w : Nat → Int64} (hi : i + 3 < L) (hf : cells + 1 ≤ room_1.cells ∧ slots + 6 ≤ room_1.slots) (hP : va_P D cls (LW cI cJ cZ ad bd oa er n ev g r w) H) (hD : va_D (nA s) (LW cI cJ cZ ad bd oa er n ev g r w)) (hS : va_S (nA s) s.heap H locs) (hl : lv_has ls 7 (LV b ad bd oa i)) (v : Nat) {f1 lo1 : Nat} (hR1 : f1 + 1 ≤ room_1.frames ∧ 8 + (3 + 11) + lo1 ≤ room_1.locals) (hH : HI (S := Unit) l D (tys cI cJ cZ) (gL cI cJ ad n ev g) (fun _ => gL cI cJ ad v 0 g) (fun r _ => r = 0) y_l_begin b_l_begin 3 [(0, 5, 8, 13)] f1 lo1 [.ref (ad 0), .int (xs (i + 1))]) {f2 lo2 : Nat} (hR2 : f2 + 1 ≤ room_1.frames ∧ 8 + (2 + 11) + lo2 ≤ room_1.locals) (hM : WV (S := Unit) l D (tys cI cJ cZ) (rL cI cZ bd er n ev r) (fun _ => rL cI cZ bd 0 v 0 r) (fun _ => True) y_r_begin b_r_begin 2 f2 lo2 [.ref (bd 0), .int (xs (i + 1))]) (k : ∀ (H : Heap) (locs : List Loc) (ls : Array Slot), va_P D cls (LW cI cJ cZ ad bd oa 0 v 0 g r w) H → va_D (nA s) (LW cI cJ cZ ad bd oa 0 v 0 g r w) → va_S (nA s) s.heap H locs → lv_has ls 7 (LV b ad bd oa i) → W p l e room_1 s m #[Value.ref b] below meth c H locs (cells + 1) (slots + 6) Q (F0 m 830 ls [])) : W p l e room_1 s m #[Value.ref b] below meth c H locs cells slots Q (F0 m 96 ls []) := by
  obtain ⟨S0, hX, hbl, hK, hT, hNc, hL9, hl0⟩ := id C0
  obtain ⟨hx, hb, hml, hown, htc⟩ := id S0
  have hA : ∀ q : Nat, s.heap.size ≤ q → nA s q := fun _ h => h
  have hbA : ¬ nA s b := Nat.not_le.mpr hbl
  have hf0 : cells ≤ room_1.cells ∧ slots ≤ room_1.slots := ⟨by omega, by omega⟩
  have hP : va_P D cls (gL cI cJ ad n ev g ++ (rL cI cZ bd er n ev r ++ [(oa, .inl (cJ, 1, .inr (.inl w)))])) H := hP
  have hD : va_D (nA s) (gL cI cJ ad n ev g ++ (rL cI cZ bd er n ev r ++ [(oa, .inl (cJ, 1, .inr (.inl w)))])) := hD
  have hl : lv_has ls 7 [(4, .int (nI i)), (3, .ref oa), (2, .ref (bd 0)), (1, .ref (ad 0)), (0, .ref b)] := hl
  refine lv_aload_n hx hb d_l_law_96 rfl (lv_at hl 3 rfl) ?_
  refine lv_aload_n hx hb d_l_law_97 rfl (lv_at hl 4 rfl) ?_
  refine lv_iload hx hb d_l_law_98 (lv_at hl 0 rfl) ?_
  refine lv_iconst (v := (nI 1)) hx hb d_l_law_100 (by decide) ?_
  refine nr_iadd hx hb d_l_law_101 ?_
  refine nr_sld hx hb hX hbl hbA hS (by omega) (by omega) d_l_law_102 ?_
  refine HI.callS (wr := rL cI cZ bd er n ev r ++ [(oa, .inl (cJ, 1, .inr (.inl w)))]) (rest := []) S0 hH k_1_45 k_1_46 k_1_0 k_1_47 h_l_begin hR1 hf0 hP hK hD hS hA [0, 1, 2, 3, 4, 5, 6] [7, 8, 9, 10, 11, 12, 13, 14, 15] rfl rfl (by decide) (by decide) (by decide) hl.1 (Nat.le_of_ble_eq_true rfl) rfl d_l_law_103 (fun v9 u1 H locs hv9 hP hD hS => ?_)
  obtain rfl := hv9
  have hP : va_P D cls (gL cI cJ ad v 0 g ++ (rL cI cZ bd er n ev r ++ [(oa, .inl (cJ, 1, .inr (.inl w)))])) H := hP.sub [9, 10, 11, 12, 13, 14, 15, 0, 1, 2, 3, 4, 5, 6, 7, 8] rfl
  have hD : va_D (nA s) (gL cI cJ ad v 0 g ++ (rL cI cZ bd er n ev r ++ [(oa, .inl (cJ, 1, .inr (.inl w)))])) := hD.sub [9, 10, 11, 12, 13, 14, 15, 0, 1, 2, 3, 4, 5, 6, 7, 8] (by decide) rfl
  refine lv_istore (lv' := [(5, .int 0), (4, .int (nI i)), (3, .ref oa), (2, .ref (bd 0)), (1, .ref (ad 0)), (0, .ref b)]) hx hb d_l_law_106 hl (by decide) rfl (fun ls hl => ?_)
  refine lv_aload_n hx hb d_l_law_108 rfl (lv_at hl 3 rfl) ?_
  refine lv_aload_n hx hb d_l_law_109 rfl (lv_at hl 5 rfl) ?_
  refine lv_iload hx hb d_l_law_110 (lv_at hl 1 rfl) ?_
  refine lv_iconst (v := (nI 1)) hx hb d_l_law_112 (by decide) ?_
  refine nr_iadd hx hb d_l_law_113 ?_
  refine nr_sld hx hb hX hbl hbA hS (by omega) (by omega) d_l_law_114 ?_
  refine WV.callV (wr := gL cI cJ ad v 0 g ++ [(oa, .inl (cJ, 1, .inr (.inl w)))]) (rest := []) S0 hM k_2_109 k_2_110 k_2_111 k_1_2 k_2_112 h_r_begin hR2 hf0 hP hK hD hS hA [7, 8, 9, 10, 11, 12, 13, 14] [0, 1, 2, 3, 4, 5, 6, 15] rfl rfl (by decide) (by decide) (by decide) 0 1 rfl rfl rfl hl.1 (Nat.le_of_ble_eq_true rfl) rfl d_l_law_115 (fun u2 H locs hv9 hP hD hS => ?_)
  have hP : va_P D cls (gL cI cJ ad v 0 g ++ (rL cI cZ bd 0 v 0 r ++ [(oa, .inl (cJ, 1, .inr (.inl w)))])) H := hP.sub [0, 1, 2, 3, 4, 5, 6, 8, 9, 10, 11, 12, 13, 14, 15, 7] rfl
  have hD : va_D (nA s) (gL cI cJ ad v 0 g ++ (rL cI cZ bd 0 v 0 r ++ [(oa, .inl (cJ, 1, .inr (.inl w)))])) := hD.sub [0, 1, 2, 3, 4, 5, 6, 8, 9, 10, 11, 12, 13, 14, 15, 7] (by decide) rfl
  refine lv_aload_n hx hb d_l_law_118 rfl (lv_at hl 3 rfl) ?_
  refine PM.callV (rest := []) S0 (c_r_thrown l D cI cJ cZ bd 0 v 0 r) k_2_105 k_2_106 k_2_107 k_1_2 k_2_108 h_r_thrown ⟨Nat.le_of_ble_eq_true rfl, Nat.le_of_ble_eq_true rfl⟩ hf0 (hP.sub (ws' := rL cI cZ bd 0 v 0 r) [7, 8, 9, 10, 11, 12, 13, 14] rfl) hK 0 1 rfl rfl rfl hl.1 (Nat.le_of_ble_eq_true rfl) rfl d_l_law_119 ?_
  refine lv_iload hx hb d_l_law_122 (lv_at hl 0 rfl) ?_
  refine lv_icmp_eq (tgt := 129) hx hb d_l_law_124 (by decide) (fun _ => ?_) (fun c9 => absurd rfl c9)
  refine lv_goto (tgt := 830) hx hb d_l_law_129 (by decide) ?_
  refine W.widen (k := cells + 1) (n := slots + 6) (by omega) (by omega) ?_
  exact k H locs ls hP hD hS (lv_sub hl [1, 2, 3, 4, 5] rfl)
set_option maxHeartbeats 4000000 in
set_option maxRecDepth 100000 in
theorem law_begin_x {p : Program} {l : Launch} {e : Env} {s : State} {m : MethodId} {below : List Frame} {meth : Method} {c : Code} {b L : Nat} {xs : Nat → Int32} {D : va_G} {cI cJ cZ : ClassId} {sa ad bd : Nat → Nat} {oa : Nat} (C0 : LC p l s m c b L xs D cI cJ cZ sa) {H : Heap} {locs : List Loc} {cells slots : Nat} {Q : State → Prop} {ls : Array Slot} {er : Int32} {n ev i : Nat} {g : GA} {r : RA} {w : Nat → Int64} (hi : i + 3 < L) (hf : cells + 1 ≤ room_1.cells ∧ slots + 6 ≤ room_1.slots) (hP : va_P D cls (LW cI cJ cZ ad bd oa er n ev g r w) H) (hD : va_D (nA s) (LW cI cJ cZ ad bd oa er n ev g r w)) (hS : va_S (nA s) s.heap H locs) (hl : lv_has ls 7 (LV b ad bd oa i)) (er9 : Nat) (her : 0 < er9 ∧ er9 < 100) {f1 lo1 : Nat} (hR1 : f1 + 1 ≤ room_1.frames ∧ 8 + (3 + 11) + lo1 ≤ room_1.locals) (hH : HX l D (tys cI cJ cZ) (gL cI cJ ad n ev g) sa y_l_begin b_l_begin 3 [(0, 5, 8, 13)] f1 lo1 [.ref (ad 0), .int (xs (i + 1))] (nI er9)) {f2 lo2 : Nat} (hR2 : f2 + 1 ≤ room_1.frames ∧ 8 + (2 + 11) + lo2 ≤ room_1.locals) (hM : WV (S := Unit) l D (tys cI cJ cZ) (rL cI cZ bd er n ev r) (fun _ => rL cI cZ bd (nI er9) n ev r) (fun _ => True) y_r_begin b_r_begin 2 f2 lo2 [.ref (bd 0), .int (xs (i + 1))]) (k : ∀ (H : Heap) (locs : List Loc) (ls : Array Slot), va_P D cls (LW cI cJ cZ ad bd oa (nI er9) n ev g r w) H → va_D (nA s) (LW cI cJ cZ ad bd oa (nI er9) n ev g r w) → va_S (nA s) s.heap H locs → lv_has ls 7 (LV b ad bd oa i) → W p l e room_1 s m #[Value.ref b] below meth c H locs (cells + 1) (slots + 6) Q (F0 m 830 ls [])) : W p l e room_1 s m #[Value.ref b] below meth c H locs cells slots Q (F0 m 96 ls []) := by
  obtain ⟨S0, hX, hbl, hK, hT, hNc, hL9, hl0⟩ := id C0
  obtain ⟨hx, hb, hml, hown, htc⟩ := id S0
  have hA : ∀ q : Nat, s.heap.size ≤ q → nA s q := fun _ h => h
  have hbA : ¬ nA s b := Nat.not_le.mpr hbl
  have hf0 : cells ≤ room_1.cells ∧ slots ≤ room_1.slots := ⟨by omega, by omega⟩
  have hP : va_P D cls (gL cI cJ ad n ev g ++ (rL cI cZ bd er n ev r ++ [(oa, .inl (cJ, 1, .inr (.inl w)))])) H := hP
  have hD : va_D (nA s) (gL cI cJ ad n ev g ++ (rL cI cZ bd er n ev r ++ [(oa, .inl (cJ, 1, .inr (.inl w)))])) := hD
  have hl : lv_has ls 7 [(4, .int (nI i)), (3, .ref oa), (2, .ref (bd 0)), (1, .ref (ad 0)), (0, .ref b)] := hl
  refine lv_aload_n hx hb d_l_law_96 rfl (lv_at hl 3 rfl) ?_
  refine lv_aload_n hx hb d_l_law_97 rfl (lv_at hl 4 rfl) ?_
  refine lv_iload hx hb d_l_law_98 (lv_at hl 0 rfl) ?_
  refine lv_iconst (v := (nI 1)) hx hb d_l_law_100 (by decide) ?_
  refine nr_iadd hx hb d_l_law_101 ?_
  refine nr_sld hx hb hX hbl hbA hS (by omega) (by omega) d_l_law_102 ?_
  refine HX.callS (rest := []) S0 hH k_1_45 k_1_46 k_1_0 k_1_47 h_l_begin hR1 hf hP hK hS (LC.te hT hS) hNc [0, 1, 2, 3, 4, 5, 6] rfl hl.1 (Nat.le_of_ble_eq_true rfl) rfl d_l_law_103 (fun H locs hP hS => ?_)
  refine lv_istore (lv' := [(5, .int (nI er9)), (4, .int (nI i)), (3, .ref oa), (2, .ref (bd 0)), (1, .ref (ad 0)), (0, .ref b)]) hx hb d_l_law_106 hl (by decide) rfl (fun ls hl => ?_)
  refine lv_aload_n hx hb d_l_law_108 rfl (lv_at hl 3 rfl) ?_
  refine lv_aload_n hx hb d_l_law_109 rfl (lv_at hl 5 rfl) ?_
  refine lv_iload hx hb d_l_law_110 (lv_at hl 1 rfl) ?_
  refine lv_iconst (v := (nI 1)) hx hb d_l_law_112 (by decide) ?_
  refine nr_iadd hx hb d_l_law_113 ?_
  refine nr_sld hx hb hX hbl hbA hS (by omega) (by omega) d_l_law_114 ?_
  refine WV.callV (wr := gL cI cJ ad n ev g ++ [(oa, .inl (cJ, 1, .inr (.inl w)))]) (rest := []) S0 hM k_2_109 k_2_110 k_2_111 k_1_2 k_2_112 h_r_begin hR2 hf hP hK hD hS hA [7, 8, 9, 10, 11, 12, 13, 14] [0, 1, 2, 3, 4, 5, 6, 15] rfl rfl (by decide) (by decide) (by decide) 0 1 rfl rfl rfl hl.1 (Nat.le_of_ble_eq_true rfl) rfl d_l_law_115 (fun u2 H locs hv9 hP hD hS => ?_)
  have hP : va_P D cls (gL cI cJ ad n ev g ++ (rL cI cZ bd (nI er9) n ev r ++ [(oa, .inl (cJ, 1, .inr (.inl w)))])) H := hP.sub [0, 1, 2, 3, 4, 5, 6, 8, 9, 10, 11, 12, 13, 14, 15, 7] rfl
  have hD : va_D (nA s) (gL cI cJ ad n ev g ++ (rL cI cZ bd (nI er9) n ev r ++ [(oa, .inl (cJ, 1, .inr (.inl w)))])) := hD.sub [0, 1, 2, 3, 4, 5, 6, 8, 9, 10, 11, 12, 13, 14, 15, 7] (by decide) rfl
  refine lv_aload_n hx hb d_l_law_118 rfl (lv_at hl 3 rfl) ?_
  refine PM.callV (rest := []) S0 (c_r_thrown l D cI cJ cZ bd (nI er9) n ev r) k_2_105 k_2_106 k_2_107 k_1_2 k_2_108 h_r_thrown ⟨Nat.le_of_ble_eq_true rfl, Nat.le_of_ble_eq_true rfl⟩ hf (hP.sub (ws' := rL cI cZ bd (nI er9) n ev r) [7, 8, 9, 10, 11, 12, 13, 14] rfl) hK 0 1 rfl rfl rfl hl.1 (Nat.le_of_ble_eq_true rfl) rfl d_l_law_119 ?_
  refine lv_iload hx hb d_l_law_122 (lv_at hl 0 rfl) ?_
  refine lv_icmp_eq (tgt := 129) hx hb d_l_law_124 (by decide) (fun _ => ?_) (fun c9 => absurd rfl c9)
  refine lv_goto (tgt := 830) hx hb d_l_law_129 (by decide) ?_
  exact k H locs ls hP hD hS (lv_sub hl [1, 2, 3, 4, 5] rfl)
set_option maxHeartbeats 4000000 in
set_option maxRecDepth 100000 in
theorem law_event_ok {p : Program} {l : Launch} {e : Env} {s : State} {m : MethodId} {below : List Frame} {meth : Method} {c : Code} {b L : Nat} {xs : Nat → Int32} {D : va_G} {cI cJ cZ : ClassId} {sa ad bd : Nat → Nat} {oa : Nat} (C0 : LC p l s m c b L xs D cI cJ cZ sa) {H : Heap} {locs : List Loc} {cells slots : Nat} {Q : State → Prop} {ls : Array Slot} {er : Int32} {n ev i : Nat} {g : GA} {r : RA} {w : Nat → Int64} (hi : i + 3 < L) (hf : cells + 1 ≤ room_1.cells ∧ slots + 6 ≤ room_1.slots) (hP : va_P D cls (LW cI cJ cZ ad bd oa er n ev g r w) H) (hD : va_D (nA s) (LW cI cJ cZ ad bd oa er n ev g r w)) (hS : va_S (nA s) s.heap H locs) (hl : lv_has ls 7 (LV b ad bd oa i)) (v : Int32) {f1 lo1 : Nat} (hR1 : f1 + 1 ≤ room_1.frames ∧ 8 + (6 + 11) + lo1 ≤ room_1.locals) (P1 : GA → Prop) (P2 : RA → Prop) (hH : HI (S := GA) l D (tys cI cJ cZ) (gO cI cJ ad oa n ev g w) (fun u => gO cI cJ ad oa n (ev + 1) u (vp_updL w 0 v.toInt64)) (fun r u => r = 0 ∧ P1 u) y_l_event b_l_event 6 [(0, 12, 15, 13), (0, 12, 19, 19)] f1 lo1 [.ref (ad 0), .int (xs (i + 1)), .int (xs (i + 2)), .int (xs (i + 3)), .ref oa]) {f2 lo2 : Nat} (hR2 : f2 + 1 ≤ room_1.frames ∧ 8 + (10 + 11) + lo2 ≤ room_1.locals) (hM : WI (S := RA) l D (tys cI cJ cZ) (rL cI cZ bd er n ev r) (fun u => rL cI cZ bd 0 n (ev + 1) u) (fun q u => q = v ∧ P2 u) y_r_event b_r_event 10 (some .int) f2 lo2 [.ref (bd 0), .int (xs (i + 1)), .int (xs (i + 2)), .int (xs (i + 3))]) (k : ∀ (u1 : GA) (u2 : RA) (H : Heap) (locs : List Loc) (ls : Array Slot), P1 u1 → P2 u2 → va_P D cls (LW cI cJ cZ ad bd oa 0 n (ev + 1) u1 u2 (vp_updL w 0 v.toInt64)) H → va_D (nA s) (LW cI cJ cZ ad bd oa 0 n (ev + 1) u1 u2 (vp_updL w 0 v.toInt64)) → va_S (nA s) s.heap H locs → lv_has ls 7 (LV b ad bd oa i) → W p l e room_1 s m #[Value.ref b] below meth c H locs (cells + 1) (slots + 6) Q (F0 m 830 ls [])) : W p l e room_1 s m #[Value.ref b] below meth c H locs cells slots Q (F0 m 132 ls []) := by
  obtain ⟨S0, hX, hbl, hK, hT, hNc, hL9, hl0⟩ := id C0
  obtain ⟨hx, hb, hml, hown, htc⟩ := id S0
  have hA : ∀ q : Nat, s.heap.size ≤ q → nA s q := fun _ h => h
  have hbA : ¬ nA s b := Nat.not_le.mpr hbl
  have hf0 : cells ≤ room_1.cells ∧ slots ≤ room_1.slots := ⟨by omega, by omega⟩
  have hP : va_P D cls (gL cI cJ ad n ev g ++ (rL cI cZ bd er n ev r ++ [(oa, .inl (cJ, 1, .inr (.inl w)))])) H := hP
  have hD : va_D (nA s) (gL cI cJ ad n ev g ++ (rL cI cZ bd er n ev r ++ [(oa, .inl (cJ, 1, .inr (.inl w)))])) := hD
  have hl : lv_has ls 7 [(4, .int (nI i)), (3, .ref oa), (2, .ref (bd 0)), (1, .ref (ad 0)), (0, .ref b)] := hl
  refine lv_aload_n hx hb d_l_law_132 rfl (lv_at hl 3 rfl) ?_
  refine lv_aload_n hx hb d_l_law_133 rfl (lv_at hl 4 rfl) ?_
  refine lv_iload hx hb d_l_law_134 (lv_at hl 0 rfl) ?_
  refine lv_iconst (v := (nI 1)) hx hb d_l_law_136 (by decide) ?_
  refine nr_iadd hx hb d_l_law_137 ?_
  refine nr_sld hx hb hX hbl hbA hS (by omega) (by omega) d_l_law_138 ?_
  refine lv_aload_n hx hb d_l_law_139 rfl (lv_at hl 4 rfl) ?_
  refine lv_iload hx hb d_l_law_140 (lv_at hl 0 rfl) ?_
  refine lv_iconst (v := (nI 2)) hx hb d_l_law_142 (by decide) ?_
  refine nr_iadd hx hb d_l_law_143 ?_
  refine nr_sld hx hb hX hbl hbA hS (by omega) (by omega) d_l_law_144 ?_
  refine lv_aload_n hx hb d_l_law_145 rfl (lv_at hl 4 rfl) ?_
  refine lv_iload hx hb d_l_law_146 (lv_at hl 0 rfl) ?_
  refine lv_iconst (v := (nI 3)) hx hb d_l_law_148 (by decide) ?_
  refine nr_iadd hx hb d_l_law_149 ?_
  refine nr_sld hx hb hX hbl hbA hS (by omega) (by omega) d_l_law_150 ?_
  refine lv_aload_n hx hb d_l_law_151 rfl (lv_at hl 1 rfl) ?_
  refine HI.callS (wr := rL cI cZ bd er n ev r) (rest := []) S0 hH k_1_120 k_1_121 k_1_0 k_1_122 h_l_event hR1 hf0 hP hK hD hS hA [0, 1, 2, 3, 4, 5, 6, 15] [7, 8, 9, 10, 11, 12, 13, 14] rfl rfl (by decide) (by decide) (by decide) hl.1 (Nat.le_of_ble_eq_true rfl) rfl d_l_law_152 (fun v9 u1 H locs hv9 hP hD hS => ?_)
  obtain ⟨rfl, hp1⟩ := hv9
  have hP : va_P D cls (gL cI cJ ad n (ev + 1) u1 ++ (rL cI cZ bd er n ev r ++ [(oa, .inl (cJ, 1, .inr (.inl (vp_updL w 0 v.toInt64))))])) H := hP.sub [8, 9, 10, 11, 12, 13, 14, 0, 1, 2, 3, 4, 5, 6, 7, 15] rfl
  have hD : va_D (nA s) (gL cI cJ ad n (ev + 1) u1 ++ (rL cI cZ bd er n ev r ++ [(oa, .inl (cJ, 1, .inr (.inl (vp_updL w 0 v.toInt64))))])) := hD.sub [8, 9, 10, 11, 12, 13, 14, 0, 1, 2, 3, 4, 5, 6, 7, 15] (by decide) rfl
  refine lv_istore (lv' := [(5, .int 0), (4, .int (nI i)), (3, .ref oa), (2, .ref (bd 0)), (1, .ref (ad 0)), (0, .ref b)]) hx hb d_l_law_155 hl (by decide) rfl (fun ls hl => ?_)
  refine lv_aload_n hx hb d_l_law_157 rfl (lv_at hl 3 rfl) ?_
  refine lv_aload_n hx hb d_l_law_158 rfl (lv_at hl 5 rfl) ?_
  refine lv_iload hx hb d_l_law_159 (lv_at hl 1 rfl) ?_
  refine lv_iconst (v := (nI 1)) hx hb d_l_law_161 (by decide) ?_
  refine nr_iadd hx hb d_l_law_162 ?_
  refine nr_sld hx hb hX hbl hbA hS (by omega) (by omega) d_l_law_163 ?_
  refine lv_aload_n hx hb d_l_law_164 rfl (lv_at hl 5 rfl) ?_
  refine lv_iload hx hb d_l_law_165 (lv_at hl 1 rfl) ?_
  refine lv_iconst (v := (nI 2)) hx hb d_l_law_167 (by decide) ?_
  refine nr_iadd hx hb d_l_law_168 ?_
  refine nr_sld hx hb hX hbl hbA hS (by omega) (by omega) d_l_law_169 ?_
  refine lv_aload_n hx hb d_l_law_170 rfl (lv_at hl 5 rfl) ?_
  refine lv_iload hx hb d_l_law_171 (lv_at hl 1 rfl) ?_
  refine lv_iconst (v := (nI 3)) hx hb d_l_law_173 (by decide) ?_
  refine nr_iadd hx hb d_l_law_174 ?_
  refine nr_sld hx hb hX hbl hbA hS (by omega) (by omega) d_l_law_175 ?_
  refine WI.callV (wr := gL cI cJ ad n (ev + 1) u1 ++ [(oa, .inl (cJ, 1, .inr (.inl (vp_updL w 0 v.toInt64))))]) (rest := []) S0 hM k_2_122 k_2_123 k_2_124 k_1_2 k_2_125 h_r_event hR2 hf0 hP hK hD hS hA [7, 8, 9, 10, 11, 12, 13, 14] [0, 1, 2, 3, 4, 5, 6, 15] rfl rfl (by decide) (by decide) (by decide) 0 1 rfl rfl rfl hl.1 (Nat.le_of_ble_eq_true rfl) rfl d_l_law_176 (fun v9 u2 H locs hv9 hP hD hS => ?_)
  obtain ⟨hq9, hp2⟩ := hv9; obtain rfl := hq9.symm
  have hP : va_P D cls (gL cI cJ ad n (ev + 1) u1 ++ (rL cI cZ bd 0 n (ev + 1) u2 ++ [(oa, .inl (cJ, 1, .inr (.inl (vp_updL w 0 v.toInt64))))])) H := hP.sub [0, 1, 2, 3, 4, 5, 6, 8, 9, 10, 11, 12, 13, 14, 15, 7] rfl
  have hD : va_D (nA s) (gL cI cJ ad n (ev + 1) u1 ++ (rL cI cZ bd 0 n (ev + 1) u2 ++ [(oa, .inl (cJ, 1, .inr (.inl (vp_updL w 0 v.toInt64))))])) := hD.sub [0, 1, 2, 3, 4, 5, 6, 8, 9, 10, 11, 12, 13, 14, 15, 7] (by decide) rfl
  refine lv_istore (lv' := [(6, .int v), (5, .int 0), (4, .int (nI i)), (3, .ref oa), (2, .ref (bd 0)), (1, .ref (ad 0)), (0, .ref b)]) hx hb d_l_law_179 hl (by decide) rfl (fun ls hl => ?_)
  refine lv_aload_n hx hb d_l_law_181 rfl (lv_at hl 4 rfl) ?_
  refine PM.callV (rest := []) S0 (c_r_thrown l D cI cJ cZ bd 0 n (ev + 1) u2) k_2_105 k_2_106 k_2_107 k_1_2 k_2_108 h_r_thrown ⟨Nat.le_of_ble_eq_true rfl, Nat.le_of_ble_eq_true rfl⟩ hf0 (hP.sub (ws' := rL cI cZ bd 0 n (ev + 1) u2) [7, 8, 9, 10, 11, 12, 13, 14] rfl) hK 0 1 rfl rfl rfl hl.1 (Nat.le_of_ble_eq_true rfl) rfl d_l_law_182 ?_
  refine lv_iload hx hb d_l_law_185 (lv_at hl 1 rfl) ?_
  refine lv_icmp_eq (tgt := 192) hx hb d_l_law_187 (by decide) (fun _ => ?_) (fun c9 => absurd rfl c9)
  refine lv_iload hx hb d_l_law_192 (lv_at hl 1 rfl) ?_
  refine lv_if_ne (tgt := 209) hx hb d_l_law_194 (by decide) (fun c9 => absurd rfl c9) (fun _ => ?_)
  refine lv_aload_n hx hb d_l_law_197 rfl (lv_at hl 3 rfl) ?_
  refine lv_iconst (v := (nI 0)) hx hb d_l_law_198 (by decide) ?_
  refine nr_lald hx hb hK hP 15 1 rfl rfl (by omega) (by decide) (v := v.toInt64) pk_uLs d_l_law_199 ?_
  refine lv_iload hx hb d_l_law_200 (lv_at hl 0 rfl) ?_
  refine lv_i2l hx hb d_l_law_202 rfl ?_
  refine W.lcmp hx hb d_l_law_203 ?_
  refine lv_if_eq (tgt := 209) hx hb d_l_law_204 (by decide) (fun _ => ?_) (fun c9 => absurd (lg_same _) c9)
  refine lv_goto (tgt := 830) hx hb d_l_law_209 (by decide) ?_
  refine W.widen (k := cells + 1) (n := slots + 6) (by omega) (by omega) ?_
  exact k u1 u2 H locs ls hp1 hp2 hP hD hS (lv_sub hl [2, 3, 4, 5, 6] rfl)
set_option maxHeartbeats 4000000 in
set_option maxRecDepth 100000 in
theorem law_event_x {p : Program} {l : Launch} {e : Env} {s : State} {m : MethodId} {below : List Frame} {meth : Method} {c : Code} {b L : Nat} {xs : Nat → Int32} {D : va_G} {cI cJ cZ : ClassId} {sa ad bd : Nat → Nat} {oa : Nat} (C0 : LC p l s m c b L xs D cI cJ cZ sa) {H : Heap} {locs : List Loc} {cells slots : Nat} {Q : State → Prop} {ls : Array Slot} {er : Int32} {n ev i : Nat} {g : GA} {r : RA} {w : Nat → Int64} (hi : i + 3 < L) (hf : cells + 1 ≤ room_1.cells ∧ slots + 6 ≤ room_1.slots) (hP : va_P D cls (LW cI cJ cZ ad bd oa er n ev g r w) H) (hD : va_D (nA s) (LW cI cJ cZ ad bd oa er n ev g r w)) (hS : va_S (nA s) s.heap H locs) (hl : lv_has ls 7 (LV b ad bd oa i)) (er9 : Nat) (her : 0 < er9 ∧ er9 < 100) {f1 lo1 : Nat} (hR1 : f1 + 1 ≤ room_1.frames ∧ 8 + (6 + 11) + lo1 ≤ room_1.locals) (hH : HX l D (tys cI cJ cZ) (gO cI cJ ad oa n ev g w) sa y_l_event b_l_event 6 [(0, 12, 15, 13), (0, 12, 19, 19)] f1 lo1 [.ref (ad 0), .int (xs (i + 1)), .int (xs (i + 2)), .int (xs (i + 3)), .ref oa] (nI er9)) {f2 lo2 : Nat} (hR2 : f2 + 1 ≤ room_1.frames ∧ 8 + (10 + 11) + lo2 ≤ room_1.locals) (hM : WI (S := Unit) l D (tys cI cJ cZ) (rL cI cZ bd er n ev r) (fun _ => rL cI cZ bd (nI er9) n ev r) (fun _ _ => True) y_r_event b_r_event 10 (some .int) f2 lo2 [.ref (bd 0), .int (xs (i + 1)), .int (xs (i + 2)), .int (xs (i + 3))]) (k : ∀ (H : Heap) (locs : List Loc) (ls : Array Slot), va_P D cls (LW cI cJ cZ ad bd oa (nI er9) n ev g r w) H → va_D (nA s) (LW cI cJ cZ ad bd oa (nI er9) n ev g r w) → va_S (nA s) s.heap H locs → lv_has ls 7 (LV b ad bd oa i) → W p l e room_1 s m #[Value.ref b] below meth c H locs (cells + 1) (slots + 6) Q (F0 m 830 ls [])) : W p l e room_1 s m #[Value.ref b] below meth c H locs cells slots Q (F0 m 132 ls []) := by
  obtain ⟨S0, hX, hbl, hK, hT, hNc, hL9, hl0⟩ := id C0
  obtain ⟨hx, hb, hml, hown, htc⟩ := id S0
  have hA : ∀ q : Nat, s.heap.size ≤ q → nA s q := fun _ h => h
  have hbA : ¬ nA s b := Nat.not_le.mpr hbl
  have hf0 : cells ≤ room_1.cells ∧ slots ≤ room_1.slots := ⟨by omega, by omega⟩
  have hP : va_P D cls (gL cI cJ ad n ev g ++ (rL cI cZ bd er n ev r ++ [(oa, .inl (cJ, 1, .inr (.inl w)))])) H := hP
  have hD : va_D (nA s) (gL cI cJ ad n ev g ++ (rL cI cZ bd er n ev r ++ [(oa, .inl (cJ, 1, .inr (.inl w)))])) := hD
  have hl : lv_has ls 7 [(4, .int (nI i)), (3, .ref oa), (2, .ref (bd 0)), (1, .ref (ad 0)), (0, .ref b)] := hl
  refine lv_aload_n hx hb d_l_law_132 rfl (lv_at hl 3 rfl) ?_
  refine lv_aload_n hx hb d_l_law_133 rfl (lv_at hl 4 rfl) ?_
  refine lv_iload hx hb d_l_law_134 (lv_at hl 0 rfl) ?_
  refine lv_iconst (v := (nI 1)) hx hb d_l_law_136 (by decide) ?_
  refine nr_iadd hx hb d_l_law_137 ?_
  refine nr_sld hx hb hX hbl hbA hS (by omega) (by omega) d_l_law_138 ?_
  refine lv_aload_n hx hb d_l_law_139 rfl (lv_at hl 4 rfl) ?_
  refine lv_iload hx hb d_l_law_140 (lv_at hl 0 rfl) ?_
  refine lv_iconst (v := (nI 2)) hx hb d_l_law_142 (by decide) ?_
  refine nr_iadd hx hb d_l_law_143 ?_
  refine nr_sld hx hb hX hbl hbA hS (by omega) (by omega) d_l_law_144 ?_
  refine lv_aload_n hx hb d_l_law_145 rfl (lv_at hl 4 rfl) ?_
  refine lv_iload hx hb d_l_law_146 (lv_at hl 0 rfl) ?_
  refine lv_iconst (v := (nI 3)) hx hb d_l_law_148 (by decide) ?_
  refine nr_iadd hx hb d_l_law_149 ?_
  refine nr_sld hx hb hX hbl hbA hS (by omega) (by omega) d_l_law_150 ?_
  refine lv_aload_n hx hb d_l_law_151 rfl (lv_at hl 1 rfl) ?_
  refine HX.callS (rest := []) S0 hH k_1_120 k_1_121 k_1_0 k_1_122 h_l_event hR1 hf hP hK hS (LC.te hT hS) hNc [0, 1, 2, 3, 4, 5, 6, 15] rfl hl.1 (Nat.le_of_ble_eq_true rfl) rfl d_l_law_152 (fun H locs hP hS => ?_)
  refine lv_istore (lv' := [(5, .int (nI er9)), (4, .int (nI i)), (3, .ref oa), (2, .ref (bd 0)), (1, .ref (ad 0)), (0, .ref b)]) hx hb d_l_law_155 hl (by decide) rfl (fun ls hl => ?_)
  refine lv_aload_n hx hb d_l_law_157 rfl (lv_at hl 3 rfl) ?_
  refine lv_aload_n hx hb d_l_law_158 rfl (lv_at hl 5 rfl) ?_
  refine lv_iload hx hb d_l_law_159 (lv_at hl 1 rfl) ?_
  refine lv_iconst (v := (nI 1)) hx hb d_l_law_161 (by decide) ?_
  refine nr_iadd hx hb d_l_law_162 ?_
  refine nr_sld hx hb hX hbl hbA hS (by omega) (by omega) d_l_law_163 ?_
  refine lv_aload_n hx hb d_l_law_164 rfl (lv_at hl 5 rfl) ?_
  refine lv_iload hx hb d_l_law_165 (lv_at hl 1 rfl) ?_
  refine lv_iconst (v := (nI 2)) hx hb d_l_law_167 (by decide) ?_
  refine nr_iadd hx hb d_l_law_168 ?_
  refine nr_sld hx hb hX hbl hbA hS (by omega) (by omega) d_l_law_169 ?_
  refine lv_aload_n hx hb d_l_law_170 rfl (lv_at hl 5 rfl) ?_
  refine lv_iload hx hb d_l_law_171 (lv_at hl 1 rfl) ?_
  refine lv_iconst (v := (nI 3)) hx hb d_l_law_173 (by decide) ?_
  refine nr_iadd hx hb d_l_law_174 ?_
  refine nr_sld hx hb hX hbl hbA hS (by omega) (by omega) d_l_law_175 ?_
  refine WI.callV (wr := gL cI cJ ad n ev g ++ [(oa, .inl (cJ, 1, .inr (.inl w)))]) (rest := []) S0 hM k_2_122 k_2_123 k_2_124 k_1_2 k_2_125 h_r_event hR2 hf hP hK hD hS hA [7, 8, 9, 10, 11, 12, 13, 14] [0, 1, 2, 3, 4, 5, 6, 15] rfl rfl (by decide) (by decide) (by decide) 0 1 rfl rfl rfl hl.1 (Nat.le_of_ble_eq_true rfl) rfl d_l_law_176 (fun v9 u2 H locs hv9 hP hD hS => ?_)
  have hP : va_P D cls (gL cI cJ ad n ev g ++ (rL cI cZ bd (nI er9) n ev r ++ [(oa, .inl (cJ, 1, .inr (.inl w)))])) H := hP.sub [0, 1, 2, 3, 4, 5, 6, 8, 9, 10, 11, 12, 13, 14, 15, 7] rfl
  have hD : va_D (nA s) (gL cI cJ ad n ev g ++ (rL cI cZ bd (nI er9) n ev r ++ [(oa, .inl (cJ, 1, .inr (.inl w)))])) := hD.sub [0, 1, 2, 3, 4, 5, 6, 8, 9, 10, 11, 12, 13, 14, 15, 7] (by decide) rfl
  refine lv_istore (lv' := [(6, .int v9), (5, .int (nI er9)), (4, .int (nI i)), (3, .ref oa), (2, .ref (bd 0)), (1, .ref (ad 0)), (0, .ref b)]) hx hb d_l_law_179 hl (by decide) rfl (fun ls hl => ?_)
  refine lv_aload_n hx hb d_l_law_181 rfl (lv_at hl 4 rfl) ?_
  refine PM.callV (rest := []) S0 (c_r_thrown l D cI cJ cZ bd (nI er9) n ev r) k_2_105 k_2_106 k_2_107 k_1_2 k_2_108 h_r_thrown ⟨Nat.le_of_ble_eq_true rfl, Nat.le_of_ble_eq_true rfl⟩ hf (hP.sub (ws' := rL cI cZ bd (nI er9) n ev r) [7, 8, 9, 10, 11, 12, 13, 14] rfl) hK 0 1 rfl rfl rfl hl.1 (Nat.le_of_ble_eq_true rfl) rfl d_l_law_182 ?_
  refine lv_iload hx hb d_l_law_185 (lv_at hl 1 rfl) ?_
  refine lv_icmp_eq (tgt := 192) hx hb d_l_law_187 (by decide) (fun _ => ?_) (fun c9 => absurd rfl c9)
  refine lv_iload hx hb d_l_law_192 (lv_at hl 1 rfl) ?_
  refine lv_if_ne (tgt := 209) hx hb d_l_law_194 (by decide) (fun _ => ?_) (fun c9 => absurd c9 (nI_ne0 her.1 (by omega)))
  refine lv_goto (tgt := 830) hx hb d_l_law_209 (by decide) ?_
  exact k H locs ls hP hD hS (lv_sub hl [2, 3, 4, 5, 6] rfl)
set_option maxHeartbeats 4000000 in
set_option maxRecDepth 100000 in
theorem law_ancestor_ok {p : Program} {l : Launch} {e : Env} {s : State} {m : MethodId} {below : List Frame} {meth : Method} {c : Code} {b L : Nat} {xs : Nat → Int32} {D : va_G} {cI cJ cZ : ClassId} {sa ad bd : Nat → Nat} {oa : Nat} (C0 : LC p l s m c b L xs D cI cJ cZ sa) {H : Heap} {locs : List Loc} {cells slots : Nat} {Q : State → Prop} {ls : Array Slot} {er : Int32} {n ev i : Nat} {g : GA} {r : RA} {w : Nat → Int64} (hi : i + 3 < L) (hf : cells + 1 ≤ room_1.cells ∧ slots + 6 ≤ room_1.slots) (hP : va_P D cls (LW cI cJ cZ ad bd oa er n ev g r w) H) (hD : va_D (nA s) (LW cI cJ cZ ad bd oa er n ev g r w)) (hS : va_S (nA s) s.heap H locs) (hl : lv_has ls 7 (LV b ad bd oa i)) (v : Bool) {f1 lo1 : Nat} (hR1 : f1 + 1 ≤ room_1.frames ∧ 8 + (5 + 11) + lo1 ≤ room_1.locals) (hH : HI (S := Unit) l D (tys cI cJ cZ) (gO cI cJ ad oa n ev g w) (fun _ => gO cI cJ ad oa n ev g (vp_updL w 0 (bL v))) (fun r _ => r = 0) y_l_ancestor b_l_ancestor 5 [(0, 17, 20, 19)] f1 lo1 [.ref (ad 0), .int (xs (i + 1)), .int (xs (i + 2)), .ref oa]) {f2 lo2 : Nat} (hR2 : f2 + 1 ≤ room_1.frames ∧ 8 + (3 + 11) + lo2 ≤ room_1.locals) (hM : WI (S := Unit) l D (tys cI cJ cZ) (rL cI cZ bd er n ev r) (fun _ => rL cI cZ bd 0 n ev r) (fun q _ => q = bI v) y_r_ancestor b_r_ancestor 3 (some .boolean) f2 lo2 [.ref (bd 0), .int (xs (i + 1)), .int (xs (i + 2))]) (k : ∀ (H : Heap) (locs : List Loc) (ls : Array Slot), va_P D cls (LW cI cJ cZ ad bd oa 0 n ev g r (vp_updL w 0 (bL v))) H → va_D (nA s) (LW cI cJ cZ ad bd oa 0 n ev g r (vp_updL w 0 (bL v))) → va_S (nA s) s.heap H locs → lv_has ls 7 (LV b ad bd oa i) → W p l e room_1 s m #[Value.ref b] below meth c H locs (cells + 1) (slots + 6) Q (F0 m 830 ls [])) : W p l e room_1 s m #[Value.ref b] below meth c H locs cells slots Q (F0 m 212 ls []) := by
  obtain ⟨S0, hX, hbl, hK, hT, hNc, hL9, hl0⟩ := id C0
  obtain ⟨hx, hb, hml, hown, htc⟩ := id S0
  have hA : ∀ q : Nat, s.heap.size ≤ q → nA s q := fun _ h => h
  have hbA : ¬ nA s b := Nat.not_le.mpr hbl
  have hf0 : cells ≤ room_1.cells ∧ slots ≤ room_1.slots := ⟨by omega, by omega⟩
  have hP : va_P D cls (gL cI cJ ad n ev g ++ (rL cI cZ bd er n ev r ++ [(oa, .inl (cJ, 1, .inr (.inl w)))])) H := hP
  have hD : va_D (nA s) (gL cI cJ ad n ev g ++ (rL cI cZ bd er n ev r ++ [(oa, .inl (cJ, 1, .inr (.inl w)))])) := hD
  have hl : lv_has ls 7 [(4, .int (nI i)), (3, .ref oa), (2, .ref (bd 0)), (1, .ref (ad 0)), (0, .ref b)] := hl
  refine lv_aload_n hx hb d_l_law_212 rfl (lv_at hl 3 rfl) ?_
  refine lv_aload_n hx hb d_l_law_213 rfl (lv_at hl 4 rfl) ?_
  refine lv_iload hx hb d_l_law_214 (lv_at hl 0 rfl) ?_
  refine lv_iconst (v := (nI 1)) hx hb d_l_law_216 (by decide) ?_
  refine nr_iadd hx hb d_l_law_217 ?_
  refine nr_sld hx hb hX hbl hbA hS (by omega) (by omega) d_l_law_218 ?_
  refine lv_aload_n hx hb d_l_law_219 rfl (lv_at hl 4 rfl) ?_
  refine lv_iload hx hb d_l_law_220 (lv_at hl 0 rfl) ?_
  refine lv_iconst (v := (nI 2)) hx hb d_l_law_222 (by decide) ?_
  refine nr_iadd hx hb d_l_law_223 ?_
  refine nr_sld hx hb hX hbl hbA hS (by omega) (by omega) d_l_law_224 ?_
  refine lv_aload_n hx hb d_l_law_225 rfl (lv_at hl 1 rfl) ?_
  refine HI.callS (wr := rL cI cZ bd er n ev r) (rest := []) S0 hH k_1_226 k_1_227 k_1_0 k_1_228 h_l_ancestor hR1 hf0 hP hK hD hS hA [0, 1, 2, 3, 4, 5, 6, 15] [7, 8, 9, 10, 11, 12, 13, 14] rfl rfl (by decide) (by decide) (by decide) hl.1 (Nat.le_of_ble_eq_true rfl) rfl d_l_law_226 (fun v9 u1 H locs hv9 hP hD hS => ?_)
  obtain rfl := hv9
  have hP : va_P D cls (gL cI cJ ad n ev g ++ (rL cI cZ bd er n ev r ++ [(oa, .inl (cJ, 1, .inr (.inl (vp_updL w 0 (bL v)))))])) H := hP.sub [8, 9, 10, 11, 12, 13, 14, 0, 1, 2, 3, 4, 5, 6, 7, 15] rfl
  have hD : va_D (nA s) (gL cI cJ ad n ev g ++ (rL cI cZ bd er n ev r ++ [(oa, .inl (cJ, 1, .inr (.inl (vp_updL w 0 (bL v)))))])) := hD.sub [8, 9, 10, 11, 12, 13, 14, 0, 1, 2, 3, 4, 5, 6, 7, 15] (by decide) rfl
  refine lv_istore (lv' := [(5, .int 0), (4, .int (nI i)), (3, .ref oa), (2, .ref (bd 0)), (1, .ref (ad 0)), (0, .ref b)]) hx hb d_l_law_229 hl (by decide) rfl (fun ls hl => ?_)
  refine lv_aload_n hx hb d_l_law_231 rfl (lv_at hl 3 rfl) ?_
  refine lv_aload_n hx hb d_l_law_232 rfl (lv_at hl 5 rfl) ?_
  refine lv_iload hx hb d_l_law_233 (lv_at hl 1 rfl) ?_
  refine lv_iconst (v := (nI 1)) hx hb d_l_law_235 (by decide) ?_
  refine nr_iadd hx hb d_l_law_236 ?_
  refine nr_sld hx hb hX hbl hbA hS (by omega) (by omega) d_l_law_237 ?_
  refine lv_aload_n hx hb d_l_law_238 rfl (lv_at hl 5 rfl) ?_
  refine lv_iload hx hb d_l_law_239 (lv_at hl 1 rfl) ?_
  refine lv_iconst (v := (nI 2)) hx hb d_l_law_241 (by decide) ?_
  refine nr_iadd hx hb d_l_law_242 ?_
  refine nr_sld hx hb hX hbl hbA hS (by omega) (by omega) d_l_law_243 ?_
  refine WI.callV (wr := gL cI cJ ad n ev g ++ [(oa, .inl (cJ, 1, .inr (.inl (vp_updL w 0 (bL v)))))]) (rest := []) S0 hM k_2_163 k_2_164 k_2_165 k_1_2 k_2_166 h_r_ancestor hR2 hf0 hP hK hD hS hA [7, 8, 9, 10, 11, 12, 13, 14] [0, 1, 2, 3, 4, 5, 6, 15] rfl rfl (by decide) (by decide) (by decide) 0 1 rfl rfl rfl hl.1 (Nat.le_of_ble_eq_true rfl) rfl d_l_law_244 (fun v9 u2 H locs hv9 hP hD hS => ?_)
  obtain rfl := hv9
  have hP : va_P D cls (gL cI cJ ad n ev g ++ (rL cI cZ bd 0 n ev r ++ [(oa, .inl (cJ, 1, .inr (.inl (vp_updL w 0 (bL v)))))])) H := hP.sub [0, 1, 2, 3, 4, 5, 6, 8, 9, 10, 11, 12, 13, 14, 15, 7] rfl
  have hD : va_D (nA s) (gL cI cJ ad n ev g ++ (rL cI cZ bd 0 n ev r ++ [(oa, .inl (cJ, 1, .inr (.inl (vp_updL w 0 (bL v)))))])) := hD.sub [0, 1, 2, 3, 4, 5, 6, 8, 9, 10, 11, 12, 13, 14, 15, 7] (by decide) rfl
  refine lv_istore (lv' := [(6, .int (bI v)), (5, .int 0), (4, .int (nI i)), (3, .ref oa), (2, .ref (bd 0)), (1, .ref (ad 0)), (0, .ref b)]) hx hb d_l_law_247 hl (by decide) rfl (fun ls hl => ?_)
  refine lv_aload_n hx hb d_l_law_249 rfl (lv_at hl 4 rfl) ?_
  refine PM.callV (rest := []) S0 (c_r_thrown l D cI cJ cZ bd 0 n ev r) k_2_105 k_2_106 k_2_107 k_1_2 k_2_108 h_r_thrown ⟨Nat.le_of_ble_eq_true rfl, Nat.le_of_ble_eq_true rfl⟩ hf0 (hP.sub (ws' := rL cI cZ bd 0 n ev r) [7, 8, 9, 10, 11, 12, 13, 14] rfl) hK 0 1 rfl rfl rfl hl.1 (Nat.le_of_ble_eq_true rfl) rfl d_l_law_250 ?_
  refine lv_iload hx hb d_l_law_253 (lv_at hl 1 rfl) ?_
  refine lv_icmp_eq (tgt := 260) hx hb d_l_law_255 (by decide) (fun _ => ?_) (fun c9 => absurd rfl c9)
  refine lv_iload hx hb d_l_law_260 (lv_at hl 1 rfl) ?_
  refine lv_if_ne (tgt := 284) hx hb d_l_law_262 (by decide) (fun c9 => absurd rfl c9) (fun _ => ?_)
  refine lv_aload_n hx hb d_l_law_265 rfl (lv_at hl 3 rfl) ?_
  refine lv_iconst (v := (nI 0)) hx hb d_l_law_266 (by decide) ?_
  refine nr_lald hx hb hK hP 15 1 rfl rfl (by omega) (by decide) (v := (bL v)) pk_uLs d_l_law_267 ?_
  refine lv_iload hx hb d_l_law_268 (lv_at hl 0 rfl) ?_
  refine nr_ifeq_b (tgt := 277) hx hb d_l_law_270 (by decide) (fun c_270 => ?_) (fun c_270 => ?_)
  · refine lv_lconst (v := 0) hx hb d_l_law_277 (by decide) ?_
    refine W.lcmp hx hb d_l_law_278 ?_
    refine lv_if_eq (tgt := 284) hx hb d_l_law_279 (by decide) (fun _ => ?_) (fun c9 => absurd (by rw [c_270]; decide) c9)
    refine lv_goto (tgt := 830) hx hb d_l_law_284 (by decide) ?_
    refine W.widen (k := cells + 1) (n := slots + 6) (by omega) (by omega) ?_
    exact k H locs ls hP hD hS (lv_sub hl [2, 3, 4, 5, 6] rfl)
  · refine lv_lconst (v := 1) hx hb d_l_law_273 (by decide) ?_
    refine lv_goto (tgt := 278) hx hb d_l_law_274 (by decide) ?_
    refine W.lcmp hx hb d_l_law_278 ?_
    refine lv_if_eq (tgt := 284) hx hb d_l_law_279 (by decide) (fun _ => ?_) (fun c9 => absurd (by rw [c_270]; decide) c9)
    refine lv_goto (tgt := 830) hx hb d_l_law_284 (by decide) ?_
    refine W.widen (k := cells + 1) (n := slots + 6) (by omega) (by omega) ?_
    exact k H locs ls hP hD hS (lv_sub hl [2, 3, 4, 5, 6] rfl)
set_option maxHeartbeats 4000000 in
set_option maxRecDepth 100000 in
theorem law_ancestor_x {p : Program} {l : Launch} {e : Env} {s : State} {m : MethodId} {below : List Frame} {meth : Method} {c : Code} {b L : Nat} {xs : Nat → Int32} {D : va_G} {cI cJ cZ : ClassId} {sa ad bd : Nat → Nat} {oa : Nat} (C0 : LC p l s m c b L xs D cI cJ cZ sa) {H : Heap} {locs : List Loc} {cells slots : Nat} {Q : State → Prop} {ls : Array Slot} {er : Int32} {n ev i : Nat} {g : GA} {r : RA} {w : Nat → Int64} (hi : i + 3 < L) (hf : cells + 1 ≤ room_1.cells ∧ slots + 6 ≤ room_1.slots) (hP : va_P D cls (LW cI cJ cZ ad bd oa er n ev g r w) H) (hD : va_D (nA s) (LW cI cJ cZ ad bd oa er n ev g r w)) (hS : va_S (nA s) s.heap H locs) (hl : lv_has ls 7 (LV b ad bd oa i)) (er9 : Nat) (her : 0 < er9 ∧ er9 < 100) {f1 lo1 : Nat} (hR1 : f1 + 1 ≤ room_1.frames ∧ 8 + (5 + 11) + lo1 ≤ room_1.locals) (hH : HX l D (tys cI cJ cZ) (gO cI cJ ad oa n ev g w) sa y_l_ancestor b_l_ancestor 5 [(0, 17, 20, 19)] f1 lo1 [.ref (ad 0), .int (xs (i + 1)), .int (xs (i + 2)), .ref oa] (nI er9)) {f2 lo2 : Nat} (hR2 : f2 + 1 ≤ room_1.frames ∧ 8 + (3 + 11) + lo2 ≤ room_1.locals) (hM : WI (S := Unit) l D (tys cI cJ cZ) (rL cI cZ bd er n ev r) (fun _ => rL cI cZ bd (nI er9) n ev r) (fun _ _ => True) y_r_ancestor b_r_ancestor 3 (some .boolean) f2 lo2 [.ref (bd 0), .int (xs (i + 1)), .int (xs (i + 2))]) (k : ∀ (H : Heap) (locs : List Loc) (ls : Array Slot), va_P D cls (LW cI cJ cZ ad bd oa (nI er9) n ev g r w) H → va_D (nA s) (LW cI cJ cZ ad bd oa (nI er9) n ev g r w) → va_S (nA s) s.heap H locs → lv_has ls 7 (LV b ad bd oa i) → W p l e room_1 s m #[Value.ref b] below meth c H locs (cells + 1) (slots + 6) Q (F0 m 830 ls [])) : W p l e room_1 s m #[Value.ref b] below meth c H locs cells slots Q (F0 m 212 ls []) := by
  obtain ⟨S0, hX, hbl, hK, hT, hNc, hL9, hl0⟩ := id C0
  obtain ⟨hx, hb, hml, hown, htc⟩ := id S0
  have hA : ∀ q : Nat, s.heap.size ≤ q → nA s q := fun _ h => h
  have hbA : ¬ nA s b := Nat.not_le.mpr hbl
  have hf0 : cells ≤ room_1.cells ∧ slots ≤ room_1.slots := ⟨by omega, by omega⟩
  have hP : va_P D cls (gL cI cJ ad n ev g ++ (rL cI cZ bd er n ev r ++ [(oa, .inl (cJ, 1, .inr (.inl w)))])) H := hP
  have hD : va_D (nA s) (gL cI cJ ad n ev g ++ (rL cI cZ bd er n ev r ++ [(oa, .inl (cJ, 1, .inr (.inl w)))])) := hD
  have hl : lv_has ls 7 [(4, .int (nI i)), (3, .ref oa), (2, .ref (bd 0)), (1, .ref (ad 0)), (0, .ref b)] := hl
  refine lv_aload_n hx hb d_l_law_212 rfl (lv_at hl 3 rfl) ?_
  refine lv_aload_n hx hb d_l_law_213 rfl (lv_at hl 4 rfl) ?_
  refine lv_iload hx hb d_l_law_214 (lv_at hl 0 rfl) ?_
  refine lv_iconst (v := (nI 1)) hx hb d_l_law_216 (by decide) ?_
  refine nr_iadd hx hb d_l_law_217 ?_
  refine nr_sld hx hb hX hbl hbA hS (by omega) (by omega) d_l_law_218 ?_
  refine lv_aload_n hx hb d_l_law_219 rfl (lv_at hl 4 rfl) ?_
  refine lv_iload hx hb d_l_law_220 (lv_at hl 0 rfl) ?_
  refine lv_iconst (v := (nI 2)) hx hb d_l_law_222 (by decide) ?_
  refine nr_iadd hx hb d_l_law_223 ?_
  refine nr_sld hx hb hX hbl hbA hS (by omega) (by omega) d_l_law_224 ?_
  refine lv_aload_n hx hb d_l_law_225 rfl (lv_at hl 1 rfl) ?_
  refine HX.callS (rest := []) S0 hH k_1_226 k_1_227 k_1_0 k_1_228 h_l_ancestor hR1 hf hP hK hS (LC.te hT hS) hNc [0, 1, 2, 3, 4, 5, 6, 15] rfl hl.1 (Nat.le_of_ble_eq_true rfl) rfl d_l_law_226 (fun H locs hP hS => ?_)
  refine lv_istore (lv' := [(5, .int (nI er9)), (4, .int (nI i)), (3, .ref oa), (2, .ref (bd 0)), (1, .ref (ad 0)), (0, .ref b)]) hx hb d_l_law_229 hl (by decide) rfl (fun ls hl => ?_)
  refine lv_aload_n hx hb d_l_law_231 rfl (lv_at hl 3 rfl) ?_
  refine lv_aload_n hx hb d_l_law_232 rfl (lv_at hl 5 rfl) ?_
  refine lv_iload hx hb d_l_law_233 (lv_at hl 1 rfl) ?_
  refine lv_iconst (v := (nI 1)) hx hb d_l_law_235 (by decide) ?_
  refine nr_iadd hx hb d_l_law_236 ?_
  refine nr_sld hx hb hX hbl hbA hS (by omega) (by omega) d_l_law_237 ?_
  refine lv_aload_n hx hb d_l_law_238 rfl (lv_at hl 5 rfl) ?_
  refine lv_iload hx hb d_l_law_239 (lv_at hl 1 rfl) ?_
  refine lv_iconst (v := (nI 2)) hx hb d_l_law_241 (by decide) ?_
  refine nr_iadd hx hb d_l_law_242 ?_
  refine nr_sld hx hb hX hbl hbA hS (by omega) (by omega) d_l_law_243 ?_
  refine WI.callV (wr := gL cI cJ ad n ev g ++ [(oa, .inl (cJ, 1, .inr (.inl w)))]) (rest := []) S0 hM k_2_163 k_2_164 k_2_165 k_1_2 k_2_166 h_r_ancestor hR2 hf hP hK hD hS hA [7, 8, 9, 10, 11, 12, 13, 14] [0, 1, 2, 3, 4, 5, 6, 15] rfl rfl (by decide) (by decide) (by decide) 0 1 rfl rfl rfl hl.1 (Nat.le_of_ble_eq_true rfl) rfl d_l_law_244 (fun v9 u2 H locs hv9 hP hD hS => ?_)
  have hP : va_P D cls (gL cI cJ ad n ev g ++ (rL cI cZ bd (nI er9) n ev r ++ [(oa, .inl (cJ, 1, .inr (.inl w)))])) H := hP.sub [0, 1, 2, 3, 4, 5, 6, 8, 9, 10, 11, 12, 13, 14, 15, 7] rfl
  have hD : va_D (nA s) (gL cI cJ ad n ev g ++ (rL cI cZ bd (nI er9) n ev r ++ [(oa, .inl (cJ, 1, .inr (.inl w)))])) := hD.sub [0, 1, 2, 3, 4, 5, 6, 8, 9, 10, 11, 12, 13, 14, 15, 7] (by decide) rfl
  refine lv_istore (lv' := [(6, .int v9), (5, .int (nI er9)), (4, .int (nI i)), (3, .ref oa), (2, .ref (bd 0)), (1, .ref (ad 0)), (0, .ref b)]) hx hb d_l_law_247 hl (by decide) rfl (fun ls hl => ?_)
  refine lv_aload_n hx hb d_l_law_249 rfl (lv_at hl 4 rfl) ?_
  refine PM.callV (rest := []) S0 (c_r_thrown l D cI cJ cZ bd (nI er9) n ev r) k_2_105 k_2_106 k_2_107 k_1_2 k_2_108 h_r_thrown ⟨Nat.le_of_ble_eq_true rfl, Nat.le_of_ble_eq_true rfl⟩ hf (hP.sub (ws' := rL cI cZ bd (nI er9) n ev r) [7, 8, 9, 10, 11, 12, 13, 14] rfl) hK 0 1 rfl rfl rfl hl.1 (Nat.le_of_ble_eq_true rfl) rfl d_l_law_250 ?_
  refine lv_iload hx hb d_l_law_253 (lv_at hl 1 rfl) ?_
  refine lv_icmp_eq (tgt := 260) hx hb d_l_law_255 (by decide) (fun _ => ?_) (fun c9 => absurd rfl c9)
  refine lv_iload hx hb d_l_law_260 (lv_at hl 1 rfl) ?_
  refine lv_if_ne (tgt := 284) hx hb d_l_law_262 (by decide) (fun _ => ?_) (fun c9 => absurd c9 (nI_ne0 her.1 (by omega)))
  refine lv_goto (tgt := 830) hx hb d_l_law_284 (by decide) ?_
  exact k H locs ls hP hD hS (lv_sub hl [2, 3, 4, 5, 6] rfl)
set_option maxHeartbeats 4000000 in
set_option maxRecDepth 100000 in
theorem law_own_ok {p : Program} {l : Launch} {e : Env} {s : State} {m : MethodId} {below : List Frame} {meth : Method} {c : Code} {b L : Nat} {xs : Nat → Int32} {D : va_G} {cI cJ cZ : ClassId} {sa ad bd : Nat → Nat} {oa : Nat} (C0 : LC p l s m c b L xs D cI cJ cZ sa) {H : Heap} {locs : List Loc} {cells slots : Nat} {Q : State → Prop} {ls : Array Slot} {er : Int32} {n ev i : Nat} {g : GA} {r : RA} {w : Nat → Int64} (hi : i + 3 < L) (hf : cells + 1 ≤ room_1.cells ∧ slots + 6 ≤ room_1.slots) (hP : va_P D cls (LW cI cJ cZ ad bd oa er n ev g r w) H) (hD : va_D (nA s) (LW cI cJ cZ ad bd oa er n ev g r w)) (hS : va_S (nA s) s.heap H locs) (hl : lv_has ls 7 (LV b ad bd oa i)) (v : Bool) {f1 lo1 : Nat} (hR1 : f1 + 1 ≤ room_1.frames ∧ 8 + (5 + 11) + lo1 ≤ room_1.locals) (hH : HI (S := Unit) l D (tys cI cJ cZ) (gO cI cJ ad oa n ev g w) (fun _ => gO cI cJ ad oa n ev g (vp_updL w 0 (bL v))) (fun r _ => r = 0) y_l_own b_l_own 5 [(0, 17, 20, 19)] f1 lo1 [.ref (ad 0), .int (xs (i + 1)), .int (xs (i + 2)), .ref oa]) {f2 lo2 : Nat} (hR2 : f2 + 1 ≤ room_1.frames ∧ 8 + (3 + 11) + lo2 ≤ room_1.locals) (hM : WI (S := Unit) l D (tys cI cJ cZ) (rL cI cZ bd er n ev r) (fun _ => rL cI cZ bd 0 n ev r) (fun q _ => q = bI v) y_r_own b_r_own 3 (some .boolean) f2 lo2 [.ref (bd 0), .int (xs (i + 1)), .int (xs (i + 2))]) (k : ∀ (H : Heap) (locs : List Loc) (ls : Array Slot), va_P D cls (LW cI cJ cZ ad bd oa 0 n ev g r (vp_updL w 0 (bL v))) H → va_D (nA s) (LW cI cJ cZ ad bd oa 0 n ev g r (vp_updL w 0 (bL v))) → va_S (nA s) s.heap H locs → lv_has ls 7 (LV b ad bd oa i) → W p l e room_1 s m #[Value.ref b] below meth c H locs (cells + 1) (slots + 6) Q (F0 m 830 ls [])) : W p l e room_1 s m #[Value.ref b] below meth c H locs cells slots Q (F0 m 287 ls []) := by
  obtain ⟨S0, hX, hbl, hK, hT, hNc, hL9, hl0⟩ := id C0
  obtain ⟨hx, hb, hml, hown, htc⟩ := id S0
  have hA : ∀ q : Nat, s.heap.size ≤ q → nA s q := fun _ h => h
  have hbA : ¬ nA s b := Nat.not_le.mpr hbl
  have hf0 : cells ≤ room_1.cells ∧ slots ≤ room_1.slots := ⟨by omega, by omega⟩
  have hP : va_P D cls (gL cI cJ ad n ev g ++ (rL cI cZ bd er n ev r ++ [(oa, .inl (cJ, 1, .inr (.inl w)))])) H := hP
  have hD : va_D (nA s) (gL cI cJ ad n ev g ++ (rL cI cZ bd er n ev r ++ [(oa, .inl (cJ, 1, .inr (.inl w)))])) := hD
  have hl : lv_has ls 7 [(4, .int (nI i)), (3, .ref oa), (2, .ref (bd 0)), (1, .ref (ad 0)), (0, .ref b)] := hl
  refine lv_aload_n hx hb d_l_law_287 rfl (lv_at hl 3 rfl) ?_
  refine lv_aload_n hx hb d_l_law_288 rfl (lv_at hl 4 rfl) ?_
  refine lv_iload hx hb d_l_law_289 (lv_at hl 0 rfl) ?_
  refine lv_iconst (v := (nI 1)) hx hb d_l_law_291 (by decide) ?_
  refine nr_iadd hx hb d_l_law_292 ?_
  refine nr_sld hx hb hX hbl hbA hS (by omega) (by omega) d_l_law_293 ?_
  refine lv_aload_n hx hb d_l_law_294 rfl (lv_at hl 4 rfl) ?_
  refine lv_iload hx hb d_l_law_295 (lv_at hl 0 rfl) ?_
  refine lv_iconst (v := (nI 2)) hx hb d_l_law_297 (by decide) ?_
  refine nr_iadd hx hb d_l_law_298 ?_
  refine nr_sld hx hb hX hbl hbA hS (by omega) (by omega) d_l_law_299 ?_
  refine lv_aload_n hx hb d_l_law_300 rfl (lv_at hl 1 rfl) ?_
  refine HI.callS (wr := rL cI cZ bd er n ev r) (rest := []) S0 hH k_1_238 k_1_239 k_1_0 k_2_0 h_l_own hR1 hf0 hP hK hD hS hA [0, 1, 2, 3, 4, 5, 6, 15] [7, 8, 9, 10, 11, 12, 13, 14] rfl rfl (by decide) (by decide) (by decide) hl.1 (Nat.le_of_ble_eq_true rfl) rfl d_l_law_301 (fun v9 u1 H locs hv9 hP hD hS => ?_)
  obtain rfl := hv9
  have hP : va_P D cls (gL cI cJ ad n ev g ++ (rL cI cZ bd er n ev r ++ [(oa, .inl (cJ, 1, .inr (.inl (vp_updL w 0 (bL v)))))])) H := hP.sub [8, 9, 10, 11, 12, 13, 14, 0, 1, 2, 3, 4, 5, 6, 7, 15] rfl
  have hD : va_D (nA s) (gL cI cJ ad n ev g ++ (rL cI cZ bd er n ev r ++ [(oa, .inl (cJ, 1, .inr (.inl (vp_updL w 0 (bL v)))))])) := hD.sub [8, 9, 10, 11, 12, 13, 14, 0, 1, 2, 3, 4, 5, 6, 7, 15] (by decide) rfl
  refine lv_istore (lv' := [(5, .int 0), (4, .int (nI i)), (3, .ref oa), (2, .ref (bd 0)), (1, .ref (ad 0)), (0, .ref b)]) hx hb d_l_law_304 hl (by decide) rfl (fun ls hl => ?_)
  refine lv_aload_n hx hb d_l_law_306 rfl (lv_at hl 3 rfl) ?_
  refine lv_aload_n hx hb d_l_law_307 rfl (lv_at hl 5 rfl) ?_
  refine lv_iload hx hb d_l_law_308 (lv_at hl 1 rfl) ?_
  refine lv_iconst (v := (nI 1)) hx hb d_l_law_310 (by decide) ?_
  refine nr_iadd hx hb d_l_law_311 ?_
  refine nr_sld hx hb hX hbl hbA hS (by omega) (by omega) d_l_law_312 ?_
  refine lv_aload_n hx hb d_l_law_313 rfl (lv_at hl 5 rfl) ?_
  refine lv_iload hx hb d_l_law_314 (lv_at hl 1 rfl) ?_
  refine lv_iconst (v := (nI 2)) hx hb d_l_law_316 (by decide) ?_
  refine nr_iadd hx hb d_l_law_317 ?_
  refine nr_sld hx hb hX hbl hbA hS (by omega) (by omega) d_l_law_318 ?_
  refine WI.callV (wr := gL cI cJ ad n ev g ++ [(oa, .inl (cJ, 1, .inr (.inl (vp_updL w 0 (bL v)))))]) (rest := []) S0 hM k_2_167 k_2_168 k_2_169 k_1_2 k_2_170 h_r_own hR2 hf0 hP hK hD hS hA [7, 8, 9, 10, 11, 12, 13, 14] [0, 1, 2, 3, 4, 5, 6, 15] rfl rfl (by decide) (by decide) (by decide) 0 1 rfl rfl rfl hl.1 (Nat.le_of_ble_eq_true rfl) rfl d_l_law_319 (fun v9 u2 H locs hv9 hP hD hS => ?_)
  obtain rfl := hv9
  have hP : va_P D cls (gL cI cJ ad n ev g ++ (rL cI cZ bd 0 n ev r ++ [(oa, .inl (cJ, 1, .inr (.inl (vp_updL w 0 (bL v)))))])) H := hP.sub [0, 1, 2, 3, 4, 5, 6, 8, 9, 10, 11, 12, 13, 14, 15, 7] rfl
  have hD : va_D (nA s) (gL cI cJ ad n ev g ++ (rL cI cZ bd 0 n ev r ++ [(oa, .inl (cJ, 1, .inr (.inl (vp_updL w 0 (bL v)))))])) := hD.sub [0, 1, 2, 3, 4, 5, 6, 8, 9, 10, 11, 12, 13, 14, 15, 7] (by decide) rfl
  refine lv_istore (lv' := [(6, .int (bI v)), (5, .int 0), (4, .int (nI i)), (3, .ref oa), (2, .ref (bd 0)), (1, .ref (ad 0)), (0, .ref b)]) hx hb d_l_law_322 hl (by decide) rfl (fun ls hl => ?_)
  refine lv_aload_n hx hb d_l_law_324 rfl (lv_at hl 4 rfl) ?_
  refine PM.callV (rest := []) S0 (c_r_thrown l D cI cJ cZ bd 0 n ev r) k_2_105 k_2_106 k_2_107 k_1_2 k_2_108 h_r_thrown ⟨Nat.le_of_ble_eq_true rfl, Nat.le_of_ble_eq_true rfl⟩ hf0 (hP.sub (ws' := rL cI cZ bd 0 n ev r) [7, 8, 9, 10, 11, 12, 13, 14] rfl) hK 0 1 rfl rfl rfl hl.1 (Nat.le_of_ble_eq_true rfl) rfl d_l_law_325 ?_
  refine lv_iload hx hb d_l_law_328 (lv_at hl 1 rfl) ?_
  refine lv_icmp_eq (tgt := 335) hx hb d_l_law_330 (by decide) (fun _ => ?_) (fun c9 => absurd rfl c9)
  refine lv_iload hx hb d_l_law_335 (lv_at hl 1 rfl) ?_
  refine lv_if_ne (tgt := 359) hx hb d_l_law_337 (by decide) (fun c9 => absurd rfl c9) (fun _ => ?_)
  refine lv_aload_n hx hb d_l_law_340 rfl (lv_at hl 3 rfl) ?_
  refine lv_iconst (v := (nI 0)) hx hb d_l_law_341 (by decide) ?_
  refine nr_lald hx hb hK hP 15 1 rfl rfl (by omega) (by decide) (v := (bL v)) pk_uLs d_l_law_342 ?_
  refine lv_iload hx hb d_l_law_343 (lv_at hl 0 rfl) ?_
  refine nr_ifeq_b (tgt := 352) hx hb d_l_law_345 (by decide) (fun c_345 => ?_) (fun c_345 => ?_)
  · refine lv_lconst (v := 0) hx hb d_l_law_352 (by decide) ?_
    refine W.lcmp hx hb d_l_law_353 ?_
    refine lv_if_eq (tgt := 359) hx hb d_l_law_354 (by decide) (fun _ => ?_) (fun c9 => absurd (by rw [c_345]; decide) c9)
    refine lv_goto (tgt := 830) hx hb d_l_law_359 (by decide) ?_
    refine W.widen (k := cells + 1) (n := slots + 6) (by omega) (by omega) ?_
    exact k H locs ls hP hD hS (lv_sub hl [2, 3, 4, 5, 6] rfl)
  · refine lv_lconst (v := 1) hx hb d_l_law_348 (by decide) ?_
    refine lv_goto (tgt := 353) hx hb d_l_law_349 (by decide) ?_
    refine W.lcmp hx hb d_l_law_353 ?_
    refine lv_if_eq (tgt := 359) hx hb d_l_law_354 (by decide) (fun _ => ?_) (fun c9 => absurd (by rw [c_345]; decide) c9)
    refine lv_goto (tgt := 830) hx hb d_l_law_359 (by decide) ?_
    refine W.widen (k := cells + 1) (n := slots + 6) (by omega) (by omega) ?_
    exact k H locs ls hP hD hS (lv_sub hl [2, 3, 4, 5, 6] rfl)
set_option maxHeartbeats 4000000 in
set_option maxRecDepth 100000 in
theorem law_own_x {p : Program} {l : Launch} {e : Env} {s : State} {m : MethodId} {below : List Frame} {meth : Method} {c : Code} {b L : Nat} {xs : Nat → Int32} {D : va_G} {cI cJ cZ : ClassId} {sa ad bd : Nat → Nat} {oa : Nat} (C0 : LC p l s m c b L xs D cI cJ cZ sa) {H : Heap} {locs : List Loc} {cells slots : Nat} {Q : State → Prop} {ls : Array Slot} {er : Int32} {n ev i : Nat} {g : GA} {r : RA} {w : Nat → Int64} (hi : i + 3 < L) (hf : cells + 1 ≤ room_1.cells ∧ slots + 6 ≤ room_1.slots) (hP : va_P D cls (LW cI cJ cZ ad bd oa er n ev g r w) H) (hD : va_D (nA s) (LW cI cJ cZ ad bd oa er n ev g r w)) (hS : va_S (nA s) s.heap H locs) (hl : lv_has ls 7 (LV b ad bd oa i)) (er9 : Nat) (her : 0 < er9 ∧ er9 < 100) {f1 lo1 : Nat} (hR1 : f1 + 1 ≤ room_1.frames ∧ 8 + (5 + 11) + lo1 ≤ room_1.locals) (hH : HX l D (tys cI cJ cZ) (gO cI cJ ad oa n ev g w) sa y_l_own b_l_own 5 [(0, 17, 20, 19)] f1 lo1 [.ref (ad 0), .int (xs (i + 1)), .int (xs (i + 2)), .ref oa] (nI er9)) {f2 lo2 : Nat} (hR2 : f2 + 1 ≤ room_1.frames ∧ 8 + (3 + 11) + lo2 ≤ room_1.locals) (hM : WI (S := Unit) l D (tys cI cJ cZ) (rL cI cZ bd er n ev r) (fun _ => rL cI cZ bd (nI er9) n ev r) (fun _ _ => True) y_r_own b_r_own 3 (some .boolean) f2 lo2 [.ref (bd 0), .int (xs (i + 1)), .int (xs (i + 2))]) (k : ∀ (H : Heap) (locs : List Loc) (ls : Array Slot), va_P D cls (LW cI cJ cZ ad bd oa (nI er9) n ev g r w) H → va_D (nA s) (LW cI cJ cZ ad bd oa (nI er9) n ev g r w) → va_S (nA s) s.heap H locs → lv_has ls 7 (LV b ad bd oa i) → W p l e room_1 s m #[Value.ref b] below meth c H locs (cells + 1) (slots + 6) Q (F0 m 830 ls [])) : W p l e room_1 s m #[Value.ref b] below meth c H locs cells slots Q (F0 m 287 ls []) := by
  obtain ⟨S0, hX, hbl, hK, hT, hNc, hL9, hl0⟩ := id C0
  obtain ⟨hx, hb, hml, hown, htc⟩ := id S0
  have hA : ∀ q : Nat, s.heap.size ≤ q → nA s q := fun _ h => h
  have hbA : ¬ nA s b := Nat.not_le.mpr hbl
  have hf0 : cells ≤ room_1.cells ∧ slots ≤ room_1.slots := ⟨by omega, by omega⟩
  have hP : va_P D cls (gL cI cJ ad n ev g ++ (rL cI cZ bd er n ev r ++ [(oa, .inl (cJ, 1, .inr (.inl w)))])) H := hP
  have hD : va_D (nA s) (gL cI cJ ad n ev g ++ (rL cI cZ bd er n ev r ++ [(oa, .inl (cJ, 1, .inr (.inl w)))])) := hD
  have hl : lv_has ls 7 [(4, .int (nI i)), (3, .ref oa), (2, .ref (bd 0)), (1, .ref (ad 0)), (0, .ref b)] := hl
  refine lv_aload_n hx hb d_l_law_287 rfl (lv_at hl 3 rfl) ?_
  refine lv_aload_n hx hb d_l_law_288 rfl (lv_at hl 4 rfl) ?_
  refine lv_iload hx hb d_l_law_289 (lv_at hl 0 rfl) ?_
  refine lv_iconst (v := (nI 1)) hx hb d_l_law_291 (by decide) ?_
  refine nr_iadd hx hb d_l_law_292 ?_
  refine nr_sld hx hb hX hbl hbA hS (by omega) (by omega) d_l_law_293 ?_
  refine lv_aload_n hx hb d_l_law_294 rfl (lv_at hl 4 rfl) ?_
  refine lv_iload hx hb d_l_law_295 (lv_at hl 0 rfl) ?_
  refine lv_iconst (v := (nI 2)) hx hb d_l_law_297 (by decide) ?_
  refine nr_iadd hx hb d_l_law_298 ?_
  refine nr_sld hx hb hX hbl hbA hS (by omega) (by omega) d_l_law_299 ?_
  refine lv_aload_n hx hb d_l_law_300 rfl (lv_at hl 1 rfl) ?_
  refine HX.callS (rest := []) S0 hH k_1_238 k_1_239 k_1_0 k_2_0 h_l_own hR1 hf hP hK hS (LC.te hT hS) hNc [0, 1, 2, 3, 4, 5, 6, 15] rfl hl.1 (Nat.le_of_ble_eq_true rfl) rfl d_l_law_301 (fun H locs hP hS => ?_)
  refine lv_istore (lv' := [(5, .int (nI er9)), (4, .int (nI i)), (3, .ref oa), (2, .ref (bd 0)), (1, .ref (ad 0)), (0, .ref b)]) hx hb d_l_law_304 hl (by decide) rfl (fun ls hl => ?_)
  refine lv_aload_n hx hb d_l_law_306 rfl (lv_at hl 3 rfl) ?_
  refine lv_aload_n hx hb d_l_law_307 rfl (lv_at hl 5 rfl) ?_
  refine lv_iload hx hb d_l_law_308 (lv_at hl 1 rfl) ?_
  refine lv_iconst (v := (nI 1)) hx hb d_l_law_310 (by decide) ?_
  refine nr_iadd hx hb d_l_law_311 ?_
  refine nr_sld hx hb hX hbl hbA hS (by omega) (by omega) d_l_law_312 ?_
  refine lv_aload_n hx hb d_l_law_313 rfl (lv_at hl 5 rfl) ?_
  refine lv_iload hx hb d_l_law_314 (lv_at hl 1 rfl) ?_
  refine lv_iconst (v := (nI 2)) hx hb d_l_law_316 (by decide) ?_
  refine nr_iadd hx hb d_l_law_317 ?_
  refine nr_sld hx hb hX hbl hbA hS (by omega) (by omega) d_l_law_318 ?_
  refine WI.callV (wr := gL cI cJ ad n ev g ++ [(oa, .inl (cJ, 1, .inr (.inl w)))]) (rest := []) S0 hM k_2_167 k_2_168 k_2_169 k_1_2 k_2_170 h_r_own hR2 hf hP hK hD hS hA [7, 8, 9, 10, 11, 12, 13, 14] [0, 1, 2, 3, 4, 5, 6, 15] rfl rfl (by decide) (by decide) (by decide) 0 1 rfl rfl rfl hl.1 (Nat.le_of_ble_eq_true rfl) rfl d_l_law_319 (fun v9 u2 H locs hv9 hP hD hS => ?_)
  have hP : va_P D cls (gL cI cJ ad n ev g ++ (rL cI cZ bd (nI er9) n ev r ++ [(oa, .inl (cJ, 1, .inr (.inl w)))])) H := hP.sub [0, 1, 2, 3, 4, 5, 6, 8, 9, 10, 11, 12, 13, 14, 15, 7] rfl
  have hD : va_D (nA s) (gL cI cJ ad n ev g ++ (rL cI cZ bd (nI er9) n ev r ++ [(oa, .inl (cJ, 1, .inr (.inl w)))])) := hD.sub [0, 1, 2, 3, 4, 5, 6, 8, 9, 10, 11, 12, 13, 14, 15, 7] (by decide) rfl
  refine lv_istore (lv' := [(6, .int v9), (5, .int (nI er9)), (4, .int (nI i)), (3, .ref oa), (2, .ref (bd 0)), (1, .ref (ad 0)), (0, .ref b)]) hx hb d_l_law_322 hl (by decide) rfl (fun ls hl => ?_)
  refine lv_aload_n hx hb d_l_law_324 rfl (lv_at hl 4 rfl) ?_
  refine PM.callV (rest := []) S0 (c_r_thrown l D cI cJ cZ bd (nI er9) n ev r) k_2_105 k_2_106 k_2_107 k_1_2 k_2_108 h_r_thrown ⟨Nat.le_of_ble_eq_true rfl, Nat.le_of_ble_eq_true rfl⟩ hf (hP.sub (ws' := rL cI cZ bd (nI er9) n ev r) [7, 8, 9, 10, 11, 12, 13, 14] rfl) hK 0 1 rfl rfl rfl hl.1 (Nat.le_of_ble_eq_true rfl) rfl d_l_law_325 ?_
  refine lv_iload hx hb d_l_law_328 (lv_at hl 1 rfl) ?_
  refine lv_icmp_eq (tgt := 335) hx hb d_l_law_330 (by decide) (fun _ => ?_) (fun c9 => absurd rfl c9)
  refine lv_iload hx hb d_l_law_335 (lv_at hl 1 rfl) ?_
  refine lv_if_ne (tgt := 359) hx hb d_l_law_337 (by decide) (fun _ => ?_) (fun c9 => absurd c9 (nI_ne0 her.1 (by omega)))
  refine lv_goto (tgt := 830) hx hb d_l_law_359 (by decide) ?_
  exact k H locs ls hP hD hS (lv_sub hl [2, 3, 4, 5, 6] rfl)
set_option maxHeartbeats 4000000 in
set_option maxRecDepth 100000 in
theorem law_forked_ok {p : Program} {l : Launch} {e : Env} {s : State} {m : MethodId} {below : List Frame} {meth : Method} {c : Code} {b L : Nat} {xs : Nat → Int32} {D : va_G} {cI cJ cZ : ClassId} {sa ad bd : Nat → Nat} {oa : Nat} (C0 : LC p l s m c b L xs D cI cJ cZ sa) {H : Heap} {locs : List Loc} {cells slots : Nat} {Q : State → Prop} {ls : Array Slot} {er : Int32} {n ev i : Nat} {g : GA} {r : RA} {w : Nat → Int64} (hi : i + 3 < L) (hf : cells + 1 ≤ room_1.cells ∧ slots + 6 ≤ room_1.slots) (hP : va_P D cls (LW cI cJ cZ ad bd oa er n ev g r w) H) (hD : va_D (nA s) (LW cI cJ cZ ad bd oa er n ev g r w)) (hS : va_S (nA s) s.heap H locs) (hl : lv_has ls 7 (LV b ad bd oa i)) (v : Bool) {f1 lo1 : Nat} (hR1 : f1 + 1 ≤ room_1.frames ∧ 8 + (5 + 11) + lo1 ≤ room_1.locals) (hH : HI (S := Unit) l D (tys cI cJ cZ) (gO cI cJ ad oa n ev g w) (fun _ => gO cI cJ ad oa n ev g (vp_updL w 0 (bL v))) (fun r _ => r = 0) y_l_forked b_l_forked 5 [(0, 17, 20, 13), (0, 17, 24, 19)] f1 lo1 [.ref (ad 0), .int (xs (i + 1)), .int (xs (i + 2)), .ref oa]) {f2 lo2 : Nat} (hR2 : f2 + 1 ≤ room_1.frames ∧ 8 + (3 + 11) + lo2 ≤ room_1.locals) (hM : WI (S := Unit) l D (tys cI cJ cZ) (rL cI cZ bd er n ev r) (fun _ => rL cI cZ bd 0 n ev r) (fun q _ => q = bI v) y_r_forked b_r_forked 3 (some .boolean) f2 lo2 [.ref (bd 0), .int (xs (i + 1)), .int (xs (i + 2))]) (k : ∀ (H : Heap) (locs : List Loc) (ls : Array Slot), va_P D cls (LW cI cJ cZ ad bd oa 0 n ev g r (vp_updL w 0 (bL v))) H → va_D (nA s) (LW cI cJ cZ ad bd oa 0 n ev g r (vp_updL w 0 (bL v))) → va_S (nA s) s.heap H locs → lv_has ls 7 (LV b ad bd oa i) → W p l e room_1 s m #[Value.ref b] below meth c H locs (cells + 1) (slots + 6) Q (F0 m 830 ls [])) : W p l e room_1 s m #[Value.ref b] below meth c H locs cells slots Q (F0 m 362 ls []) := by
  obtain ⟨S0, hX, hbl, hK, hT, hNc, hL9, hl0⟩ := id C0
  obtain ⟨hx, hb, hml, hown, htc⟩ := id S0
  have hA : ∀ q : Nat, s.heap.size ≤ q → nA s q := fun _ h => h
  have hbA : ¬ nA s b := Nat.not_le.mpr hbl
  have hf0 : cells ≤ room_1.cells ∧ slots ≤ room_1.slots := ⟨by omega, by omega⟩
  have hP : va_P D cls (gL cI cJ ad n ev g ++ (rL cI cZ bd er n ev r ++ [(oa, .inl (cJ, 1, .inr (.inl w)))])) H := hP
  have hD : va_D (nA s) (gL cI cJ ad n ev g ++ (rL cI cZ bd er n ev r ++ [(oa, .inl (cJ, 1, .inr (.inl w)))])) := hD
  have hl : lv_has ls 7 [(4, .int (nI i)), (3, .ref oa), (2, .ref (bd 0)), (1, .ref (ad 0)), (0, .ref b)] := hl
  refine lv_aload_n hx hb d_l_law_362 rfl (lv_at hl 3 rfl) ?_
  refine lv_aload_n hx hb d_l_law_363 rfl (lv_at hl 4 rfl) ?_
  refine lv_iload hx hb d_l_law_364 (lv_at hl 0 rfl) ?_
  refine lv_iconst (v := (nI 1)) hx hb d_l_law_366 (by decide) ?_
  refine nr_iadd hx hb d_l_law_367 ?_
  refine nr_sld hx hb hX hbl hbA hS (by omega) (by omega) d_l_law_368 ?_
  refine lv_aload_n hx hb d_l_law_369 rfl (lv_at hl 4 rfl) ?_
  refine lv_iload hx hb d_l_law_370 (lv_at hl 0 rfl) ?_
  refine lv_iconst (v := (nI 2)) hx hb d_l_law_372 (by decide) ?_
  refine nr_iadd hx hb d_l_law_373 ?_
  refine nr_sld hx hb hX hbl hbA hS (by omega) (by omega) d_l_law_374 ?_
  refine lv_aload_n hx hb d_l_law_375 rfl (lv_at hl 1 rfl) ?_
  refine HI.callS (wr := rL cI cZ bd er n ev r) (rest := []) S0 hH k_2_5 k_2_6 k_1_0 k_2_7 h_l_forked hR1 hf0 hP hK hD hS hA [0, 1, 2, 3, 4, 5, 6, 15] [7, 8, 9, 10, 11, 12, 13, 14] rfl rfl (by decide) (by decide) (by decide) hl.1 (Nat.le_of_ble_eq_true rfl) rfl d_l_law_376 (fun v9 u1 H locs hv9 hP hD hS => ?_)
  obtain rfl := hv9
  have hP : va_P D cls (gL cI cJ ad n ev g ++ (rL cI cZ bd er n ev r ++ [(oa, .inl (cJ, 1, .inr (.inl (vp_updL w 0 (bL v)))))])) H := hP.sub [8, 9, 10, 11, 12, 13, 14, 0, 1, 2, 3, 4, 5, 6, 7, 15] rfl
  have hD : va_D (nA s) (gL cI cJ ad n ev g ++ (rL cI cZ bd er n ev r ++ [(oa, .inl (cJ, 1, .inr (.inl (vp_updL w 0 (bL v)))))])) := hD.sub [8, 9, 10, 11, 12, 13, 14, 0, 1, 2, 3, 4, 5, 6, 7, 15] (by decide) rfl
  refine lv_istore (lv' := [(5, .int 0), (4, .int (nI i)), (3, .ref oa), (2, .ref (bd 0)), (1, .ref (ad 0)), (0, .ref b)]) hx hb d_l_law_379 hl (by decide) rfl (fun ls hl => ?_)
  refine lv_aload_n hx hb d_l_law_381 rfl (lv_at hl 3 rfl) ?_
  refine lv_aload_n hx hb d_l_law_382 rfl (lv_at hl 5 rfl) ?_
  refine lv_iload hx hb d_l_law_383 (lv_at hl 1 rfl) ?_
  refine lv_iconst (v := (nI 1)) hx hb d_l_law_385 (by decide) ?_
  refine nr_iadd hx hb d_l_law_386 ?_
  refine nr_sld hx hb hX hbl hbA hS (by omega) (by omega) d_l_law_387 ?_
  refine lv_aload_n hx hb d_l_law_388 rfl (lv_at hl 5 rfl) ?_
  refine lv_iload hx hb d_l_law_389 (lv_at hl 1 rfl) ?_
  refine lv_iconst (v := (nI 2)) hx hb d_l_law_391 (by decide) ?_
  refine nr_iadd hx hb d_l_law_392 ?_
  refine nr_sld hx hb hX hbl hbA hS (by omega) (by omega) d_l_law_393 ?_
  refine WI.callV (wr := gL cI cJ ad n ev g ++ [(oa, .inl (cJ, 1, .inr (.inl (vp_updL w 0 (bL v)))))]) (rest := []) S0 hM k_2_171 k_2_172 k_2_173 k_1_2 k_2_174 h_r_forked hR2 hf0 hP hK hD hS hA [7, 8, 9, 10, 11, 12, 13, 14] [0, 1, 2, 3, 4, 5, 6, 15] rfl rfl (by decide) (by decide) (by decide) 0 1 rfl rfl rfl hl.1 (Nat.le_of_ble_eq_true rfl) rfl d_l_law_394 (fun v9 u2 H locs hv9 hP hD hS => ?_)
  obtain rfl := hv9
  have hP : va_P D cls (gL cI cJ ad n ev g ++ (rL cI cZ bd 0 n ev r ++ [(oa, .inl (cJ, 1, .inr (.inl (vp_updL w 0 (bL v)))))])) H := hP.sub [0, 1, 2, 3, 4, 5, 6, 8, 9, 10, 11, 12, 13, 14, 15, 7] rfl
  have hD : va_D (nA s) (gL cI cJ ad n ev g ++ (rL cI cZ bd 0 n ev r ++ [(oa, .inl (cJ, 1, .inr (.inl (vp_updL w 0 (bL v)))))])) := hD.sub [0, 1, 2, 3, 4, 5, 6, 8, 9, 10, 11, 12, 13, 14, 15, 7] (by decide) rfl
  refine lv_istore (lv' := [(6, .int (bI v)), (5, .int 0), (4, .int (nI i)), (3, .ref oa), (2, .ref (bd 0)), (1, .ref (ad 0)), (0, .ref b)]) hx hb d_l_law_397 hl (by decide) rfl (fun ls hl => ?_)
  refine lv_aload_n hx hb d_l_law_399 rfl (lv_at hl 4 rfl) ?_
  refine PM.callV (rest := []) S0 (c_r_thrown l D cI cJ cZ bd 0 n ev r) k_2_105 k_2_106 k_2_107 k_1_2 k_2_108 h_r_thrown ⟨Nat.le_of_ble_eq_true rfl, Nat.le_of_ble_eq_true rfl⟩ hf0 (hP.sub (ws' := rL cI cZ bd 0 n ev r) [7, 8, 9, 10, 11, 12, 13, 14] rfl) hK 0 1 rfl rfl rfl hl.1 (Nat.le_of_ble_eq_true rfl) rfl d_l_law_400 ?_
  refine lv_iload hx hb d_l_law_403 (lv_at hl 1 rfl) ?_
  refine lv_icmp_eq (tgt := 410) hx hb d_l_law_405 (by decide) (fun _ => ?_) (fun c9 => absurd rfl c9)
  refine lv_iload hx hb d_l_law_410 (lv_at hl 1 rfl) ?_
  refine lv_if_ne (tgt := 434) hx hb d_l_law_412 (by decide) (fun c9 => absurd rfl c9) (fun _ => ?_)
  refine lv_aload_n hx hb d_l_law_415 rfl (lv_at hl 3 rfl) ?_
  refine lv_iconst (v := (nI 0)) hx hb d_l_law_416 (by decide) ?_
  refine nr_lald hx hb hK hP 15 1 rfl rfl (by omega) (by decide) (v := (bL v)) pk_uLs d_l_law_417 ?_
  refine lv_iload hx hb d_l_law_418 (lv_at hl 0 rfl) ?_
  refine nr_ifeq_b (tgt := 427) hx hb d_l_law_420 (by decide) (fun c_420 => ?_) (fun c_420 => ?_)
  · refine lv_lconst (v := 0) hx hb d_l_law_427 (by decide) ?_
    refine W.lcmp hx hb d_l_law_428 ?_
    refine lv_if_eq (tgt := 434) hx hb d_l_law_429 (by decide) (fun _ => ?_) (fun c9 => absurd (by rw [c_420]; decide) c9)
    refine lv_goto (tgt := 830) hx hb d_l_law_434 (by decide) ?_
    refine W.widen (k := cells + 1) (n := slots + 6) (by omega) (by omega) ?_
    exact k H locs ls hP hD hS (lv_sub hl [2, 3, 4, 5, 6] rfl)
  · refine lv_lconst (v := 1) hx hb d_l_law_423 (by decide) ?_
    refine lv_goto (tgt := 428) hx hb d_l_law_424 (by decide) ?_
    refine W.lcmp hx hb d_l_law_428 ?_
    refine lv_if_eq (tgt := 434) hx hb d_l_law_429 (by decide) (fun _ => ?_) (fun c9 => absurd (by rw [c_420]; decide) c9)
    refine lv_goto (tgt := 830) hx hb d_l_law_434 (by decide) ?_
    refine W.widen (k := cells + 1) (n := slots + 6) (by omega) (by omega) ?_
    exact k H locs ls hP hD hS (lv_sub hl [2, 3, 4, 5, 6] rfl)
set_option maxHeartbeats 4000000 in
set_option maxRecDepth 100000 in
theorem law_forked_x {p : Program} {l : Launch} {e : Env} {s : State} {m : MethodId} {below : List Frame} {meth : Method} {c : Code} {b L : Nat} {xs : Nat → Int32} {D : va_G} {cI cJ cZ : ClassId} {sa ad bd : Nat → Nat} {oa : Nat} (C0 : LC p l s m c b L xs D cI cJ cZ sa) {H : Heap} {locs : List Loc} {cells slots : Nat} {Q : State → Prop} {ls : Array Slot} {er : Int32} {n ev i : Nat} {g : GA} {r : RA} {w : Nat → Int64} (hi : i + 3 < L) (hf : cells + 1 ≤ room_1.cells ∧ slots + 6 ≤ room_1.slots) (hP : va_P D cls (LW cI cJ cZ ad bd oa er n ev g r w) H) (hD : va_D (nA s) (LW cI cJ cZ ad bd oa er n ev g r w)) (hS : va_S (nA s) s.heap H locs) (hl : lv_has ls 7 (LV b ad bd oa i)) (er9 : Nat) (her : 0 < er9 ∧ er9 < 100) {f1 lo1 : Nat} (hR1 : f1 + 1 ≤ room_1.frames ∧ 8 + (5 + 11) + lo1 ≤ room_1.locals) (hH : HX l D (tys cI cJ cZ) (gO cI cJ ad oa n ev g w) sa y_l_forked b_l_forked 5 [(0, 17, 20, 13), (0, 17, 24, 19)] f1 lo1 [.ref (ad 0), .int (xs (i + 1)), .int (xs (i + 2)), .ref oa] (nI er9)) {f2 lo2 : Nat} (hR2 : f2 + 1 ≤ room_1.frames ∧ 8 + (3 + 11) + lo2 ≤ room_1.locals) (hM : WI (S := Unit) l D (tys cI cJ cZ) (rL cI cZ bd er n ev r) (fun _ => rL cI cZ bd (nI er9) n ev r) (fun _ _ => True) y_r_forked b_r_forked 3 (some .boolean) f2 lo2 [.ref (bd 0), .int (xs (i + 1)), .int (xs (i + 2))]) (k : ∀ (H : Heap) (locs : List Loc) (ls : Array Slot), va_P D cls (LW cI cJ cZ ad bd oa (nI er9) n ev g r w) H → va_D (nA s) (LW cI cJ cZ ad bd oa (nI er9) n ev g r w) → va_S (nA s) s.heap H locs → lv_has ls 7 (LV b ad bd oa i) → W p l e room_1 s m #[Value.ref b] below meth c H locs (cells + 1) (slots + 6) Q (F0 m 830 ls [])) : W p l e room_1 s m #[Value.ref b] below meth c H locs cells slots Q (F0 m 362 ls []) := by
  obtain ⟨S0, hX, hbl, hK, hT, hNc, hL9, hl0⟩ := id C0
  obtain ⟨hx, hb, hml, hown, htc⟩ := id S0
  have hA : ∀ q : Nat, s.heap.size ≤ q → nA s q := fun _ h => h
  have hbA : ¬ nA s b := Nat.not_le.mpr hbl
  have hf0 : cells ≤ room_1.cells ∧ slots ≤ room_1.slots := ⟨by omega, by omega⟩
  have hP : va_P D cls (gL cI cJ ad n ev g ++ (rL cI cZ bd er n ev r ++ [(oa, .inl (cJ, 1, .inr (.inl w)))])) H := hP
  have hD : va_D (nA s) (gL cI cJ ad n ev g ++ (rL cI cZ bd er n ev r ++ [(oa, .inl (cJ, 1, .inr (.inl w)))])) := hD
  have hl : lv_has ls 7 [(4, .int (nI i)), (3, .ref oa), (2, .ref (bd 0)), (1, .ref (ad 0)), (0, .ref b)] := hl
  refine lv_aload_n hx hb d_l_law_362 rfl (lv_at hl 3 rfl) ?_
  refine lv_aload_n hx hb d_l_law_363 rfl (lv_at hl 4 rfl) ?_
  refine lv_iload hx hb d_l_law_364 (lv_at hl 0 rfl) ?_
  refine lv_iconst (v := (nI 1)) hx hb d_l_law_366 (by decide) ?_
  refine nr_iadd hx hb d_l_law_367 ?_
  refine nr_sld hx hb hX hbl hbA hS (by omega) (by omega) d_l_law_368 ?_
  refine lv_aload_n hx hb d_l_law_369 rfl (lv_at hl 4 rfl) ?_
  refine lv_iload hx hb d_l_law_370 (lv_at hl 0 rfl) ?_
  refine lv_iconst (v := (nI 2)) hx hb d_l_law_372 (by decide) ?_
  refine nr_iadd hx hb d_l_law_373 ?_
  refine nr_sld hx hb hX hbl hbA hS (by omega) (by omega) d_l_law_374 ?_
  refine lv_aload_n hx hb d_l_law_375 rfl (lv_at hl 1 rfl) ?_
  refine HX.callS (rest := []) S0 hH k_2_5 k_2_6 k_1_0 k_2_7 h_l_forked hR1 hf hP hK hS (LC.te hT hS) hNc [0, 1, 2, 3, 4, 5, 6, 15] rfl hl.1 (Nat.le_of_ble_eq_true rfl) rfl d_l_law_376 (fun H locs hP hS => ?_)
  refine lv_istore (lv' := [(5, .int (nI er9)), (4, .int (nI i)), (3, .ref oa), (2, .ref (bd 0)), (1, .ref (ad 0)), (0, .ref b)]) hx hb d_l_law_379 hl (by decide) rfl (fun ls hl => ?_)
  refine lv_aload_n hx hb d_l_law_381 rfl (lv_at hl 3 rfl) ?_
  refine lv_aload_n hx hb d_l_law_382 rfl (lv_at hl 5 rfl) ?_
  refine lv_iload hx hb d_l_law_383 (lv_at hl 1 rfl) ?_
  refine lv_iconst (v := (nI 1)) hx hb d_l_law_385 (by decide) ?_
  refine nr_iadd hx hb d_l_law_386 ?_
  refine nr_sld hx hb hX hbl hbA hS (by omega) (by omega) d_l_law_387 ?_
  refine lv_aload_n hx hb d_l_law_388 rfl (lv_at hl 5 rfl) ?_
  refine lv_iload hx hb d_l_law_389 (lv_at hl 1 rfl) ?_
  refine lv_iconst (v := (nI 2)) hx hb d_l_law_391 (by decide) ?_
  refine nr_iadd hx hb d_l_law_392 ?_
  refine nr_sld hx hb hX hbl hbA hS (by omega) (by omega) d_l_law_393 ?_
  refine WI.callV (wr := gL cI cJ ad n ev g ++ [(oa, .inl (cJ, 1, .inr (.inl w)))]) (rest := []) S0 hM k_2_171 k_2_172 k_2_173 k_1_2 k_2_174 h_r_forked hR2 hf hP hK hD hS hA [7, 8, 9, 10, 11, 12, 13, 14] [0, 1, 2, 3, 4, 5, 6, 15] rfl rfl (by decide) (by decide) (by decide) 0 1 rfl rfl rfl hl.1 (Nat.le_of_ble_eq_true rfl) rfl d_l_law_394 (fun v9 u2 H locs hv9 hP hD hS => ?_)
  have hP : va_P D cls (gL cI cJ ad n ev g ++ (rL cI cZ bd (nI er9) n ev r ++ [(oa, .inl (cJ, 1, .inr (.inl w)))])) H := hP.sub [0, 1, 2, 3, 4, 5, 6, 8, 9, 10, 11, 12, 13, 14, 15, 7] rfl
  have hD : va_D (nA s) (gL cI cJ ad n ev g ++ (rL cI cZ bd (nI er9) n ev r ++ [(oa, .inl (cJ, 1, .inr (.inl w)))])) := hD.sub [0, 1, 2, 3, 4, 5, 6, 8, 9, 10, 11, 12, 13, 14, 15, 7] (by decide) rfl
  refine lv_istore (lv' := [(6, .int v9), (5, .int (nI er9)), (4, .int (nI i)), (3, .ref oa), (2, .ref (bd 0)), (1, .ref (ad 0)), (0, .ref b)]) hx hb d_l_law_397 hl (by decide) rfl (fun ls hl => ?_)
  refine lv_aload_n hx hb d_l_law_399 rfl (lv_at hl 4 rfl) ?_
  refine PM.callV (rest := []) S0 (c_r_thrown l D cI cJ cZ bd (nI er9) n ev r) k_2_105 k_2_106 k_2_107 k_1_2 k_2_108 h_r_thrown ⟨Nat.le_of_ble_eq_true rfl, Nat.le_of_ble_eq_true rfl⟩ hf (hP.sub (ws' := rL cI cZ bd (nI er9) n ev r) [7, 8, 9, 10, 11, 12, 13, 14] rfl) hK 0 1 rfl rfl rfl hl.1 (Nat.le_of_ble_eq_true rfl) rfl d_l_law_400 ?_
  refine lv_iload hx hb d_l_law_403 (lv_at hl 1 rfl) ?_
  refine lv_icmp_eq (tgt := 410) hx hb d_l_law_405 (by decide) (fun _ => ?_) (fun c9 => absurd rfl c9)
  refine lv_iload hx hb d_l_law_410 (lv_at hl 1 rfl) ?_
  refine lv_if_ne (tgt := 434) hx hb d_l_law_412 (by decide) (fun _ => ?_) (fun c9 => absurd c9 (nI_ne0 her.1 (by omega)))
  refine lv_goto (tgt := 830) hx hb d_l_law_434 (by decide) ?_
  exact k H locs ls hP hD hS (lv_sub hl [2, 3, 4, 5, 6] rfl)
set_option maxHeartbeats 4000000 in
set_option maxRecDepth 100000 in
theorem law_sees_ok {p : Program} {l : Launch} {e : Env} {s : State} {m : MethodId} {below : List Frame} {meth : Method} {c : Code} {b L : Nat} {xs : Nat → Int32} {D : va_G} {cI cJ cZ : ClassId} {sa ad bd : Nat → Nat} {oa : Nat} (C0 : LC p l s m c b L xs D cI cJ cZ sa) {H : Heap} {locs : List Loc} {cells slots : Nat} {Q : State → Prop} {ls : Array Slot} {er : Int32} {n ev i : Nat} {g : GA} {r : RA} {w : Nat → Int64} (hi : i + 3 < L) (hf : cells + 1 ≤ room_1.cells ∧ slots + 6 ≤ room_1.slots) (hP : va_P D cls (LW cI cJ cZ ad bd oa er n ev g r w) H) (hD : va_D (nA s) (LW cI cJ cZ ad bd oa er n ev g r w)) (hS : va_S (nA s) s.heap H locs) (hl : lv_has ls 7 (LV b ad bd oa i)) (v : Bool) {f1 lo1 : Nat} (hR1 : f1 + 1 ≤ room_1.frames ∧ 8 + (5 + 11) + lo1 ≤ room_1.locals) (hH : HI (S := Unit) l D (tys cI cJ cZ) (gO cI cJ ad oa n ev g w) (fun _ => gO cI cJ ad oa n ev g (vp_updL w 0 (bL v))) (fun r _ => r = 0) y_l_sees b_l_sees 5 [(0, 17, 20, 19)] f1 lo1 [.ref (ad 0), .int (xs (i + 1)), .int (xs (i + 2)), .ref oa]) {f2 lo2 : Nat} (hR2 : f2 + 1 ≤ room_1.frames ∧ 8 + (3 + 11) + lo2 ≤ room_1.locals) (hM : WI (S := Unit) l D (tys cI cJ cZ) (rL cI cZ bd er n ev r) (fun _ => rL cI cZ bd 0 n ev r) (fun q _ => q = bI v) y_r_sees b_r_sees 3 (some .boolean) f2 lo2 [.ref (bd 0), .int (xs (i + 1)), .int (xs (i + 2))]) (k : ∀ (H : Heap) (locs : List Loc) (ls : Array Slot), va_P D cls (LW cI cJ cZ ad bd oa 0 n ev g r (vp_updL w 0 (bL v))) H → va_D (nA s) (LW cI cJ cZ ad bd oa 0 n ev g r (vp_updL w 0 (bL v))) → va_S (nA s) s.heap H locs → lv_has ls 7 (LV b ad bd oa i) → W p l e room_1 s m #[Value.ref b] below meth c H locs (cells + 1) (slots + 6) Q (F0 m 830 ls [])) : W p l e room_1 s m #[Value.ref b] below meth c H locs cells slots Q (F0 m 437 ls []) := by
  obtain ⟨S0, hX, hbl, hK, hT, hNc, hL9, hl0⟩ := id C0
  obtain ⟨hx, hb, hml, hown, htc⟩ := id S0
  have hA : ∀ q : Nat, s.heap.size ≤ q → nA s q := fun _ h => h
  have hbA : ¬ nA s b := Nat.not_le.mpr hbl
  have hf0 : cells ≤ room_1.cells ∧ slots ≤ room_1.slots := ⟨by omega, by omega⟩
  have hP : va_P D cls (gL cI cJ ad n ev g ++ (rL cI cZ bd er n ev r ++ [(oa, .inl (cJ, 1, .inr (.inl w)))])) H := hP
  have hD : va_D (nA s) (gL cI cJ ad n ev g ++ (rL cI cZ bd er n ev r ++ [(oa, .inl (cJ, 1, .inr (.inl w)))])) := hD
  have hl : lv_has ls 7 [(4, .int (nI i)), (3, .ref oa), (2, .ref (bd 0)), (1, .ref (ad 0)), (0, .ref b)] := hl
  refine lv_aload_n hx hb d_l_law_437 rfl (lv_at hl 3 rfl) ?_
  refine lv_aload_n hx hb d_l_law_438 rfl (lv_at hl 4 rfl) ?_
  refine lv_iload hx hb d_l_law_439 (lv_at hl 0 rfl) ?_
  refine lv_iconst (v := (nI 1)) hx hb d_l_law_441 (by decide) ?_
  refine nr_iadd hx hb d_l_law_442 ?_
  refine nr_sld hx hb hX hbl hbA hS (by omega) (by omega) d_l_law_443 ?_
  refine lv_aload_n hx hb d_l_law_444 rfl (lv_at hl 4 rfl) ?_
  refine lv_iload hx hb d_l_law_445 (lv_at hl 0 rfl) ?_
  refine lv_iconst (v := (nI 2)) hx hb d_l_law_447 (by decide) ?_
  refine nr_iadd hx hb d_l_law_448 ?_
  refine nr_sld hx hb hX hbl hbA hS (by omega) (by omega) d_l_law_449 ?_
  refine lv_aload_n hx hb d_l_law_450 rfl (lv_at hl 1 rfl) ?_
  refine HI.callS (wr := rL cI cZ bd er n ev r) (rest := []) S0 hH k_2_12 k_2_13 k_1_0 k_2_14 h_l_sees hR1 hf0 hP hK hD hS hA [0, 1, 2, 3, 4, 5, 6, 15] [7, 8, 9, 10, 11, 12, 13, 14] rfl rfl (by decide) (by decide) (by decide) hl.1 (Nat.le_of_ble_eq_true rfl) rfl d_l_law_451 (fun v9 u1 H locs hv9 hP hD hS => ?_)
  obtain rfl := hv9
  have hP : va_P D cls (gL cI cJ ad n ev g ++ (rL cI cZ bd er n ev r ++ [(oa, .inl (cJ, 1, .inr (.inl (vp_updL w 0 (bL v)))))])) H := hP.sub [8, 9, 10, 11, 12, 13, 14, 0, 1, 2, 3, 4, 5, 6, 7, 15] rfl
  have hD : va_D (nA s) (gL cI cJ ad n ev g ++ (rL cI cZ bd er n ev r ++ [(oa, .inl (cJ, 1, .inr (.inl (vp_updL w 0 (bL v)))))])) := hD.sub [8, 9, 10, 11, 12, 13, 14, 0, 1, 2, 3, 4, 5, 6, 7, 15] (by decide) rfl
  refine lv_istore (lv' := [(5, .int 0), (4, .int (nI i)), (3, .ref oa), (2, .ref (bd 0)), (1, .ref (ad 0)), (0, .ref b)]) hx hb d_l_law_454 hl (by decide) rfl (fun ls hl => ?_)
  refine lv_aload_n hx hb d_l_law_456 rfl (lv_at hl 3 rfl) ?_
  refine lv_aload_n hx hb d_l_law_457 rfl (lv_at hl 5 rfl) ?_
  refine lv_iload hx hb d_l_law_458 (lv_at hl 1 rfl) ?_
  refine lv_iconst (v := (nI 1)) hx hb d_l_law_460 (by decide) ?_
  refine nr_iadd hx hb d_l_law_461 ?_
  refine nr_sld hx hb hX hbl hbA hS (by omega) (by omega) d_l_law_462 ?_
  refine lv_aload_n hx hb d_l_law_463 rfl (lv_at hl 5 rfl) ?_
  refine lv_iload hx hb d_l_law_464 (lv_at hl 1 rfl) ?_
  refine lv_iconst (v := (nI 2)) hx hb d_l_law_466 (by decide) ?_
  refine nr_iadd hx hb d_l_law_467 ?_
  refine nr_sld hx hb hX hbl hbA hS (by omega) (by omega) d_l_law_468 ?_
  refine WI.callV (wr := gL cI cJ ad n ev g ++ [(oa, .inl (cJ, 1, .inr (.inl (vp_updL w 0 (bL v)))))]) (rest := []) S0 hM k_2_175 k_2_176 k_2_177 k_1_2 k_2_178 h_r_sees hR2 hf0 hP hK hD hS hA [7, 8, 9, 10, 11, 12, 13, 14] [0, 1, 2, 3, 4, 5, 6, 15] rfl rfl (by decide) (by decide) (by decide) 0 1 rfl rfl rfl hl.1 (Nat.le_of_ble_eq_true rfl) rfl d_l_law_469 (fun v9 u2 H locs hv9 hP hD hS => ?_)
  obtain rfl := hv9
  have hP : va_P D cls (gL cI cJ ad n ev g ++ (rL cI cZ bd 0 n ev r ++ [(oa, .inl (cJ, 1, .inr (.inl (vp_updL w 0 (bL v)))))])) H := hP.sub [0, 1, 2, 3, 4, 5, 6, 8, 9, 10, 11, 12, 13, 14, 15, 7] rfl
  have hD : va_D (nA s) (gL cI cJ ad n ev g ++ (rL cI cZ bd 0 n ev r ++ [(oa, .inl (cJ, 1, .inr (.inl (vp_updL w 0 (bL v)))))])) := hD.sub [0, 1, 2, 3, 4, 5, 6, 8, 9, 10, 11, 12, 13, 14, 15, 7] (by decide) rfl
  refine lv_istore (lv' := [(6, .int (bI v)), (5, .int 0), (4, .int (nI i)), (3, .ref oa), (2, .ref (bd 0)), (1, .ref (ad 0)), (0, .ref b)]) hx hb d_l_law_472 hl (by decide) rfl (fun ls hl => ?_)
  refine lv_aload_n hx hb d_l_law_474 rfl (lv_at hl 4 rfl) ?_
  refine PM.callV (rest := []) S0 (c_r_thrown l D cI cJ cZ bd 0 n ev r) k_2_105 k_2_106 k_2_107 k_1_2 k_2_108 h_r_thrown ⟨Nat.le_of_ble_eq_true rfl, Nat.le_of_ble_eq_true rfl⟩ hf0 (hP.sub (ws' := rL cI cZ bd 0 n ev r) [7, 8, 9, 10, 11, 12, 13, 14] rfl) hK 0 1 rfl rfl rfl hl.1 (Nat.le_of_ble_eq_true rfl) rfl d_l_law_475 ?_
  refine lv_iload hx hb d_l_law_478 (lv_at hl 1 rfl) ?_
  refine lv_icmp_eq (tgt := 485) hx hb d_l_law_480 (by decide) (fun _ => ?_) (fun c9 => absurd rfl c9)
  refine lv_iload hx hb d_l_law_485 (lv_at hl 1 rfl) ?_
  refine lv_if_ne (tgt := 509) hx hb d_l_law_487 (by decide) (fun c9 => absurd rfl c9) (fun _ => ?_)
  refine lv_aload_n hx hb d_l_law_490 rfl (lv_at hl 3 rfl) ?_
  refine lv_iconst (v := (nI 0)) hx hb d_l_law_491 (by decide) ?_
  refine nr_lald hx hb hK hP 15 1 rfl rfl (by omega) (by decide) (v := (bL v)) pk_uLs d_l_law_492 ?_
  refine lv_iload hx hb d_l_law_493 (lv_at hl 0 rfl) ?_
  refine nr_ifeq_b (tgt := 502) hx hb d_l_law_495 (by decide) (fun c_495 => ?_) (fun c_495 => ?_)
  · refine lv_lconst (v := 0) hx hb d_l_law_502 (by decide) ?_
    refine W.lcmp hx hb d_l_law_503 ?_
    refine lv_if_eq (tgt := 509) hx hb d_l_law_504 (by decide) (fun _ => ?_) (fun c9 => absurd (by rw [c_495]; decide) c9)
    refine lv_goto (tgt := 830) hx hb d_l_law_509 (by decide) ?_
    refine W.widen (k := cells + 1) (n := slots + 6) (by omega) (by omega) ?_
    exact k H locs ls hP hD hS (lv_sub hl [2, 3, 4, 5, 6] rfl)
  · refine lv_lconst (v := 1) hx hb d_l_law_498 (by decide) ?_
    refine lv_goto (tgt := 503) hx hb d_l_law_499 (by decide) ?_
    refine W.lcmp hx hb d_l_law_503 ?_
    refine lv_if_eq (tgt := 509) hx hb d_l_law_504 (by decide) (fun _ => ?_) (fun c9 => absurd (by rw [c_495]; decide) c9)
    refine lv_goto (tgt := 830) hx hb d_l_law_509 (by decide) ?_
    refine W.widen (k := cells + 1) (n := slots + 6) (by omega) (by omega) ?_
    exact k H locs ls hP hD hS (lv_sub hl [2, 3, 4, 5, 6] rfl)
set_option maxHeartbeats 4000000 in
set_option maxRecDepth 100000 in
theorem law_sees_x {p : Program} {l : Launch} {e : Env} {s : State} {m : MethodId} {below : List Frame} {meth : Method} {c : Code} {b L : Nat} {xs : Nat → Int32} {D : va_G} {cI cJ cZ : ClassId} {sa ad bd : Nat → Nat} {oa : Nat} (C0 : LC p l s m c b L xs D cI cJ cZ sa) {H : Heap} {locs : List Loc} {cells slots : Nat} {Q : State → Prop} {ls : Array Slot} {er : Int32} {n ev i : Nat} {g : GA} {r : RA} {w : Nat → Int64} (hi : i + 3 < L) (hf : cells + 1 ≤ room_1.cells ∧ slots + 6 ≤ room_1.slots) (hP : va_P D cls (LW cI cJ cZ ad bd oa er n ev g r w) H) (hD : va_D (nA s) (LW cI cJ cZ ad bd oa er n ev g r w)) (hS : va_S (nA s) s.heap H locs) (hl : lv_has ls 7 (LV b ad bd oa i)) (er9 : Nat) (her : 0 < er9 ∧ er9 < 100) {f1 lo1 : Nat} (hR1 : f1 + 1 ≤ room_1.frames ∧ 8 + (5 + 11) + lo1 ≤ room_1.locals) (hH : HX l D (tys cI cJ cZ) (gO cI cJ ad oa n ev g w) sa y_l_sees b_l_sees 5 [(0, 17, 20, 19)] f1 lo1 [.ref (ad 0), .int (xs (i + 1)), .int (xs (i + 2)), .ref oa] (nI er9)) {f2 lo2 : Nat} (hR2 : f2 + 1 ≤ room_1.frames ∧ 8 + (3 + 11) + lo2 ≤ room_1.locals) (hM : WI (S := Unit) l D (tys cI cJ cZ) (rL cI cZ bd er n ev r) (fun _ => rL cI cZ bd (nI er9) n ev r) (fun _ _ => True) y_r_sees b_r_sees 3 (some .boolean) f2 lo2 [.ref (bd 0), .int (xs (i + 1)), .int (xs (i + 2))]) (k : ∀ (H : Heap) (locs : List Loc) (ls : Array Slot), va_P D cls (LW cI cJ cZ ad bd oa (nI er9) n ev g r w) H → va_D (nA s) (LW cI cJ cZ ad bd oa (nI er9) n ev g r w) → va_S (nA s) s.heap H locs → lv_has ls 7 (LV b ad bd oa i) → W p l e room_1 s m #[Value.ref b] below meth c H locs (cells + 1) (slots + 6) Q (F0 m 830 ls [])) : W p l e room_1 s m #[Value.ref b] below meth c H locs cells slots Q (F0 m 437 ls []) := by
  obtain ⟨S0, hX, hbl, hK, hT, hNc, hL9, hl0⟩ := id C0
  obtain ⟨hx, hb, hml, hown, htc⟩ := id S0
  have hA : ∀ q : Nat, s.heap.size ≤ q → nA s q := fun _ h => h
  have hbA : ¬ nA s b := Nat.not_le.mpr hbl
  have hf0 : cells ≤ room_1.cells ∧ slots ≤ room_1.slots := ⟨by omega, by omega⟩
  have hP : va_P D cls (gL cI cJ ad n ev g ++ (rL cI cZ bd er n ev r ++ [(oa, .inl (cJ, 1, .inr (.inl w)))])) H := hP
  have hD : va_D (nA s) (gL cI cJ ad n ev g ++ (rL cI cZ bd er n ev r ++ [(oa, .inl (cJ, 1, .inr (.inl w)))])) := hD
  have hl : lv_has ls 7 [(4, .int (nI i)), (3, .ref oa), (2, .ref (bd 0)), (1, .ref (ad 0)), (0, .ref b)] := hl
  refine lv_aload_n hx hb d_l_law_437 rfl (lv_at hl 3 rfl) ?_
  refine lv_aload_n hx hb d_l_law_438 rfl (lv_at hl 4 rfl) ?_
  refine lv_iload hx hb d_l_law_439 (lv_at hl 0 rfl) ?_
  refine lv_iconst (v := (nI 1)) hx hb d_l_law_441 (by decide) ?_
  refine nr_iadd hx hb d_l_law_442 ?_
  refine nr_sld hx hb hX hbl hbA hS (by omega) (by omega) d_l_law_443 ?_
  refine lv_aload_n hx hb d_l_law_444 rfl (lv_at hl 4 rfl) ?_
  refine lv_iload hx hb d_l_law_445 (lv_at hl 0 rfl) ?_
  refine lv_iconst (v := (nI 2)) hx hb d_l_law_447 (by decide) ?_
  refine nr_iadd hx hb d_l_law_448 ?_
  refine nr_sld hx hb hX hbl hbA hS (by omega) (by omega) d_l_law_449 ?_
  refine lv_aload_n hx hb d_l_law_450 rfl (lv_at hl 1 rfl) ?_
  refine HX.callS (rest := []) S0 hH k_2_12 k_2_13 k_1_0 k_2_14 h_l_sees hR1 hf hP hK hS (LC.te hT hS) hNc [0, 1, 2, 3, 4, 5, 6, 15] rfl hl.1 (Nat.le_of_ble_eq_true rfl) rfl d_l_law_451 (fun H locs hP hS => ?_)
  refine lv_istore (lv' := [(5, .int (nI er9)), (4, .int (nI i)), (3, .ref oa), (2, .ref (bd 0)), (1, .ref (ad 0)), (0, .ref b)]) hx hb d_l_law_454 hl (by decide) rfl (fun ls hl => ?_)
  refine lv_aload_n hx hb d_l_law_456 rfl (lv_at hl 3 rfl) ?_
  refine lv_aload_n hx hb d_l_law_457 rfl (lv_at hl 5 rfl) ?_
  refine lv_iload hx hb d_l_law_458 (lv_at hl 1 rfl) ?_
  refine lv_iconst (v := (nI 1)) hx hb d_l_law_460 (by decide) ?_
  refine nr_iadd hx hb d_l_law_461 ?_
  refine nr_sld hx hb hX hbl hbA hS (by omega) (by omega) d_l_law_462 ?_
  refine lv_aload_n hx hb d_l_law_463 rfl (lv_at hl 5 rfl) ?_
  refine lv_iload hx hb d_l_law_464 (lv_at hl 1 rfl) ?_
  refine lv_iconst (v := (nI 2)) hx hb d_l_law_466 (by decide) ?_
  refine nr_iadd hx hb d_l_law_467 ?_
  refine nr_sld hx hb hX hbl hbA hS (by omega) (by omega) d_l_law_468 ?_
  refine WI.callV (wr := gL cI cJ ad n ev g ++ [(oa, .inl (cJ, 1, .inr (.inl w)))]) (rest := []) S0 hM k_2_175 k_2_176 k_2_177 k_1_2 k_2_178 h_r_sees hR2 hf hP hK hD hS hA [7, 8, 9, 10, 11, 12, 13, 14] [0, 1, 2, 3, 4, 5, 6, 15] rfl rfl (by decide) (by decide) (by decide) 0 1 rfl rfl rfl hl.1 (Nat.le_of_ble_eq_true rfl) rfl d_l_law_469 (fun v9 u2 H locs hv9 hP hD hS => ?_)
  have hP : va_P D cls (gL cI cJ ad n ev g ++ (rL cI cZ bd (nI er9) n ev r ++ [(oa, .inl (cJ, 1, .inr (.inl w)))])) H := hP.sub [0, 1, 2, 3, 4, 5, 6, 8, 9, 10, 11, 12, 13, 14, 15, 7] rfl
  have hD : va_D (nA s) (gL cI cJ ad n ev g ++ (rL cI cZ bd (nI er9) n ev r ++ [(oa, .inl (cJ, 1, .inr (.inl w)))])) := hD.sub [0, 1, 2, 3, 4, 5, 6, 8, 9, 10, 11, 12, 13, 14, 15, 7] (by decide) rfl
  refine lv_istore (lv' := [(6, .int v9), (5, .int (nI er9)), (4, .int (nI i)), (3, .ref oa), (2, .ref (bd 0)), (1, .ref (ad 0)), (0, .ref b)]) hx hb d_l_law_472 hl (by decide) rfl (fun ls hl => ?_)
  refine lv_aload_n hx hb d_l_law_474 rfl (lv_at hl 4 rfl) ?_
  refine PM.callV (rest := []) S0 (c_r_thrown l D cI cJ cZ bd (nI er9) n ev r) k_2_105 k_2_106 k_2_107 k_1_2 k_2_108 h_r_thrown ⟨Nat.le_of_ble_eq_true rfl, Nat.le_of_ble_eq_true rfl⟩ hf (hP.sub (ws' := rL cI cZ bd (nI er9) n ev r) [7, 8, 9, 10, 11, 12, 13, 14] rfl) hK 0 1 rfl rfl rfl hl.1 (Nat.le_of_ble_eq_true rfl) rfl d_l_law_475 ?_
  refine lv_iload hx hb d_l_law_478 (lv_at hl 1 rfl) ?_
  refine lv_icmp_eq (tgt := 485) hx hb d_l_law_480 (by decide) (fun _ => ?_) (fun c9 => absurd rfl c9)
  refine lv_iload hx hb d_l_law_485 (lv_at hl 1 rfl) ?_
  refine lv_if_ne (tgt := 509) hx hb d_l_law_487 (by decide) (fun _ => ?_) (fun c9 => absurd c9 (nI_ne0 her.1 (by omega)))
  refine lv_goto (tgt := 830) hx hb d_l_law_509 (by decide) ?_
  exact k H locs ls hP hD hS (lv_sub hl [2, 3, 4, 5, 6] rfl)
set_option maxHeartbeats 4000000 in
set_option maxRecDepth 100000 in
theorem law_strength_ok {p : Program} {l : Launch} {e : Env} {s : State} {m : MethodId} {below : List Frame} {meth : Method} {c : Code} {b L : Nat} {xs : Nat → Int32} {D : va_G} {cI cJ cZ : ClassId} {sa ad bd : Nat → Nat} {oa : Nat} (C0 : LC p l s m c b L xs D cI cJ cZ sa) {H : Heap} {locs : List Loc} {cells slots : Nat} {Q : State → Prop} {ls : Array Slot} {er : Int32} {n ev i : Nat} {g : GA} {r : RA} {w : Nat → Int64} (hi : i + 3 < L) (hf : cells + 1 ≤ room_1.cells ∧ slots + 6 ≤ room_1.slots) (hP : va_P D cls (LW cI cJ cZ ad bd oa er n ev g r w) H) (hD : va_D (nA s) (LW cI cJ cZ ad bd oa er n ev g r w)) (hS : va_S (nA s) s.heap H locs) (hl : lv_has ls 7 (LV b ad bd oa i)) (v : Int32) {f1 lo1 : Nat} (hR1 : f1 + 1 ≤ room_1.frames ∧ 8 + (5 + 11) + lo1 ≤ room_1.locals) (hH : HI (S := Unit) l D (tys cI cJ cZ) (gO cI cJ ad oa n ev g w) (fun _ => gO cI cJ ad oa n ev g (vp_updL w 0 v.toInt64)) (fun r _ => r = 0) y_l_strength b_l_strength 5 [(0, 10, 13, 19)] f1 lo1 [.ref (ad 0), .int (xs (i + 1)), .int (xs (i + 2)), .ref oa]) {f2 lo2 : Nat} (hR2 : f2 + 1 ≤ room_1.frames ∧ 8 + (3 + 11) + lo2 ≤ room_1.locals) (hM : WI (S := Unit) l D (tys cI cJ cZ) (rL cI cZ bd er n ev r) (fun _ => rL cI cZ bd 0 n ev r) (fun q _ => q = v) y_r_strength b_r_strength 3 (some .int) f2 lo2 [.ref (bd 0), .int (xs (i + 1)), .int (xs (i + 2))]) (k : ∀ (H : Heap) (locs : List Loc) (ls : Array Slot), va_P D cls (LW cI cJ cZ ad bd oa 0 n ev g r (vp_updL w 0 v.toInt64)) H → va_D (nA s) (LW cI cJ cZ ad bd oa 0 n ev g r (vp_updL w 0 v.toInt64)) → va_S (nA s) s.heap H locs → lv_has ls 7 (LV b ad bd oa i) → W p l e room_1 s m #[Value.ref b] below meth c H locs (cells + 1) (slots + 6) Q (F0 m 830 ls [])) : W p l e room_1 s m #[Value.ref b] below meth c H locs cells slots Q (F0 m 512 ls []) := by
  obtain ⟨S0, hX, hbl, hK, hT, hNc, hL9, hl0⟩ := id C0
  obtain ⟨hx, hb, hml, hown, htc⟩ := id S0
  have hA : ∀ q : Nat, s.heap.size ≤ q → nA s q := fun _ h => h
  have hbA : ¬ nA s b := Nat.not_le.mpr hbl
  have hf0 : cells ≤ room_1.cells ∧ slots ≤ room_1.slots := ⟨by omega, by omega⟩
  have hP : va_P D cls (gL cI cJ ad n ev g ++ (rL cI cZ bd er n ev r ++ [(oa, .inl (cJ, 1, .inr (.inl w)))])) H := hP
  have hD : va_D (nA s) (gL cI cJ ad n ev g ++ (rL cI cZ bd er n ev r ++ [(oa, .inl (cJ, 1, .inr (.inl w)))])) := hD
  have hl : lv_has ls 7 [(4, .int (nI i)), (3, .ref oa), (2, .ref (bd 0)), (1, .ref (ad 0)), (0, .ref b)] := hl
  refine lv_aload_n hx hb d_l_law_512 rfl (lv_at hl 3 rfl) ?_
  refine lv_aload_n hx hb d_l_law_513 rfl (lv_at hl 4 rfl) ?_
  refine lv_iload hx hb d_l_law_514 (lv_at hl 0 rfl) ?_
  refine lv_iconst (v := (nI 1)) hx hb d_l_law_516 (by decide) ?_
  refine nr_iadd hx hb d_l_law_517 ?_
  refine nr_sld hx hb hX hbl hbA hS (by omega) (by omega) d_l_law_518 ?_
  refine lv_aload_n hx hb d_l_law_519 rfl (lv_at hl 4 rfl) ?_
  refine lv_iload hx hb d_l_law_520 (lv_at hl 0 rfl) ?_
  refine lv_iconst (v := (nI 2)) hx hb d_l_law_522 (by decide) ?_
  refine nr_iadd hx hb d_l_law_523 ?_
  refine nr_sld hx hb hX hbl hbA hS (by omega) (by omega) d_l_law_524 ?_
  refine lv_aload_n hx hb d_l_law_525 rfl (lv_at hl 1 rfl) ?_
  refine HI.callS (wr := rL cI cZ bd er n ev r) (rest := []) S0 hH k_2_19 k_2_20 k_1_0 k_2_21 h_l_strength hR1 hf0 hP hK hD hS hA [0, 1, 2, 3, 4, 5, 6, 15] [7, 8, 9, 10, 11, 12, 13, 14] rfl rfl (by decide) (by decide) (by decide) hl.1 (Nat.le_of_ble_eq_true rfl) rfl d_l_law_526 (fun v9 u1 H locs hv9 hP hD hS => ?_)
  obtain rfl := hv9
  have hP : va_P D cls (gL cI cJ ad n ev g ++ (rL cI cZ bd er n ev r ++ [(oa, .inl (cJ, 1, .inr (.inl (vp_updL w 0 v.toInt64))))])) H := hP.sub [8, 9, 10, 11, 12, 13, 14, 0, 1, 2, 3, 4, 5, 6, 7, 15] rfl
  have hD : va_D (nA s) (gL cI cJ ad n ev g ++ (rL cI cZ bd er n ev r ++ [(oa, .inl (cJ, 1, .inr (.inl (vp_updL w 0 v.toInt64))))])) := hD.sub [8, 9, 10, 11, 12, 13, 14, 0, 1, 2, 3, 4, 5, 6, 7, 15] (by decide) rfl
  refine lv_istore (lv' := [(5, .int 0), (4, .int (nI i)), (3, .ref oa), (2, .ref (bd 0)), (1, .ref (ad 0)), (0, .ref b)]) hx hb d_l_law_529 hl (by decide) rfl (fun ls hl => ?_)
  refine lv_aload_n hx hb d_l_law_531 rfl (lv_at hl 3 rfl) ?_
  refine lv_aload_n hx hb d_l_law_532 rfl (lv_at hl 5 rfl) ?_
  refine lv_iload hx hb d_l_law_533 (lv_at hl 1 rfl) ?_
  refine lv_iconst (v := (nI 1)) hx hb d_l_law_535 (by decide) ?_
  refine nr_iadd hx hb d_l_law_536 ?_
  refine nr_sld hx hb hX hbl hbA hS (by omega) (by omega) d_l_law_537 ?_
  refine lv_aload_n hx hb d_l_law_538 rfl (lv_at hl 5 rfl) ?_
  refine lv_iload hx hb d_l_law_539 (lv_at hl 1 rfl) ?_
  refine lv_iconst (v := (nI 2)) hx hb d_l_law_541 (by decide) ?_
  refine nr_iadd hx hb d_l_law_542 ?_
  refine nr_sld hx hb hX hbl hbA hS (by omega) (by omega) d_l_law_543 ?_
  refine WI.callV (wr := gL cI cJ ad n ev g ++ [(oa, .inl (cJ, 1, .inr (.inl (vp_updL w 0 v.toInt64))))]) (rest := []) S0 hM k_2_179 k_2_180 k_2_181 k_1_2 k_2_182 h_r_strength hR2 hf0 hP hK hD hS hA [7, 8, 9, 10, 11, 12, 13, 14] [0, 1, 2, 3, 4, 5, 6, 15] rfl rfl (by decide) (by decide) (by decide) 0 1 rfl rfl rfl hl.1 (Nat.le_of_ble_eq_true rfl) rfl d_l_law_544 (fun v9 u2 H locs hv9 hP hD hS => ?_)
  obtain rfl := hv9.symm
  have hP : va_P D cls (gL cI cJ ad n ev g ++ (rL cI cZ bd 0 n ev r ++ [(oa, .inl (cJ, 1, .inr (.inl (vp_updL w 0 v.toInt64))))])) H := hP.sub [0, 1, 2, 3, 4, 5, 6, 8, 9, 10, 11, 12, 13, 14, 15, 7] rfl
  have hD : va_D (nA s) (gL cI cJ ad n ev g ++ (rL cI cZ bd 0 n ev r ++ [(oa, .inl (cJ, 1, .inr (.inl (vp_updL w 0 v.toInt64))))])) := hD.sub [0, 1, 2, 3, 4, 5, 6, 8, 9, 10, 11, 12, 13, 14, 15, 7] (by decide) rfl
  refine lv_istore (lv' := [(6, .int v), (5, .int 0), (4, .int (nI i)), (3, .ref oa), (2, .ref (bd 0)), (1, .ref (ad 0)), (0, .ref b)]) hx hb d_l_law_547 hl (by decide) rfl (fun ls hl => ?_)
  refine lv_aload_n hx hb d_l_law_549 rfl (lv_at hl 4 rfl) ?_
  refine PM.callV (rest := []) S0 (c_r_thrown l D cI cJ cZ bd 0 n ev r) k_2_105 k_2_106 k_2_107 k_1_2 k_2_108 h_r_thrown ⟨Nat.le_of_ble_eq_true rfl, Nat.le_of_ble_eq_true rfl⟩ hf0 (hP.sub (ws' := rL cI cZ bd 0 n ev r) [7, 8, 9, 10, 11, 12, 13, 14] rfl) hK 0 1 rfl rfl rfl hl.1 (Nat.le_of_ble_eq_true rfl) rfl d_l_law_550 ?_
  refine lv_iload hx hb d_l_law_553 (lv_at hl 1 rfl) ?_
  refine lv_icmp_eq (tgt := 560) hx hb d_l_law_555 (by decide) (fun _ => ?_) (fun c9 => absurd rfl c9)
  refine lv_iload hx hb d_l_law_560 (lv_at hl 1 rfl) ?_
  refine lv_if_ne (tgt := 577) hx hb d_l_law_562 (by decide) (fun c9 => absurd rfl c9) (fun _ => ?_)
  refine lv_aload_n hx hb d_l_law_565 rfl (lv_at hl 3 rfl) ?_
  refine lv_iconst (v := (nI 0)) hx hb d_l_law_566 (by decide) ?_
  refine nr_lald hx hb hK hP 15 1 rfl rfl (by omega) (by decide) (v := v.toInt64) pk_uLs d_l_law_567 ?_
  refine lv_iload hx hb d_l_law_568 (lv_at hl 0 rfl) ?_
  refine lv_i2l hx hb d_l_law_570 rfl ?_
  refine W.lcmp hx hb d_l_law_571 ?_
  refine lv_if_eq (tgt := 577) hx hb d_l_law_572 (by decide) (fun _ => ?_) (fun c9 => absurd (lg_same _) c9)
  refine lv_goto (tgt := 830) hx hb d_l_law_577 (by decide) ?_
  refine W.widen (k := cells + 1) (n := slots + 6) (by omega) (by omega) ?_
  exact k H locs ls hP hD hS (lv_sub hl [2, 3, 4, 5, 6] rfl)
set_option maxHeartbeats 4000000 in
set_option maxRecDepth 100000 in
theorem law_strength_x {p : Program} {l : Launch} {e : Env} {s : State} {m : MethodId} {below : List Frame} {meth : Method} {c : Code} {b L : Nat} {xs : Nat → Int32} {D : va_G} {cI cJ cZ : ClassId} {sa ad bd : Nat → Nat} {oa : Nat} (C0 : LC p l s m c b L xs D cI cJ cZ sa) {H : Heap} {locs : List Loc} {cells slots : Nat} {Q : State → Prop} {ls : Array Slot} {er : Int32} {n ev i : Nat} {g : GA} {r : RA} {w : Nat → Int64} (hi : i + 3 < L) (hf : cells + 1 ≤ room_1.cells ∧ slots + 6 ≤ room_1.slots) (hP : va_P D cls (LW cI cJ cZ ad bd oa er n ev g r w) H) (hD : va_D (nA s) (LW cI cJ cZ ad bd oa er n ev g r w)) (hS : va_S (nA s) s.heap H locs) (hl : lv_has ls 7 (LV b ad bd oa i)) (er9 : Nat) (her : 0 < er9 ∧ er9 < 100) {f1 lo1 : Nat} (hR1 : f1 + 1 ≤ room_1.frames ∧ 8 + (5 + 11) + lo1 ≤ room_1.locals) (hH : HX l D (tys cI cJ cZ) (gO cI cJ ad oa n ev g w) sa y_l_strength b_l_strength 5 [(0, 10, 13, 19)] f1 lo1 [.ref (ad 0), .int (xs (i + 1)), .int (xs (i + 2)), .ref oa] (nI er9)) {f2 lo2 : Nat} (hR2 : f2 + 1 ≤ room_1.frames ∧ 8 + (3 + 11) + lo2 ≤ room_1.locals) (hM : WI (S := Unit) l D (tys cI cJ cZ) (rL cI cZ bd er n ev r) (fun _ => rL cI cZ bd (nI er9) n ev r) (fun _ _ => True) y_r_strength b_r_strength 3 (some .int) f2 lo2 [.ref (bd 0), .int (xs (i + 1)), .int (xs (i + 2))]) (k : ∀ (H : Heap) (locs : List Loc) (ls : Array Slot), va_P D cls (LW cI cJ cZ ad bd oa (nI er9) n ev g r w) H → va_D (nA s) (LW cI cJ cZ ad bd oa (nI er9) n ev g r w) → va_S (nA s) s.heap H locs → lv_has ls 7 (LV b ad bd oa i) → W p l e room_1 s m #[Value.ref b] below meth c H locs (cells + 1) (slots + 6) Q (F0 m 830 ls [])) : W p l e room_1 s m #[Value.ref b] below meth c H locs cells slots Q (F0 m 512 ls []) := by
  obtain ⟨S0, hX, hbl, hK, hT, hNc, hL9, hl0⟩ := id C0
  obtain ⟨hx, hb, hml, hown, htc⟩ := id S0
  have hA : ∀ q : Nat, s.heap.size ≤ q → nA s q := fun _ h => h
  have hbA : ¬ nA s b := Nat.not_le.mpr hbl
  have hf0 : cells ≤ room_1.cells ∧ slots ≤ room_1.slots := ⟨by omega, by omega⟩
  have hP : va_P D cls (gL cI cJ ad n ev g ++ (rL cI cZ bd er n ev r ++ [(oa, .inl (cJ, 1, .inr (.inl w)))])) H := hP
  have hD : va_D (nA s) (gL cI cJ ad n ev g ++ (rL cI cZ bd er n ev r ++ [(oa, .inl (cJ, 1, .inr (.inl w)))])) := hD
  have hl : lv_has ls 7 [(4, .int (nI i)), (3, .ref oa), (2, .ref (bd 0)), (1, .ref (ad 0)), (0, .ref b)] := hl
  refine lv_aload_n hx hb d_l_law_512 rfl (lv_at hl 3 rfl) ?_
  refine lv_aload_n hx hb d_l_law_513 rfl (lv_at hl 4 rfl) ?_
  refine lv_iload hx hb d_l_law_514 (lv_at hl 0 rfl) ?_
  refine lv_iconst (v := (nI 1)) hx hb d_l_law_516 (by decide) ?_
  refine nr_iadd hx hb d_l_law_517 ?_
  refine nr_sld hx hb hX hbl hbA hS (by omega) (by omega) d_l_law_518 ?_
  refine lv_aload_n hx hb d_l_law_519 rfl (lv_at hl 4 rfl) ?_
  refine lv_iload hx hb d_l_law_520 (lv_at hl 0 rfl) ?_
  refine lv_iconst (v := (nI 2)) hx hb d_l_law_522 (by decide) ?_
  refine nr_iadd hx hb d_l_law_523 ?_
  refine nr_sld hx hb hX hbl hbA hS (by omega) (by omega) d_l_law_524 ?_
  refine lv_aload_n hx hb d_l_law_525 rfl (lv_at hl 1 rfl) ?_
  refine HX.callS (rest := []) S0 hH k_2_19 k_2_20 k_1_0 k_2_21 h_l_strength hR1 hf hP hK hS (LC.te hT hS) hNc [0, 1, 2, 3, 4, 5, 6, 15] rfl hl.1 (Nat.le_of_ble_eq_true rfl) rfl d_l_law_526 (fun H locs hP hS => ?_)
  refine lv_istore (lv' := [(5, .int (nI er9)), (4, .int (nI i)), (3, .ref oa), (2, .ref (bd 0)), (1, .ref (ad 0)), (0, .ref b)]) hx hb d_l_law_529 hl (by decide) rfl (fun ls hl => ?_)
  refine lv_aload_n hx hb d_l_law_531 rfl (lv_at hl 3 rfl) ?_
  refine lv_aload_n hx hb d_l_law_532 rfl (lv_at hl 5 rfl) ?_
  refine lv_iload hx hb d_l_law_533 (lv_at hl 1 rfl) ?_
  refine lv_iconst (v := (nI 1)) hx hb d_l_law_535 (by decide) ?_
  refine nr_iadd hx hb d_l_law_536 ?_
  refine nr_sld hx hb hX hbl hbA hS (by omega) (by omega) d_l_law_537 ?_
  refine lv_aload_n hx hb d_l_law_538 rfl (lv_at hl 5 rfl) ?_
  refine lv_iload hx hb d_l_law_539 (lv_at hl 1 rfl) ?_
  refine lv_iconst (v := (nI 2)) hx hb d_l_law_541 (by decide) ?_
  refine nr_iadd hx hb d_l_law_542 ?_
  refine nr_sld hx hb hX hbl hbA hS (by omega) (by omega) d_l_law_543 ?_
  refine WI.callV (wr := gL cI cJ ad n ev g ++ [(oa, .inl (cJ, 1, .inr (.inl w)))]) (rest := []) S0 hM k_2_179 k_2_180 k_2_181 k_1_2 k_2_182 h_r_strength hR2 hf hP hK hD hS hA [7, 8, 9, 10, 11, 12, 13, 14] [0, 1, 2, 3, 4, 5, 6, 15] rfl rfl (by decide) (by decide) (by decide) 0 1 rfl rfl rfl hl.1 (Nat.le_of_ble_eq_true rfl) rfl d_l_law_544 (fun v9 u2 H locs hv9 hP hD hS => ?_)
  have hP : va_P D cls (gL cI cJ ad n ev g ++ (rL cI cZ bd (nI er9) n ev r ++ [(oa, .inl (cJ, 1, .inr (.inl w)))])) H := hP.sub [0, 1, 2, 3, 4, 5, 6, 8, 9, 10, 11, 12, 13, 14, 15, 7] rfl
  have hD : va_D (nA s) (gL cI cJ ad n ev g ++ (rL cI cZ bd (nI er9) n ev r ++ [(oa, .inl (cJ, 1, .inr (.inl w)))])) := hD.sub [0, 1, 2, 3, 4, 5, 6, 8, 9, 10, 11, 12, 13, 14, 15, 7] (by decide) rfl
  refine lv_istore (lv' := [(6, .int v9), (5, .int (nI er9)), (4, .int (nI i)), (3, .ref oa), (2, .ref (bd 0)), (1, .ref (ad 0)), (0, .ref b)]) hx hb d_l_law_547 hl (by decide) rfl (fun ls hl => ?_)
  refine lv_aload_n hx hb d_l_law_549 rfl (lv_at hl 4 rfl) ?_
  refine PM.callV (rest := []) S0 (c_r_thrown l D cI cJ cZ bd (nI er9) n ev r) k_2_105 k_2_106 k_2_107 k_1_2 k_2_108 h_r_thrown ⟨Nat.le_of_ble_eq_true rfl, Nat.le_of_ble_eq_true rfl⟩ hf (hP.sub (ws' := rL cI cZ bd (nI er9) n ev r) [7, 8, 9, 10, 11, 12, 13, 14] rfl) hK 0 1 rfl rfl rfl hl.1 (Nat.le_of_ble_eq_true rfl) rfl d_l_law_550 ?_
  refine lv_iload hx hb d_l_law_553 (lv_at hl 1 rfl) ?_
  refine lv_icmp_eq (tgt := 560) hx hb d_l_law_555 (by decide) (fun _ => ?_) (fun c9 => absurd rfl c9)
  refine lv_iload hx hb d_l_law_560 (lv_at hl 1 rfl) ?_
  refine lv_if_ne (tgt := 577) hx hb d_l_law_562 (by decide) (fun _ => ?_) (fun c9 => absurd c9 (nI_ne0 her.1 (by omega)))
  refine lv_goto (tgt := 830) hx hb d_l_law_577 (by decide) ?_
  exact k H locs ls hP hD hS (lv_sub hl [2, 3, 4, 5, 6] rfl)
set_option maxHeartbeats 4000000 in
set_option maxRecDepth 100000 in
theorem law_strongly_ok {p : Program} {l : Launch} {e : Env} {s : State} {m : MethodId} {below : List Frame} {meth : Method} {c : Code} {b L : Nat} {xs : Nat → Int32} {D : va_G} {cI cJ cZ : ClassId} {sa ad bd : Nat → Nat} {oa : Nat} (C0 : LC p l s m c b L xs D cI cJ cZ sa) {H : Heap} {locs : List Loc} {cells slots : Nat} {Q : State → Prop} {ls : Array Slot} {er : Int32} {n ev i : Nat} {g : GA} {r : RA} {w : Nat → Int64} (hi : i + 3 < L) (hf : cells + 1 ≤ room_1.cells ∧ slots + 6 ≤ room_1.slots) (hP : va_P D cls (LW cI cJ cZ ad bd oa er n ev g r w) H) (hD : va_D (nA s) (LW cI cJ cZ ad bd oa er n ev g r w)) (hS : va_S (nA s) s.heap H locs) (hl : lv_has ls 7 (LV b ad bd oa i)) (v : Bool) {f1 lo1 : Nat} (hR1 : f1 + 1 ≤ room_1.frames ∧ 8 + (5 + 11) + lo1 ≤ room_1.locals) (hH : HI (S := Unit) l D (tys cI cJ cZ) (gO cI cJ ad oa n ev g w) (fun _ => gO cI cJ ad oa n ev g (vp_updL w 0 (bL v))) (fun r _ => r = 0) y_l_strongly b_l_strongly 5 [(0, 17, 20, 19)] f1 lo1 [.ref (ad 0), .int (xs (i + 1)), .int (xs (i + 2)), .ref oa]) {f2 lo2 : Nat} (hR2 : f2 + 1 ≤ room_1.frames ∧ 8 + (3 + 11) + lo2 ≤ room_1.locals) (hM : WI (S := Unit) l D (tys cI cJ cZ) (rL cI cZ bd er n ev r) (fun _ => rL cI cZ bd 0 n ev r) (fun q _ => q = bI v) y_r_strongly b_r_strongly 3 (some .boolean) f2 lo2 [.ref (bd 0), .int (xs (i + 1)), .int (xs (i + 2))]) (k : ∀ (H : Heap) (locs : List Loc) (ls : Array Slot), va_P D cls (LW cI cJ cZ ad bd oa 0 n ev g r (vp_updL w 0 (bL v))) H → va_D (nA s) (LW cI cJ cZ ad bd oa 0 n ev g r (vp_updL w 0 (bL v))) → va_S (nA s) s.heap H locs → lv_has ls 7 (LV b ad bd oa i) → W p l e room_1 s m #[Value.ref b] below meth c H locs (cells + 1) (slots + 6) Q (F0 m 830 ls [])) : W p l e room_1 s m #[Value.ref b] below meth c H locs cells slots Q (F0 m 580 ls []) := by
  obtain ⟨S0, hX, hbl, hK, hT, hNc, hL9, hl0⟩ := id C0
  obtain ⟨hx, hb, hml, hown, htc⟩ := id S0
  have hA : ∀ q : Nat, s.heap.size ≤ q → nA s q := fun _ h => h
  have hbA : ¬ nA s b := Nat.not_le.mpr hbl
  have hf0 : cells ≤ room_1.cells ∧ slots ≤ room_1.slots := ⟨by omega, by omega⟩
  have hP : va_P D cls (gL cI cJ ad n ev g ++ (rL cI cZ bd er n ev r ++ [(oa, .inl (cJ, 1, .inr (.inl w)))])) H := hP
  have hD : va_D (nA s) (gL cI cJ ad n ev g ++ (rL cI cZ bd er n ev r ++ [(oa, .inl (cJ, 1, .inr (.inl w)))])) := hD
  have hl : lv_has ls 7 [(4, .int (nI i)), (3, .ref oa), (2, .ref (bd 0)), (1, .ref (ad 0)), (0, .ref b)] := hl
  refine lv_aload_n hx hb d_l_law_580 rfl (lv_at hl 3 rfl) ?_
  refine lv_aload_n hx hb d_l_law_581 rfl (lv_at hl 4 rfl) ?_
  refine lv_iload hx hb d_l_law_582 (lv_at hl 0 rfl) ?_
  refine lv_iconst (v := (nI 1)) hx hb d_l_law_584 (by decide) ?_
  refine nr_iadd hx hb d_l_law_585 ?_
  refine nr_sld hx hb hX hbl hbA hS (by omega) (by omega) d_l_law_586 ?_
  refine lv_aload_n hx hb d_l_law_587 rfl (lv_at hl 4 rfl) ?_
  refine lv_iload hx hb d_l_law_588 (lv_at hl 0 rfl) ?_
  refine lv_iconst (v := (nI 2)) hx hb d_l_law_590 (by decide) ?_
  refine nr_iadd hx hb d_l_law_591 ?_
  refine nr_sld hx hb hX hbl hbA hS (by omega) (by omega) d_l_law_592 ?_
  refine lv_aload_n hx hb d_l_law_593 rfl (lv_at hl 1 rfl) ?_
  refine HI.callS (wr := rL cI cZ bd er n ev r) (rest := []) S0 hH k_2_26 k_2_27 k_1_0 k_2_28 h_l_strongly hR1 hf0 hP hK hD hS hA [0, 1, 2, 3, 4, 5, 6, 15] [7, 8, 9, 10, 11, 12, 13, 14] rfl rfl (by decide) (by decide) (by decide) hl.1 (Nat.le_of_ble_eq_true rfl) rfl d_l_law_594 (fun v9 u1 H locs hv9 hP hD hS => ?_)
  obtain rfl := hv9
  have hP : va_P D cls (gL cI cJ ad n ev g ++ (rL cI cZ bd er n ev r ++ [(oa, .inl (cJ, 1, .inr (.inl (vp_updL w 0 (bL v)))))])) H := hP.sub [8, 9, 10, 11, 12, 13, 14, 0, 1, 2, 3, 4, 5, 6, 7, 15] rfl
  have hD : va_D (nA s) (gL cI cJ ad n ev g ++ (rL cI cZ bd er n ev r ++ [(oa, .inl (cJ, 1, .inr (.inl (vp_updL w 0 (bL v)))))])) := hD.sub [8, 9, 10, 11, 12, 13, 14, 0, 1, 2, 3, 4, 5, 6, 7, 15] (by decide) rfl
  refine lv_istore (lv' := [(5, .int 0), (4, .int (nI i)), (3, .ref oa), (2, .ref (bd 0)), (1, .ref (ad 0)), (0, .ref b)]) hx hb d_l_law_597 hl (by decide) rfl (fun ls hl => ?_)
  refine lv_aload_n hx hb d_l_law_599 rfl (lv_at hl 3 rfl) ?_
  refine lv_aload_n hx hb d_l_law_600 rfl (lv_at hl 5 rfl) ?_
  refine lv_iload hx hb d_l_law_601 (lv_at hl 1 rfl) ?_
  refine lv_iconst (v := (nI 1)) hx hb d_l_law_603 (by decide) ?_
  refine nr_iadd hx hb d_l_law_604 ?_
  refine nr_sld hx hb hX hbl hbA hS (by omega) (by omega) d_l_law_605 ?_
  refine lv_aload_n hx hb d_l_law_606 rfl (lv_at hl 5 rfl) ?_
  refine lv_iload hx hb d_l_law_607 (lv_at hl 1 rfl) ?_
  refine lv_iconst (v := (nI 2)) hx hb d_l_law_609 (by decide) ?_
  refine nr_iadd hx hb d_l_law_610 ?_
  refine nr_sld hx hb hX hbl hbA hS (by omega) (by omega) d_l_law_611 ?_
  refine WI.callV (wr := gL cI cJ ad n ev g ++ [(oa, .inl (cJ, 1, .inr (.inl (vp_updL w 0 (bL v)))))]) (rest := []) S0 hM k_2_183 k_2_184 k_2_185 k_1_2 k_2_186 h_r_strongly hR2 hf0 hP hK hD hS hA [7, 8, 9, 10, 11, 12, 13, 14] [0, 1, 2, 3, 4, 5, 6, 15] rfl rfl (by decide) (by decide) (by decide) 0 1 rfl rfl rfl hl.1 (Nat.le_of_ble_eq_true rfl) rfl d_l_law_612 (fun v9 u2 H locs hv9 hP hD hS => ?_)
  obtain rfl := hv9
  have hP : va_P D cls (gL cI cJ ad n ev g ++ (rL cI cZ bd 0 n ev r ++ [(oa, .inl (cJ, 1, .inr (.inl (vp_updL w 0 (bL v)))))])) H := hP.sub [0, 1, 2, 3, 4, 5, 6, 8, 9, 10, 11, 12, 13, 14, 15, 7] rfl
  have hD : va_D (nA s) (gL cI cJ ad n ev g ++ (rL cI cZ bd 0 n ev r ++ [(oa, .inl (cJ, 1, .inr (.inl (vp_updL w 0 (bL v)))))])) := hD.sub [0, 1, 2, 3, 4, 5, 6, 8, 9, 10, 11, 12, 13, 14, 15, 7] (by decide) rfl
  refine lv_istore (lv' := [(6, .int (bI v)), (5, .int 0), (4, .int (nI i)), (3, .ref oa), (2, .ref (bd 0)), (1, .ref (ad 0)), (0, .ref b)]) hx hb d_l_law_615 hl (by decide) rfl (fun ls hl => ?_)
  refine lv_aload_n hx hb d_l_law_617 rfl (lv_at hl 4 rfl) ?_
  refine PM.callV (rest := []) S0 (c_r_thrown l D cI cJ cZ bd 0 n ev r) k_2_105 k_2_106 k_2_107 k_1_2 k_2_108 h_r_thrown ⟨Nat.le_of_ble_eq_true rfl, Nat.le_of_ble_eq_true rfl⟩ hf0 (hP.sub (ws' := rL cI cZ bd 0 n ev r) [7, 8, 9, 10, 11, 12, 13, 14] rfl) hK 0 1 rfl rfl rfl hl.1 (Nat.le_of_ble_eq_true rfl) rfl d_l_law_618 ?_
  refine lv_iload hx hb d_l_law_621 (lv_at hl 1 rfl) ?_
  refine lv_icmp_eq (tgt := 628) hx hb d_l_law_623 (by decide) (fun _ => ?_) (fun c9 => absurd rfl c9)
  refine lv_iload hx hb d_l_law_628 (lv_at hl 1 rfl) ?_
  refine lv_if_ne (tgt := 652) hx hb d_l_law_630 (by decide) (fun c9 => absurd rfl c9) (fun _ => ?_)
  refine lv_aload_n hx hb d_l_law_633 rfl (lv_at hl 3 rfl) ?_
  refine lv_iconst (v := (nI 0)) hx hb d_l_law_634 (by decide) ?_
  refine nr_lald hx hb hK hP 15 1 rfl rfl (by omega) (by decide) (v := (bL v)) pk_uLs d_l_law_635 ?_
  refine lv_iload hx hb d_l_law_636 (lv_at hl 0 rfl) ?_
  refine nr_ifeq_b (tgt := 645) hx hb d_l_law_638 (by decide) (fun c_638 => ?_) (fun c_638 => ?_)
  · refine lv_lconst (v := 0) hx hb d_l_law_645 (by decide) ?_
    refine W.lcmp hx hb d_l_law_646 ?_
    refine lv_if_eq (tgt := 652) hx hb d_l_law_647 (by decide) (fun _ => ?_) (fun c9 => absurd (by rw [c_638]; decide) c9)
    refine lv_goto (tgt := 830) hx hb d_l_law_652 (by decide) ?_
    refine W.widen (k := cells + 1) (n := slots + 6) (by omega) (by omega) ?_
    exact k H locs ls hP hD hS (lv_sub hl [2, 3, 4, 5, 6] rfl)
  · refine lv_lconst (v := 1) hx hb d_l_law_641 (by decide) ?_
    refine lv_goto (tgt := 646) hx hb d_l_law_642 (by decide) ?_
    refine W.lcmp hx hb d_l_law_646 ?_
    refine lv_if_eq (tgt := 652) hx hb d_l_law_647 (by decide) (fun _ => ?_) (fun c9 => absurd (by rw [c_638]; decide) c9)
    refine lv_goto (tgt := 830) hx hb d_l_law_652 (by decide) ?_
    refine W.widen (k := cells + 1) (n := slots + 6) (by omega) (by omega) ?_
    exact k H locs ls hP hD hS (lv_sub hl [2, 3, 4, 5, 6] rfl)
set_option maxHeartbeats 4000000 in
set_option maxRecDepth 100000 in
theorem law_strongly_x {p : Program} {l : Launch} {e : Env} {s : State} {m : MethodId} {below : List Frame} {meth : Method} {c : Code} {b L : Nat} {xs : Nat → Int32} {D : va_G} {cI cJ cZ : ClassId} {sa ad bd : Nat → Nat} {oa : Nat} (C0 : LC p l s m c b L xs D cI cJ cZ sa) {H : Heap} {locs : List Loc} {cells slots : Nat} {Q : State → Prop} {ls : Array Slot} {er : Int32} {n ev i : Nat} {g : GA} {r : RA} {w : Nat → Int64} (hi : i + 3 < L) (hf : cells + 1 ≤ room_1.cells ∧ slots + 6 ≤ room_1.slots) (hP : va_P D cls (LW cI cJ cZ ad bd oa er n ev g r w) H) (hD : va_D (nA s) (LW cI cJ cZ ad bd oa er n ev g r w)) (hS : va_S (nA s) s.heap H locs) (hl : lv_has ls 7 (LV b ad bd oa i)) (er9 : Nat) (her : 0 < er9 ∧ er9 < 100) {f1 lo1 : Nat} (hR1 : f1 + 1 ≤ room_1.frames ∧ 8 + (5 + 11) + lo1 ≤ room_1.locals) (hH : HX l D (tys cI cJ cZ) (gO cI cJ ad oa n ev g w) sa y_l_strongly b_l_strongly 5 [(0, 17, 20, 19)] f1 lo1 [.ref (ad 0), .int (xs (i + 1)), .int (xs (i + 2)), .ref oa] (nI er9)) {f2 lo2 : Nat} (hR2 : f2 + 1 ≤ room_1.frames ∧ 8 + (3 + 11) + lo2 ≤ room_1.locals) (hM : WI (S := Unit) l D (tys cI cJ cZ) (rL cI cZ bd er n ev r) (fun _ => rL cI cZ bd (nI er9) n ev r) (fun _ _ => True) y_r_strongly b_r_strongly 3 (some .boolean) f2 lo2 [.ref (bd 0), .int (xs (i + 1)), .int (xs (i + 2))]) (k : ∀ (H : Heap) (locs : List Loc) (ls : Array Slot), va_P D cls (LW cI cJ cZ ad bd oa (nI er9) n ev g r w) H → va_D (nA s) (LW cI cJ cZ ad bd oa (nI er9) n ev g r w) → va_S (nA s) s.heap H locs → lv_has ls 7 (LV b ad bd oa i) → W p l e room_1 s m #[Value.ref b] below meth c H locs (cells + 1) (slots + 6) Q (F0 m 830 ls [])) : W p l e room_1 s m #[Value.ref b] below meth c H locs cells slots Q (F0 m 580 ls []) := by
  obtain ⟨S0, hX, hbl, hK, hT, hNc, hL9, hl0⟩ := id C0
  obtain ⟨hx, hb, hml, hown, htc⟩ := id S0
  have hA : ∀ q : Nat, s.heap.size ≤ q → nA s q := fun _ h => h
  have hbA : ¬ nA s b := Nat.not_le.mpr hbl
  have hf0 : cells ≤ room_1.cells ∧ slots ≤ room_1.slots := ⟨by omega, by omega⟩
  have hP : va_P D cls (gL cI cJ ad n ev g ++ (rL cI cZ bd er n ev r ++ [(oa, .inl (cJ, 1, .inr (.inl w)))])) H := hP
  have hD : va_D (nA s) (gL cI cJ ad n ev g ++ (rL cI cZ bd er n ev r ++ [(oa, .inl (cJ, 1, .inr (.inl w)))])) := hD
  have hl : lv_has ls 7 [(4, .int (nI i)), (3, .ref oa), (2, .ref (bd 0)), (1, .ref (ad 0)), (0, .ref b)] := hl
  refine lv_aload_n hx hb d_l_law_580 rfl (lv_at hl 3 rfl) ?_
  refine lv_aload_n hx hb d_l_law_581 rfl (lv_at hl 4 rfl) ?_
  refine lv_iload hx hb d_l_law_582 (lv_at hl 0 rfl) ?_
  refine lv_iconst (v := (nI 1)) hx hb d_l_law_584 (by decide) ?_
  refine nr_iadd hx hb d_l_law_585 ?_
  refine nr_sld hx hb hX hbl hbA hS (by omega) (by omega) d_l_law_586 ?_
  refine lv_aload_n hx hb d_l_law_587 rfl (lv_at hl 4 rfl) ?_
  refine lv_iload hx hb d_l_law_588 (lv_at hl 0 rfl) ?_
  refine lv_iconst (v := (nI 2)) hx hb d_l_law_590 (by decide) ?_
  refine nr_iadd hx hb d_l_law_591 ?_
  refine nr_sld hx hb hX hbl hbA hS (by omega) (by omega) d_l_law_592 ?_
  refine lv_aload_n hx hb d_l_law_593 rfl (lv_at hl 1 rfl) ?_
  refine HX.callS (rest := []) S0 hH k_2_26 k_2_27 k_1_0 k_2_28 h_l_strongly hR1 hf hP hK hS (LC.te hT hS) hNc [0, 1, 2, 3, 4, 5, 6, 15] rfl hl.1 (Nat.le_of_ble_eq_true rfl) rfl d_l_law_594 (fun H locs hP hS => ?_)
  refine lv_istore (lv' := [(5, .int (nI er9)), (4, .int (nI i)), (3, .ref oa), (2, .ref (bd 0)), (1, .ref (ad 0)), (0, .ref b)]) hx hb d_l_law_597 hl (by decide) rfl (fun ls hl => ?_)
  refine lv_aload_n hx hb d_l_law_599 rfl (lv_at hl 3 rfl) ?_
  refine lv_aload_n hx hb d_l_law_600 rfl (lv_at hl 5 rfl) ?_
  refine lv_iload hx hb d_l_law_601 (lv_at hl 1 rfl) ?_
  refine lv_iconst (v := (nI 1)) hx hb d_l_law_603 (by decide) ?_
  refine nr_iadd hx hb d_l_law_604 ?_
  refine nr_sld hx hb hX hbl hbA hS (by omega) (by omega) d_l_law_605 ?_
  refine lv_aload_n hx hb d_l_law_606 rfl (lv_at hl 5 rfl) ?_
  refine lv_iload hx hb d_l_law_607 (lv_at hl 1 rfl) ?_
  refine lv_iconst (v := (nI 2)) hx hb d_l_law_609 (by decide) ?_
  refine nr_iadd hx hb d_l_law_610 ?_
  refine nr_sld hx hb hX hbl hbA hS (by omega) (by omega) d_l_law_611 ?_
  refine WI.callV (wr := gL cI cJ ad n ev g ++ [(oa, .inl (cJ, 1, .inr (.inl w)))]) (rest := []) S0 hM k_2_183 k_2_184 k_2_185 k_1_2 k_2_186 h_r_strongly hR2 hf hP hK hD hS hA [7, 8, 9, 10, 11, 12, 13, 14] [0, 1, 2, 3, 4, 5, 6, 15] rfl rfl (by decide) (by decide) (by decide) 0 1 rfl rfl rfl hl.1 (Nat.le_of_ble_eq_true rfl) rfl d_l_law_612 (fun v9 u2 H locs hv9 hP hD hS => ?_)
  have hP : va_P D cls (gL cI cJ ad n ev g ++ (rL cI cZ bd (nI er9) n ev r ++ [(oa, .inl (cJ, 1, .inr (.inl w)))])) H := hP.sub [0, 1, 2, 3, 4, 5, 6, 8, 9, 10, 11, 12, 13, 14, 15, 7] rfl
  have hD : va_D (nA s) (gL cI cJ ad n ev g ++ (rL cI cZ bd (nI er9) n ev r ++ [(oa, .inl (cJ, 1, .inr (.inl w)))])) := hD.sub [0, 1, 2, 3, 4, 5, 6, 8, 9, 10, 11, 12, 13, 14, 15, 7] (by decide) rfl
  refine lv_istore (lv' := [(6, .int v9), (5, .int (nI er9)), (4, .int (nI i)), (3, .ref oa), (2, .ref (bd 0)), (1, .ref (ad 0)), (0, .ref b)]) hx hb d_l_law_615 hl (by decide) rfl (fun ls hl => ?_)
  refine lv_aload_n hx hb d_l_law_617 rfl (lv_at hl 4 rfl) ?_
  refine PM.callV (rest := []) S0 (c_r_thrown l D cI cJ cZ bd (nI er9) n ev r) k_2_105 k_2_106 k_2_107 k_1_2 k_2_108 h_r_thrown ⟨Nat.le_of_ble_eq_true rfl, Nat.le_of_ble_eq_true rfl⟩ hf (hP.sub (ws' := rL cI cZ bd (nI er9) n ev r) [7, 8, 9, 10, 11, 12, 13, 14] rfl) hK 0 1 rfl rfl rfl hl.1 (Nat.le_of_ble_eq_true rfl) rfl d_l_law_618 ?_
  refine lv_iload hx hb d_l_law_621 (lv_at hl 1 rfl) ?_
  refine lv_icmp_eq (tgt := 628) hx hb d_l_law_623 (by decide) (fun _ => ?_) (fun c9 => absurd rfl c9)
  refine lv_iload hx hb d_l_law_628 (lv_at hl 1 rfl) ?_
  refine lv_if_ne (tgt := 652) hx hb d_l_law_630 (by decide) (fun _ => ?_) (fun c9 => absurd c9 (nI_ne0 her.1 (by omega)))
  refine lv_goto (tgt := 830) hx hb d_l_law_652 (by decide) ?_
  exact k H locs ls hP hD hS (lv_sub hl [2, 3, 4, 5, 6] rfl)
set_option maxHeartbeats 4000000 in
set_option maxRecDepth 100000 in
theorem law_round_ok {p : Program} {l : Launch} {e : Env} {s : State} {m : MethodId} {below : List Frame} {meth : Method} {c : Code} {b L : Nat} {xs : Nat → Int32} {D : va_G} {cI cJ cZ : ClassId} {sa ad bd : Nat → Nat} {oa : Nat} (C0 : LC p l s m c b L xs D cI cJ cZ sa) {H : Heap} {locs : List Loc} {cells slots : Nat} {Q : State → Prop} {ls : Array Slot} {er : Int32} {n ev i : Nat} {g : GA} {r : RA} {w : Nat → Int64} (hi : i + 3 < L) (hf : cells + 1 ≤ room_1.cells ∧ slots + 6 ≤ room_1.slots) (hP : va_P D cls (LW cI cJ cZ ad bd oa er n ev g r w) H) (hD : va_D (nA s) (LW cI cJ cZ ad bd oa er n ev g r w)) (hS : va_S (nA s) s.heap H locs) (hl : lv_has ls 7 (LV b ad bd oa i)) (v : Int32) {f1 lo1 : Nat} (hR1 : f1 + 1 ≤ room_1.frames ∧ 8 + (4 + 11) + lo1 ≤ room_1.locals) (hH : HI (S := Unit) l D (tys cI cJ cZ) (gO cI cJ ad oa n ev g w) (fun _ => gO cI cJ ad oa n ev g (vp_updL w 0 v.toInt64)) (fun r _ => r = 0) y_l_round b_l_round 4 [(0, 9, 12, 19)] f1 lo1 [.ref (ad 0), .int (xs (i + 1)), .ref oa]) {f2 lo2 : Nat} (hR2 : f2 + 1 ≤ room_1.frames ∧ 8 + (2 + 11) + lo2 ≤ room_1.locals) (hM : WI (S := Unit) l D (tys cI cJ cZ) (rL cI cZ bd er n ev r) (fun _ => rL cI cZ bd 0 n ev r) (fun q _ => q = v) y_r_round b_r_round 2 (some .int) f2 lo2 [.ref (bd 0), .int (xs (i + 1))]) (k : ∀ (H : Heap) (locs : List Loc) (ls : Array Slot), va_P D cls (LW cI cJ cZ ad bd oa 0 n ev g r (vp_updL w 0 v.toInt64)) H → va_D (nA s) (LW cI cJ cZ ad bd oa 0 n ev g r (vp_updL w 0 v.toInt64)) → va_S (nA s) s.heap H locs → lv_has ls 7 (LV b ad bd oa i) → W p l e room_1 s m #[Value.ref b] below meth c H locs (cells + 1) (slots + 6) Q (F0 m 830 ls [])) : W p l e room_1 s m #[Value.ref b] below meth c H locs cells slots Q (F0 m 655 ls []) := by
  obtain ⟨S0, hX, hbl, hK, hT, hNc, hL9, hl0⟩ := id C0
  obtain ⟨hx, hb, hml, hown, htc⟩ := id S0
  have hA : ∀ q : Nat, s.heap.size ≤ q → nA s q := fun _ h => h
  have hbA : ¬ nA s b := Nat.not_le.mpr hbl
  have hf0 : cells ≤ room_1.cells ∧ slots ≤ room_1.slots := ⟨by omega, by omega⟩
  have hP : va_P D cls (gL cI cJ ad n ev g ++ (rL cI cZ bd er n ev r ++ [(oa, .inl (cJ, 1, .inr (.inl w)))])) H := hP
  have hD : va_D (nA s) (gL cI cJ ad n ev g ++ (rL cI cZ bd er n ev r ++ [(oa, .inl (cJ, 1, .inr (.inl w)))])) := hD
  have hl : lv_has ls 7 [(4, .int (nI i)), (3, .ref oa), (2, .ref (bd 0)), (1, .ref (ad 0)), (0, .ref b)] := hl
  refine lv_aload_n hx hb d_l_law_655 rfl (lv_at hl 3 rfl) ?_
  refine lv_aload_n hx hb d_l_law_656 rfl (lv_at hl 4 rfl) ?_
  refine lv_iload hx hb d_l_law_657 (lv_at hl 0 rfl) ?_
  refine lv_iconst (v := (nI 1)) hx hb d_l_law_659 (by decide) ?_
  refine nr_iadd hx hb d_l_law_660 ?_
  refine nr_sld hx hb hX hbl hbA hS (by omega) (by omega) d_l_law_661 ?_
  refine lv_aload_n hx hb d_l_law_662 rfl (lv_at hl 1 rfl) ?_
  refine HI.callS (wr := rL cI cZ bd er n ev r) (rest := []) S0 hH k_2_33 k_2_34 k_1_0 k_2_35 h_l_round hR1 hf0 hP hK hD hS hA [0, 1, 2, 3, 4, 5, 6, 15] [7, 8, 9, 10, 11, 12, 13, 14] rfl rfl (by decide) (by decide) (by decide) hl.1 (Nat.le_of_ble_eq_true rfl) rfl d_l_law_663 (fun v9 u1 H locs hv9 hP hD hS => ?_)
  obtain rfl := hv9
  have hP : va_P D cls (gL cI cJ ad n ev g ++ (rL cI cZ bd er n ev r ++ [(oa, .inl (cJ, 1, .inr (.inl (vp_updL w 0 v.toInt64))))])) H := hP.sub [8, 9, 10, 11, 12, 13, 14, 0, 1, 2, 3, 4, 5, 6, 7, 15] rfl
  have hD : va_D (nA s) (gL cI cJ ad n ev g ++ (rL cI cZ bd er n ev r ++ [(oa, .inl (cJ, 1, .inr (.inl (vp_updL w 0 v.toInt64))))])) := hD.sub [8, 9, 10, 11, 12, 13, 14, 0, 1, 2, 3, 4, 5, 6, 7, 15] (by decide) rfl
  refine lv_istore (lv' := [(5, .int 0), (4, .int (nI i)), (3, .ref oa), (2, .ref (bd 0)), (1, .ref (ad 0)), (0, .ref b)]) hx hb d_l_law_666 hl (by decide) rfl (fun ls hl => ?_)
  refine lv_aload_n hx hb d_l_law_668 rfl (lv_at hl 3 rfl) ?_
  refine lv_aload_n hx hb d_l_law_669 rfl (lv_at hl 5 rfl) ?_
  refine lv_iload hx hb d_l_law_670 (lv_at hl 1 rfl) ?_
  refine lv_iconst (v := (nI 1)) hx hb d_l_law_672 (by decide) ?_
  refine nr_iadd hx hb d_l_law_673 ?_
  refine nr_sld hx hb hX hbl hbA hS (by omega) (by omega) d_l_law_674 ?_
  refine WI.callV (wr := gL cI cJ ad n ev g ++ [(oa, .inl (cJ, 1, .inr (.inl (vp_updL w 0 v.toInt64))))]) (rest := []) S0 hM k_2_187 k_2_188 k_2_189 k_1_2 k_2_190 h_r_round hR2 hf0 hP hK hD hS hA [7, 8, 9, 10, 11, 12, 13, 14] [0, 1, 2, 3, 4, 5, 6, 15] rfl rfl (by decide) (by decide) (by decide) 0 1 rfl rfl rfl hl.1 (Nat.le_of_ble_eq_true rfl) rfl d_l_law_675 (fun v9 u2 H locs hv9 hP hD hS => ?_)
  obtain rfl := hv9.symm
  have hP : va_P D cls (gL cI cJ ad n ev g ++ (rL cI cZ bd 0 n ev r ++ [(oa, .inl (cJ, 1, .inr (.inl (vp_updL w 0 v.toInt64))))])) H := hP.sub [0, 1, 2, 3, 4, 5, 6, 8, 9, 10, 11, 12, 13, 14, 15, 7] rfl
  have hD : va_D (nA s) (gL cI cJ ad n ev g ++ (rL cI cZ bd 0 n ev r ++ [(oa, .inl (cJ, 1, .inr (.inl (vp_updL w 0 v.toInt64))))])) := hD.sub [0, 1, 2, 3, 4, 5, 6, 8, 9, 10, 11, 12, 13, 14, 15, 7] (by decide) rfl
  refine lv_istore (lv' := [(6, .int v), (5, .int 0), (4, .int (nI i)), (3, .ref oa), (2, .ref (bd 0)), (1, .ref (ad 0)), (0, .ref b)]) hx hb d_l_law_678 hl (by decide) rfl (fun ls hl => ?_)
  refine lv_aload_n hx hb d_l_law_680 rfl (lv_at hl 4 rfl) ?_
  refine PM.callV (rest := []) S0 (c_r_thrown l D cI cJ cZ bd 0 n ev r) k_2_105 k_2_106 k_2_107 k_1_2 k_2_108 h_r_thrown ⟨Nat.le_of_ble_eq_true rfl, Nat.le_of_ble_eq_true rfl⟩ hf0 (hP.sub (ws' := rL cI cZ bd 0 n ev r) [7, 8, 9, 10, 11, 12, 13, 14] rfl) hK 0 1 rfl rfl rfl hl.1 (Nat.le_of_ble_eq_true rfl) rfl d_l_law_681 ?_
  refine lv_iload hx hb d_l_law_684 (lv_at hl 1 rfl) ?_
  refine lv_icmp_eq (tgt := 691) hx hb d_l_law_686 (by decide) (fun _ => ?_) (fun c9 => absurd rfl c9)
  refine lv_iload hx hb d_l_law_691 (lv_at hl 1 rfl) ?_
  refine lv_if_ne (tgt := 708) hx hb d_l_law_693 (by decide) (fun c9 => absurd rfl c9) (fun _ => ?_)
  refine lv_aload_n hx hb d_l_law_696 rfl (lv_at hl 3 rfl) ?_
  refine lv_iconst (v := (nI 0)) hx hb d_l_law_697 (by decide) ?_
  refine nr_lald hx hb hK hP 15 1 rfl rfl (by omega) (by decide) (v := v.toInt64) pk_uLs d_l_law_698 ?_
  refine lv_iload hx hb d_l_law_699 (lv_at hl 0 rfl) ?_
  refine lv_i2l hx hb d_l_law_701 rfl ?_
  refine W.lcmp hx hb d_l_law_702 ?_
  refine lv_if_eq (tgt := 708) hx hb d_l_law_703 (by decide) (fun _ => ?_) (fun c9 => absurd (lg_same _) c9)
  refine lv_goto (tgt := 830) hx hb d_l_law_708 (by decide) ?_
  refine W.widen (k := cells + 1) (n := slots + 6) (by omega) (by omega) ?_
  exact k H locs ls hP hD hS (lv_sub hl [2, 3, 4, 5, 6] rfl)
set_option maxHeartbeats 4000000 in
set_option maxRecDepth 100000 in
theorem law_round_x {p : Program} {l : Launch} {e : Env} {s : State} {m : MethodId} {below : List Frame} {meth : Method} {c : Code} {b L : Nat} {xs : Nat → Int32} {D : va_G} {cI cJ cZ : ClassId} {sa ad bd : Nat → Nat} {oa : Nat} (C0 : LC p l s m c b L xs D cI cJ cZ sa) {H : Heap} {locs : List Loc} {cells slots : Nat} {Q : State → Prop} {ls : Array Slot} {er : Int32} {n ev i : Nat} {g : GA} {r : RA} {w : Nat → Int64} (hi : i + 3 < L) (hf : cells + 1 ≤ room_1.cells ∧ slots + 6 ≤ room_1.slots) (hP : va_P D cls (LW cI cJ cZ ad bd oa er n ev g r w) H) (hD : va_D (nA s) (LW cI cJ cZ ad bd oa er n ev g r w)) (hS : va_S (nA s) s.heap H locs) (hl : lv_has ls 7 (LV b ad bd oa i)) (er9 : Nat) (her : 0 < er9 ∧ er9 < 100) {f1 lo1 : Nat} (hR1 : f1 + 1 ≤ room_1.frames ∧ 8 + (4 + 11) + lo1 ≤ room_1.locals) (hH : HX l D (tys cI cJ cZ) (gO cI cJ ad oa n ev g w) sa y_l_round b_l_round 4 [(0, 9, 12, 19)] f1 lo1 [.ref (ad 0), .int (xs (i + 1)), .ref oa] (nI er9)) {f2 lo2 : Nat} (hR2 : f2 + 1 ≤ room_1.frames ∧ 8 + (2 + 11) + lo2 ≤ room_1.locals) (hM : WI (S := Unit) l D (tys cI cJ cZ) (rL cI cZ bd er n ev r) (fun _ => rL cI cZ bd (nI er9) n ev r) (fun _ _ => True) y_r_round b_r_round 2 (some .int) f2 lo2 [.ref (bd 0), .int (xs (i + 1))]) (k : ∀ (H : Heap) (locs : List Loc) (ls : Array Slot), va_P D cls (LW cI cJ cZ ad bd oa (nI er9) n ev g r w) H → va_D (nA s) (LW cI cJ cZ ad bd oa (nI er9) n ev g r w) → va_S (nA s) s.heap H locs → lv_has ls 7 (LV b ad bd oa i) → W p l e room_1 s m #[Value.ref b] below meth c H locs (cells + 1) (slots + 6) Q (F0 m 830 ls [])) : W p l e room_1 s m #[Value.ref b] below meth c H locs cells slots Q (F0 m 655 ls []) := by
  obtain ⟨S0, hX, hbl, hK, hT, hNc, hL9, hl0⟩ := id C0
  obtain ⟨hx, hb, hml, hown, htc⟩ := id S0
  have hA : ∀ q : Nat, s.heap.size ≤ q → nA s q := fun _ h => h
  have hbA : ¬ nA s b := Nat.not_le.mpr hbl
  have hf0 : cells ≤ room_1.cells ∧ slots ≤ room_1.slots := ⟨by omega, by omega⟩
  have hP : va_P D cls (gL cI cJ ad n ev g ++ (rL cI cZ bd er n ev r ++ [(oa, .inl (cJ, 1, .inr (.inl w)))])) H := hP
  have hD : va_D (nA s) (gL cI cJ ad n ev g ++ (rL cI cZ bd er n ev r ++ [(oa, .inl (cJ, 1, .inr (.inl w)))])) := hD
  have hl : lv_has ls 7 [(4, .int (nI i)), (3, .ref oa), (2, .ref (bd 0)), (1, .ref (ad 0)), (0, .ref b)] := hl
  refine lv_aload_n hx hb d_l_law_655 rfl (lv_at hl 3 rfl) ?_
  refine lv_aload_n hx hb d_l_law_656 rfl (lv_at hl 4 rfl) ?_
  refine lv_iload hx hb d_l_law_657 (lv_at hl 0 rfl) ?_
  refine lv_iconst (v := (nI 1)) hx hb d_l_law_659 (by decide) ?_
  refine nr_iadd hx hb d_l_law_660 ?_
  refine nr_sld hx hb hX hbl hbA hS (by omega) (by omega) d_l_law_661 ?_
  refine lv_aload_n hx hb d_l_law_662 rfl (lv_at hl 1 rfl) ?_
  refine HX.callS (rest := []) S0 hH k_2_33 k_2_34 k_1_0 k_2_35 h_l_round hR1 hf hP hK hS (LC.te hT hS) hNc [0, 1, 2, 3, 4, 5, 6, 15] rfl hl.1 (Nat.le_of_ble_eq_true rfl) rfl d_l_law_663 (fun H locs hP hS => ?_)
  refine lv_istore (lv' := [(5, .int (nI er9)), (4, .int (nI i)), (3, .ref oa), (2, .ref (bd 0)), (1, .ref (ad 0)), (0, .ref b)]) hx hb d_l_law_666 hl (by decide) rfl (fun ls hl => ?_)
  refine lv_aload_n hx hb d_l_law_668 rfl (lv_at hl 3 rfl) ?_
  refine lv_aload_n hx hb d_l_law_669 rfl (lv_at hl 5 rfl) ?_
  refine lv_iload hx hb d_l_law_670 (lv_at hl 1 rfl) ?_
  refine lv_iconst (v := (nI 1)) hx hb d_l_law_672 (by decide) ?_
  refine nr_iadd hx hb d_l_law_673 ?_
  refine nr_sld hx hb hX hbl hbA hS (by omega) (by omega) d_l_law_674 ?_
  refine WI.callV (wr := gL cI cJ ad n ev g ++ [(oa, .inl (cJ, 1, .inr (.inl w)))]) (rest := []) S0 hM k_2_187 k_2_188 k_2_189 k_1_2 k_2_190 h_r_round hR2 hf hP hK hD hS hA [7, 8, 9, 10, 11, 12, 13, 14] [0, 1, 2, 3, 4, 5, 6, 15] rfl rfl (by decide) (by decide) (by decide) 0 1 rfl rfl rfl hl.1 (Nat.le_of_ble_eq_true rfl) rfl d_l_law_675 (fun v9 u2 H locs hv9 hP hD hS => ?_)
  have hP : va_P D cls (gL cI cJ ad n ev g ++ (rL cI cZ bd (nI er9) n ev r ++ [(oa, .inl (cJ, 1, .inr (.inl w)))])) H := hP.sub [0, 1, 2, 3, 4, 5, 6, 8, 9, 10, 11, 12, 13, 14, 15, 7] rfl
  have hD : va_D (nA s) (gL cI cJ ad n ev g ++ (rL cI cZ bd (nI er9) n ev r ++ [(oa, .inl (cJ, 1, .inr (.inl w)))])) := hD.sub [0, 1, 2, 3, 4, 5, 6, 8, 9, 10, 11, 12, 13, 14, 15, 7] (by decide) rfl
  refine lv_istore (lv' := [(6, .int v9), (5, .int (nI er9)), (4, .int (nI i)), (3, .ref oa), (2, .ref (bd 0)), (1, .ref (ad 0)), (0, .ref b)]) hx hb d_l_law_678 hl (by decide) rfl (fun ls hl => ?_)
  refine lv_aload_n hx hb d_l_law_680 rfl (lv_at hl 4 rfl) ?_
  refine PM.callV (rest := []) S0 (c_r_thrown l D cI cJ cZ bd (nI er9) n ev r) k_2_105 k_2_106 k_2_107 k_1_2 k_2_108 h_r_thrown ⟨Nat.le_of_ble_eq_true rfl, Nat.le_of_ble_eq_true rfl⟩ hf (hP.sub (ws' := rL cI cZ bd (nI er9) n ev r) [7, 8, 9, 10, 11, 12, 13, 14] rfl) hK 0 1 rfl rfl rfl hl.1 (Nat.le_of_ble_eq_true rfl) rfl d_l_law_681 ?_
  refine lv_iload hx hb d_l_law_684 (lv_at hl 1 rfl) ?_
  refine lv_icmp_eq (tgt := 691) hx hb d_l_law_686 (by decide) (fun _ => ?_) (fun c9 => absurd rfl c9)
  refine lv_iload hx hb d_l_law_691 (lv_at hl 1 rfl) ?_
  refine lv_if_ne (tgt := 708) hx hb d_l_law_693 (by decide) (fun _ => ?_) (fun c9 => absurd c9 (nI_ne0 her.1 (by omega)))
  refine lv_goto (tgt := 830) hx hb d_l_law_708 (by decide) ?_
  exact k H locs ls hP hD hS (lv_sub hl [2, 3, 4, 5, 6] rfl)
set_option maxHeartbeats 4000000 in
set_option maxRecDepth 100000 in
theorem law_witness_ok {p : Program} {l : Launch} {e : Env} {s : State} {m : MethodId} {below : List Frame} {meth : Method} {c : Code} {b L : Nat} {xs : Nat → Int32} {D : va_G} {cI cJ cZ : ClassId} {sa ad bd : Nat → Nat} {oa : Nat} (C0 : LC p l s m c b L xs D cI cJ cZ sa) {H : Heap} {locs : List Loc} {cells slots : Nat} {Q : State → Prop} {ls : Array Slot} {er : Int32} {n ev i : Nat} {g : GA} {r : RA} {w : Nat → Int64} (hi : i + 3 < L) (hf : cells + 1 ≤ room_1.cells ∧ slots + 6 ≤ room_1.slots) (hP : va_P D cls (LW cI cJ cZ ad bd oa er n ev g r w) H) (hD : va_D (nA s) (LW cI cJ cZ ad bd oa er n ev g r w)) (hS : va_S (nA s) s.heap H locs) (hl : lv_has ls 7 (LV b ad bd oa i)) (v : Bool) {f1 lo1 : Nat} (hR1 : f1 + 1 ≤ room_1.frames ∧ 8 + (4 + 11) + lo1 ≤ room_1.locals) (hH : HI (S := Unit) l D (tys cI cJ cZ) (gO cI cJ ad oa n ev g w) (fun _ => gO cI cJ ad oa n ev g (vp_updL w 0 (bL v))) (fun r _ => r = 0) y_l_witness b_l_witness 4 [(0, 16, 19, 19)] f1 lo1 [.ref (ad 0), .int (xs (i + 1)), .ref oa]) {f2 lo2 : Nat} (hR2 : f2 + 1 ≤ room_1.frames ∧ 8 + (2 + 11) + lo2 ≤ room_1.locals) (hM : WI (S := Unit) l D (tys cI cJ cZ) (rL cI cZ bd er n ev r) (fun _ => rL cI cZ bd 0 n ev r) (fun q _ => q = bI v) y_r_witness b_r_witness 2 (some .boolean) f2 lo2 [.ref (bd 0), .int (xs (i + 1))]) (k : ∀ (H : Heap) (locs : List Loc) (ls : Array Slot), va_P D cls (LW cI cJ cZ ad bd oa 0 n ev g r (vp_updL w 0 (bL v))) H → va_D (nA s) (LW cI cJ cZ ad bd oa 0 n ev g r (vp_updL w 0 (bL v))) → va_S (nA s) s.heap H locs → lv_has ls 7 (LV b ad bd oa i) → W p l e room_1 s m #[Value.ref b] below meth c H locs (cells + 1) (slots + 6) Q (F0 m 830 ls [])) : W p l e room_1 s m #[Value.ref b] below meth c H locs cells slots Q (F0 m 711 ls []) := by
  obtain ⟨S0, hX, hbl, hK, hT, hNc, hL9, hl0⟩ := id C0
  obtain ⟨hx, hb, hml, hown, htc⟩ := id S0
  have hA : ∀ q : Nat, s.heap.size ≤ q → nA s q := fun _ h => h
  have hbA : ¬ nA s b := Nat.not_le.mpr hbl
  have hf0 : cells ≤ room_1.cells ∧ slots ≤ room_1.slots := ⟨by omega, by omega⟩
  have hP : va_P D cls (gL cI cJ ad n ev g ++ (rL cI cZ bd er n ev r ++ [(oa, .inl (cJ, 1, .inr (.inl w)))])) H := hP
  have hD : va_D (nA s) (gL cI cJ ad n ev g ++ (rL cI cZ bd er n ev r ++ [(oa, .inl (cJ, 1, .inr (.inl w)))])) := hD
  have hl : lv_has ls 7 [(4, .int (nI i)), (3, .ref oa), (2, .ref (bd 0)), (1, .ref (ad 0)), (0, .ref b)] := hl
  refine lv_aload_n hx hb d_l_law_711 rfl (lv_at hl 3 rfl) ?_
  refine lv_aload_n hx hb d_l_law_712 rfl (lv_at hl 4 rfl) ?_
  refine lv_iload hx hb d_l_law_713 (lv_at hl 0 rfl) ?_
  refine lv_iconst (v := (nI 1)) hx hb d_l_law_715 (by decide) ?_
  refine nr_iadd hx hb d_l_law_716 ?_
  refine nr_sld hx hb hX hbl hbA hS (by omega) (by omega) d_l_law_717 ?_
  refine lv_aload_n hx hb d_l_law_718 rfl (lv_at hl 1 rfl) ?_
  refine HI.callS (wr := rL cI cZ bd er n ev r) (rest := []) S0 hH k_2_40 k_2_41 k_1_0 k_2_42 h_l_witness hR1 hf0 hP hK hD hS hA [0, 1, 2, 3, 4, 5, 6, 15] [7, 8, 9, 10, 11, 12, 13, 14] rfl rfl (by decide) (by decide) (by decide) hl.1 (Nat.le_of_ble_eq_true rfl) rfl d_l_law_719 (fun v9 u1 H locs hv9 hP hD hS => ?_)
  obtain rfl := hv9
  have hP : va_P D cls (gL cI cJ ad n ev g ++ (rL cI cZ bd er n ev r ++ [(oa, .inl (cJ, 1, .inr (.inl (vp_updL w 0 (bL v)))))])) H := hP.sub [8, 9, 10, 11, 12, 13, 14, 0, 1, 2, 3, 4, 5, 6, 7, 15] rfl
  have hD : va_D (nA s) (gL cI cJ ad n ev g ++ (rL cI cZ bd er n ev r ++ [(oa, .inl (cJ, 1, .inr (.inl (vp_updL w 0 (bL v)))))])) := hD.sub [8, 9, 10, 11, 12, 13, 14, 0, 1, 2, 3, 4, 5, 6, 7, 15] (by decide) rfl
  refine lv_istore (lv' := [(5, .int 0), (4, .int (nI i)), (3, .ref oa), (2, .ref (bd 0)), (1, .ref (ad 0)), (0, .ref b)]) hx hb d_l_law_722 hl (by decide) rfl (fun ls hl => ?_)
  refine lv_aload_n hx hb d_l_law_724 rfl (lv_at hl 3 rfl) ?_
  refine lv_aload_n hx hb d_l_law_725 rfl (lv_at hl 5 rfl) ?_
  refine lv_iload hx hb d_l_law_726 (lv_at hl 1 rfl) ?_
  refine lv_iconst (v := (nI 1)) hx hb d_l_law_728 (by decide) ?_
  refine nr_iadd hx hb d_l_law_729 ?_
  refine nr_sld hx hb hX hbl hbA hS (by omega) (by omega) d_l_law_730 ?_
  refine WI.callV (wr := gL cI cJ ad n ev g ++ [(oa, .inl (cJ, 1, .inr (.inl (vp_updL w 0 (bL v)))))]) (rest := []) S0 hM k_2_191 k_2_192 k_2_193 k_1_2 k_2_194 h_r_witness hR2 hf0 hP hK hD hS hA [7, 8, 9, 10, 11, 12, 13, 14] [0, 1, 2, 3, 4, 5, 6, 15] rfl rfl (by decide) (by decide) (by decide) 0 1 rfl rfl rfl hl.1 (Nat.le_of_ble_eq_true rfl) rfl d_l_law_731 (fun v9 u2 H locs hv9 hP hD hS => ?_)
  obtain rfl := hv9
  have hP : va_P D cls (gL cI cJ ad n ev g ++ (rL cI cZ bd 0 n ev r ++ [(oa, .inl (cJ, 1, .inr (.inl (vp_updL w 0 (bL v)))))])) H := hP.sub [0, 1, 2, 3, 4, 5, 6, 8, 9, 10, 11, 12, 13, 14, 15, 7] rfl
  have hD : va_D (nA s) (gL cI cJ ad n ev g ++ (rL cI cZ bd 0 n ev r ++ [(oa, .inl (cJ, 1, .inr (.inl (vp_updL w 0 (bL v)))))])) := hD.sub [0, 1, 2, 3, 4, 5, 6, 8, 9, 10, 11, 12, 13, 14, 15, 7] (by decide) rfl
  refine lv_istore (lv' := [(6, .int (bI v)), (5, .int 0), (4, .int (nI i)), (3, .ref oa), (2, .ref (bd 0)), (1, .ref (ad 0)), (0, .ref b)]) hx hb d_l_law_734 hl (by decide) rfl (fun ls hl => ?_)
  refine lv_aload_n hx hb d_l_law_736 rfl (lv_at hl 4 rfl) ?_
  refine PM.callV (rest := []) S0 (c_r_thrown l D cI cJ cZ bd 0 n ev r) k_2_105 k_2_106 k_2_107 k_1_2 k_2_108 h_r_thrown ⟨Nat.le_of_ble_eq_true rfl, Nat.le_of_ble_eq_true rfl⟩ hf0 (hP.sub (ws' := rL cI cZ bd 0 n ev r) [7, 8, 9, 10, 11, 12, 13, 14] rfl) hK 0 1 rfl rfl rfl hl.1 (Nat.le_of_ble_eq_true rfl) rfl d_l_law_737 ?_
  refine lv_iload hx hb d_l_law_740 (lv_at hl 1 rfl) ?_
  refine lv_icmp_eq (tgt := 747) hx hb d_l_law_742 (by decide) (fun _ => ?_) (fun c9 => absurd rfl c9)
  refine lv_iload hx hb d_l_law_747 (lv_at hl 1 rfl) ?_
  refine lv_if_ne (tgt := 771) hx hb d_l_law_749 (by decide) (fun c9 => absurd rfl c9) (fun _ => ?_)
  refine lv_aload_n hx hb d_l_law_752 rfl (lv_at hl 3 rfl) ?_
  refine lv_iconst (v := (nI 0)) hx hb d_l_law_753 (by decide) ?_
  refine nr_lald hx hb hK hP 15 1 rfl rfl (by omega) (by decide) (v := (bL v)) pk_uLs d_l_law_754 ?_
  refine lv_iload hx hb d_l_law_755 (lv_at hl 0 rfl) ?_
  refine nr_ifeq_b (tgt := 764) hx hb d_l_law_757 (by decide) (fun c_757 => ?_) (fun c_757 => ?_)
  · refine lv_lconst (v := 0) hx hb d_l_law_764 (by decide) ?_
    refine W.lcmp hx hb d_l_law_765 ?_
    refine lv_if_eq (tgt := 771) hx hb d_l_law_766 (by decide) (fun _ => ?_) (fun c9 => absurd (by rw [c_757]; decide) c9)
    refine lv_goto (tgt := 830) hx hb d_l_law_771 (by decide) ?_
    refine W.widen (k := cells + 1) (n := slots + 6) (by omega) (by omega) ?_
    exact k H locs ls hP hD hS (lv_sub hl [2, 3, 4, 5, 6] rfl)
  · refine lv_lconst (v := 1) hx hb d_l_law_760 (by decide) ?_
    refine lv_goto (tgt := 765) hx hb d_l_law_761 (by decide) ?_
    refine W.lcmp hx hb d_l_law_765 ?_
    refine lv_if_eq (tgt := 771) hx hb d_l_law_766 (by decide) (fun _ => ?_) (fun c9 => absurd (by rw [c_757]; decide) c9)
    refine lv_goto (tgt := 830) hx hb d_l_law_771 (by decide) ?_
    refine W.widen (k := cells + 1) (n := slots + 6) (by omega) (by omega) ?_
    exact k H locs ls hP hD hS (lv_sub hl [2, 3, 4, 5, 6] rfl)
set_option maxHeartbeats 4000000 in
set_option maxRecDepth 100000 in
theorem law_witness_x {p : Program} {l : Launch} {e : Env} {s : State} {m : MethodId} {below : List Frame} {meth : Method} {c : Code} {b L : Nat} {xs : Nat → Int32} {D : va_G} {cI cJ cZ : ClassId} {sa ad bd : Nat → Nat} {oa : Nat} (C0 : LC p l s m c b L xs D cI cJ cZ sa) {H : Heap} {locs : List Loc} {cells slots : Nat} {Q : State → Prop} {ls : Array Slot} {er : Int32} {n ev i : Nat} {g : GA} {r : RA} {w : Nat → Int64} (hi : i + 3 < L) (hf : cells + 1 ≤ room_1.cells ∧ slots + 6 ≤ room_1.slots) (hP : va_P D cls (LW cI cJ cZ ad bd oa er n ev g r w) H) (hD : va_D (nA s) (LW cI cJ cZ ad bd oa er n ev g r w)) (hS : va_S (nA s) s.heap H locs) (hl : lv_has ls 7 (LV b ad bd oa i)) (er9 : Nat) (her : 0 < er9 ∧ er9 < 100) {f1 lo1 : Nat} (hR1 : f1 + 1 ≤ room_1.frames ∧ 8 + (4 + 11) + lo1 ≤ room_1.locals) (hH : HX l D (tys cI cJ cZ) (gO cI cJ ad oa n ev g w) sa y_l_witness b_l_witness 4 [(0, 16, 19, 19)] f1 lo1 [.ref (ad 0), .int (xs (i + 1)), .ref oa] (nI er9)) {f2 lo2 : Nat} (hR2 : f2 + 1 ≤ room_1.frames ∧ 8 + (2 + 11) + lo2 ≤ room_1.locals) (hM : WI (S := Unit) l D (tys cI cJ cZ) (rL cI cZ bd er n ev r) (fun _ => rL cI cZ bd (nI er9) n ev r) (fun _ _ => True) y_r_witness b_r_witness 2 (some .boolean) f2 lo2 [.ref (bd 0), .int (xs (i + 1))]) (k : ∀ (H : Heap) (locs : List Loc) (ls : Array Slot), va_P D cls (LW cI cJ cZ ad bd oa (nI er9) n ev g r w) H → va_D (nA s) (LW cI cJ cZ ad bd oa (nI er9) n ev g r w) → va_S (nA s) s.heap H locs → lv_has ls 7 (LV b ad bd oa i) → W p l e room_1 s m #[Value.ref b] below meth c H locs (cells + 1) (slots + 6) Q (F0 m 830 ls [])) : W p l e room_1 s m #[Value.ref b] below meth c H locs cells slots Q (F0 m 711 ls []) := by
  obtain ⟨S0, hX, hbl, hK, hT, hNc, hL9, hl0⟩ := id C0
  obtain ⟨hx, hb, hml, hown, htc⟩ := id S0
  have hA : ∀ q : Nat, s.heap.size ≤ q → nA s q := fun _ h => h
  have hbA : ¬ nA s b := Nat.not_le.mpr hbl
  have hf0 : cells ≤ room_1.cells ∧ slots ≤ room_1.slots := ⟨by omega, by omega⟩
  have hP : va_P D cls (gL cI cJ ad n ev g ++ (rL cI cZ bd er n ev r ++ [(oa, .inl (cJ, 1, .inr (.inl w)))])) H := hP
  have hD : va_D (nA s) (gL cI cJ ad n ev g ++ (rL cI cZ bd er n ev r ++ [(oa, .inl (cJ, 1, .inr (.inl w)))])) := hD
  have hl : lv_has ls 7 [(4, .int (nI i)), (3, .ref oa), (2, .ref (bd 0)), (1, .ref (ad 0)), (0, .ref b)] := hl
  refine lv_aload_n hx hb d_l_law_711 rfl (lv_at hl 3 rfl) ?_
  refine lv_aload_n hx hb d_l_law_712 rfl (lv_at hl 4 rfl) ?_
  refine lv_iload hx hb d_l_law_713 (lv_at hl 0 rfl) ?_
  refine lv_iconst (v := (nI 1)) hx hb d_l_law_715 (by decide) ?_
  refine nr_iadd hx hb d_l_law_716 ?_
  refine nr_sld hx hb hX hbl hbA hS (by omega) (by omega) d_l_law_717 ?_
  refine lv_aload_n hx hb d_l_law_718 rfl (lv_at hl 1 rfl) ?_
  refine HX.callS (rest := []) S0 hH k_2_40 k_2_41 k_1_0 k_2_42 h_l_witness hR1 hf hP hK hS (LC.te hT hS) hNc [0, 1, 2, 3, 4, 5, 6, 15] rfl hl.1 (Nat.le_of_ble_eq_true rfl) rfl d_l_law_719 (fun H locs hP hS => ?_)
  refine lv_istore (lv' := [(5, .int (nI er9)), (4, .int (nI i)), (3, .ref oa), (2, .ref (bd 0)), (1, .ref (ad 0)), (0, .ref b)]) hx hb d_l_law_722 hl (by decide) rfl (fun ls hl => ?_)
  refine lv_aload_n hx hb d_l_law_724 rfl (lv_at hl 3 rfl) ?_
  refine lv_aload_n hx hb d_l_law_725 rfl (lv_at hl 5 rfl) ?_
  refine lv_iload hx hb d_l_law_726 (lv_at hl 1 rfl) ?_
  refine lv_iconst (v := (nI 1)) hx hb d_l_law_728 (by decide) ?_
  refine nr_iadd hx hb d_l_law_729 ?_
  refine nr_sld hx hb hX hbl hbA hS (by omega) (by omega) d_l_law_730 ?_
  refine WI.callV (wr := gL cI cJ ad n ev g ++ [(oa, .inl (cJ, 1, .inr (.inl w)))]) (rest := []) S0 hM k_2_191 k_2_192 k_2_193 k_1_2 k_2_194 h_r_witness hR2 hf hP hK hD hS hA [7, 8, 9, 10, 11, 12, 13, 14] [0, 1, 2, 3, 4, 5, 6, 15] rfl rfl (by decide) (by decide) (by decide) 0 1 rfl rfl rfl hl.1 (Nat.le_of_ble_eq_true rfl) rfl d_l_law_731 (fun v9 u2 H locs hv9 hP hD hS => ?_)
  have hP : va_P D cls (gL cI cJ ad n ev g ++ (rL cI cZ bd (nI er9) n ev r ++ [(oa, .inl (cJ, 1, .inr (.inl w)))])) H := hP.sub [0, 1, 2, 3, 4, 5, 6, 8, 9, 10, 11, 12, 13, 14, 15, 7] rfl
  have hD : va_D (nA s) (gL cI cJ ad n ev g ++ (rL cI cZ bd (nI er9) n ev r ++ [(oa, .inl (cJ, 1, .inr (.inl w)))])) := hD.sub [0, 1, 2, 3, 4, 5, 6, 8, 9, 10, 11, 12, 13, 14, 15, 7] (by decide) rfl
  refine lv_istore (lv' := [(6, .int v9), (5, .int (nI er9)), (4, .int (nI i)), (3, .ref oa), (2, .ref (bd 0)), (1, .ref (ad 0)), (0, .ref b)]) hx hb d_l_law_734 hl (by decide) rfl (fun ls hl => ?_)
  refine lv_aload_n hx hb d_l_law_736 rfl (lv_at hl 4 rfl) ?_
  refine PM.callV (rest := []) S0 (c_r_thrown l D cI cJ cZ bd (nI er9) n ev r) k_2_105 k_2_106 k_2_107 k_1_2 k_2_108 h_r_thrown ⟨Nat.le_of_ble_eq_true rfl, Nat.le_of_ble_eq_true rfl⟩ hf (hP.sub (ws' := rL cI cZ bd (nI er9) n ev r) [7, 8, 9, 10, 11, 12, 13, 14] rfl) hK 0 1 rfl rfl rfl hl.1 (Nat.le_of_ble_eq_true rfl) rfl d_l_law_737 ?_
  refine lv_iload hx hb d_l_law_740 (lv_at hl 1 rfl) ?_
  refine lv_icmp_eq (tgt := 747) hx hb d_l_law_742 (by decide) (fun _ => ?_) (fun c9 => absurd rfl c9)
  refine lv_iload hx hb d_l_law_747 (lv_at hl 1 rfl) ?_
  refine lv_if_ne (tgt := 771) hx hb d_l_law_749 (by decide) (fun _ => ?_) (fun c9 => absurd c9 (nI_ne0 her.1 (by omega)))
  refine lv_goto (tgt := 830) hx hb d_l_law_771 (by decide) ?_
  exact k H locs ls hP hD hS (lv_sub hl [2, 3, 4, 5, 6] rfl)
set_option maxHeartbeats 4000000 in
set_option maxRecDepth 100000 in
theorem law_count_ok {p : Program} {l : Launch} {e : Env} {s : State} {m : MethodId} {below : List Frame} {meth : Method} {c : Code} {b L : Nat} {xs : Nat → Int32} {D : va_G} {cI cJ cZ : ClassId} {sa ad bd : Nat → Nat} {oa : Nat} (C0 : LC p l s m c b L xs D cI cJ cZ sa) {H : Heap} {locs : List Loc} {cells slots : Nat} {Q : State → Prop} {ls : Array Slot} {er : Int32} {n ev i : Nat} {g : GA} {r : RA} {w : Nat → Int64} (hi : i + 3 < L) (hf : cells + 1 ≤ room_1.cells ∧ slots + 6 ≤ room_1.slots) (hP : va_P D cls (LW cI cJ cZ ad bd oa er n ev g r w) H) (hD : va_D (nA s) (LW cI cJ cZ ad bd oa er n ev g r w)) (hS : va_S (nA s) s.heap H locs) (hl : lv_has ls 7 (LV b ad bd oa i)) (v : Int32) {f1 lo1 : Nat} (hR1 : f1 + 1 ≤ room_1.frames ∧ 8 + (4 + 11) + lo1 ≤ room_1.locals) (hH : HI (S := Unit) l D (tys cI cJ cZ) (gO cI cJ ad oa n ev g w) (fun _ => gO cI cJ ad oa n ev g (vp_updL w 0 v.toInt64)) (fun r _ => r = 0) y_l_count b_l_count 4 [(0, 9, 12, 13)] f1 lo1 [.ref (ad 0), .int (xs (i + 1)), .ref oa]) {f2 lo2 : Nat} (hR2 : f2 + 1 ≤ room_1.frames ∧ 8 + (7 + 11) + lo2 ≤ room_1.locals) (hM : WI (S := Unit) l D (tys cI cJ cZ) (rL cI cZ bd er n ev r) (fun _ => rL cI cZ bd 0 n ev r) (fun q _ => q = v) y_r_count b_r_count 7 (some .int) f2 lo2 [.ref (bd 0), .int (xs (i + 1))]) (k : ∀ (H : Heap) (locs : List Loc) (ls : Array Slot), va_P D cls (LW cI cJ cZ ad bd oa 0 n ev g r (vp_updL w 0 v.toInt64)) H → va_D (nA s) (LW cI cJ cZ ad bd oa 0 n ev g r (vp_updL w 0 v.toInt64)) → va_S (nA s) s.heap H locs → lv_has ls 7 (LV b ad bd oa i) → W p l e room_1 s m #[Value.ref b] below meth c H locs (cells + 1) (slots + 6) Q (F0 m 830 ls [])) : W p l e room_1 s m #[Value.ref b] below meth c H locs cells slots Q (F0 m 774 ls []) := by
  obtain ⟨S0, hX, hbl, hK, hT, hNc, hL9, hl0⟩ := id C0
  obtain ⟨hx, hb, hml, hown, htc⟩ := id S0
  have hA : ∀ q : Nat, s.heap.size ≤ q → nA s q := fun _ h => h
  have hbA : ¬ nA s b := Nat.not_le.mpr hbl
  have hf0 : cells ≤ room_1.cells ∧ slots ≤ room_1.slots := ⟨by omega, by omega⟩
  have hP : va_P D cls (gL cI cJ ad n ev g ++ (rL cI cZ bd er n ev r ++ [(oa, .inl (cJ, 1, .inr (.inl w)))])) H := hP
  have hD : va_D (nA s) (gL cI cJ ad n ev g ++ (rL cI cZ bd er n ev r ++ [(oa, .inl (cJ, 1, .inr (.inl w)))])) := hD
  have hl : lv_has ls 7 [(4, .int (nI i)), (3, .ref oa), (2, .ref (bd 0)), (1, .ref (ad 0)), (0, .ref b)] := hl
  refine lv_aload_n hx hb d_l_law_774 rfl (lv_at hl 3 rfl) ?_
  refine lv_aload_n hx hb d_l_law_775 rfl (lv_at hl 4 rfl) ?_
  refine lv_iload hx hb d_l_law_776 (lv_at hl 0 rfl) ?_
  refine lv_iconst (v := (nI 1)) hx hb d_l_law_778 (by decide) ?_
  refine nr_iadd hx hb d_l_law_779 ?_
  refine nr_sld hx hb hX hbl hbA hS (by omega) (by omega) d_l_law_780 ?_
  refine lv_aload_n hx hb d_l_law_781 rfl (lv_at hl 1 rfl) ?_
  refine HI.callS (wr := rL cI cZ bd er n ev r) (rest := []) S0 hH k_2_47 k_2_48 k_1_0 k_2_49 h_l_count hR1 hf0 hP hK hD hS hA [0, 1, 2, 3, 4, 5, 6, 15] [7, 8, 9, 10, 11, 12, 13, 14] rfl rfl (by decide) (by decide) (by decide) hl.1 (Nat.le_of_ble_eq_true rfl) rfl d_l_law_782 (fun v9 u1 H locs hv9 hP hD hS => ?_)
  obtain rfl := hv9
  have hP : va_P D cls (gL cI cJ ad n ev g ++ (rL cI cZ bd er n ev r ++ [(oa, .inl (cJ, 1, .inr (.inl (vp_updL w 0 v.toInt64))))])) H := hP.sub [8, 9, 10, 11, 12, 13, 14, 0, 1, 2, 3, 4, 5, 6, 7, 15] rfl
  have hD : va_D (nA s) (gL cI cJ ad n ev g ++ (rL cI cZ bd er n ev r ++ [(oa, .inl (cJ, 1, .inr (.inl (vp_updL w 0 v.toInt64))))])) := hD.sub [8, 9, 10, 11, 12, 13, 14, 0, 1, 2, 3, 4, 5, 6, 7, 15] (by decide) rfl
  refine lv_istore (lv' := [(5, .int 0), (4, .int (nI i)), (3, .ref oa), (2, .ref (bd 0)), (1, .ref (ad 0)), (0, .ref b)]) hx hb d_l_law_785 hl (by decide) rfl (fun ls hl => ?_)
  refine lv_aload_n hx hb d_l_law_787 rfl (lv_at hl 3 rfl) ?_
  refine lv_aload_n hx hb d_l_law_788 rfl (lv_at hl 5 rfl) ?_
  refine lv_iload hx hb d_l_law_789 (lv_at hl 1 rfl) ?_
  refine lv_iconst (v := (nI 1)) hx hb d_l_law_791 (by decide) ?_
  refine nr_iadd hx hb d_l_law_792 ?_
  refine nr_sld hx hb hX hbl hbA hS (by omega) (by omega) d_l_law_793 ?_
  refine WI.callV (wr := gL cI cJ ad n ev g ++ [(oa, .inl (cJ, 1, .inr (.inl (vp_updL w 0 v.toInt64))))]) (rest := []) S0 hM k_2_195 k_2_196 k_2_197 k_1_2 k_2_198 h_r_count hR2 hf0 hP hK hD hS hA [7, 8, 9, 10, 11, 12, 13, 14] [0, 1, 2, 3, 4, 5, 6, 15] rfl rfl (by decide) (by decide) (by decide) 0 1 rfl rfl rfl hl.1 (Nat.le_of_ble_eq_true rfl) rfl d_l_law_794 (fun v9 u2 H locs hv9 hP hD hS => ?_)
  obtain rfl := hv9.symm
  have hP : va_P D cls (gL cI cJ ad n ev g ++ (rL cI cZ bd 0 n ev r ++ [(oa, .inl (cJ, 1, .inr (.inl (vp_updL w 0 v.toInt64))))])) H := hP.sub [0, 1, 2, 3, 4, 5, 6, 8, 9, 10, 11, 12, 13, 14, 15, 7] rfl
  have hD : va_D (nA s) (gL cI cJ ad n ev g ++ (rL cI cZ bd 0 n ev r ++ [(oa, .inl (cJ, 1, .inr (.inl (vp_updL w 0 v.toInt64))))])) := hD.sub [0, 1, 2, 3, 4, 5, 6, 8, 9, 10, 11, 12, 13, 14, 15, 7] (by decide) rfl
  refine lv_istore (lv' := [(6, .int v), (5, .int 0), (4, .int (nI i)), (3, .ref oa), (2, .ref (bd 0)), (1, .ref (ad 0)), (0, .ref b)]) hx hb d_l_law_797 hl (by decide) rfl (fun ls hl => ?_)
  refine lv_aload_n hx hb d_l_law_799 rfl (lv_at hl 4 rfl) ?_
  refine PM.callV (rest := []) S0 (c_r_thrown l D cI cJ cZ bd 0 n ev r) k_2_105 k_2_106 k_2_107 k_1_2 k_2_108 h_r_thrown ⟨Nat.le_of_ble_eq_true rfl, Nat.le_of_ble_eq_true rfl⟩ hf0 (hP.sub (ws' := rL cI cZ bd 0 n ev r) [7, 8, 9, 10, 11, 12, 13, 14] rfl) hK 0 1 rfl rfl rfl hl.1 (Nat.le_of_ble_eq_true rfl) rfl d_l_law_800 ?_
  refine lv_iload hx hb d_l_law_803 (lv_at hl 1 rfl) ?_
  refine lv_icmp_eq (tgt := 810) hx hb d_l_law_805 (by decide) (fun _ => ?_) (fun c9 => absurd rfl c9)
  refine lv_iload hx hb d_l_law_810 (lv_at hl 1 rfl) ?_
  refine lv_if_ne (tgt := 827) hx hb d_l_law_812 (by decide) (fun c9 => absurd rfl c9) (fun _ => ?_)
  refine lv_aload_n hx hb d_l_law_815 rfl (lv_at hl 3 rfl) ?_
  refine lv_iconst (v := (nI 0)) hx hb d_l_law_816 (by decide) ?_
  refine nr_lald hx hb hK hP 15 1 rfl rfl (by omega) (by decide) (v := v.toInt64) pk_uLs d_l_law_817 ?_
  refine lv_iload hx hb d_l_law_818 (lv_at hl 0 rfl) ?_
  refine lv_i2l hx hb d_l_law_820 rfl ?_
  refine W.lcmp hx hb d_l_law_821 ?_
  refine lv_if_eq (tgt := 827) hx hb d_l_law_822 (by decide) (fun _ => ?_) (fun c9 => absurd (lg_same _) c9)
  refine lv_goto (tgt := 830) hx hb d_l_law_827 (by decide) ?_
  refine W.widen (k := cells + 1) (n := slots + 6) (by omega) (by omega) ?_
  exact k H locs ls hP hD hS (lv_sub hl [2, 3, 4, 5, 6] rfl)
set_option maxHeartbeats 4000000 in
set_option maxRecDepth 100000 in
theorem law_count_x {p : Program} {l : Launch} {e : Env} {s : State} {m : MethodId} {below : List Frame} {meth : Method} {c : Code} {b L : Nat} {xs : Nat → Int32} {D : va_G} {cI cJ cZ : ClassId} {sa ad bd : Nat → Nat} {oa : Nat} (C0 : LC p l s m c b L xs D cI cJ cZ sa) {H : Heap} {locs : List Loc} {cells slots : Nat} {Q : State → Prop} {ls : Array Slot} {er : Int32} {n ev i : Nat} {g : GA} {r : RA} {w : Nat → Int64} (hi : i + 3 < L) (hf : cells + 1 ≤ room_1.cells ∧ slots + 6 ≤ room_1.slots) (hP : va_P D cls (LW cI cJ cZ ad bd oa er n ev g r w) H) (hD : va_D (nA s) (LW cI cJ cZ ad bd oa er n ev g r w)) (hS : va_S (nA s) s.heap H locs) (hl : lv_has ls 7 (LV b ad bd oa i)) (er9 : Nat) (her : 0 < er9 ∧ er9 < 100) {f1 lo1 : Nat} (hR1 : f1 + 1 ≤ room_1.frames ∧ 8 + (4 + 11) + lo1 ≤ room_1.locals) (hH : HX l D (tys cI cJ cZ) (gO cI cJ ad oa n ev g w) sa y_l_count b_l_count 4 [(0, 9, 12, 13)] f1 lo1 [.ref (ad 0), .int (xs (i + 1)), .ref oa] (nI er9)) {f2 lo2 : Nat} (hR2 : f2 + 1 ≤ room_1.frames ∧ 8 + (7 + 11) + lo2 ≤ room_1.locals) (hM : WI (S := Unit) l D (tys cI cJ cZ) (rL cI cZ bd er n ev r) (fun _ => rL cI cZ bd (nI er9) n ev r) (fun _ _ => True) y_r_count b_r_count 7 (some .int) f2 lo2 [.ref (bd 0), .int (xs (i + 1))]) (k : ∀ (H : Heap) (locs : List Loc) (ls : Array Slot), va_P D cls (LW cI cJ cZ ad bd oa (nI er9) n ev g r w) H → va_D (nA s) (LW cI cJ cZ ad bd oa (nI er9) n ev g r w) → va_S (nA s) s.heap H locs → lv_has ls 7 (LV b ad bd oa i) → W p l e room_1 s m #[Value.ref b] below meth c H locs (cells + 1) (slots + 6) Q (F0 m 830 ls [])) : W p l e room_1 s m #[Value.ref b] below meth c H locs cells slots Q (F0 m 774 ls []) := by
  obtain ⟨S0, hX, hbl, hK, hT, hNc, hL9, hl0⟩ := id C0
  obtain ⟨hx, hb, hml, hown, htc⟩ := id S0
  have hA : ∀ q : Nat, s.heap.size ≤ q → nA s q := fun _ h => h
  have hbA : ¬ nA s b := Nat.not_le.mpr hbl
  have hf0 : cells ≤ room_1.cells ∧ slots ≤ room_1.slots := ⟨by omega, by omega⟩
  have hP : va_P D cls (gL cI cJ ad n ev g ++ (rL cI cZ bd er n ev r ++ [(oa, .inl (cJ, 1, .inr (.inl w)))])) H := hP
  have hD : va_D (nA s) (gL cI cJ ad n ev g ++ (rL cI cZ bd er n ev r ++ [(oa, .inl (cJ, 1, .inr (.inl w)))])) := hD
  have hl : lv_has ls 7 [(4, .int (nI i)), (3, .ref oa), (2, .ref (bd 0)), (1, .ref (ad 0)), (0, .ref b)] := hl
  refine lv_aload_n hx hb d_l_law_774 rfl (lv_at hl 3 rfl) ?_
  refine lv_aload_n hx hb d_l_law_775 rfl (lv_at hl 4 rfl) ?_
  refine lv_iload hx hb d_l_law_776 (lv_at hl 0 rfl) ?_
  refine lv_iconst (v := (nI 1)) hx hb d_l_law_778 (by decide) ?_
  refine nr_iadd hx hb d_l_law_779 ?_
  refine nr_sld hx hb hX hbl hbA hS (by omega) (by omega) d_l_law_780 ?_
  refine lv_aload_n hx hb d_l_law_781 rfl (lv_at hl 1 rfl) ?_
  refine HX.callS (rest := []) S0 hH k_2_47 k_2_48 k_1_0 k_2_49 h_l_count hR1 hf hP hK hS (LC.te hT hS) hNc [0, 1, 2, 3, 4, 5, 6, 15] rfl hl.1 (Nat.le_of_ble_eq_true rfl) rfl d_l_law_782 (fun H locs hP hS => ?_)
  refine lv_istore (lv' := [(5, .int (nI er9)), (4, .int (nI i)), (3, .ref oa), (2, .ref (bd 0)), (1, .ref (ad 0)), (0, .ref b)]) hx hb d_l_law_785 hl (by decide) rfl (fun ls hl => ?_)
  refine lv_aload_n hx hb d_l_law_787 rfl (lv_at hl 3 rfl) ?_
  refine lv_aload_n hx hb d_l_law_788 rfl (lv_at hl 5 rfl) ?_
  refine lv_iload hx hb d_l_law_789 (lv_at hl 1 rfl) ?_
  refine lv_iconst (v := (nI 1)) hx hb d_l_law_791 (by decide) ?_
  refine nr_iadd hx hb d_l_law_792 ?_
  refine nr_sld hx hb hX hbl hbA hS (by omega) (by omega) d_l_law_793 ?_
  refine WI.callV (wr := gL cI cJ ad n ev g ++ [(oa, .inl (cJ, 1, .inr (.inl w)))]) (rest := []) S0 hM k_2_195 k_2_196 k_2_197 k_1_2 k_2_198 h_r_count hR2 hf hP hK hD hS hA [7, 8, 9, 10, 11, 12, 13, 14] [0, 1, 2, 3, 4, 5, 6, 15] rfl rfl (by decide) (by decide) (by decide) 0 1 rfl rfl rfl hl.1 (Nat.le_of_ble_eq_true rfl) rfl d_l_law_794 (fun v9 u2 H locs hv9 hP hD hS => ?_)
  have hP : va_P D cls (gL cI cJ ad n ev g ++ (rL cI cZ bd (nI er9) n ev r ++ [(oa, .inl (cJ, 1, .inr (.inl w)))])) H := hP.sub [0, 1, 2, 3, 4, 5, 6, 8, 9, 10, 11, 12, 13, 14, 15, 7] rfl
  have hD : va_D (nA s) (gL cI cJ ad n ev g ++ (rL cI cZ bd (nI er9) n ev r ++ [(oa, .inl (cJ, 1, .inr (.inl w)))])) := hD.sub [0, 1, 2, 3, 4, 5, 6, 8, 9, 10, 11, 12, 13, 14, 15, 7] (by decide) rfl
  refine lv_istore (lv' := [(6, .int v9), (5, .int (nI er9)), (4, .int (nI i)), (3, .ref oa), (2, .ref (bd 0)), (1, .ref (ad 0)), (0, .ref b)]) hx hb d_l_law_797 hl (by decide) rfl (fun ls hl => ?_)
  refine lv_aload_n hx hb d_l_law_799 rfl (lv_at hl 4 rfl) ?_
  refine PM.callV (rest := []) S0 (c_r_thrown l D cI cJ cZ bd (nI er9) n ev r) k_2_105 k_2_106 k_2_107 k_1_2 k_2_108 h_r_thrown ⟨Nat.le_of_ble_eq_true rfl, Nat.le_of_ble_eq_true rfl⟩ hf (hP.sub (ws' := rL cI cZ bd (nI er9) n ev r) [7, 8, 9, 10, 11, 12, 13, 14] rfl) hK 0 1 rfl rfl rfl hl.1 (Nat.le_of_ble_eq_true rfl) rfl d_l_law_800 ?_
  refine lv_iload hx hb d_l_law_803 (lv_at hl 1 rfl) ?_
  refine lv_icmp_eq (tgt := 810) hx hb d_l_law_805 (by decide) (fun _ => ?_) (fun c9 => absurd rfl c9)
  refine lv_iload hx hb d_l_law_810 (lv_at hl 1 rfl) ?_
  refine lv_if_ne (tgt := 827) hx hb d_l_law_812 (by decide) (fun _ => ?_) (fun c9 => absurd c9 (nI_ne0 her.1 (by omega)))
  refine lv_goto (tgt := 830) hx hb d_l_law_827 (by decide) ?_
  exact k H locs ls hP hD hS (lv_sub hl [2, 3, 4, 5, 6] rfl)
