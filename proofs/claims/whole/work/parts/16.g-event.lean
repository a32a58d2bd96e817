section EV
variable {g u : GA} {c s o rd : Nat → Nat} {an ow fk : Nat → Nat → Bool} {ev n : Nat} {P1 P2 : Nat → Bool}
def g1 (g : GA) (ev a : Nat) (b : Nat) : GA := (upd g.1 ev (nI a), upd g.2.1 ev (mI b), g.2.2.1, g.2.2.2.1, g.2.2.2.2.1, g.2.2.2.2.2)
theorem ev_1 (hC : gC ev g c s an fk) (hu : gA ev (g1 g ev (c ev) (s ev)) u P1 P2) : gCs (ev + 1) u c s := by
  intro j hj
  by_cases e : j = ev
  · subst e
    exact ⟨by rw [hu.1]; exact pk_us, by rw [hu.2.1]; exact pk_us, trivial⟩
  · exact ⟨by rw [hu.1]; exact (pk_un e).trans (hC j (by omega)).1, by rw [hu.2.1]; exact (pk_un e).trans (hC j (by omega)).2.1, trivial⟩
theorem ev_lo (hLw : Lw (ev + 1) n c s o an ow) (hu : gA ev (g1 g ev (c ev) (s ev)) u (fun i => ev == i || (pa an (s ev) i || pa an (o ev) i)) (fun i => ev == 64 + i || (pa an (s ev) (64 + i) || pa an (o ev) (64 + i)))) : u.2.2.2.2.1 ev = lN (bs (an ev) 64) ∧ u.2.2.2.2.2 ev = lN (bs (fun i => an ev (64 + i)) 64) :=
  ⟨hu.2.2.2.2.2.1.trans (congrArg lN (bs_congr (fun i _ => ((hLw ev (by omega)).2.2.2.2.2.1 i).symm))), hu.2.2.2.2.2.2.trans (congrArg lN (bs_congr (fun i _ => ((hLw ev (by omega)).2.2.2.2.2.1 (64 + i)).symm)))⟩
theorem ev_2 (hLw : Lw (ev + 1) n c s o an ow) (hC : gC ev g c s an fk) (hu : gA ev (g1 g ev (c ev) (s ev)) u (fun i => ev == i || (pa an (s ev) i || pa an (o ev) i)) (fun i => ev == 64 + i || (pa an (s ev) (64 + i) || pa an (o ev) (64 + i)))) : ∀ r : Nat → Int32, gC (ev + 1) (u.1, u.2.1, r, upd u.2.2.2.1 ev (nI (bs (fk ev) 8)), u.2.2.2.2.1, u.2.2.2.2.2) c s an fk := by
  intro r j hj
  obtain ⟨h1, h2, -⟩ := ev_1 hC hu j hj
  refine ⟨h1, h2, ?_⟩
  by_cases e : j = ev
  · subst e
    exact ⟨pk_us, (ev_lo hLw hu).1, (ev_lo hLw hu).2⟩
  · obtain ⟨-, -, h3, h4, h5⟩ := hC j (by omega)
    exact ⟨(pk_un e).trans ((congrFun hu.2.2.2.1 j).trans h3), (hu.2.2.2.2.1 j e).1.trans h4, (hu.2.2.2.2.1 j e).2.trans h5⟩
theorem ev_3 (hR : gR ev g rd) (hu : gA ev (g1 g ev (c ev) (s ev)) u P1 P2) : ∀ f : Nat → Int32, gR ev (u.1, u.2.1, u.2.2.1, f, u.2.2.2.2.1, u.2.2.2.2.2) rd := fun f j hj => ⟨(congrFun hu.2.2.1 j).trans (hR j hj).1, (hR j hj).2⟩
theorem ev_4 (hR : gR ev g rd) (hu : gA ev (g1 g ev (c ev) (s ev)) u P1 P2) (hrb : rd ev ≤ ev + 1) : ∀ f : Nat → Int32, gR (ev + 1) (u.1, u.2.1, upd u.2.2.1 ev (nI (rd ev)), f, u.2.2.2.2.1, u.2.2.2.2.2) rd := by
  intro f j hj
  by_cases e : j = ev
  · subst e; exact ⟨pk_us, hrb⟩
  · exact ⟨(pk_un e).trans ((congrFun hu.2.2.1 j).trans (hR j (by omega)).1), (hR j (by omega)).2⟩
theorem ev_f (hLw : Lw (ev + 1) n c s o an ow) (hev : ev < 120) (hfk : ∀ m, fk ev m = fo (an ev) ow c (ev + 1) m) : bs (fF (bs (an ev) 64) (bs (fun i => an ev (64 + i)) 64) c s n) 8 = bs (fk ev) 8 := by
  rw [fF_fo (a := an ev) hLw (by omega) (fun i hi => wt_an hi) (fun i hi => by have := hLw.an_le ev (by omega) i hi; omega) (fun i hi q => (hLw.an_self ev (by omega) i hi).1 q)]
  exact bs_congr (fun m _ => (hfk m).symm)
end EV
theorem iv4 {x : Int32} (h : iv 4 x = false) : x.toInt < 0 ∨ 3 < x.toInt := by
  have h1 := of_decide_eq_false h
  rw [Int32.le_iff_toInt_le, Int32.lt_iff_toInt_lt, Int32.toInt_zero, nI_toInt (by decide)] at h1
  omega
set_option maxHeartbeats 4000000 in
set_option maxRecDepth 100000 in
theorem c_g_event_ok (l : Launch) (D : va_G) (cI cJ cZ : ClassId) (ad : Nat → Nat) (n ev : Nat) (g : GA) (c s o rd : Nat → Nat) (an ow fk : Nat → Nat → Bool) (hLw : Lw (ev + 1) n c s o an ow) (hC : gC ev g c s an fk) (hR : gR ev g rd) (hfk : ∀ m, fk ev m = fo (an ev) ow c (ev + 1) m) (hrd : rd ev = ro n an fk c s o rd ev) (hrb : rd ev ≤ ev + 1) (hn : n ≤ 8) (hev : ev < 120) (hS1 : okS ev c (c ev) (mI (s ev)) = true) (hO1 : okO ev c (c ev) (mI (o ev)) = true) : WI (S := GA) l D (tys cI cJ cZ) (gL cI cJ ad n ev g) (fun u => gL cI cJ ad n (ev + 1) u) (fun r u => r = nI ev ∧ gC (ev + 1) u c s an fk ∧ gR (ev + 1) u rd) y_g_event b_g_event 5 (some .int) 6 142 [.ref (ad 0), .int (nI (c ev)), .int (mI (s ev)), .int (mI (o ev))] := by
  refine WI.of (by decide) (Nat.le_of_ble_eq_true rfl) ?_
  intro p9 e9 s9 m args below meth c9 ls A S hr hlocks hA hP hK hD hl
  obtain ⟨hx, hb, hml, hown, htc⟩ := id S
  have hS : va_S A s9.heap s9.heap [] := va_S.rf
  have hl : lv_has ls 5 [(0, .ref (ad 0)), (1, .int (nI (c ev))), (2, .int (mI (s ev))), (3, .int (mI (o ev)))] := hl
  have hcn := (hLw ev (by omega)).1
  have hsv := (hLw ev (by omega)).2.1
  have hov := (hLw ev (by omega)).2.2.1
  refine lv_aload_n hx hb d_g_event_0 rfl (lv_at hl 0 rfl) ?_
  refine lv_iload_n hx hb d_g_event_1 rfl (lv_at hl 1 rfl) ?_
  refine PV.callV (rest := []) S (c_g_requireNode_ok l D cI cJ cZ ad n ev g hn (c ev) hcn) k_1_128 k_1_130 k_s_1 k_1_1 k_1_131 h_g_requireNode ⟨Nat.le_of_ble_eq_true rfl, Nat.le_of_ble_eq_true rfl⟩ ⟨Nat.le_of_ble_eq_true rfl, Nat.le_of_ble_eq_true rfl⟩ hP hK 0 0 rfl rfl rfl hl.1 (Nat.le_of_ble_eq_true rfl) rfl d_g_event_2 ?_
  refine lv_aload_n hx hb d_g_event_5 rfl (lv_at hl 0 rfl) ?_
  refine lv_iload_n hx hb d_g_event_6 rfl (lv_at hl 1 rfl) ?_
  refine lv_iload_n hx hb d_g_event_7 rfl (lv_at hl 2 rfl) ?_
  refine PM.callV (rest := []) S (c_g_mayBeSelfParent l D cI cJ cZ ad n ev g c s an fk ev (by omega) hC (fun i hi => by have := (hLw i (by omega)).1; omega) (Nat.le_refl ev) (c ev) (by omega) (mI (s ev))) k_1_133 k_1_135 k_s_2 k_1_1 k_1_136 h_g_mayBeSelfParent ⟨Nat.le_of_ble_eq_true rfl, Nat.le_of_ble_eq_true rfl⟩ ⟨Nat.le_of_ble_eq_true rfl, Nat.le_of_ble_eq_true rfl⟩ hP hK 0 0 rfl rfl rfl hl.1 (Nat.le_of_ble_eq_true rfl) rfl d_g_event_8 ?_
  refine nr_ifne_b (tgt := 24) hx hb d_g_event_11 (by decide) (fun c_11 => ?_) (fun c_11 => ?_)
  · refine lv_aload_n hx hb d_g_event_24 rfl (lv_at hl 0 rfl) ?_
    refine lv_iload_n hx hb d_g_event_25 rfl (lv_at hl 1 rfl) ?_
    refine lv_iload_n hx hb d_g_event_26 rfl (lv_at hl 3 rfl) ?_
    refine PM.callV (rest := []) S (c_g_mayBeOtherParent l D cI cJ cZ ad n ev g c s an fk ev (by omega) hC (fun i hi => by have := (hLw i (by omega)).1; omega) (Nat.le_refl ev) (c ev) (by omega) (mI (o ev))) k_1_142 k_1_144 k_s_4 k_1_1 k_1_145 h_g_mayBeOtherParent ⟨Nat.le_of_ble_eq_true rfl, Nat.le_of_ble_eq_true rfl⟩ ⟨Nat.le_of_ble_eq_true rfl, Nat.le_of_ble_eq_true rfl⟩ hP hK 0 0 rfl rfl rfl hl.1 (Nat.le_of_ble_eq_true rfl) rfl d_g_event_27 ?_
    refine nr_ifne_b (tgt := 43) hx hb d_g_event_30 (by decide) (fun c_30 => ?_) (fun c_30 => ?_)
    · refine lv_aload_n hx hb d_g_event_43 rfl (lv_at hl 0 rfl) ?_
      refine va_get (D := D) (ci := 0) (v := .int (nI ev)) (C := "SightGraph") (T := T_g) (N := 8) hx hb htc in_g hown hK hP 0 rfl rfl 1 (by decide) (htc _ k_1_19) (fun _ h9 => h9) rfl d_g_event_44 ?_
      refine lv_bipush (v := (nI 120)) hx hb d_g_event_47 (by decide) ?_
      refine nr_icmp_lt (tgt := 62) hx hb (by omega) (by omega) d_g_event_49 (by decide) (fun c_49 => ?_) (fun c_49 => ?_)
      · refine lv_aload_n hx hb d_g_event_62 rfl (lv_at hl 0 rfl) ?_
        refine va_get (D := D) (ci := 0) (v := .int (nI ev)) (C := "SightGraph") (T := T_g) (N := 8) hx hb htc in_g hown hK hP 0 rfl rfl 1 (by decide) (htc _ k_1_19) (fun _ h9 => h9) rfl d_g_event_63 ?_
        refine lv_istore (lv' := [(4, .int (nI ev)), (0, .ref (ad 0)), (1, .int (nI (c ev))), (2, .int (mI (s ev))), (3, .int (mI (o ev)))]) hx hb d_g_event_66 hl (by decide) rfl (fun ls hl => ?_)
        refine lv_aload_n hx hb d_g_event_68 rfl (lv_at hl 1 rfl) ?_
        refine va_get (D := D) (ci := 0) (v := .ref (ad 1)) (C := "SightGraph") (T := T_g) (N := 8) hx hb htc in_g hown hK hP 0 rfl rfl 2 (by decide) (htc _ k_1_20) (fun _ h9 => h9) rfl d_g_event_69 ?_
        refine lv_iload hx hb d_g_event_72 (lv_at hl 0 rfl) ?_
        refine lv_iload_n hx hb d_g_event_74 rfl (lv_at hl 2 rfl) ?_
        refine nr_iast hx hb hK hP hD hS 1 0 rfl rfl (by omega) (by decide) d_g_event_75 (fun H locs hP hD hS => ?_)
        have hP : va_P D cls (gL cI cJ ad n ev (upd g.1 ev (nI (c ev)), g.2.1, g.2.2.1, g.2.2.2.1, g.2.2.2.2.1, g.2.2.2.2.2)) H := hP
        have hD : va_D A (gL cI cJ ad n ev (upd g.1 ev (nI (c ev)), g.2.1, g.2.2.1, g.2.2.2.1, g.2.2.2.2.1, g.2.2.2.2.2)) := hD
        refine lv_aload_n hx hb d_g_event_76 rfl (lv_at hl 1 rfl) ?_
        refine va_get (D := D) (ci := 0) (v := .ref (ad 2)) (C := "SightGraph") (T := T_g) (N := 8) hx hb htc in_g hown hK hP 0 rfl rfl 3 (by decide) (htc _ k_1_21) (fun _ h9 => h9) rfl d_g_event_77 ?_
        refine lv_iload hx hb d_g_event_80 (lv_at hl 0 rfl) ?_
        refine lv_iload_n hx hb d_g_event_82 rfl (lv_at hl 3 rfl) ?_
        refine nr_iast hx hb hK hP hD hS 2 0 rfl rfl (by omega) (by decide) d_g_event_83 (fun H locs hP hD hS => ?_)
        have hP : va_P D cls (gL cI cJ ad n ev (upd g.1 ev (nI (c ev)), upd g.2.1 ev (mI (s ev)), g.2.2.1, g.2.2.2.1, g.2.2.2.2.1, g.2.2.2.2.2)) H := hP
        have hD : va_D A (gL cI cJ ad n ev (upd g.1 ev (nI (c ev)), upd g.2.1 ev (mI (s ev)), g.2.2.1, g.2.2.2.1, g.2.2.2.2.1, g.2.2.2.2.2)) := hD
        refine lv_aload_n hx hb d_g_event_84 rfl (lv_at hl 1 rfl) ?_
        refine lv_iload hx hb d_g_event_85 (lv_at hl 0 rfl) ?_
        refine lv_iload_n hx hb d_g_event_87 rfl (lv_at hl 3 rfl) ?_
        refine lv_iload_n hx hb d_g_event_88 rfl (lv_at hl 4 rfl) ?_
        refine WV.callV (wr := []) (rest := []) S (c_g_gatherAncestors l D cI cJ cZ ad n ev (upd g.1 ev (nI (c ev)), upd g.2.1 ev (mI (s ev)), g.2.2.1, g.2.2.2.1, g.2.2.2.2.1, g.2.2.2.2.2) an ev (s ev) (o ev) hev hsv hov (fun j hj => (hC j hj).2.2.2)) k_1_163 k_1_165 k_s_5 k_1_1 k_1_166 h_g_gatherAncestors ⟨Nat.le_of_ble_eq_true rfl, Nat.le_of_ble_eq_true rfl⟩ ⟨Nat.le_of_ble_eq_true rfl, Nat.le_of_ble_eq_true rfl⟩ hP hK hD hS hA [0, 1, 2, 3, 4, 5, 6] [] rfl rfl (by decide) (by decide) (by decide) 0 0 rfl rfl rfl hl.1 (Nat.le_of_ble_eq_true rfl) rfl d_g_event_89 (fun u89 H locs hu89 hP hD hS => ?_)
        have hP : va_P D cls (gL cI cJ ad n ev u89) H := hP
        have hD : va_D A (gL cI cJ ad n ev u89) := hD
        have hu89 : gA ev (g1 g ev (c ev) (s ev)) u89 (fun i => ev == i || (pa an (s ev) i || pa an (o ev) i)) (fun i => ev == 64 + i || (pa an (s ev) (64 + i) || pa an (o ev) (64 + i))) := hu89
        have hlh := ev_lo hLw hu89
        refine lv_aload_n hx hb d_g_event_92 rfl (lv_at hl 1 rfl) ?_
        refine va_get (D := D) (ci := 0) (v := .ref (ad 4)) (C := "SightGraph") (T := T_g) (N := 8) hx hb htc in_g hown hK hP 0 rfl rfl 5 (by decide) (htc _ k_1_23) (fun _ h9 => h9) rfl d_g_event_93 ?_
        refine lv_iload hx hb d_g_event_96 (lv_at hl 0 rfl) ?_
        refine lv_aload_n hx hb d_g_event_98 rfl (lv_at hl 1 rfl) ?_
        refine lv_aload_n hx hb d_g_event_99 rfl (lv_at hl 1 rfl) ?_
        refine va_get (D := D) (ci := 0) (v := .ref (ad 5)) (C := "SightGraph") (T := T_g) (N := 8) hx hb htc in_g hown hK hP 0 rfl rfl 6 (by decide) (htc _ k_1_24) (fun _ h9 => h9) rfl d_g_event_100 ?_
        refine lv_iload hx hb d_g_event_103 (lv_at hl 0 rfl) ?_
        refine nr_lald hx hb hK hP 5 1 rfl rfl (by omega) (by decide) (v := (lN (bs (an ev) 64))) hlh.1 d_g_event_105 ?_
        refine lv_aload_n hx hb d_g_event_106 rfl (lv_at hl 1 rfl) ?_
        refine va_get (D := D) (ci := 0) (v := .ref (ad 6)) (C := "SightGraph") (T := T_g) (N := 8) hx hb htc in_g hown hK hP 0 rfl rfl 7 (by decide) (htc _ k_1_25) (fun _ h9 => h9) rfl d_g_event_107 ?_
        refine lv_iload hx hb d_g_event_110 (lv_at hl 0 rfl) ?_
        refine nr_lald hx hb hK hP 6 1 rfl rfl (by omega) (by decide) (v := (lN (bs (fun i => an ev (64 + i)) 64))) hlh.2 d_g_event_112 ?_
        refine PM.callV (rest := [.int (nI ev), .ref (ad 4)]) S (c_g_forkersWithin l D cI cJ cZ ad n ev u89 c s (ev + 1) (by omega) (ev_1 hC hu89) (fun i hi => (hLw i hi).2.1) (fun i hi => by have := (hLw i hi).1; omega) (bs (an ev) 64) (bs (fun i => an ev (64 + i)) 64) (bs_lt _ 64) (bs_lt _ 64) (fun i h1 h2 => by rw [wt_an (by omega)] at h2; have := hLw.an_le ev (by omega) i h2; omega) hn) k_1_171 k_1_173 k_s_7 k_1_1 k_1_174 h_g_forkersWithin ⟨Nat.le_of_ble_eq_true rfl, Nat.le_of_ble_eq_true rfl⟩ ⟨Nat.le_of_ble_eq_true rfl, Nat.le_of_ble_eq_true rfl⟩ hP hK 0 0 rfl rfl rfl hl.1 (Nat.le_of_ble_eq_true rfl) rfl d_g_event_113 ?_
        refine nr_top (w := .int (nI (bs (fk ev) 8))) (congrArg (fun z => Value.int (nI z)) (ev_f hLw hev hfk)) ?_
        refine nr_iast hx hb hK hP hD hS 4 0 rfl rfl (by omega) (by decide) d_g_event_116 (fun H locs hP hD hS => ?_)
        have hP : va_P D cls (gL cI cJ ad n ev (u89.1, u89.2.1, u89.2.2.1, upd u89.2.2.2.1 ev (nI (bs (fk ev) 8)), u89.2.2.2.2.1, u89.2.2.2.2.2)) H := hP
        have hD : va_D A (gL cI cJ ad n ev (u89.1, u89.2.1, u89.2.2.1, upd u89.2.2.2.1 ev (nI (bs (fk ev) 8)), u89.2.2.2.2.1, u89.2.2.2.2.2)) := hD
        refine lv_aload_n hx hb d_g_event_117 rfl (lv_at hl 1 rfl) ?_
        refine va_get (D := D) (ci := 0) (v := .ref (ad 3)) (C := "SightGraph") (T := T_g) (N := 8) hx hb htc in_g hown hK hP 0 rfl rfl 4 (by decide) (htc _ k_1_22) (fun _ h9 => h9) rfl d_g_event_118 ?_
        refine lv_iload hx hb d_g_event_121 (lv_at hl 0 rfl) ?_
        refine lv_aload_n hx hb d_g_event_123 rfl (lv_at hl 1 rfl) ?_
        refine lv_iload hx hb d_g_event_124 (lv_at hl 0 rfl) ?_
        refine lv_iload_n hx hb d_g_event_126 rfl (lv_at hl 3 rfl) ?_
        refine lv_iload_n hx hb d_g_event_127 rfl (lv_at hl 4 rfl) ?_
        refine PM.callV (rest := [.int (nI ev), .ref (ad 3)]) S (c_g_roundFrom l D cI cJ cZ ad n ev (u89.1, u89.2.1, u89.2.2.1, upd u89.2.2.2.1 ev (nI (bs (fk ev) 8)), u89.2.2.2.2.1, u89.2.2.2.2.2) c s an fk (ev + 1) (by omega) (ev_2 hLw hC hu89 _) o ow hLw hn rd ev (by omega) (ev_3 hR hu89 _) ev (by omega) (by omega)) k_1_182 k_1_184 k_s_9 k_1_1 k_1_185 h_g_roundFrom ⟨Nat.le_of_ble_eq_true rfl, Nat.le_of_ble_eq_true rfl⟩ ⟨Nat.le_of_ble_eq_true rfl, Nat.le_of_ble_eq_true rfl⟩ hP hK 0 0 rfl rfl rfl hl.1 (Nat.le_of_ble_eq_true rfl) rfl d_g_event_128 ?_
        refine nr_top (w := .int (nI (rd ev))) (congrArg (fun z => Value.int (nI z)) hrd.symm) ?_
        refine nr_iast hx hb hK hP hD hS 3 0 rfl rfl (by omega) (by decide) d_g_event_131 (fun H locs hP hD hS => ?_)
        have hP : va_P D cls (gL cI cJ ad n ev (u89.1, u89.2.1, upd u89.2.2.1 ev (nI (rd ev)), upd u89.2.2.2.1 ev (nI (bs (fk ev) 8)), u89.2.2.2.2.1, u89.2.2.2.2.2)) H := hP
        have hD : va_D A (gL cI cJ ad n ev (u89.1, u89.2.1, upd u89.2.2.1 ev (nI (rd ev)), upd u89.2.2.2.1 ev (nI (bs (fk ev) 8)), u89.2.2.2.2.1, u89.2.2.2.2.2)) := hD
        refine lv_aload_n hx hb d_g_event_132 rfl (lv_at hl 1 rfl) ?_
        refine lv_iload hx hb d_g_event_133 (lv_at hl 0 rfl) ?_
        refine lv_iconst (v := (nI 1)) hx hb d_g_event_135 (by decide) ?_
        refine nr_iadd hx hb d_g_event_136 ?_
        refine va_put (D := D) (ci := 0) (v := .int (nI (ev + 1))) (ty := .int) (C := "SightGraph") (T := T_g) (N := 8) hx hb htc in_g t_g ft_g fn_g hown hK hP hD hS 0 rfl rfl 1 (by decide) (htc _ k_1_19) (fun _ h9 => h9) rfl (by decide +kernel) rfl rfl (Nat.le_of_ble_eq_true rfl) d_g_event_137 (fun H locs hP hD hS => ?_)
        have hP : va_P D cls (gL cI cJ ad n (ev + 1) (u89.1, u89.2.1, upd u89.2.2.1 ev (nI (rd ev)), upd u89.2.2.2.1 ev (nI (bs (fk ev) 8)), u89.2.2.2.2.1, u89.2.2.2.2.2)) H := hP
        have hD : va_D A (gL cI cJ ad n (ev + 1) (u89.1, u89.2.1, upd u89.2.2.1 ev (nI (rd ev)), upd u89.2.2.2.1 ev (nI (bs (fk ev) 8)), u89.2.2.2.2.1, u89.2.2.2.2.2)) := hD
        refine lv_iload hx hb d_g_event_140 (lv_at hl 0 rfl) ?_
        exact WI.iret hx hb hr hlocks hK hS d_g_event_142 (u89.1, u89.2.1, upd u89.2.2.1 ev (nI (rd ev)), upd u89.2.2.2.1 ev (nI (bs (fk ev) 8)), u89.2.2.2.2.1, u89.2.2.2.2.2) ⟨rfl, ev_2 hLw hC hu89 _, ev_4 hR hu89 hrb _⟩ hP hD
      · exact absurd c_49 (by omega)
    · exact absurd hO1 (by rw [c_30]; decide)
  · exact absurd hS1 (by rw [c_11]; decide)
set_option maxHeartbeats 4000000 in
set_option maxRecDepth 100000 in
theorem c_g_event_x1 (l : Launch) (D : va_G) (cI cJ cZ : ClassId) (ad : Nat → Nat) (n ev : Nat) (g : GA) (hl0 : l.stackTraces = false) (sa : Nat → Nat) (x a b : Int32) (hx1 : iv n x = false) : XT l D (tys cI cJ cZ) (gL cI cJ ad n ev g) sa y_g_event b_g_event 5 (some .int) 7 103 [.ref (ad 0), .int x, .int a, .int b] "java/lang/IllegalArgumentException" := by
  refine XT.of (by decide) (Nat.le_of_ble_eq_true rfl) ?_
  intro p9 e9 s9 m args below meth c9 ls S hr hlocks ht hP hK hTE hl
  obtain ⟨hx, hb, hml, hown, htc⟩ := id S
  have hl : lv_has ls 5 [(0, .ref (ad 0)), (1, .int x), (2, .int a), (3, .int b)] := hl
  refine lv_aload_n hx hb d_g_event_0 rfl (lv_at hl 0 rfl) ?_
  refine lv_iload_n hx hb d_g_event_1 rfl (lv_at hl 1 rfl) ?_
  exact XT.pass (rest := []) S (c_g_requireNode_x l D cI cJ cZ ad n ev g hl0 sa x hx1) k_1_128 k_1_130 k_s_1 k_1_1 k_1_131 h_g_requireNode ⟨Nat.le_of_ble_eq_true rfl, Nat.le_of_ble_eq_true rfl⟩ ⟨Nat.le_of_ble_eq_true rfl, Nat.le_of_ble_eq_true rfl⟩ hP hK hTE ht hlocks 0 0 rfl rfl rfl hl.1 (Nat.le_of_ble_eq_true rfl) rfl d_g_event_2
set_option maxHeartbeats 4000000 in
set_option maxRecDepth 100000 in
theorem c_g_event_x2 (l : Launch) (D : va_G) (cI cJ cZ : ClassId) (ad : Nat → Nat) (n ev : Nat) (g : GA) (hl0 : l.stackTraces = false) (sa : Nat → Nat) (c s : Nat → Nat) (an fk : Nat → Nat → Bool) (hevb : ev ≤ 120) (hC : gC ev g c s an fk) (hc0 : ∀ i, i < ev → c i < 8) (hn : n ≤ 8) (nd : Nat) (hnd : nd < n) (a b : Int32) (h1 : okS ev c nd a = false) : XT l D (tys cI cJ cZ) (gL cI cJ ad n ev g) sa y_g_event b_g_event 5 (some .int) 7 103 [.ref (ad 0), .int (nI nd), .int a, .int b] "java/lang/IllegalArgumentException" := by
  refine XT.of (by decide) (Nat.le_of_ble_eq_true rfl) ?_
  intro p9 e9 s9 m args below meth c9 ls S hr hlocks ht hP hK hTE hl
  obtain ⟨hx, hb, hml, hown, htc⟩ := id S
  have hl : lv_has ls 5 [(0, .ref (ad 0)), (1, .int (nI nd)), (2, .int a), (3, .int b)] := hl
  refine lv_aload_n hx hb d_g_event_0 rfl (lv_at hl 0 rfl) ?_
  refine lv_iload_n hx hb d_g_event_1 rfl (lv_at hl 1 rfl) ?_
  refine PV.callV (rest := []) S (c_g_requireNode_ok l D cI cJ cZ ad n ev g hn nd hnd) k_1_128 k_1_130 k_s_1 k_1_1 k_1_131 h_g_requireNode ⟨Nat.le_of_ble_eq_true rfl, Nat.le_of_ble_eq_true rfl⟩ ⟨Nat.le_of_ble_eq_true rfl, Nat.le_of_ble_eq_true rfl⟩ hP hK 0 0 rfl rfl rfl hl.1 (Nat.le_of_ble_eq_true rfl) rfl d_g_event_2 ?_
  refine lv_aload_n hx hb d_g_event_5 rfl (lv_at hl 0 rfl) ?_
  refine lv_iload_n hx hb d_g_event_6 rfl (lv_at hl 1 rfl) ?_
  refine lv_iload_n hx hb d_g_event_7 rfl (lv_at hl 2 rfl) ?_
  refine PM.callV (rest := []) S (c_g_mayBeSelfParent l D cI cJ cZ ad n ev g c s an fk ev hevb hC hc0 (Nat.le_refl ev) nd (by omega) a) k_1_133 k_1_135 k_s_2 k_1_1 k_1_136 h_g_mayBeSelfParent ⟨Nat.le_of_ble_eq_true rfl, Nat.le_of_ble_eq_true rfl⟩ ⟨Nat.le_of_ble_eq_true rfl, Nat.le_of_ble_eq_true rfl⟩ hP hK 0 0 rfl rfl rfl hl.1 (Nat.le_of_ble_eq_true rfl) rfl d_g_event_8 ?_
  refine nr_ifne_b (tgt := 24) hx hb d_g_event_11 (by decide) (fun c_11 => ?_) (fun c_11 => ?_)
  · exact absurd c_11 (by rw [h1]; decide)
  · exact XT.thI hl0 S ht hTE hlocks hl.1 2 rfl ⟨Nat.le_of_ble_eq_true rfl, Nat.le_of_ble_eq_true rfl, Nat.le_of_ble_eq_true rfl, Nat.le_of_ble_eq_true rfl⟩ d_g_event_14 d_g_event_17 d_g_event_18 d_g_event_20 d_g_event_23
set_option maxHeartbeats 4000000 in
set_option maxRecDepth 100000 in
theorem c_g_event_x3 (l : Launch) (D : va_G) (cI cJ cZ : ClassId) (ad : Nat → Nat) (n ev : Nat) (g : GA) (hl0 : l.stackTraces = false) (sa : Nat → Nat) (c s : Nat → Nat) (an fk : Nat → Nat → Bool) (hevb : ev ≤ 120) (hC : gC ev g c s an fk) (hc0 : ∀ i, i < ev → c i < 8) (hn : n ≤ 8) (nd : Nat) (hnd : nd < n) (a b : Int32) (h1 : okS ev c nd a = true) (h2 : okO ev c nd b = false) : XT l D (tys cI cJ cZ) (gL cI cJ ad n ev g) sa y_g_event b_g_event 5 (some .int) 7 103 [.ref (ad 0), .int (nI nd), .int a, .int b] "java/lang/IllegalArgumentException" := by
  refine XT.of (by decide) (Nat.le_of_ble_eq_true rfl) ?_
  intro p9 e9 s9 m args below meth c9 ls S hr hlocks ht hP hK hTE hl
  obtain ⟨hx, hb, hml, hown, htc⟩ := id S
  have hl : lv_has ls 5 [(0, .ref (ad 0)), (1, .int (nI nd)), (2, .int a), (3, .int b)] := hl
  refine lv_aload_n hx hb d_g_event_0 rfl (lv_at hl 0 rfl) ?_
  refine lv_iload_n hx hb d_g_event_1 rfl (lv_at hl 1 rfl) ?_
  refine PV.callV (rest := []) S (c_g_requireNode_ok l D cI cJ cZ ad n ev g hn nd hnd) k_1_128 k_1_130 k_s_1 k_1_1 k_1_131 h_g_requireNode ⟨Nat.le_of_ble_eq_true rfl, Nat.le_of_ble_eq_true rfl⟩ ⟨Nat.le_of_ble_eq_true rfl, Nat.le_of_ble_eq_true rfl⟩ hP hK 0 0 rfl rfl rfl hl.1 (Nat.le_of_ble_eq_true rfl) rfl d_g_event_2 ?_
  refine lv_aload_n hx hb d_g_event_5 rfl (lv_at hl 0 rfl) ?_
  refine lv_iload_n hx hb d_g_event_6 rfl (lv_at hl 1 rfl) ?_
  refine lv_iload_n hx hb d_g_event_7 rfl (lv_at hl 2 rfl) ?_
  refine PM.callV (rest := []) S (c_g_mayBeSelfParent l D cI cJ cZ ad n ev g c s an fk ev hevb hC hc0 (Nat.le_refl ev) nd (by omega) a) k_1_133 k_1_135 k_s_2 k_1_1 k_1_136 h_g_mayBeSelfParent ⟨Nat.le_of_ble_eq_true rfl, Nat.le_of_ble_eq_true rfl⟩ ⟨Nat.le_of_ble_eq_true rfl, Nat.le_of_ble_eq_true rfl⟩ hP hK 0 0 rfl rfl rfl hl.1 (Nat.le_of_ble_eq_true rfl) rfl d_g_event_8 ?_
  refine nr_ifne_b (tgt := 24) hx hb d_g_event_11 (by decide) (fun c_11 => ?_) (fun c_11 => ?_)
  · refine lv_aload_n hx hb d_g_event_24 rfl (lv_at hl 0 rfl) ?_
    refine lv_iload_n hx hb d_g_event_25 rfl (lv_at hl 1 rfl) ?_
    refine lv_iload_n hx hb d_g_event_26 rfl (lv_at hl 3 rfl) ?_
    refine PM.callV (rest := []) S (c_g_mayBeOtherParent l D cI cJ cZ ad n ev g c s an fk ev hevb hC hc0 (Nat.le_refl ev) nd (by omega) b) k_1_142 k_1_144 k_s_4 k_1_1 k_1_145 h_g_mayBeOtherParent ⟨Nat.le_of_ble_eq_true rfl, Nat.le_of_ble_eq_true rfl⟩ ⟨Nat.le_of_ble_eq_true rfl, Nat.le_of_ble_eq_true rfl⟩ hP hK 0 0 rfl rfl rfl hl.1 (Nat.le_of_ble_eq_true rfl) rfl d_g_event_27 ?_
    refine nr_ifne_b (tgt := 43) hx hb d_g_event_30 (by decide) (fun c_30 => ?_) (fun c_30 => ?_)
    · exact absurd c_30 (by rw [h2]; decide)
    · exact XT.thI hl0 S ht hTE hlocks hl.1 3 rfl ⟨Nat.le_of_ble_eq_true rfl, Nat.le_of_ble_eq_true rfl, Nat.le_of_ble_eq_true rfl, Nat.le_of_ble_eq_true rfl⟩ d_g_event_33 d_g_event_36 d_g_event_37 d_g_event_39 d_g_event_42
  · exact absurd c_11 (by rw [h1]; decide)
set_option maxHeartbeats 4000000 in
set_option maxRecDepth 100000 in
theorem c_g_event_x4 (l : Launch) (D : va_G) (cI cJ cZ : ClassId) (ad : Nat → Nat) (n ev : Nat) (g : GA) (hl0 : l.stackTraces = false) (sa : Nat → Nat) (c s : Nat → Nat) (an fk : Nat → Nat → Bool) (hevb : ev ≤ 120) (hC : gC ev g c s an fk) (hc0 : ∀ i, i < ev → c i < 8) (hn : n ≤ 8) (nd : Nat) (hnd : nd < n) (a b : Int32) (h1 : okS ev c nd a = true) (h2 : okO ev c nd b = true) (h3 : ev = 120) : XT l D (tys cI cJ cZ) (gL cI cJ ad n ev g) sa y_g_event b_g_event 5 (some .int) 7 103 [.ref (ad 0), .int (nI nd), .int a, .int b] "java/lang/IndexOutOfBoundsException" := by
  refine XT.of (by decide) (Nat.le_of_ble_eq_true rfl) ?_
  intro p9 e9 s9 m args below meth c9 ls S hr hlocks ht hP hK hTE hl
  obtain ⟨hx, hb, hml, hown, htc⟩ := id S
  have hl : lv_has ls 5 [(0, .ref (ad 0)), (1, .int (nI nd)), (2, .int a), (3, .int b)] := hl
  refine lv_aload_n hx hb d_g_event_0 rfl (lv_at hl 0 rfl) ?_
  refine lv_iload_n hx hb d_g_event_1 rfl (lv_at hl 1 rfl) ?_
  refine PV.callV (rest := []) S (c_g_requireNode_ok l D cI cJ cZ ad n ev g hn nd hnd) k_1_128 k_1_130 k_s_1 k_1_1 k_1_131 h_g_requireNode ⟨Nat.le_of_ble_eq_true rfl, Nat.le_of_ble_eq_true rfl⟩ ⟨Nat.le_of_ble_eq_true rfl, Nat.le_of_ble_eq_true rfl⟩ hP hK 0 0 rfl rfl rfl hl.1 (Nat.le_of_ble_eq_true rfl) rfl d_g_event_2 ?_
  refine lv_aload_n hx hb d_g_event_5 rfl (lv_at hl 0 rfl) ?_
  refine lv_iload_n hx hb d_g_event_6 rfl (lv_at hl 1 rfl) ?_
  refine lv_iload_n hx hb d_g_event_7 rfl (lv_at hl 2 rfl) ?_
  refine PM.callV (rest := []) S (c_g_mayBeSelfParent l D cI cJ cZ ad n ev g c s an fk ev hevb hC hc0 (Nat.le_refl ev) nd (by omega) a) k_1_133 k_1_135 k_s_2 k_1_1 k_1_136 h_g_mayBeSelfParent ⟨Nat.le_of_ble_eq_true rfl, Nat.le_of_ble_eq_true rfl⟩ ⟨Nat.le_of_ble_eq_true rfl, Nat.le_of_ble_eq_true rfl⟩ hP hK 0 0 rfl rfl rfl hl.1 (Nat.le_of_ble_eq_true rfl) rfl d_g_event_8 ?_
  refine nr_ifne_b (tgt := 24) hx hb d_g_event_11 (by decide) (fun c_11 => ?_) (fun c_11 => ?_)
  · refine lv_aload_n hx hb d_g_event_24 rfl (lv_at hl 0 rfl) ?_
    refine lv_iload_n hx hb d_g_event_25 rfl (lv_at hl 1 rfl) ?_
    refine lv_iload_n hx hb d_g_event_26 rfl (lv_at hl 3 rfl) ?_
    refine PM.callV (rest := []) S (c_g_mayBeOtherParent l D cI cJ cZ ad n ev g c s an fk ev hevb hC hc0 (Nat.le_refl ev) nd (by omega) b) k_1_142 k_1_144 k_s_4 k_1_1 k_1_145 h_g_mayBeOtherParent ⟨Nat.le_of_ble_eq_true rfl, Nat.le_of_ble_eq_true rfl⟩ ⟨Nat.le_of_ble_eq_true rfl, Nat.le_of_ble_eq_true rfl⟩ hP hK 0 0 rfl rfl rfl hl.1 (Nat.le_of_ble_eq_true rfl) rfl d_g_event_27 ?_
    refine nr_ifne_b (tgt := 43) hx hb d_g_event_30 (by decide) (fun c_30 => ?_) (fun c_30 => ?_)
    · refine lv_aload_n hx hb d_g_event_43 rfl (lv_at hl 0 rfl) ?_
      refine va_get (D := D) (ci := 0) (v := .int (nI ev)) (C := "SightGraph") (T := T_g) (N := 8) hx hb htc in_g hown hK hP 0 rfl rfl 1 (by decide) (htc _ k_1_19) (fun _ h9 => h9) rfl d_g_event_44 ?_
      refine lv_bipush (v := (nI 120)) hx hb d_g_event_47 (by decide) ?_
      refine nr_icmp_lt (tgt := 62) hx hb (by omega) (by omega) d_g_event_49 (by decide) (fun c_49 => ?_) (fun c_49 => ?_)
      · exact absurd c_49 (by omega)
      · exact XT.thB hl0 S ht hTE hlocks hl.1 4 rfl ⟨Nat.le_of_ble_eq_true rfl, Nat.le_of_ble_eq_true rfl, Nat.le_of_ble_eq_true rfl, Nat.le_of_ble_eq_true rfl⟩ d_g_event_52 d_g_event_55 d_g_event_56 d_g_event_58 d_g_event_61
    · exact absurd c_30 (by rw [h2]; decide)
  · exact absurd c_11 (by rw [h1]; decide)
set_option maxHeartbeats 4000000 in
set_option maxRecDepth 100000 in
theorem c_g_count_0 (l : Launch) (D : va_G) (cI cJ cZ : ClassId) (ad : Nat → Nat) (n ev : Nat) (g : GA)  : PM l D (tys cI cJ cZ) (gL cI cJ ad n ev g) y_g_count b_g_count 2 (some .int) 0 0 [.ref (ad 0), .int (nI 0)] (nI ev) := by
  refine PM.of (by decide) (Nat.le_of_ble_eq_true rfl) ?_
  intro p9 e9 s9 m args below meth c9 ls S hr hlocks hP hK hl
  obtain ⟨hx, hb, hml, hown, htc⟩ := id S
  have hl : lv_has ls 2 [(0, .ref (ad 0)), (1, .int (nI 0))] := hl
  refine lv_iload_n hx hb d_g_count_0 rfl (lv_at hl 1 rfl) ?_
  refine lv_tableIn (off := 31) (tgt := 32) hx hb d_g_count_1 (by decide) (by decide) (by decide) (by decide) ?_
  refine lv_aload_n hx hb d_g_count_32 rfl (lv_at hl 0 rfl) ?_
  refine va_get (D := D) (ci := 0) (v := .int (nI ev)) (C := "SightGraph") (T := T_g) (N := 8) hx hb htc in_g hown hK hP 0 rfl rfl 1 (by decide) (htc _ k_1_19) (fun _ h9 => h9) rfl d_g_count_33 ?_
  exact PM.iret hx hb hr hlocks d_g_count_36 rfl
set_option maxHeartbeats 4000000 in
set_option maxRecDepth 100000 in
theorem c_g_count_1 (l : Launch) (D : va_G) (cI cJ cZ : ClassId) (ad : Nat → Nat) (n ev : Nat) (g : GA)  : PM l D (tys cI cJ cZ) (gL cI cJ ad n ev g) y_g_count b_g_count 2 (some .int) 0 0 [.ref (ad 0), .int (nI 1)] (nI n) := by
  refine PM.of (by decide) (Nat.le_of_ble_eq_true rfl) ?_
  intro p9 e9 s9 m args below meth c9 ls S hr hlocks hP hK hl
  obtain ⟨hx, hb, hml, hown, htc⟩ := id S
  have hl : lv_has ls 2 [(0, .ref (ad 0)), (1, .int (nI 1))] := hl
  refine lv_iload_n hx hb d_g_count_0 rfl (lv_at hl 1 rfl) ?_
  refine lv_tableIn (off := 36) (tgt := 37) hx hb d_g_count_1 (by decide) (by decide) (by decide) (by decide) ?_
  refine lv_aload_n hx hb d_g_count_37 rfl (lv_at hl 0 rfl) ?_
  refine va_get (D := D) (ci := 0) (v := .int (nI n)) (C := "SightGraph") (T := T_g) (N := 8) hx hb htc in_g hown hK hP 0 rfl rfl 0 (by decide) (htc _ k_1_18) (fun _ h9 => h9) rfl d_g_count_38 ?_
  exact PM.iret hx hb hr hlocks d_g_count_41 rfl
set_option maxHeartbeats 4000000 in
set_option maxRecDepth 100000 in
theorem c_g_count_2 (l : Launch) (D : va_G) (cI cJ cZ : ClassId) (ad : Nat → Nat) (n ev : Nat) (g : GA) (c s : Nat → Nat) (K : Nat) (hKb : K ≤ 120) (hC : gCs K g c s) (hs0 : ∀ i, i < K → s i ≤ i) (hc0 : ∀ i, i < K → c i < 8) (hn : n ≤ 8) (hev : ev ≤ K) : PM l D (tys cI cJ cZ) (gL cI cJ ad n ev g) y_g_count b_g_count 2 (some .int) 4 100 [.ref (ad 0), .int (nI 2)] (nI (cn 8 (bs (fF (lb ev) (lb (ev - 64)) c s n) 8).testBit)) := by
  refine PM.of (by decide) (Nat.le_of_ble_eq_true rfl) ?_
  intro p9 e9 s9 m args below meth c9 ls S hr hlocks hP hK hl
  obtain ⟨hx, hb, hml, hown, htc⟩ := id S
  have hl : lv_has ls 2 [(0, .ref (ad 0)), (1, .int (nI 2))] := hl
  refine lv_iload_n hx hb d_g_count_0 rfl (lv_at hl 1 rfl) ?_
  refine lv_tableIn (off := 41) (tgt := 42) hx hb d_g_count_1 (by decide) (by decide) (by decide) (by decide) ?_
  refine lv_aload_n hx hb d_g_count_42 rfl (lv_at hl 0 rfl) ?_
  refine PM.callV (rest := []) S (c_g_forkersOfAll l D cI cJ cZ ad n ev g c s K hKb hC hs0 hc0 hn hev) k_2_54 k_2_56 k_s_18 k_1_1 k_2_57 h_g_forkersOfAll ⟨Nat.le_of_ble_eq_true rfl, Nat.le_of_ble_eq_true rfl⟩ ⟨Nat.le_of_ble_eq_true rfl, Nat.le_of_ble_eq_true rfl⟩ hP hK 0 0 rfl rfl rfl hl.1 (Nat.le_of_ble_eq_true rfl) rfl d_g_count_43 ?_
  refine PM.callS (rest := []) S (c_j_bitCount l D cI cJ cZ ad n ev g _ (bs_lt _ 8)) k_1_216 k_1_217 k_1_9 k_1_218 h_j_bitCount ⟨Nat.le_of_ble_eq_true rfl, Nat.le_of_ble_eq_true rfl⟩ ⟨Nat.le_of_ble_eq_true rfl, Nat.le_of_ble_eq_true rfl⟩ hP hK hl.1 (Nat.le_of_ble_eq_true rfl) rfl d_g_count_46 ?_
  exact PM.iret hx hb hr hlocks d_g_count_49 rfl
set_option maxHeartbeats 4000000 in
set_option maxRecDepth 100000 in
theorem c_g_count_3 (l : Launch) (D : va_G) (cI cJ cZ : ClassId) (ad : Nat → Nat) (n ev : Nat) (g : GA) (rd : Nat → Nat) (KR : Nat) (hKR : KR ≤ 120) (hR : gR KR g rd) (hev : ev ≤ KR) : PM l D (tys cI cJ cZ) (gL cI cJ ad n ev g) y_g_count b_g_count 2 (some .int) 2 42 [.ref (ad 0), .int (nI 3)] (nI (gr rd ev)) := by
  refine PM.of (by decide) (Nat.le_of_ble_eq_true rfl) ?_
  intro p9 e9 s9 m args below meth c9 ls S hr hlocks hP hK hl
  obtain ⟨hx, hb, hml, hown, htc⟩ := id S
  have hl : lv_has ls 2 [(0, .ref (ad 0)), (1, .int (nI 3))] := hl
  refine lv_iload_n hx hb d_g_count_0 rfl (lv_at hl 1 rfl) ?_
  refine lv_tableIn (off := 49) (tgt := 50) hx hb d_g_count_1 (by decide) (by decide) (by decide) (by decide) ?_
  refine lv_aload_n hx hb d_g_count_50 rfl (lv_at hl 0 rfl) ?_
  refine PM.callV (rest := []) S (c_g_greatestRound l D cI cJ cZ ad n ev g rd KR hKR hR hev) k_2_62 k_2_64 k_s_19 k_1_1 k_2_65 h_g_greatestRound ⟨Nat.le_of_ble_eq_true rfl, Nat.le_of_ble_eq_true rfl⟩ ⟨Nat.le_of_ble_eq_true rfl, Nat.le_of_ble_eq_true rfl⟩ hP hK 0 0 rfl rfl rfl hl.1 (Nat.le_of_ble_eq_true rfl) rfl d_g_count_51 ?_
  exact PM.iret hx hb hr hlocks d_g_count_54 rfl
set_option maxHeartbeats 4000000 in
set_option maxRecDepth 100000 in
theorem c_g_count_x (l : Launch) (D : va_G) (cI cJ cZ : ClassId) (ad : Nat → Nat) (n ev : Nat) (g : GA) (hl0 : l.stackTraces = false) (sa : Nat → Nat) (x : Int32) (hx1 : iv 4 x = false) : XT l D (tys cI cJ cZ) (gL cI cJ ad n ev g) sa y_g_count b_g_count 2 (some .int) 6 82 [.ref (ad 0), .int x] "java/lang/IllegalArgumentException" := by
  refine XT.of (by decide) (Nat.le_of_ble_eq_true rfl) ?_
  intro p9 e9 s9 m args below meth c9 ls S hr hlocks ht hP hK hTE hl
  obtain ⟨hx, hb, hml, hown, htc⟩ := id S
  have hl : lv_has ls 2 [(0, .ref (ad 0)), (1, .int x)] := hl
  refine lv_iload_n hx hb d_g_count_0 rfl (lv_at hl 1 rfl) ?_
  refine lv_tableOut (tgt := 55) hx hb d_g_count_1 (iv4 hx1) (by decide) ?_
  exact XT.thI hl0 S ht hTE hlocks hl.1 6 rfl ⟨Nat.le_of_ble_eq_true rfl, Nat.le_of_ble_eq_true rfl, Nat.le_of_ble_eq_true rfl, Nat.le_of_ble_eq_true rfl⟩ d_g_count_55 d_g_count_58 d_g_count_59 d_g_count_61 d_g_count_64
