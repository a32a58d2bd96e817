/-! the events, one more -/
theorem up_e {α : Type} {f : Nat → α} {k : Nat} {v : α} : va_up f k v k = v := if_pos rfl
theorem up_n {α : Type} {f : Nat → α} {k j : Nat} {v : α} (h : j ≠ k) : va_up f k v j = f j := if_neg h
theorem pa_up {f : Nat → Nat → Bool} {F : Nat → Bool} {ev t y : Nat} (h : t ≤ ev) : pa (va_up f ev F) t y = pa f t y := by
  unfold pa
  by_cases e : t = 0
  · subst e; rfl
  · rw [up_n (by omega)]
theorem pr_congr {rd rd' : Nat → Nat} {x t : Nat} (h : ∀ j, j < x → rd j = rd' j) (ht : t ≤ x) : pr rd t = pr rd' t := by
  unfold pr
  by_cases e : t = 0
  · rw [if_pos e, if_pos e]
  · rw [if_neg e, if_neg e, h _ (by omega)]
theorem wi_congr {s rd rd' : Nat → Nat} {x w : Nat} (h : ∀ j, j < x → rd j = rd' j) (hw : w < x) (hs : s w ≤ w) : wi s rd w = wi s rd' w := by
  unfold wi
  by_cases e : s w = 0
  · rw [e]; rfl
  · rw [h w hw, h (s w - 1) (by omega)]
theorem wn_congr {n : Nat} {an fk : Nat → Nat → Bool} {c s rd rd' : Nat → Nat} {x r : Nat} (h : ∀ j, j < x → rd j = rd' j) (hs : ∀ j, j ≤ x → s j ≤ j) : wn n an fk c s rd x r = wn n an fk c s rd' x r := by
  unfold wn
  refine cn_congr (fun m _ => ex_congr (fun w hw => ?_))
  rw [h w hw, wi_congr h hw (hs w (by omega))]
theorem ro_congr {n : Nat} {an fk : Nat → Nat → Bool} {c s o rd rd' : Nat → Nat} {x : Nat} (h : ∀ j, j < x → rd j = rd' j) (hs : ∀ j, j ≤ x → s j ≤ j) (ho : o x ≤ x) : ro n an fk c s o rd x = ro n an fk c s o rd' x := by
  unfold ro
  rw [pr_congr h (hs x (Nat.le_refl _)), pr_congr h ho, wn_congr h hs]
theorem prx_le {rd : Nat → Nat} {x t : Nat} (h : ∀ j, j < x → rd j ≤ j + 1) (ht : t ≤ x) : pr rd t ≤ x := by
  unfold pr
  by_cases e : t = 0
  · rw [if_pos e]; omega
  · rw [if_neg e]; have := h (t - 1) (by omega); omega
theorem ro_le {n : Nat} {an fk : Nat → Nat → Bool} {c s o rd : Nat → Nat} {x : Nat} (h : ∀ j, j < x → rd j ≤ j + 1) (hs : s x ≤ x) (ho : o x ≤ x) : ro n an fk c s o rd x ≤ x + 1 := by
  have h1 := prx_le h hs
  have h2 := prx_le h ho
  unfold ro
  split
  · omega
  · split <;> omega
theorem ext {n ev : Nat} {c s o rd : Nat → Nat} {an ow fk : Nat → Nat → Bool} (hLw : Lw ev n c s o an ow) (hrb : ∀ j, j < ev → rd j ≤ j + 1) {nd t u : Nat} (hnd : nd < n) (ht : t ≤ ev) (hu : u ≤ ev) (hct : t ≠ 0 → c (t - 1) = nd) (hcu : u ≠ 0 → c (u - 1) ≠ nd) :
    ∃ (c' s' o' rd' : Nat → Nat) (an' ow' fk' : Nat → Nat → Bool), (∀ j, j < ev → c' j = c j ∧ s' j = s j ∧ o' j = o j ∧ rd' j = rd j ∧ an' j = an j ∧ fk' j = fk j) ∧ c' ev = nd ∧ s' ev = t ∧ o' ev = u ∧ Lw (ev + 1) n c' s' o' an' ow' ∧ (∀ m, fk' ev m = fo (an' ev) ow' c' (ev + 1) m) ∧ rd' ev = ro n an' fk' c' s' o' rd' ev ∧ rd' ev ≤ ev + 1 := by
  obtain ⟨An, hAn⟩ : ∃ An : Nat → Nat → Bool, An = va_up an ev (fun y => ev == y || (pa an t y || pa an u y)) := ⟨_, rfl⟩
  obtain ⟨Ow, hOw⟩ : ∃ Ow : Nat → Nat → Bool, Ow = va_up ow ev (fun y => ev == y || pa ow t y) := ⟨_, rfl⟩
  obtain ⟨C, hC⟩ : ∃ C : Nat → Nat, C = va_up c ev nd := ⟨_, rfl⟩
  obtain ⟨S, hS⟩ : ∃ S : Nat → Nat, S = va_up s ev t := ⟨_, rfl⟩
  obtain ⟨O, hO⟩ : ∃ O : Nat → Nat, O = va_up o ev u := ⟨_, rfl⟩
  obtain ⟨Fk, hFk⟩ : ∃ Fk : Nat → Nat → Bool, Fk = va_up fk ev (fun m => fo (An ev) Ow C (ev + 1) m) := ⟨_, rfl⟩
  obtain ⟨Rd, hRd⟩ : ∃ Rd : Nat → Nat, Rd = va_up rd ev (ro n An Fk C S O rd ev) := ⟨_, rfl⟩
  have hle : ∀ j, j ≤ ev → S j ≤ j := fun j hj => by
    rw [hS]
    by_cases e : j = ev
    · rw [e, up_e]; exact ht
    · rw [up_n e]; exact (hLw j (by omega)).2.1
  have hOe : O ev ≤ ev := by rw [hO, up_e]; exact hu
  have hrr : ∀ j, j < ev → rd j = Rd j := fun j hj => by rw [hRd, up_n (by omega)]
  have hre : Rd ev = ro n An Fk C S O Rd ev := by
    rw [← ro_congr hrr hle hOe, hRd, up_e]
  refine ⟨C, S, O, Rd, An, Ow, Fk, fun j hj => ?_, by rw [hC, up_e], by rw [hS, up_e], by rw [hO, up_e], fun x hx => ?_, fun m => by rw [hFk, up_e], hre, ?_⟩
  · have e : j ≠ ev := by omega
    exact ⟨by rw [hC, up_n e], by rw [hS, up_n e], by rw [hO, up_n e], by rw [hRd, up_n e], by rw [hAn, up_n e], by rw [hFk, up_n e]⟩
  · by_cases e : x = ev
    · subst e
      refine ⟨by rw [hC, up_e]; exact hnd, by rw [hS, up_e]; exact ht, hOe, fun z => ?_, fun z => ?_, fun y => ?_, fun y => ?_⟩
      · rw [hS, up_e] at z ⊢
        rw [hC, up_e, up_n (by omega)]; exact hct z
      · rw [hO, up_e] at z ⊢
        rw [hC, up_e, up_n (by omega)]; exact hcu z
      · rw [hS, hO, up_e, up_e, hAn, up_e, pa_up ht, pa_up hu]
      · rw [hS, up_e, hOw, up_e, pa_up ht]
    · have hx' : x < ev := by omega
      obtain ⟨h1, h2, h3, h4, h5, h6, h7⟩ := hLw x hx'
      have eS : S x = s x := by rw [hS, up_n e]
      have eO : O x = o x := by rw [hO, up_n e]
      have eC : ∀ j, j < ev → C j = c j := fun j hj => by rw [hC, up_n (by omega)]
      rw [eS, eO, eC x hx']
      refine ⟨h1, h2, h3, fun z => by rw [eC _ (by omega)]; exact h4 z, fun z => by rw [eC _ (by omega)]; exact h5 z, fun y => ?_, fun y => ?_⟩
      · rw [hAn, up_n e, pa_up (by omega), pa_up (by omega)]; exact h6 y
      · rw [hOw, up_n e, pa_up (by omega)]; exact h7 y
  · rw [hre, ← ro_congr hrr hle hOe]
    exact ro_le hrb (hle ev (Nat.le_refl _)) hOe
theorem okS_of {ev nd : Nat} {c : Nat → Nat} {x : Int32} (h : okS ev c nd x = true) : ∃ t, t ≤ ev ∧ x = mI t ∧ (t ≠ 0 → c (t - 1) = nd) := by
  unfold okS at h
  rw [Bool.or_eq_true] at h
  rcases h with h | h
  · exact ⟨0, Nat.zero_le _, of_decide_eq_true h, fun z => absurd rfl z⟩
  · obtain ⟨j, hj, h⟩ := ex_t.mp h
    rw [Bool.and_eq_true] at h
    exact ⟨j + 1, by omega, of_decide_eq_true h.1, fun _ => by simpa using h.2⟩
theorem okO_of {ev nd : Nat} {c : Nat → Nat} {x : Int32} (h : okO ev c nd x = true) : ∃ t, t ≤ ev ∧ x = mI t ∧ (t ≠ 0 → c (t - 1) ≠ nd) := by
  unfold okO at h
  rw [Bool.or_eq_true] at h
  rcases h with h | h
  · exact ⟨0, Nat.zero_le _, of_decide_eq_true h, fun z => absurd rfl z⟩
  · obtain ⟨j, hj, h⟩ := ex_t.mp h
    rw [Bool.and_eq_true] at h
    exact ⟨j + 1, by omega, of_decide_eq_true h.1, fun _ => by simpa using h.2⟩
theorem ok_congr {ev nd : Nat} {c c' : Nat → Nat} {x : Int32} (h : ∀ j, j < ev → c' j = c j) : okS ev c' nd x = okS ev c nd x ∧ okO ev c' nd x = okO ev c nd x := by
  unfold okS okO
  refine ⟨?_, ?_⟩
  · congr 1; exact ex_congr (fun j hj => by rw [h j hj])
  · congr 1; exact ex_congr (fun j hj => by rw [h j hj])
/-- what both hold -/
def IV (n ev : Nat) (g : GA) (r : RA) : Prop := ∃ (c s o rd : Nat → Nat) (an ow fk : Nat → Nat → Bool), Lw ev n c s o an ow ∧ gC ev g c s an fk ∧ gR ev g rd ∧ rC ev r c s o an fk rd ∧ n ≤ 8 ∧ ev ≤ 120
theorem IV.zero {n : Nat} {g : GA} {r : RA} (hn : n ≤ 8) : IV n 0 g r := ⟨fun _ => 0, fun _ => 0, fun _ => 0, fun _ => 0, fun _ _ => false, fun _ _ => false, fun _ _ => false, fun _ h => absurd h (Nat.not_lt_zero _), fun _ h => absurd h (Nat.not_lt_zero _), fun _ h => absurd h (Nat.not_lt_zero _), fun _ h => absurd h (Nat.not_lt_zero _), hn, Nat.zero_le _⟩
theorem gC.congr {K : Nat} {g : GA} {c s c' s' : Nat → Nat} {an fk an' fk' : Nat → Nat → Bool} (h : gC K g c s an fk) (e : ∀ j, j < K → c' j = c j ∧ s' j = s j ∧ an' j = an j ∧ fk' j = fk j) : gC K g c' s' an' fk' := fun j hj => by
  obtain ⟨e1, e2, e3, e4⟩ := e j hj
  rw [e1, e2, e3, e4]; exact h j hj
theorem gR.congr {K : Nat} {g : GA} {rd rd' : Nat → Nat} (h : gR K g rd) (e : ∀ j, j < K → rd' j = rd j) : gR K g rd' := fun j hj => by
  rw [e j hj]; exact h j hj
theorem rC.congr {K : Nat} {r : RA} {c s o rd c' s' o' rd' : Nat → Nat} {an fk an' fk' : Nat → Nat → Bool} (h : rC K r c s o an fk rd) (e : ∀ j, j < K → c' j = c j ∧ s' j = s j ∧ o' j = o j ∧ rd' j = rd j ∧ an' j = an j ∧ fk' j = fk j) : rC K r c' s' o' an' fk' rd' := fun j hj => by
  obtain ⟨e1, e2, e3, e4, e5, e6⟩ := e j hj
  rw [e1, e2, e3, e4, e5, e6]; exact h j hj
theorem fo_fm {n ev : Nat} {c s o : Nat → Nat} {an ow : Nat → Nat → Bool} (h : Lw ev n c s o an ow) (m : Nat) : fo (fun i => decide (i < ev)) ow c ev m = fm ow c ev m := by
  unfold fo fm
  refine ex_congr (fun y hy => ex_congr (fun z hz => ?_))
  have hz' : z < ev := by omega
  have e : ow z y = false := by
    cases q : ow z y with
    | false => rfl
    | true => have := h.ow_le z hz' y q; omega
  show (decide (y < ev) && c y == m && (decide (z < ev) && c z == m && !ow y z)) = (c y == m && (c y == c z && (!ow y z && !ow z y)))
  rw [e, decide_eq_true hy, decide_eq_true hz']
  by_cases q : c y = m
  · rw [q]
    by_cases q2 : c z = m
    · rw [q2]; simp
    · rw [beq_eq_false_iff_ne.mpr q2, beq_eq_false_iff_ne.mpr (Ne.symm q2)]; simp
  · rw [beq_eq_false_iff_ne.mpr q]; simp
theorem cnt2 {n ev : Nat} {c s o : Nat → Nat} {an ow : Nat → Nat → Bool} (h : Lw ev n c s o an ow) (hn : n ≤ 8) (hev : ev ≤ 120) : cn 8 (bs (fF (lb ev) (lb (ev - 64)) c s n) 8).testBit = cn n (fm ow c ev) := by
  rw [fF_fo (a := fun i => decide (i < ev)) h hev (fun i hi => wt_lb hi) (fun i hi => of_decide_eq_true hi) (fun i hi _ => decide_eq_true (by have := (h i (of_decide_eq_true hi)).2.1; have := of_decide_eq_true hi; omega)), cn_bs hn (fun m h1 _ => fo_n (fun i hi => (h i hi).1) h1)]
  exact cn_congr (fun m _ => fo_fm h m)
theorem in28v {x : Int32} (h : 2 ≤ x ∧ x ≤ 8) : ∃ v, 2 ≤ v ∧ v ≤ 8 ∧ x = nI v := by
  obtain ⟨h1, h2⟩ := h
  obtain ⟨j, hj, e⟩ := nI_of (x := x) (Int32.not_lt.mpr (Int32.le_trans (by decide) h1))
  subst e
  exact ⟨j, (nI_leI (a := 2) (by omega) hj).mp h1, (nI_leI (b := 8) hj (by omega)).mp h2, rfl⟩
