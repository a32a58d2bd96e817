set_option maxHeartbeats 4000000 in
theorem step_ancestor {p : Program} {l : Launch} {e : Env} {s : State} {m : MethodId} {below : List Frame} {meth : Method} {c : Code} {b L : Nat} {xs : Nat → Int32} {D : va_G} {cI cJ cZ : ClassId} {sa ad bd : Nat → Nat} {oa : Nat} (C0 : LC p l s m c b L xs D cI cJ cZ sa) {H : Heap} {locs : List Loc} {cells slots : Nat} {Q : State → Prop} {ls : Array Slot} {er : Int32} {n ev i : Nat} {g : GA} {r : RA} {w : Nat → Int64} (hi : i + 3 < L) (hf : cells + 1 ≤ room_1.cells ∧ slots + 6 ≤ room_1.slots) (hP : va_P D cls (LW cI cJ cZ ad bd oa er n ev g r w) H) (hD : va_D (nA s) (LW cI cJ cZ ad bd oa er n ev g r w)) (hS : va_S (nA s) s.heap H locs) (hl : lv_has ls 7 (LV b ad bd oa i)) (hI : IV n ev g r) (k : ∀ (er : Int32) (n ev : Nat) (g : GA) (r : RA) (w : Nat → Int64) (H : Heap) (locs : List Loc) (ls : Array Slot), IV n ev g r → va_P D cls (LW cI cJ cZ ad bd oa er n ev g r w) H → va_D (nA s) (LW cI cJ cZ ad bd oa er n ev g r w) → va_S (nA s) s.heap H locs → lv_has ls 7 (LV b ad bd oa i) → W p l e room_1 s m #[Value.ref b] below meth c H locs (cells + 1) (slots + 6) Q (F0 m 830 ls [])) : W p l e room_1 s m #[Value.ref b] below meth c H locs cells slots Q (F0 m 212 ls []) := by
  obtain ⟨c9, s9, o9, rd, an, ow, fk, hLw, hC, hR, hr, hn, hev⟩ := id hI
  have hl0 : l.stackTraces = false := C0.2.2.2.2.2.2.2
  have hc8 : ∀ j, j < ev → c9 j < 8 := fun j hj => Nat.lt_of_lt_of_le (hLw j hj).1 hn
  have hrc : ∀ j, j < ev → r.1 j = nI (c9 j) := fun j hj => (hr j hj).1
  have hrs : ∀ j, j < ev → r.2.1 j = mI (s9 j) := fun j hj => (hr j hj).2.1
  have hrR : ∀ j, j < ev → r.2.2.2.1 j = nI (rd j) ∧ rd j ≤ j + 1 := fun j hj => (hr j hj).2.2.2.1
  have hra : ∀ j, j < ev → ∀ y, y < 120 → r.2.2.2.2.2.1 (120 * j + y) = bI (an j y) := fun j hj => (hr j hj).2.2.2.2.1
  have hrf : ∀ j, j < ev → ∀ m, m < 8 → r.2.2.2.2.2.2 (8 * j + m) = bI (fk j m) := fun j hj => (hr j hj).2.2.2.2.2
  have hLs : ∀ x, x < ev → s9 x ≤ x ∧ ∀ y, ow x y = (x == y || pa ow (s9 x) y) := fun x hx => ⟨(hLw x hx).2.1, (hLw x hx).2.2.2.2.2.2⟩
  have hsx : ∀ x, x < ev → s9 x ≤ x := fun x hx => (hLw x hx).2.1
  by_cases h1 : iv ev (xs (i + 1)) = true
  · by_cases h2 : iv ev (xs (i + 2)) = true
    · obtain ⟨x, hx0, ex⟩ := iv_of h1 hev
      obtain ⟨y, hy0, ey⟩ := iv_of h2 hev
      exact law_ancestor_ok (f1 := 3) (lo1 := 70) (f2 := 2) (lo2 := 50) C0 hi hf hP hD hS hl (an x y) (by exact ⟨Nat.le_of_ble_eq_true rfl, Nat.le_of_ble_eq_true rfl⟩) (c_l_ancestor_ok l D cI cJ cZ ad n ev g oa w _ _ (an x y) (by rw [ex, ey]; exact c_g_ancestor_ok l D cI cJ cZ ad n ev g c9 s9 an fk ev hev hC (Nat.le_refl _) x y hx0 hy0)) (by exact ⟨Nat.le_of_ble_eq_true rfl, Nat.le_of_ble_eq_true rfl⟩) (by rw [ex, ey]; exact c_r_ancestor_ok l D cI cJ cZ bd er n ev r hev ev hev an hra (Nat.le_refl _) x y hx0 hy0) (fun H locs ls hP hD hS hl => k _ _ _ _ _ _ H locs ls hI hP hD hS hl)
    · have h2 : iv ev (xs (i + 2)) = false := by simpa using h2
      exact law_ancestor_x (f1 := 8) (lo1 := 127) (f2 := 2) (lo2 := 50) C0 hi hf hP hD hS hl 1 (by decide) (by exact ⟨Nat.le_of_ble_eq_true rfl, Nat.le_of_ble_eq_true rfl⟩) (c_l_ancestor_x l D cI cJ cZ ad n ev g oa w sa _ _ (c_g_ancestor_x2 l D cI cJ cZ ad n ev g hl0 sa _ _ h1 h2)) (by exact ⟨Nat.le_of_ble_eq_true rfl, Nat.le_of_ble_eq_true rfl⟩) (c_r_ancestor_x l D cI cJ cZ bd er n ev r hev _ _ (fun _ => h2)) (fun H locs ls hP hD hS hl => k _ _ _ _ _ _ H locs ls hI hP hD hS hl)
  · have h1 : iv ev (xs (i + 1)) = false := by simpa using h1
    exact law_ancestor_x (f1 := 8) (lo1 := 127) (f2 := 2) (lo2 := 50) C0 hi hf hP hD hS hl 1 (by decide) (by exact ⟨Nat.le_of_ble_eq_true rfl, Nat.le_of_ble_eq_true rfl⟩) (c_l_ancestor_x l D cI cJ cZ ad n ev g oa w sa _ _ (c_g_ancestor_x1 l D cI cJ cZ ad n ev g hl0 sa _ _ h1)) (by exact ⟨Nat.le_of_ble_eq_true rfl, Nat.le_of_ble_eq_true rfl⟩) (c_r_ancestor_x l D cI cJ cZ bd er n ev r hev _ _ (fun z => by rw [h1] at z; cases z)) (fun H locs ls hP hD hS hl => k _ _ _ _ _ _ H locs ls hI hP hD hS hl)
set_option maxHeartbeats 4000000 in
theorem step_own {p : Program} {l : Launch} {e : Env} {s : State} {m : MethodId} {below : List Frame} {meth : Method} {c : Code} {b L : Nat} {xs : Nat → Int32} {D : va_G} {cI cJ cZ : ClassId} {sa ad bd : Nat → Nat} {oa : Nat} (C0 : LC p l s m c b L xs D cI cJ cZ sa) {H : Heap} {locs : List Loc} {cells slots : Nat} {Q : State → Prop} {ls : Array Slot} {er : Int32} {n ev i : Nat} {g : GA} {r : RA} {w : Nat → Int64} (hi : i + 3 < L) (hf : cells + 1 ≤ room_1.cells ∧ slots + 6 ≤ room_1.slots) (hP : va_P D cls (LW cI cJ cZ ad bd oa er n ev g r w) H) (hD : va_D (nA s) (LW cI cJ cZ ad bd oa er n ev g r w)) (hS : va_S (nA s) s.heap H locs) (hl : lv_has ls 7 (LV b ad bd oa i)) (hI : IV n ev g r) (k : ∀ (er : Int32) (n ev : Nat) (g : GA) (r : RA) (w : Nat → Int64) (H : Heap) (locs : List Loc) (ls : Array Slot), IV n ev g r → va_P D cls (LW cI cJ cZ ad bd oa er n ev g r w) H → va_D (nA s) (LW cI cJ cZ ad bd oa er n ev g r w) → va_S (nA s) s.heap H locs → lv_has ls 7 (LV b ad bd oa i) → W p l e room_1 s m #[Value.ref b] below meth c H locs (cells + 1) (slots + 6) Q (F0 m 830 ls [])) : W p l e room_1 s m #[Value.ref b] below meth c H locs cells slots Q (F0 m 287 ls []) := by
  obtain ⟨c9, s9, o9, rd, an, ow, fk, hLw, hC, hR, hr, hn, hev⟩ := id hI
  have hl0 : l.stackTraces = false := C0.2.2.2.2.2.2.2
  have hc8 : ∀ j, j < ev → c9 j < 8 := fun j hj => Nat.lt_of_lt_of_le (hLw j hj).1 hn
  have hrc : ∀ j, j < ev → r.1 j = nI (c9 j) := fun j hj => (hr j hj).1
  have hrs : ∀ j, j < ev → r.2.1 j = mI (s9 j) := fun j hj => (hr j hj).2.1
  have hrR : ∀ j, j < ev → r.2.2.2.1 j = nI (rd j) ∧ rd j ≤ j + 1 := fun j hj => (hr j hj).2.2.2.1
  have hra : ∀ j, j < ev → ∀ y, y < 120 → r.2.2.2.2.2.1 (120 * j + y) = bI (an j y) := fun j hj => (hr j hj).2.2.2.2.1
  have hrf : ∀ j, j < ev → ∀ m, m < 8 → r.2.2.2.2.2.2 (8 * j + m) = bI (fk j m) := fun j hj => (hr j hj).2.2.2.2.2
  have hLs : ∀ x, x < ev → s9 x ≤ x ∧ ∀ y, ow x y = (x == y || pa ow (s9 x) y) := fun x hx => ⟨(hLw x hx).2.1, (hLw x hx).2.2.2.2.2.2⟩
  have hsx : ∀ x, x < ev → s9 x ≤ x := fun x hx => (hLw x hx).2.1
  by_cases h1 : iv ev (xs (i + 1)) = true
  · by_cases h2 : iv ev (xs (i + 2)) = true
    · obtain ⟨x, hx0, ex⟩ := iv_of h1 hev
      obtain ⟨y, hy0, ey⟩ := iv_of h2 hev
      exact law_own_ok (f1 := 3) (lo1 := 66) (f2 := 2) (lo2 := 50) C0 hi hf hP hD hS hl (ow x y) (by exact ⟨Nat.le_of_ble_eq_true rfl, Nat.le_of_ble_eq_true rfl⟩) (c_l_own_ok l D cI cJ cZ ad n ev g oa w _ _ (ow x y) (by rw [ex, ey]; exact c_g_own_ok l D cI cJ cZ ad n ev g c9 s9 an fk ev hev hC o9 ow hLw hn (Nat.le_refl _) x y hx0 hy0)) (by exact ⟨Nat.le_of_ble_eq_true rfl, Nat.le_of_ble_eq_true rfl⟩) (by rw [ex, ey]; exact c_r_own_ok l D cI cJ cZ bd er n ev r hev ev hev s9 hrs ow hLs (Nat.le_refl _) x y hx0 hy0) (fun H locs ls hP hD hS hl => k _ _ _ _ _ _ H locs ls hI hP hD hS hl)
    · have h2 : iv ev (xs (i + 2)) = false := by simpa using h2
      exact law_own_x (f1 := 8) (lo1 := 127) (f2 := 2) (lo2 := 50) C0 hi hf hP hD hS hl 1 (by decide) (by exact ⟨Nat.le_of_ble_eq_true rfl, Nat.le_of_ble_eq_true rfl⟩) (c_l_own_x l D cI cJ cZ ad n ev g oa w sa _ _ (c_g_own_x2 l D cI cJ cZ ad n ev g hl0 sa _ _ h1 h2)) (by exact ⟨Nat.le_of_ble_eq_true rfl, Nat.le_of_ble_eq_true rfl⟩) (c_r_own_x l D cI cJ cZ bd er n ev r hev _ _ (fun _ => h2)) (fun H locs ls hP hD hS hl => k _ _ _ _ _ _ H locs ls hI hP hD hS hl)
  · have h1 : iv ev (xs (i + 1)) = false := by simpa using h1
    exact law_own_x (f1 := 8) (lo1 := 127) (f2 := 2) (lo2 := 50) C0 hi hf hP hD hS hl 1 (by decide) (by exact ⟨Nat.le_of_ble_eq_true rfl, Nat.le_of_ble_eq_true rfl⟩) (c_l_own_x l D cI cJ cZ ad n ev g oa w sa _ _ (c_g_own_x1 l D cI cJ cZ ad n ev g hl0 sa _ _ h1)) (by exact ⟨Nat.le_of_ble_eq_true rfl, Nat.le_of_ble_eq_true rfl⟩) (c_r_own_x l D cI cJ cZ bd er n ev r hev _ _ (fun z => by rw [h1] at z; cases z)) (fun H locs ls hP hD hS hl => k _ _ _ _ _ _ H locs ls hI hP hD hS hl)
set_option maxHeartbeats 4000000 in
theorem step_sees {p : Program} {l : Launch} {e : Env} {s : State} {m : MethodId} {below : List Frame} {meth : Method} {c : Code} {b L : Nat} {xs : Nat → Int32} {D : va_G} {cI cJ cZ : ClassId} {sa ad bd : Nat → Nat} {oa : Nat} (C0 : LC p l s m c b L xs D cI cJ cZ sa) {H : Heap} {locs : List Loc} {cells slots : Nat} {Q : State → Prop} {ls : Array Slot} {er : Int32} {n ev i : Nat} {g : GA} {r : RA} {w : Nat → Int64} (hi : i + 3 < L) (hf : cells + 1 ≤ room_1.cells ∧ slots + 6 ≤ room_1.slots) (hP : va_P D cls (LW cI cJ cZ ad bd oa er n ev g r w) H) (hD : va_D (nA s) (LW cI cJ cZ ad bd oa er n ev g r w)) (hS : va_S (nA s) s.heap H locs) (hl : lv_has ls 7 (LV b ad bd oa i)) (hI : IV n ev g r) (k : ∀ (er : Int32) (n ev : Nat) (g : GA) (r : RA) (w : Nat → Int64) (H : Heap) (locs : List Loc) (ls : Array Slot), IV n ev g r → va_P D cls (LW cI cJ cZ ad bd oa er n ev g r w) H → va_D (nA s) (LW cI cJ cZ ad bd oa er n ev g r w) → va_S (nA s) s.heap H locs → lv_has ls 7 (LV b ad bd oa i) → W p l e room_1 s m #[Value.ref b] below meth c H locs (cells + 1) (slots + 6) Q (F0 m 830 ls [])) : W p l e room_1 s m #[Value.ref b] below meth c H locs cells slots Q (F0 m 437 ls []) := by
  obtain ⟨c9, s9, o9, rd, an, ow, fk, hLw, hC, hR, hr, hn, hev⟩ := id hI
  have hl0 : l.stackTraces = false := C0.2.2.2.2.2.2.2
  have hc8 : ∀ j, j < ev → c9 j < 8 := fun j hj => Nat.lt_of_lt_of_le (hLw j hj).1 hn
  have hrc : ∀ j, j < ev → r.1 j = nI (c9 j) := fun j hj => (hr j hj).1
  have hrs : ∀ j, j < ev → r.2.1 j = mI (s9 j) := fun j hj => (hr j hj).2.1
  have hrR : ∀ j, j < ev → r.2.2.2.1 j = nI (rd j) ∧ rd j ≤ j + 1 := fun j hj => (hr j hj).2.2.2.1
  have hra : ∀ j, j < ev → ∀ y, y < 120 → r.2.2.2.2.2.1 (120 * j + y) = bI (an j y) := fun j hj => (hr j hj).2.2.2.2.1
  have hrf : ∀ j, j < ev → ∀ m, m < 8 → r.2.2.2.2.2.2 (8 * j + m) = bI (fk j m) := fun j hj => (hr j hj).2.2.2.2.2
  have hLs : ∀ x, x < ev → s9 x ≤ x ∧ ∀ y, ow x y = (x == y || pa ow (s9 x) y) := fun x hx => ⟨(hLw x hx).2.1, (hLw x hx).2.2.2.2.2.2⟩
  have hsx : ∀ x, x < ev → s9 x ≤ x := fun x hx => (hLw x hx).2.1
  by_cases h1 : iv ev (xs (i + 1)) = true
  · by_cases h2 : iv ev (xs (i + 2)) = true
    · obtain ⟨x, hx0, ex⟩ := iv_of h1 hev
      obtain ⟨y, hy0, ey⟩ := iv_of h2 hev
      exact law_sees_ok (f1 := 4) (lo1 := 92) (f2 := 2) (lo2 := 50) C0 hi hf hP hD hS hl (se an fk c9 x y) (by exact ⟨Nat.le_of_ble_eq_true rfl, Nat.le_of_ble_eq_true rfl⟩) (c_l_sees_ok l D cI cJ cZ ad n ev g oa w _ _ (se an fk c9 x y) (by rw [ex, ey]; exact c_g_sees_ok l D cI cJ cZ ad n ev g c9 s9 an fk ev hev hC (Nat.le_refl _) hc8 x y hx0 hy0)) (by exact ⟨Nat.le_of_ble_eq_true rfl, Nat.le_of_ble_eq_true rfl⟩) (by rw [ex, ey]; exact c_r_sees_ok l D cI cJ cZ bd er n ev r hev ev hev c9 hrc an hra fk hrf hc8 (Nat.le_refl _) x y hx0 hy0) (fun H locs ls hP hD hS hl => k _ _ _ _ _ _ H locs ls hI hP hD hS hl)
    · have h2 : iv ev (xs (i + 2)) = false := by simpa using h2
      exact law_sees_x (f1 := 8) (lo1 := 127) (f2 := 2) (lo2 := 50) C0 hi hf hP hD hS hl 1 (by decide) (by exact ⟨Nat.le_of_ble_eq_true rfl, Nat.le_of_ble_eq_true rfl⟩) (c_l_sees_x l D cI cJ cZ ad n ev g oa w sa _ _ (c_g_sees_x2 l D cI cJ cZ ad n ev g hl0 sa _ _ h1 h2)) (by exact ⟨Nat.le_of_ble_eq_true rfl, Nat.le_of_ble_eq_true rfl⟩) (c_r_sees_x l D cI cJ cZ bd er n ev r hev _ _ (fun _ => h2)) (fun H locs ls hP hD hS hl => k _ _ _ _ _ _ H locs ls hI hP hD hS hl)
  · have h1 : iv ev (xs (i + 1)) = false := by simpa using h1
    exact law_sees_x (f1 := 8) (lo1 := 127) (f2 := 2) (lo2 := 50) C0 hi hf hP hD hS hl 1 (by decide) (by exact ⟨Nat.le_of_ble_eq_true rfl, Nat.le_of_ble_eq_true rfl⟩) (c_l_sees_x l D cI cJ cZ ad n ev g oa w sa _ _ (c_g_sees_x1 l D cI cJ cZ ad n ev g hl0 sa _ _ h1)) (by exact ⟨Nat.le_of_ble_eq_true rfl, Nat.le_of_ble_eq_true rfl⟩) (c_r_sees_x l D cI cJ cZ bd er n ev r hev _ _ (fun z => by rw [h1] at z; cases z)) (fun H locs ls hP hD hS hl => k _ _ _ _ _ _ H locs ls hI hP hD hS hl)
set_option maxHeartbeats 4000000 in
theorem step_strength {p : Program} {l : Launch} {e : Env} {s : State} {m : MethodId} {below : List Frame} {meth : Method} {c : Code} {b L : Nat} {xs : Nat → Int32} {D : va_G} {cI cJ cZ : ClassId} {sa ad bd : Nat → Nat} {oa : Nat} (C0 : LC p l s m c b L xs D cI cJ cZ sa) {H : Heap} {locs : List Loc} {cells slots : Nat} {Q : State → Prop} {ls : Array Slot} {er : Int32} {n ev i : Nat} {g : GA} {r : RA} {w : Nat → Int64} (hi : i + 3 < L) (hf : cells + 1 ≤ room_1.cells ∧ slots + 6 ≤ room_1.slots) (hP : va_P D cls (LW cI cJ cZ ad bd oa er n ev g r w) H) (hD : va_D (nA s) (LW cI cJ cZ ad bd oa er n ev g r w)) (hS : va_S (nA s) s.heap H locs) (hl : lv_has ls 7 (LV b ad bd oa i)) (hI : IV n ev g r) (k : ∀ (er : Int32) (n ev : Nat) (g : GA) (r : RA) (w : Nat → Int64) (H : Heap) (locs : List Loc) (ls : Array Slot), IV n ev g r → va_P D cls (LW cI cJ cZ ad bd oa er n ev g r w) H → va_D (nA s) (LW cI cJ cZ ad bd oa er n ev g r w) → va_S (nA s) s.heap H locs → lv_has ls 7 (LV b ad bd oa i) → W p l e room_1 s m #[Value.ref b] below meth c H locs (cells + 1) (slots + 6) Q (F0 m 830 ls [])) : W p l e room_1 s m #[Value.ref b] below meth c H locs cells slots Q (F0 m 512 ls []) := by
  obtain ⟨c9, s9, o9, rd, an, ow, fk, hLw, hC, hR, hr, hn, hev⟩ := id hI
  have hl0 : l.stackTraces = false := C0.2.2.2.2.2.2.2
  have hc8 : ∀ j, j < ev → c9 j < 8 := fun j hj => Nat.lt_of_lt_of_le (hLw j hj).1 hn
  have hrc : ∀ j, j < ev → r.1 j = nI (c9 j) := fun j hj => (hr j hj).1
  have hrs : ∀ j, j < ev → r.2.1 j = mI (s9 j) := fun j hj => (hr j hj).2.1
  have hrR : ∀ j, j < ev → r.2.2.2.1 j = nI (rd j) ∧ rd j ≤ j + 1 := fun j hj => (hr j hj).2.2.2.1
  have hra : ∀ j, j < ev → ∀ y, y < 120 → r.2.2.2.2.2.1 (120 * j + y) = bI (an j y) := fun j hj => (hr j hj).2.2.2.2.1
  have hrf : ∀ j, j < ev → ∀ m, m < 8 → r.2.2.2.2.2.2 (8 * j + m) = bI (fk j m) := fun j hj => (hr j hj).2.2.2.2.2
  have hLs : ∀ x, x < ev → s9 x ≤ x ∧ ∀ y, ow x y = (x == y || pa ow (s9 x) y) := fun x hx => ⟨(hLw x hx).2.1, (hLw x hx).2.2.2.2.2.2⟩
  have hsx : ∀ x, x < ev → s9 x ≤ x := fun x hx => (hLw x hx).2.1
  by_cases h1 : iv ev (xs (i + 1)) = true
  · by_cases h2 : iv ev (xs (i + 2)) = true
    · obtain ⟨x, hx0, ex⟩ := iv_of h1 hev
      obtain ⟨y, hy0, ey⟩ := iv_of h2 hev
      exact law_strength_ok (f1 := 5) (lo1 := 116) (f2 := 3) (lo2 := 70) C0 hi hf hP hD hS hl (nI (sn n an fk c9 x y)) (by exact ⟨Nat.le_of_ble_eq_true rfl, Nat.le_of_ble_eq_true rfl⟩) (c_l_strength_ok l D cI cJ cZ ad n ev g oa w _ _ (nI (sn n an fk c9 x y)) (by rw [ex, ey]; exact c_g_strength_ok l D cI cJ cZ ad n ev g c9 s9 an fk ev hev hC o9 ow hLw hn (Nat.le_refl _) x y hx0 hy0)) (by exact ⟨Nat.le_of_ble_eq_true rfl, Nat.le_of_ble_eq_true rfl⟩) (by rw [ex, ey]; exact c_r_strength_ok l D cI cJ cZ bd er n ev r hev ev hev c9 hrc an hra fk hrf hc8 hn (Nat.le_refl _) x y hx0 hy0) (fun H locs ls hP hD hS hl => k _ _ _ _ _ _ H locs ls hI hP hD hS hl)
    · have h2 : iv ev (xs (i + 2)) = false := by simpa using h2
      exact law_strength_x (f1 := 8) (lo1 := 127) (f2 := 2) (lo2 := 50) C0 hi hf hP hD hS hl 1 (by decide) (by exact ⟨Nat.le_of_ble_eq_true rfl, Nat.le_of_ble_eq_true rfl⟩) (c_l_strength_x l D cI cJ cZ ad n ev g oa w sa _ _ (c_g_strength_x2 l D cI cJ cZ ad n ev g hl0 sa _ _ h1 h2)) (by exact ⟨Nat.le_of_ble_eq_true rfl, Nat.le_of_ble_eq_true rfl⟩) (c_r_strength_x l D cI cJ cZ bd er n ev r hev _ _ (fun _ => h2)) (fun H locs ls hP hD hS hl => k _ _ _ _ _ _ H locs ls hI hP hD hS hl)
  · have h1 : iv ev (xs (i + 1)) = false := by simpa using h1
    exact law_strength_x (f1 := 8) (lo1 := 127) (f2 := 2) (lo2 := 50) C0 hi hf hP hD hS hl 1 (by decide) (by exact ⟨Nat.le_of_ble_eq_true rfl, Nat.le_of_ble_eq_true rfl⟩) (c_l_strength_x l D cI cJ cZ ad n ev g oa w sa _ _ (c_g_strength_x1 l D cI cJ cZ ad n ev g hl0 sa _ _ h1)) (by exact ⟨Nat.le_of_ble_eq_true rfl, Nat.le_of_ble_eq_true rfl⟩) (c_r_strength_x l D cI cJ cZ bd er n ev r hev _ _ (fun z => by rw [h1] at z; cases z)) (fun H locs ls hP hD hS hl => k _ _ _ _ _ _ H locs ls hI hP hD hS hl)
set_option maxHeartbeats 4000000 in
theorem step_strongly {p : Program} {l : Launch} {e : Env} {s : State} {m : MethodId} {below : List Frame} {meth : Method} {c : Code} {b L : Nat} {xs : Nat → Int32} {D : va_G} {cI cJ cZ : ClassId} {sa ad bd : Nat → Nat} {oa : Nat} (C0 : LC p l s m c b L xs D cI cJ cZ sa) {H : Heap} {locs : List Loc} {cells slots : Nat} {Q : State → Prop} {ls : Array Slot} {er : Int32} {n ev i : Nat} {g : GA} {r : RA} {w : Nat → Int64} (hi : i + 3 < L) (hf : cells + 1 ≤ room_1.cells ∧ slots + 6 ≤ room_1.slots) (hP : va_P D cls (LW cI cJ cZ ad bd oa er n ev g r w) H) (hD : va_D (nA s) (LW cI cJ cZ ad bd oa er n ev g r w)) (hS : va_S (nA s) s.heap H locs) (hl : lv_has ls 7 (LV b ad bd oa i)) (hI : IV n ev g r) (k : ∀ (er : Int32) (n ev : Nat) (g : GA) (r : RA) (w : Nat → Int64) (H : Heap) (locs : List Loc) (ls : Array Slot), IV n ev g r → va_P D cls (LW cI cJ cZ ad bd oa er n ev g r w) H → va_D (nA s) (LW cI cJ cZ ad bd oa er n ev g r w) → va_S (nA s) s.heap H locs → lv_has ls 7 (LV b ad bd oa i) → W p l e room_1 s m #[Value.ref b] below meth c H locs (cells + 1) (slots + 6) Q (F0 m 830 ls [])) : W p l e room_1 s m #[Value.ref b] below meth c H locs cells slots Q (F0 m 580 ls []) := by
  obtain ⟨c9, s9, o9, rd, an, ow, fk, hLw, hC, hR, hr, hn, hev⟩ := id hI
  have hl0 : l.stackTraces = false := C0.2.2.2.2.2.2.2
  have hc8 : ∀ j, j < ev → c9 j < 8 := fun j hj => Nat.lt_of_lt_of_le (hLw j hj).1 hn
  have hrc : ∀ j, j < ev → r.1 j = nI (c9 j) := fun j hj => (hr j hj).1
  have hrs : ∀ j, j < ev → r.2.1 j = mI (s9 j) := fun j hj => (hr j hj).2.1
  have hrR : ∀ j, j < ev → r.2.2.2.1 j = nI (rd j) ∧ rd j ≤ j + 1 := fun j hj => (hr j hj).2.2.2.1
  have hra : ∀ j, j < ev → ∀ y, y < 120 → r.2.2.2.2.2.1 (120 * j + y) = bI (an j y) := fun j hj => (hr j hj).2.2.2.2.1
  have hrf : ∀ j, j < ev → ∀ m, m < 8 → r.2.2.2.2.2.2 (8 * j + m) = bI (fk j m) := fun j hj => (hr j hj).2.2.2.2.2
  have hLs : ∀ x, x < ev → s9 x ≤ x ∧ ∀ y, ow x y = (x == y || pa ow (s9 x) y) := fun x hx => ⟨(hLw x hx).2.1, (hLw x hx).2.2.2.2.2.2⟩
  have hsx : ∀ x, x < ev → s9 x ≤ x := fun x hx => (hLw x hx).2.1
  by_cases h1 : iv ev (xs (i + 1)) = true
  · by_cases h2 : iv ev (xs (i + 2)) = true
    · obtain ⟨x, hx0, ex⟩ := iv_of h1 hev
      obtain ⟨y, hy0, ey⟩ := iv_of h2 hev
      exact law_strongly_ok (f1 := 5) (lo1 := 116) (f2 := 4) (lo2 := 92) C0 hi hf hP hD hS hl (mn n (sn n an fk c9 x y)) (by exact ⟨Nat.le_of_ble_eq_true rfl, Nat.le_of_ble_eq_true rfl⟩) (c_l_strongly_ok l D cI cJ cZ ad n ev g oa w _ _ (mn n (sn n an fk c9 x y)) (by rw [ex, ey]; exact c_g_strongly_ok l D cI cJ cZ ad n ev g c9 s9 an fk ev hev hC o9 ow hLw hn (Nat.le_refl _) x y hx0 hy0)) (by exact ⟨Nat.le_of_ble_eq_true rfl, Nat.le_of_ble_eq_true rfl⟩) (by rw [ex, ey]; exact c_r_strongly_ok l D cI cJ cZ bd er n ev r hev ev hev c9 hrc an hra fk hrf hc8 hn (Nat.le_refl _) x y hx0 hy0) (fun H locs ls hP hD hS hl => k _ _ _ _ _ _ H locs ls hI hP hD hS hl)
    · have h2 : iv ev (xs (i + 2)) = false := by simpa using h2
      exact law_strongly_x (f1 := 8) (lo1 := 127) (f2 := 2) (lo2 := 50) C0 hi hf hP hD hS hl 1 (by decide) (by exact ⟨Nat.le_of_ble_eq_true rfl, Nat.le_of_ble_eq_true rfl⟩) (c_l_strongly_x l D cI cJ cZ ad n ev g oa w sa _ _ (c_g_strongly_x2 l D cI cJ cZ ad n ev g hl0 sa _ _ h1 h2)) (by exact ⟨Nat.le_of_ble_eq_true rfl, Nat.le_of_ble_eq_true rfl⟩) (c_r_strongly_x l D cI cJ cZ bd er n ev r hev _ _ (fun _ => h2)) (fun H locs ls hP hD hS hl => k _ _ _ _ _ _ H locs ls hI hP hD hS hl)
  · have h1 : iv ev (xs (i + 1)) = false := by simpa using h1
    exact law_strongly_x (f1 := 8) (lo1 := 127) (f2 := 2) (lo2 := 50) C0 hi hf hP hD hS hl 1 (by decide) (by exact ⟨Nat.le_of_ble_eq_true rfl, Nat.le_of_ble_eq_true rfl⟩) (c_l_strongly_x l D cI cJ cZ ad n ev g oa w sa _ _ (c_g_strongly_x1 l D cI cJ cZ ad n ev g hl0 sa _ _ h1)) (by exact ⟨Nat.le_of_ble_eq_true rfl, Nat.le_of_ble_eq_true rfl⟩) (c_r_strongly_x l D cI cJ cZ bd er n ev r hev _ _ (fun z => by rw [h1] at z; cases z)) (fun H locs ls hP hD hS hl => k _ _ _ _ _ _ H locs ls hI hP hD hS hl)
set_option maxHeartbeats 4000000 in
theorem step_forked {p : Program} {l : Launch} {e : Env} {s : State} {m : MethodId} {below : List Frame} {meth : Method} {c : Code} {b L : Nat} {xs : Nat → Int32} {D : va_G} {cI cJ cZ : ClassId} {sa ad bd : Nat → Nat} {oa : Nat} (C0 : LC p l s m c b L xs D cI cJ cZ sa) {H : Heap} {locs : List Loc} {cells slots : Nat} {Q : State → Prop} {ls : Array Slot} {er : Int32} {n ev i : Nat} {g : GA} {r : RA} {w : Nat → Int64} (hi : i + 3 < L) (hf : cells + 1 ≤ room_1.cells ∧ slots + 6 ≤ room_1.slots) (hP : va_P D cls (LW cI cJ cZ ad bd oa er n ev g r w) H) (hD : va_D (nA s) (LW cI cJ cZ ad bd oa er n ev g r w)) (hS : va_S (nA s) s.heap H locs) (hl : lv_has ls 7 (LV b ad bd oa i)) (hI : IV n ev g r) (k : ∀ (er : Int32) (n ev : Nat) (g : GA) (r : RA) (w : Nat → Int64) (H : Heap) (locs : List Loc) (ls : Array Slot), IV n ev g r → va_P D cls (LW cI cJ cZ ad bd oa er n ev g r w) H → va_D (nA s) (LW cI cJ cZ ad bd oa er n ev g r w) → va_S (nA s) s.heap H locs → lv_has ls 7 (LV b ad bd oa i) → W p l e room_1 s m #[Value.ref b] below meth c H locs (cells + 1) (slots + 6) Q (F0 m 830 ls [])) : W p l e room_1 s m #[Value.ref b] below meth c H locs cells slots Q (F0 m 362 ls []) := by
  obtain ⟨c9, s9, o9, rd, an, ow, fk, hLw, hC, hR, hr, hn, hev⟩ := id hI
  have hl0 : l.stackTraces = false := C0.2.2.2.2.2.2.2
  have hc8 : ∀ j, j < ev → c9 j < 8 := fun j hj => Nat.lt_of_lt_of_le (hLw j hj).1 hn
  have hrc : ∀ j, j < ev → r.1 j = nI (c9 j) := fun j hj => (hr j hj).1
  have hrs : ∀ j, j < ev → r.2.1 j = mI (s9 j) := fun j hj => (hr j hj).2.1
  have hrR : ∀ j, j < ev → r.2.2.2.1 j = nI (rd j) ∧ rd j ≤ j + 1 := fun j hj => (hr j hj).2.2.2.1
  have hra : ∀ j, j < ev → ∀ y, y < 120 → r.2.2.2.2.2.1 (120 * j + y) = bI (an j y) := fun j hj => (hr j hj).2.2.2.2.1
  have hrf : ∀ j, j < ev → ∀ m, m < 8 → r.2.2.2.2.2.2 (8 * j + m) = bI (fk j m) := fun j hj => (hr j hj).2.2.2.2.2
  have hLs : ∀ x, x < ev → s9 x ≤ x ∧ ∀ y, ow x y = (x == y || pa ow (s9 x) y) := fun x hx => ⟨(hLw x hx).2.1, (hLw x hx).2.2.2.2.2.2⟩
  have hsx : ∀ x, x < ev → s9 x ≤ x := fun x hx => (hLw x hx).2.1
  by_cases h2 : iv n (xs (i + 2)) = true
  · obtain ⟨v, hv, ey⟩ := iv_of h2 (by omega)
    by_cases h1 : iv ev (xs (i + 1)) = true
    · obtain ⟨x, hx0, ex⟩ := iv_of h1 hev
      exact law_forked_ok (f1 := 3) (lo1 := 64) (f2 := 2) (lo2 := 50) C0 hi hf hP hD hS hl (fk x v) (by exact ⟨Nat.le_of_ble_eq_true rfl, Nat.le_of_ble_eq_true rfl⟩) (c_l_forked_ok l D cI cJ cZ ad n ev g oa w _ _ (fk x v) (by rw [ex, ey]; exact c_g_forked_ok l D cI cJ cZ ad n ev g c9 s9 an fk ev hev hC (Nat.le_refl _) hn x v hx0 hv)) (by exact ⟨Nat.le_of_ble_eq_true rfl, Nat.le_of_ble_eq_true rfl⟩) (by rw [ex, ey]; exact c_r_forked_ok l D cI cJ cZ bd er n ev r hev ev hev fk hrf (Nat.le_refl _) hn x v hx0 hv) (fun H locs ls hP hD hS hl => k _ _ _ _ _ _ H locs ls hI hP hD hS hl)
    · have h1 : iv ev (xs (i + 1)) = false := by simpa using h1
      exact law_forked_x (f1 := 8) (lo1 := 127) (f2 := 2) (lo2 := 50) C0 hi hf hP hD hS hl 2 (by decide) (by exact ⟨Nat.le_of_ble_eq_true rfl, Nat.le_of_ble_eq_true rfl⟩) (c_l_forked_x2 l D cI cJ cZ ad n ev g oa w sa _ _ (by rw [ey]; exact c_g_forked_x2 l D cI cJ cZ ad n ev g hl0 sa hn _ v hv h1)) (by exact ⟨Nat.le_of_ble_eq_true rfl, Nat.le_of_ble_eq_true rfl⟩) (by rw [ey]; exact c_r_forked_x2 l D cI cJ cZ bd er n ev r hev hn _ v hv h1) (fun H locs ls hP hD hS hl => k _ _ _ _ _ _ H locs ls hI hP hD hS hl)
  · have h2 : iv n (xs (i + 2)) = false := by simpa using h2
    exact law_forked_x (f1 := 8) (lo1 := 127) (f2 := 2) (lo2 := 50) C0 hi hf hP hD hS hl 1 (by decide) (by exact ⟨Nat.le_of_ble_eq_true rfl, Nat.le_of_ble_eq_true rfl⟩) (c_l_forked_x1 l D cI cJ cZ ad n ev g oa w sa _ _ (c_g_forked_x1 l D cI cJ cZ ad n ev g hl0 sa _ _ h2)) (by exact ⟨Nat.le_of_ble_eq_true rfl, Nat.le_of_ble_eq_true rfl⟩) (c_r_forked_x1 l D cI cJ cZ bd er n ev r hev hn _ _ h2) (fun H locs ls hP hD hS hl => k _ _ _ _ _ _ H locs ls hI hP hD hS hl)
set_option maxHeartbeats 4000000 in
theorem step_round {p : Program} {l : Launch} {e : Env} {s : State} {m : MethodId} {below : List Frame} {meth : Method} {c : Code} {b L : Nat} {xs : Nat → Int32} {D : va_G} {cI cJ cZ : ClassId} {sa ad bd : Nat → Nat} {oa : Nat} (C0 : LC p l s m c b L xs D cI cJ cZ sa) {H : Heap} {locs : List Loc} {cells slots : Nat} {Q : State → Prop} {ls : Array Slot} {er : Int32} {n ev i : Nat} {g : GA} {r : RA} {w : Nat → Int64} (hi : i + 3 < L) (hf : cells + 1 ≤ room_1.cells ∧ slots + 6 ≤ room_1.slots) (hP : va_P D cls (LW cI cJ cZ ad bd oa er n ev g r w) H) (hD : va_D (nA s) (LW cI cJ cZ ad bd oa er n ev g r w)) (hS : va_S (nA s) s.heap H locs) (hl : lv_has ls 7 (LV b ad bd oa i)) (hI : IV n ev g r) (k : ∀ (er : Int32) (n ev : Nat) (g : GA) (r : RA) (w : Nat → Int64) (H : Heap) (locs : List Loc) (ls : Array Slot), IV n ev g r → va_P D cls (LW cI cJ cZ ad bd oa er n ev g r w) H → va_D (nA s) (LW cI cJ cZ ad bd oa er n ev g r w) → va_S (nA s) s.heap H locs → lv_has ls 7 (LV b ad bd oa i) → W p l e room_1 s m #[Value.ref b] below meth c H locs (cells + 1) (slots + 6) Q (F0 m 830 ls [])) : W p l e room_1 s m #[Value.ref b] below meth c H locs cells slots Q (F0 m 655 ls []) := by
  obtain ⟨c9, s9, o9, rd, an, ow, fk, hLw, hC, hR, hr, hn, hev⟩ := id hI
  have hl0 : l.stackTraces = false := C0.2.2.2.2.2.2.2
  have hc8 : ∀ j, j < ev → c9 j < 8 := fun j hj => Nat.lt_of_lt_of_le (hLw j hj).1 hn
  have hrc : ∀ j, j < ev → r.1 j = nI (c9 j) := fun j hj => (hr j hj).1
  have hrs : ∀ j, j < ev → r.2.1 j = mI (s9 j) := fun j hj => (hr j hj).2.1
  have hrR : ∀ j, j < ev → r.2.2.2.1 j = nI (rd j) ∧ rd j ≤ j + 1 := fun j hj => (hr j hj).2.2.2.1
  have hra : ∀ j, j < ev → ∀ y, y < 120 → r.2.2.2.2.2.1 (120 * j + y) = bI (an j y) := fun j hj => (hr j hj).2.2.2.2.1
  have hrf : ∀ j, j < ev → ∀ m, m < 8 → r.2.2.2.2.2.2 (8 * j + m) = bI (fk j m) := fun j hj => (hr j hj).2.2.2.2.2
  have hLs : ∀ x, x < ev → s9 x ≤ x ∧ ∀ y, ow x y = (x == y || pa ow (s9 x) y) := fun x hx => ⟨(hLw x hx).2.1, (hLw x hx).2.2.2.2.2.2⟩
  have hsx : ∀ x, x < ev → s9 x ≤ x := fun x hx => (hLw x hx).2.1
  by_cases h1 : iv ev (xs (i + 1)) = true
  · obtain ⟨x, hx0, ex⟩ := iv_of h1 hev
    exact law_round_ok (f1 := 3) (lo1 := 63) (f2 := 2) (lo2 := 50) C0 hi hf hP hD hS hl (nI (rd x)) (by exact ⟨Nat.le_of_ble_eq_true rfl, Nat.le_of_ble_eq_true rfl⟩) (c_l_round_ok l D cI cJ cZ ad n ev g oa w _ (nI (rd x)) (by rw [ex]; exact c_g_round_ok l D cI cJ cZ ad n ev g rd ev hev hR (Nat.le_refl _) x hx0)) (by exact ⟨Nat.le_of_ble_eq_true rfl, Nat.le_of_ble_eq_true rfl⟩) (by rw [ex]; exact c_r_round_ok l D cI cJ cZ bd er n ev r hev rd ev hev hrR (Nat.le_refl _) x hx0) (fun H locs ls hP hD hS hl => k _ _ _ _ _ _ H locs ls hI hP hD hS hl)
  · have h1 : iv ev (xs (i + 1)) = false := by simpa using h1
    exact law_round_x (f1 := 8) (lo1 := 127) (f2 := 2) (lo2 := 50) C0 hi hf hP hD hS hl 1 (by decide) (by exact ⟨Nat.le_of_ble_eq_true rfl, Nat.le_of_ble_eq_true rfl⟩) (c_l_round_x l D cI cJ cZ ad n ev g oa w sa _ (c_g_round_x l D cI cJ cZ ad n ev g hl0 sa _ h1)) (by exact ⟨Nat.le_of_ble_eq_true rfl, Nat.le_of_ble_eq_true rfl⟩) (c_r_round_x l D cI cJ cZ bd er n ev r hev _ h1) (fun H locs ls hP hD hS hl => k _ _ _ _ _ _ H locs ls hI hP hD hS hl)
set_option maxHeartbeats 4000000 in
theorem step_witness {p : Program} {l : Launch} {e : Env} {s : State} {m : MethodId} {below : List Frame} {meth : Method} {c : Code} {b L : Nat} {xs : Nat → Int32} {D : va_G} {cI cJ cZ : ClassId} {sa ad bd : Nat → Nat} {oa : Nat} (C0 : LC p l s m c b L xs D cI cJ cZ sa) {H : Heap} {locs : List Loc} {cells slots : Nat} {Q : State → Prop} {ls : Array Slot} {er : Int32} {n ev i : Nat} {g : GA} {r : RA} {w : Nat → Int64} (hi : i + 3 < L) (hf : cells + 1 ≤ room_1.cells ∧ slots + 6 ≤ room_1.slots) (hP : va_P D cls (LW cI cJ cZ ad bd oa er n ev g r w) H) (hD : va_D (nA s) (LW cI cJ cZ ad bd oa er n ev g r w)) (hS : va_S (nA s) s.heap H locs) (hl : lv_has ls 7 (LV b ad bd oa i)) (hI : IV n ev g r) (k : ∀ (er : Int32) (n ev : Nat) (g : GA) (r : RA) (w : Nat → Int64) (H : Heap) (locs : List Loc) (ls : Array Slot), IV n ev g r → va_P D cls (LW cI cJ cZ ad bd oa er n ev g r w) H → va_D (nA s) (LW cI cJ cZ ad bd oa er n ev g r w) → va_S (nA s) s.heap H locs → lv_has ls 7 (LV b ad bd oa i) → W p l e room_1 s m #[Value.ref b] below meth c H locs (cells + 1) (slots + 6) Q (F0 m 830 ls [])) : W p l e room_1 s m #[Value.ref b] below meth c H locs cells slots Q (F0 m 711 ls []) := by
  obtain ⟨c9, s9, o9, rd, an, ow, fk, hLw, hC, hR, hr, hn, hev⟩ := id hI
  have hl0 : l.stackTraces = false := C0.2.2.2.2.2.2.2
  have hc8 : ∀ j, j < ev → c9 j < 8 := fun j hj => Nat.lt_of_lt_of_le (hLw j hj).1 hn
  have hrc : ∀ j, j < ev → r.1 j = nI (c9 j) := fun j hj => (hr j hj).1
  have hrs : ∀ j, j < ev → r.2.1 j = mI (s9 j) := fun j hj => (hr j hj).2.1
  have hrR : ∀ j, j < ev → r.2.2.2.1 j = nI (rd j) ∧ rd j ≤ j + 1 := fun j hj => (hr j hj).2.2.2.1
  have hra : ∀ j, j < ev → ∀ y, y < 120 → r.2.2.2.2.2.1 (120 * j + y) = bI (an j y) := fun j hj => (hr j hj).2.2.2.2.1
  have hrf : ∀ j, j < ev → ∀ m, m < 8 → r.2.2.2.2.2.2 (8 * j + m) = bI (fk j m) := fun j hj => (hr j hj).2.2.2.2.2
  have hLs : ∀ x, x < ev → s9 x ≤ x ∧ ∀ y, ow x y = (x == y || pa ow (s9 x) y) := fun x hx => ⟨(hLw x hx).2.1, (hLw x hx).2.2.2.2.2.2⟩
  have hsx : ∀ x, x < ev → s9 x ≤ x := fun x hx => (hLw x hx).2.1
  by_cases h1 : iv ev (xs (i + 1)) = true
  · obtain ⟨x, hx0, ex⟩ := iv_of h1 hev
    exact law_witness_ok (f1 := 3) (lo1 := 63) (f2 := 2) (lo2 := 50) C0 hi hf hP hD hS hl (wi s9 rd x) (by exact ⟨Nat.le_of_ble_eq_true rfl, Nat.le_of_ble_eq_true rfl⟩) (c_l_witness_ok l D cI cJ cZ ad n ev g oa w _ (wi s9 rd x) (by rw [ex]; exact c_g_witness_ok l D cI cJ cZ ad n ev g c9 s9 an fk ev hev hC rd ev hev hR (Nat.le_refl _) (Nat.le_refl _) x hx0 (hsx x hx0))) (by exact ⟨Nat.le_of_ble_eq_true rfl, Nat.le_of_ble_eq_true rfl⟩) (by rw [ex]; exact c_r_witness_ok l D cI cJ cZ bd er n ev r hev ev hev s9 hrs rd ev hev hrR (Nat.le_refl _) (Nat.le_refl _) hsx x hx0) (fun H locs ls hP hD hS hl => k _ _ _ _ _ _ H locs ls hI hP hD hS hl)
  · have h1 : iv ev (xs (i + 1)) = false := by simpa using h1
    exact law_witness_x (f1 := 8) (lo1 := 127) (f2 := 2) (lo2 := 50) C0 hi hf hP hD hS hl 1 (by decide) (by exact ⟨Nat.le_of_ble_eq_true rfl, Nat.le_of_ble_eq_true rfl⟩) (c_l_witness_x l D cI cJ cZ ad n ev g oa w sa _ (c_g_witness_x l D cI cJ cZ ad n ev g hl0 sa _ h1)) (by exact ⟨Nat.le_of_ble_eq_true rfl, Nat.le_of_ble_eq_true rfl⟩) (c_r_witness_x l D cI cJ cZ bd er n ev r hev _ h1) (fun H locs ls hP hD hS hl => k _ _ _ _ _ _ H locs ls hI hP hD hS hl)
set_option maxHeartbeats 4000000 in
theorem step_count {p : Program} {l : Launch} {e : Env} {s : State} {m : MethodId} {below : List Frame} {meth : Method} {c : Code} {b L : Nat} {xs : Nat → Int32} {D : va_G} {cI cJ cZ : ClassId} {sa ad bd : Nat → Nat} {oa : Nat} (C0 : LC p l s m c b L xs D cI cJ cZ sa) {H : Heap} {locs : List Loc} {cells slots : Nat} {Q : State → Prop} {ls : Array Slot} {er : Int32} {n ev i : Nat} {g : GA} {r : RA} {w : Nat → Int64} (hi : i + 3 < L) (hf : cells + 1 ≤ room_1.cells ∧ slots + 6 ≤ room_1.slots) (hP : va_P D cls (LW cI cJ cZ ad bd oa er n ev g r w) H) (hD : va_D (nA s) (LW cI cJ cZ ad bd oa er n ev g r w)) (hS : va_S (nA s) s.heap H locs) (hl : lv_has ls 7 (LV b ad bd oa i)) (hI : IV n ev g r) (k : ∀ (er : Int32) (n ev : Nat) (g : GA) (r : RA) (w : Nat → Int64) (H : Heap) (locs : List Loc) (ls : Array Slot), IV n ev g r → va_P D cls (LW cI cJ cZ ad bd oa er n ev g r w) H → va_D (nA s) (LW cI cJ cZ ad bd oa er n ev g r w) → va_S (nA s) s.heap H locs → lv_has ls 7 (LV b ad bd oa i) → W p l e room_1 s m #[Value.ref b] below meth c H locs (cells + 1) (slots + 6) Q (F0 m 830 ls [])) : W p l e room_1 s m #[Value.ref b] below meth c H locs cells slots Q (F0 m 774 ls []) := by
  obtain ⟨c9, s9, o9, rd, an, ow, fk, hLw, hC, hR, hr, hn, hev⟩ := id hI
  have hl0 : l.stackTraces = false := C0.2.2.2.2.2.2.2
  have hc8 : ∀ j, j < ev → c9 j < 8 := fun j hj => Nat.lt_of_lt_of_le (hLw j hj).1 hn
  have hrc : ∀ j, j < ev → r.1 j = nI (c9 j) := fun j hj => (hr j hj).1
  have hrs : ∀ j, j < ev → r.2.1 j = mI (s9 j) := fun j hj => (hr j hj).2.1
  have hrR : ∀ j, j < ev → r.2.2.2.1 j = nI (rd j) ∧ rd j ≤ j + 1 := fun j hj => (hr j hj).2.2.2.1
  have hra : ∀ j, j < ev → ∀ y, y < 120 → r.2.2.2.2.2.1 (120 * j + y) = bI (an j y) := fun j hj => (hr j hj).2.2.2.2.1
  have hrf : ∀ j, j < ev → ∀ m, m < 8 → r.2.2.2.2.2.2 (8 * j + m) = bI (fk j m) := fun j hj => (hr j hj).2.2.2.2.2
  have hLs : ∀ x, x < ev → s9 x ≤ x ∧ ∀ y, ow x y = (x == y || pa ow (s9 x) y) := fun x hx => ⟨(hLw x hx).2.1, (hLw x hx).2.2.2.2.2.2⟩
  have hsx : ∀ x, x < ev → s9 x ≤ x := fun x hx => (hLw x hx).2.1
  by_cases h1 : iv 4 (xs (i + 1)) = true
  · obtain ⟨x, hx0, ex⟩ := iv_of h1 (by decide)
    have hx4 : x = 0 ∨ x = 1 ∨ x = 2 ∨ x = 3 := by omega
    rcases hx4 with rfl | rfl | rfl | rfl
    · exact law_count_ok (f1 := 5) (lo1 := 121) (f2 := 1) (lo2 := 25) C0 hi hf hP hD hS hl (nI ev) (by exact ⟨Nat.le_of_ble_eq_true rfl, Nat.le_of_ble_eq_true rfl⟩) (c_l_count_0 l D cI cJ cZ ad n ev g oa w _ (nI ev) (by rw [ex]; exact c_g_count_0 l D cI cJ cZ ad n ev g )) (by exact ⟨Nat.le_of_ble_eq_true rfl, Nat.le_of_ble_eq_true rfl⟩) (by rw [ex]; exact c_r_count_0 l D cI cJ cZ bd er n ev r ) (fun H locs ls hP hD hS hl => k _ _ _ _ _ _ H locs ls hI hP hD hS hl)
    · exact law_count_ok (f1 := 5) (lo1 := 121) (f2 := 1) (lo2 := 25) C0 hi hf hP hD hS hl (nI n) (by exact ⟨Nat.le_of_ble_eq_true rfl, Nat.le_of_ble_eq_true rfl⟩) (c_l_count_1 l D cI cJ cZ ad n ev g oa w _ (nI n) (by rw [ex]; exact c_g_count_1 l D cI cJ cZ ad n ev g )) (by exact ⟨Nat.le_of_ble_eq_true rfl, Nat.le_of_ble_eq_true rfl⟩) (by rw [ex]; exact c_r_count_1 l D cI cJ cZ bd er n ev r ) (fun H locs ls hP hD hS hl => k _ _ _ _ _ _ H locs ls hI hP hD hS hl)
    · exact law_count_ok (f1 := 5) (lo1 := 121) (f2 := 2) (lo2 := 50) C0 hi hf hP hD hS hl (nI (cn n (fm ow c9 ev))) (by exact ⟨Nat.le_of_ble_eq_true rfl, Nat.le_of_ble_eq_true rfl⟩) (c_l_count_2 l D cI cJ cZ ad n ev g oa w _ (nI (cn n (fm ow c9 ev))) (by rw [ex]; rw [← cnt2 hLw hn hev]; exact c_g_count_2 l D cI cJ cZ ad n ev g c9 s9 ev hev hC.s hsx hc8 hn (Nat.le_refl _))) (by exact ⟨Nat.le_of_ble_eq_true rfl, Nat.le_of_ble_eq_true rfl⟩) (by rw [ex]; exact c_r_count_2 l D cI cJ cZ bd er n ev r ev hev c9 hrc s9 hrs ow hLs hc8 (Nat.le_refl _) hn) (fun H locs ls hP hD hS hl => k _ _ _ _ _ _ H locs ls hI hP hD hS hl)
    · exact law_count_ok (f1 := 5) (lo1 := 121) (f2 := 1) (lo2 := 25) C0 hi hf hP hD hS hl (nI (gr rd ev)) (by exact ⟨Nat.le_of_ble_eq_true rfl, Nat.le_of_ble_eq_true rfl⟩) (c_l_count_3 l D cI cJ cZ ad n ev g oa w _ (nI (gr rd ev)) (by rw [ex]; exact c_g_count_3 l D cI cJ cZ ad n ev g rd ev hev hR (Nat.le_refl _))) (by exact ⟨Nat.le_of_ble_eq_true rfl, Nat.le_of_ble_eq_true rfl⟩) (by rw [ex]; exact c_r_count_3 l D cI cJ cZ bd er n ev r rd ev hev hrR (Nat.le_refl _)) (fun H locs ls hP hD hS hl => k _ _ _ _ _ _ H locs ls hI hP hD hS hl)
  · have h1 : iv 4 (xs (i + 1)) = false := by simpa using h1
    exact law_count_x (f1 := 7) (lo1 := 103) (f2 := 1) (lo2 := 25) C0 hi hf hP hD hS hl 1 (by decide) (by exact ⟨Nat.le_of_ble_eq_true rfl, Nat.le_of_ble_eq_true rfl⟩) (c_l_count_x l D cI cJ cZ ad n ev g oa w sa _ (c_g_count_x l D cI cJ cZ ad n ev g hl0 sa _ h1)) (by exact ⟨Nat.le_of_ble_eq_true rfl, Nat.le_of_ble_eq_true rfl⟩) (c_r_count_x l D cI cJ cZ bd er n ev r _ h1) (fun H locs ls hP hD hS hl => k _ _ _ _ _ _ H locs ls hI hP hD hS hl)
set_option maxHeartbeats 4000000 in
theorem step_begin {p : Program} {l : Launch} {e : Env} {s : State} {m : MethodId} {below : List Frame} {meth : Method} {c : Code} {b L : Nat} {xs : Nat → Int32} {D : va_G} {cI cJ cZ : ClassId} {sa ad bd : Nat → Nat} {oa : Nat} (C0 : LC p l s m c b L xs D cI cJ cZ sa) {H : Heap} {locs : List Loc} {cells slots : Nat} {Q : State → Prop} {ls : Array Slot} {er : Int32} {n ev i : Nat} {g : GA} {r : RA} {w : Nat → Int64} (hi : i + 3 < L) (hf : cells + 1 ≤ room_1.cells ∧ slots + 6 ≤ room_1.slots) (hP : va_P D cls (LW cI cJ cZ ad bd oa er n ev g r w) H) (hD : va_D (nA s) (LW cI cJ cZ ad bd oa er n ev g r w)) (hS : va_S (nA s) s.heap H locs) (hl : lv_has ls 7 (LV b ad bd oa i)) (hI : IV n ev g r) (k : ∀ (er : Int32) (n ev : Nat) (g : GA) (r : RA) (w : Nat → Int64) (H : Heap) (locs : List Loc) (ls : Array Slot), IV n ev g r → va_P D cls (LW cI cJ cZ ad bd oa er n ev g r w) H → va_D (nA s) (LW cI cJ cZ ad bd oa er n ev g r w) → va_S (nA s) s.heap H locs → lv_has ls 7 (LV b ad bd oa i) → W p l e room_1 s m #[Value.ref b] below meth c H locs (cells + 1) (slots + 6) Q (F0 m 830 ls [])) : W p l e room_1 s m #[Value.ref b] below meth c H locs cells slots Q (F0 m 96 ls []) := by
  obtain ⟨c9, s9, o9, rd, an, ow, fk, hLw, hC, hR, hr, hn, hev⟩ := id hI
  have hl0 : l.stackTraces = false := C0.2.2.2.2.2.2.2
  have hc8 : ∀ j, j < ev → c9 j < 8 := fun j hj => Nat.lt_of_lt_of_le (hLw j hj).1 hn
  have hrc : ∀ j, j < ev → r.1 j = nI (c9 j) := fun j hj => (hr j hj).1
  have hrs : ∀ j, j < ev → r.2.1 j = mI (s9 j) := fun j hj => (hr j hj).2.1
  have hrR : ∀ j, j < ev → r.2.2.2.1 j = nI (rd j) ∧ rd j ≤ j + 1 := fun j hj => (hr j hj).2.2.2.1
  have hra : ∀ j, j < ev → ∀ y, y < 120 → r.2.2.2.2.2.1 (120 * j + y) = bI (an j y) := fun j hj => (hr j hj).2.2.2.2.1
  have hrf : ∀ j, j < ev → ∀ m, m < 8 → r.2.2.2.2.2.2 (8 * j + m) = bI (fk j m) := fun j hj => (hr j hj).2.2.2.2.2
  have hLs : ∀ x, x < ev → s9 x ≤ x ∧ ∀ y, ow x y = (x == y || pa ow (s9 x) y) := fun x hx => ⟨(hLw x hx).2.1, (hLw x hx).2.2.2.2.2.2⟩
  have hsx : ∀ x, x < ev → s9 x ≤ x := fun x hx => (hLw x hx).2.1
  by_cases h1 : 2 ≤ xs (i + 1) ∧ xs (i + 1) ≤ 8
  · obtain ⟨v, hv1, hv2, ex⟩ := in28v h1
    exact law_begin_ok (f1 := 1) (lo1 := 21) (f2 := 1) (lo2 := 25) C0 hi hf hP hD hS hl v (by exact ⟨Nat.le_of_ble_eq_true rfl, Nat.le_of_ble_eq_true rfl⟩) (by rw [ex]; exact c_l_begin_ok l D cI cJ cZ ad n ev g v hv1 hv2) (by exact ⟨Nat.le_of_ble_eq_true rfl, Nat.le_of_ble_eq_true rfl⟩) (by rw [ex]; exact c_r_begin_ok l D cI cJ cZ bd er n ev r v hv1 hv2) (fun H locs ls hP hD hS hl => k _ _ _ _ _ _ H locs ls (IV.zero hv2) hP hD hS hl)
  · exact law_begin_x (f1 := 7) (lo1 := 103) (f2 := 1) (lo2 := 25) C0 hi hf hP hD hS hl 1 (by decide) (by exact ⟨Nat.le_of_ble_eq_true rfl, Nat.le_of_ble_eq_true rfl⟩) (c_l_begin_x l D cI cJ cZ ad n ev g sa _ (c_g_begin_x l D cI cJ cZ ad n ev g hl0 sa _ h1)) (by exact ⟨Nat.le_of_ble_eq_true rfl, Nat.le_of_ble_eq_true rfl⟩) (c_r_begin_x l D cI cJ cZ bd er n ev r _ h1) (fun H locs ls hP hD hS hl => k _ _ _ _ _ _ H locs ls hI hP hD hS hl)
set_option maxHeartbeats 4000000 in
theorem step_event {p : Program} {l : Launch} {e : Env} {s : State} {m : MethodId} {below : List Frame} {meth : Method} {c : Code} {b L : Nat} {xs : Nat → Int32} {D : va_G} {cI cJ cZ : ClassId} {sa ad bd : Nat → Nat} {oa : Nat} (C0 : LC p l s m c b L xs D cI cJ cZ sa) {H : Heap} {locs : List Loc} {cells slots : Nat} {Q : State → Prop} {ls : Array Slot} {er : Int32} {n ev i : Nat} {g : GA} {r : RA} {w : Nat → Int64} (hi : i + 3 < L) (hf : cells + 1 ≤ room_1.cells ∧ slots + 6 ≤ room_1.slots) (hP : va_P D cls (LW cI cJ cZ ad bd oa er n ev g r w) H) (hD : va_D (nA s) (LW cI cJ cZ ad bd oa er n ev g r w)) (hS : va_S (nA s) s.heap H locs) (hl : lv_has ls 7 (LV b ad bd oa i)) (hI : IV n ev g r) (k : ∀ (er : Int32) (n ev : Nat) (g : GA) (r : RA) (w : Nat → Int64) (H : Heap) (locs : List Loc) (ls : Array Slot), IV n ev g r → va_P D cls (LW cI cJ cZ ad bd oa er n ev g r w) H → va_D (nA s) (LW cI cJ cZ ad bd oa er n ev g r w) → va_S (nA s) s.heap H locs → lv_has ls 7 (LV b ad bd oa i) → W p l e room_1 s m #[Value.ref b] below meth c H locs (cells + 1) (slots + 6) Q (F0 m 830 ls [])) : W p l e room_1 s m #[Value.ref b] below meth c H locs cells slots Q (F0 m 132 ls []) := by
  obtain ⟨c9, s9, o9, rd, an, ow, fk, hLw, hC, hR, hr, hn, hev⟩ := id hI
  have hl0 : l.stackTraces = false := C0.2.2.2.2.2.2.2
  have hc8 : ∀ j, j < ev → c9 j < 8 := fun j hj => Nat.lt_of_lt_of_le (hLw j hj).1 hn
  have hrc : ∀ j, j < ev → r.1 j = nI (c9 j) := fun j hj => (hr j hj).1
  have hrs : ∀ j, j < ev → r.2.1 j = mI (s9 j) := fun j hj => (hr j hj).2.1
  have hrR : ∀ j, j < ev → r.2.2.2.1 j = nI (rd j) ∧ rd j ≤ j + 1 := fun j hj => (hr j hj).2.2.2.1
  have hra : ∀ j, j < ev → ∀ y, y < 120 → r.2.2.2.2.2.1 (120 * j + y) = bI (an j y) := fun j hj => (hr j hj).2.2.2.2.1
  have hrf : ∀ j, j < ev → ∀ m, m < 8 → r.2.2.2.2.2.2 (8 * j + m) = bI (fk j m) := fun j hj => (hr j hj).2.2.2.2.2
  have hLs : ∀ x, x < ev → s9 x ≤ x ∧ ∀ y, ow x y = (x == y || pa ow (s9 x) y) := fun x hx => ⟨(hLw x hx).2.1, (hLw x hx).2.2.2.2.2.2⟩
  have hsx : ∀ x, x < ev → s9 x ≤ x := fun x hx => (hLw x hx).2.1
  by_cases h0 : iv n (xs (i + 1)) = true
  · obtain ⟨nd, hnd, ex⟩ := iv_of h0 (by omega)
    by_cases h1 : okS ev c9 nd (xs (i + 2)) = true
    · by_cases h2 : okO ev c9 nd (xs (i + 3)) = true
      · by_cases h3 : ev = 120
        · exact law_event_x (f1 := 8) (lo1 := 127) (f2 := 2) (lo2 := 50) C0 hi hf hP hD hS hl 2 (by decide) (by exact ⟨Nat.le_of_ble_eq_true rfl, Nat.le_of_ble_eq_true rfl⟩) (c_l_event_x2 l D cI cJ cZ ad n ev g oa w sa _ _ _ (by rw [ex]; exact c_g_event_x4 l D cI cJ cZ ad n ev g hl0 sa c9 s9 an fk hev hC hc8 hn nd hnd _ _ h1 h2 h3)) (by exact ⟨Nat.le_of_ble_eq_true rfl, Nat.le_of_ble_eq_true rfl⟩) (by rw [ex]; exact c_r_event_x4 l D cI cJ cZ bd er n ev r hev c9 hrc hc8 hn nd hnd _ _ h1 h2 h3) (fun H locs ls hP hD hS hl => k _ _ _ _ _ _ H locs ls hI hP hD hS hl)
        · obtain ⟨t, ht, ea, hct⟩ := okS_of h1
          obtain ⟨u, hu, eb, hcu⟩ := okO_of h2
          obtain ⟨c', s', o', rd', an', ow', fk', hag, e1, e2, e3, hLw', hfk', hrd', hrb'⟩ := ext (rd := rd) (fk := fk) hLw (fun j hj => (hR j hj).2) hnd ht hu hct hcu
          have E1 : xs (i + 1) = nI (c' ev) := by rw [ex, e1]
          have E2 : xs (i + 2) = mI (s' ev) := by rw [ea, e2]
          have E3 : xs (i + 3) = mI (o' ev) := by rw [eb, e3]
          have hev' : ev < 120 := by omega
          have hC' : gC ev g c' s' an' fk' := hC.congr (fun j hj => ⟨(hag j hj).1, (hag j hj).2.1, (hag j hj).2.2.2.2.1, (hag j hj).2.2.2.2.2⟩)
          have hR' : gR ev g rd' := hR.congr (fun j hj => (hag j hj).2.2.2.1)
          have hr' : rC ev r c' s' o' an' fk' rd' := hr.congr hag
          have hS1 : okS ev c' (c' ev) (mI (s' ev)) = true := by rw [(ok_congr (c := c9) (fun j hj => (hag j hj).1)).1, e1, ← E2]; exact h1
          have hO1 : okO ev c' (c' ev) (mI (o' ev)) = true := by rw [(ok_congr (c := c9) (fun j hj => (hag j hj).1)).2, e1, ← E3]; exact h2
          exact law_event_ok (f1 := 7) (lo1 := 166) (f2 := 4) (lo2 := 92) C0 hi hf hP hD hS hl (nI ev) (by exact ⟨Nat.le_of_ble_eq_true rfl, Nat.le_of_ble_eq_true rfl⟩) (fun u => gC (ev + 1) u c' s' an' fk' ∧ gR (ev + 1) u rd') (fun u => rC (ev + 1) u c' s' o' an' fk' rd') (by rw [E1, E2, E3]; exact c_l_event_ok l D cI cJ cZ ad n ev g oa w c' s' o' rd' an' ow' fk' hLw' hC' hR' hfk' hrd' hrb' hn hev' hS1 hO1) (by exact ⟨Nat.le_of_ble_eq_true rfl, Nat.le_of_ble_eq_true rfl⟩) (by rw [E1, E2, E3]; exact c_r_event_ok l D cI cJ cZ bd er n ev r c' s' o' rd' an' ow' fk' hLw' hr' hfk' hrd' hrb' hn hev') (fun u1 u2 H locs ls hp1 hp2 hP hD hS hl => k _ _ _ _ _ _ H locs ls ⟨c', s', o', rd', an', ow', fk', hLw', hp1.1, hp1.2, hp2, hn, hev'⟩ hP hD hS hl)
      · have h2 : okO ev c9 nd (xs (i + 3)) = false := by simpa using h2
        exact law_event_x (f1 := 8) (lo1 := 127) (f2 := 2) (lo2 := 50) C0 hi hf hP hD hS hl 1 (by decide) (by exact ⟨Nat.le_of_ble_eq_true rfl, Nat.le_of_ble_eq_true rfl⟩) (c_l_event_x1 l D cI cJ cZ ad n ev g oa w sa _ _ _ (by rw [ex]; exact c_g_event_x3 l D cI cJ cZ ad n ev g hl0 sa c9 s9 an fk hev hC hc8 hn nd hnd _ _ h1 h2)) (by exact ⟨Nat.le_of_ble_eq_true rfl, Nat.le_of_ble_eq_true rfl⟩) (by rw [ex]; exact c_r_event_x3 l D cI cJ cZ bd er n ev r hev c9 hrc hc8 hn nd hnd _ _ h1 h2) (fun H locs ls hP hD hS hl => k _ _ _ _ _ _ H locs ls hI hP hD hS hl)
    · have h1 : okS ev c9 nd (xs (i + 2)) = false := by simpa using h1
      exact law_event_x (f1 := 8) (lo1 := 127) (f2 := 2) (lo2 := 50) C0 hi hf hP hD hS hl 1 (by decide) (by exact ⟨Nat.le_of_ble_eq_true rfl, Nat.le_of_ble_eq_true rfl⟩) (c_l_event_x1 l D cI cJ cZ ad n ev g oa w sa _ _ _ (by rw [ex]; exact c_g_event_x2 l D cI cJ cZ ad n ev g hl0 sa c9 s9 an fk hev hC hc8 hn nd hnd _ _ h1)) (by exact ⟨Nat.le_of_ble_eq_true rfl, Nat.le_of_ble_eq_true rfl⟩) (by rw [ex]; exact c_r_event_x2 l D cI cJ cZ bd er n ev r hev c9 hrc hc8 hn nd hnd _ _ h1) (fun H locs ls hP hD hS hl => k _ _ _ _ _ _ H locs ls hI hP hD hS hl)
  · have h0 : iv n (xs (i + 1)) = false := by simpa using h0
    exact law_event_x (f1 := 8) (lo1 := 127) (f2 := 2) (lo2 := 50) C0 hi hf hP hD hS hl 1 (by decide) (by exact ⟨Nat.le_of_ble_eq_true rfl, Nat.le_of_ble_eq_true rfl⟩) (c_l_event_x1 l D cI cJ cZ ad n ev g oa w sa _ _ _ (c_g_event_x1 l D cI cJ cZ ad n ev g hl0 sa _ _ _ h0)) (by exact ⟨Nat.le_of_ble_eq_true rfl, Nat.le_of_ble_eq_true rfl⟩) (c_r_event_x1 l D cI cJ cZ bd er n ev r hev hn _ _ _ h0) (fun H locs ls hP hD hS hl => k _ _ _ _ _ _ H locs ls hI hP hD hS hl)
