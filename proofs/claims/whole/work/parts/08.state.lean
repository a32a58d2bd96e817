/-! the class's cells, and how they hold the events -/
abbrev GA : Type := (Nat → Int32) × (Nat → Int32) × (Nat → Int32) × (Nat → Int32) × (Nat → Int64) × (Nat → Int64)
def gL (cI cJ : ClassId) (ad : Nat → Nat) (n ev : Nat) (g : GA) : va_W := [(ad 0, .inr (0, [.int (nI n), .int (nI ev), .ref (ad 1), .ref (ad 2), .ref (ad 3), .ref (ad 4), .ref (ad 5), .ref (ad 6)])), (ad 1, .inl (cI, 120, .inl g.1)), (ad 2, .inl (cI, 120, .inl g.2.1)), (ad 3, .inl (cI, 120, .inl g.2.2.1)), (ad 4, .inl (cI, 120, .inl g.2.2.2.1)), (ad 5, .inl (cJ, 120, .inr (.inl g.2.2.2.2.1))), (ad 6, .inl (cJ, 120, .inr (.inl g.2.2.2.2.2)))]
def tys (cI cJ cZ : ClassId) : List (ClassId × FieldType) := [(cI, .int), (cJ, .long), (cZ, .boolean)]
def gC (K : Nat) (g : GA) (c s : Nat → Nat) (an fk : Nat → Nat → Bool) : Prop := ∀ j, j < K → g.1 j = nI (c j) ∧ g.2.1 j = mI (s j) ∧ g.2.2.2.1 j = nI (bs (fk j) 8) ∧ g.2.2.2.2.1 j = lN (bs (an j) 64) ∧ g.2.2.2.2.2 j = lN (bs (fun i => an j (64 + i)) 64)
def gR (K : Nat) (g : GA) (rd : Nat → Nat) : Prop := ∀ j, j < K → g.2.2.1 j = nI (rd j) ∧ rd j ≤ j + 1
/-- an argument that is an event's number -/
def iv (ev : Nat) (x : Int32) : Bool := decide (0 ≤ x ∧ x < nI ev)
/-- the bit e of two words -/
def wt (A B e : Nat) : Bool := if e < 64 then A.testBit e else B.testBit (e - 64)
theorem wt_an {a : Nat → Bool} {e : Nat} (h : e < 128) : wt (bs a 64) (bs (fun i => a (64 + i)) 64) e = a e := by
  unfold wt
  by_cases he : e < 64
  · rw [if_pos he, bs_tb]; simp [he]
  · rw [if_neg he, bs_tb]; simp [show e - 64 < 64 by omega, show 64 + (e - 64) = e by omega]
theorem lg_bit (A e : Nat) : lg_cmp (lN (A / 2 ^ e % 2)) 0 = bI (A.testBit e) := by
  rw [Nat.testBit_eq_decide_div_mod_eq]
  rcases Nat.mod_two_eq_zero_or_one (A / 2 ^ e) with h | h
  · rw [h]; decide
  · rw [h]; decide
theorem hb_I : ∀ F, F < 256 → ∀ e, e < 8 → ((nI F).toUInt32 >>> ((nI e).toUInt32 &&& Int32.toUInt32 31)).toInt32 &&& nI 1 = bI (F.testBit e) := by decide +kernel
theorem or_I : ∀ F, F < 256 → ∀ e, e < 8 → nI F ||| (nI 1 <<< (nI e &&& 31)) = nI (F ||| 2 ^ e) := by decide +kernel
theorem bs_add {P : Nat → Bool} {j : Nat} (hj : j < 8) : nI (bs P 8) ||| (nI 1 <<< (nI j &&& 31)) = nI (bs (fun m => P m || j == m) 8) := by
  rw [or_I _ (bs_lt P 8) j hj, ← bs_one 8 j hj, bs_or]
theorem cn_bs {P : Nat → Bool} {n : Nat} (hn : n ≤ 8) (h : ∀ m, n ≤ m → m < 8 → P m = false) : cn 8 (bs P 8).testBit = cn n P := by
  rw [cn_congr (q := P) (fun i hi => by rw [bs_tb]; simp [hi]), cn_more hn h]
def gCs (K : Nat) (g : GA) (c s : Nat → Nat) : Prop := ∀ j, j < K → g.1 j = nI (c j) ∧ g.2.1 j = mI (s j) ∧ True
theorem gC.s {K : Nat} {g : GA} {c s : Nat → Nat} {an fk : Nat → Nat → Bool} (h : gC K g c s an fk) : gCs K g c s := fun j hj => ⟨(h j hj).1, (h j hj).2.1, trivial⟩
/-- the rows of ancestors at k hold P1, P2; all else is as in g -/
def gA (k : Nat) (g u : GA) (P1 P2 : Nat → Bool) : Prop := u.1 = g.1 ∧ u.2.1 = g.2.1 ∧ u.2.2.1 = g.2.2.1 ∧ u.2.2.2.1 = g.2.2.2.1 ∧ (∀ j, j ≠ k → u.2.2.2.2.1 j = g.2.2.2.2.1 j ∧ u.2.2.2.2.2 j = g.2.2.2.2.2 j) ∧ u.2.2.2.2.1 k = lN (bs P1 64) ∧ u.2.2.2.2.2 k = lN (bs P2 64)
