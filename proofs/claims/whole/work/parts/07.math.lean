/-! ===== lN n to 2^64: shifts, and, or, masks, one bit ===== -/
theorem wb_tb (n : Nat) : (lN n).toBitVec = BitVec.ofNat 64 n := rfl
theorem wb_inj {a b : Int64} (h : a.toBitVec = b.toBitVec) : a = b := Int64.toBitVec_inj.mp h
theorem wb_tn {n : Nat} (h : n < 2 ^ 64) : (lN n).toBitVec.toNat = n := by rw [wb_tb, BitVec.toNat_ofNat, Nat.mod_eq_of_lt h]
theorem wb_of (x : Int64) : ∃ n, n < 2 ^ 64 ∧ x = lN n := ⟨x.toBitVec.toNat, x.toBitVec.isLt, wb_inj (by rw [wb_tb]; simp)⟩
theorem wb_of32 (x : Int32) : ∃ n, n < 2 ^ 32 ∧ x = nI n := ⟨x.toBitVec.toNat, x.toBitVec.isLt, Int32.toBitVec_inj.mp (by show _ = BitVec.ofNat 32 _; simp)⟩
theorem wb_c : ∀ k, k < 64 → ((nI k).toInt64 &&& 63) = lN k := by decide +kernel
theorem wb_cu : ∀ k, k < 64 → ((nI k).toInt64.toUInt64 &&& Int64.toUInt64 63) = UInt64.ofNat k := by decide +kernel
theorem wb_sm : ∀ k, k < 64 → (BitVec.ofNat 64 k).smod 64 = BitVec.ofNat 64 k := by decide +kernel
theorem wb_pw {a b : Nat} (h : a ≤ b) : 2 ^ b = 2 ^ a * 2 ^ (b - a) := by rw [← Nat.pow_add]; congr 1; omega
theorem wb_lt2 {a b : Nat} (h : a < b) : 2 ^ a < 2 ^ b := Nat.pow_lt_pow_right (by decide) h
theorem wb_mod (n : Nat) : lN n = lN (n % 2 ^ 64) := wb_inj (by rw [wb_tb, wb_tb]; apply BitVec.eq_of_toNat_eq; rw [BitVec.toNat_ofNat, BitVec.toNat_ofNat, Nat.mod_mod])
theorem wb_shr {n k : Nat} (hn : n < 2 ^ 64) (hk : k < 64) : ((lN n).toUInt64 >>> ((nI k).toInt64.toUInt64 &&& Int64.toUInt64 63)).toInt64 = lN (n / 2 ^ k) := by
  rw [wb_cu k hk]
  apply wb_inj
  apply BitVec.eq_of_toNat_eq
  show ((lN n).toUInt64 >>> UInt64.ofNat k).toNat = (BitVec.ofNat 64 _).toNat
  have h1 : (UInt64.ofNat k).toNat = k := by
    show (BitVec.ofNat 64 k).toNat = k
    rw [BitVec.toNat_ofNat, Nat.mod_eq_of_lt (by omega)]
  have h2 : (lN n).toUInt64.toNat = n := wb_tn hn
  rw [UInt64.toNat_shiftRight, h1, h2, Nat.mod_eq_of_lt hk, Nat.shiftRight_eq_div_pow, BitVec.toNat_ofNat, Nat.mod_eq_of_lt (Nat.lt_of_le_of_lt (Nat.div_le_self _ _) hn)]
theorem wb_shl (n : Nat) {k : Nat} (hk : k < 64) : lN n <<< ((nI k).toInt64 &&& 63) = lN (n * 2 ^ k) := by
  rw [wb_c k hk]
  apply wb_inj
  rw [Int64.toBitVec_shiftLeft, wb_tb, wb_tb, wb_tb, wb_sm k hk]
  apply BitVec.eq_of_toNat_eq
  rw [BitVec.shiftLeft_eq', BitVec.toNat_shiftLeft, BitVec.toNat_ofNat, BitVec.toNat_ofNat, BitVec.toNat_ofNat, Nat.mod_eq_of_lt (show k < 2 ^ 64 by omega), Nat.shiftLeft_eq, Nat.mul_mod, Nat.mod_mod, ← Nat.mul_mod]
theorem wb_and {a b : Nat} (ha : a < 2 ^ 64) (hb : b < 2 ^ 64) : lN a &&& lN b = lN (a &&& b) := by
  apply wb_inj
  rw [Int64.toBitVec_and, wb_tb, wb_tb, wb_tb]
  apply BitVec.eq_of_toNat_eq
  rw [BitVec.toNat_and, BitVec.toNat_ofNat, BitVec.toNat_ofNat, BitVec.toNat_ofNat, Nat.mod_eq_of_lt ha, Nat.mod_eq_of_lt hb, Nat.mod_eq_of_lt (Nat.and_lt_two_pow _ hb)]
theorem wb_or {a b : Nat} (ha : a < 2 ^ 64) (hb : b < 2 ^ 64) : lN a ||| lN b = lN (a ||| b) := by
  apply wb_inj
  rw [Int64.toBitVec_or, wb_tb, wb_tb, wb_tb]
  apply BitVec.eq_of_toNat_eq
  rw [BitVec.toNat_or, BitVec.toNat_ofNat, BitVec.toNat_ofNat, BitVec.toNat_ofNat, Nat.mod_eq_of_lt ha, Nat.mod_eq_of_lt hb, Nat.mod_eq_of_lt (Nat.or_lt_two_pow ha hb)]
theorem wb_mask {n k : Nat} (hn : n < 2 ^ 64) (hk : k < 64) : lN n &&& lN (2 ^ k - 1) = lN (n % 2 ^ k) := by
  rw [wb_and hn (by have := wb_lt2 hk; omega), Nat.and_two_pow_sub_one_eq_mod]
theorem wb_a1 {n : Nat} (hn : n < 2 ^ 64) : lN n &&& 1 = lN (n % 2) := wb_mask (k := 1) hn (by decide)
theorem wb_bit {n k : Nat} (hn : n < 2 ^ 64) (hk : k < 64) : ((lN n).toUInt64 >>> ((nI k).toInt64.toUInt64 &&& Int64.toUInt64 63)).toInt64 &&& 1 = lN (n / 2 ^ k % 2) := by
  rw [wb_shr hn hk, wb_a1 (Nat.lt_of_le_of_lt (Nat.div_le_self _ _) hn)]
/-! sets of bits, counts, and the words of the document as numbers -/
def bs (p : Nat → Bool) : Nat → Nat
  | 0 => 0
  | N + 1 => bs p N ||| (if p N = true then 2 ^ N else 0)
theorem bs_lt (p : Nat → Bool) (N : Nat) : bs p N < 2 ^ N := by
  induction N with
  | zero => exact Nat.one_pos
  | succ N ih =>
    have h1 : 2 ^ N < 2 ^ (N + 1) := Nat.pow_lt_pow_right (by decide) (Nat.lt_succ_self N)
    refine Nat.or_lt_two_pow (Nat.lt_trans ih h1) ?_
    by_cases h : p N = true
    · rw [if_pos h]; exact h1
    · rw [if_neg h]; exact Nat.two_pow_pos _
theorem bs_tb (p : Nat → Bool) (N i : Nat) : (bs p N).testBit i = (decide (i < N) && p i) := by
  induction N with
  | zero => simp [bs]
  | succ N ih =>
    show (bs p N ||| (if p N = true then 2 ^ N else 0)).testBit i = _
    rw [Nat.testBit_or, ih]
    by_cases hi : i = N
    · subst hi
      by_cases h : p i = true
      · simp [h]
      · simp [h]
    · have h2 : (if p N = true then 2 ^ N else 0).testBit i = false := by
        by_cases h : p N = true
        · rw [if_pos h, Nat.testBit_two_pow]; simp; omega
        · rw [if_neg h]; simp
      rw [h2]
      have : decide (i < N) = decide (i < N + 1) := by
        by_cases h : i < N
        · simp [h, show i < N + 1 by omega]
        · simp [h, show ¬ i < N + 1 by omega]
      rw [this]; simp
theorem bs_congr {p q : Nat → Bool} {N : Nat} (h : ∀ i, i < N → p i = q i) : bs p N = bs q N := by
  apply Nat.eq_of_testBit_eq
  intro i
  rw [bs_tb, bs_tb]
  by_cases hi : i < N
  · rw [h i hi]
  · simp [hi]
theorem bs_or (p q : Nat → Bool) (N : Nat) : bs p N ||| bs q N = bs (fun i => p i || q i) N := by
  apply Nat.eq_of_testBit_eq
  intro i
  rw [Nat.testBit_or, bs_tb, bs_tb, bs_tb]
  cases decide (i < N) <;> simp
theorem bs_one (N j : Nat) (h : j < N) : bs (fun i => j == i) N = 2 ^ j := by
  apply Nat.eq_of_testBit_eq
  intro i
  rw [bs_tb, Nat.testBit_two_pow]
  by_cases hi : j = i
  · subst hi; simp [h]
  · simp [hi]
theorem bs_none (N : Nat) : bs (fun _ => false) N = 0 := by
  apply Nat.eq_of_testBit_eq
  intro i
  rw [bs_tb]; simp
def ex (N : Nat) (p : Nat → Bool) : Bool := match N with
  | 0 => false
  | N + 1 => ex N p || p N
theorem ex_t {N : Nat} {p : Nat → Bool} : ex N p = true ↔ ∃ i, i < N ∧ p i = true := by
  induction N with
  | zero => simp [ex]
  | succ N ih =>
    show (ex N p || p N) = true ↔ _
    rw [Bool.or_eq_true, ih]
    constructor
    · rintro (⟨i, h1, h2⟩ | h)
      · exact ⟨i, by omega, h2⟩
      · exact ⟨N, by omega, h⟩
    · rintro ⟨i, h1, h2⟩
      by_cases hi : i = N
      · exact Or.inr (hi ▸ h2)
      · exact Or.inl ⟨i, by omega, h2⟩
theorem ex_f {N : Nat} {p : Nat → Bool} : ex N p = false ↔ ∀ i, i < N → p i = false := by
  constructor
  · intro h i hi
    cases hp : p i with
    | false => rfl
    | true => rw [ex_t.mpr ⟨i, hi, hp⟩] at h; cases h
  · intro h
    cases he : ex N p with
    | false => rfl
    | true => obtain ⟨i, h1, h2⟩ := ex_t.mp he; rw [h i h1] at h2; cases h2
theorem ex_congr {N : Nat} {p q : Nat → Bool} (h : ∀ i, i < N → p i = q i) : ex N p = ex N q := by
  induction N with
  | zero => rfl
  | succ N ih =>
    show (ex N p || p N) = (ex N q || q N)
    rw [ih (fun i hi => h i (by omega)), h N (by omega)]
def cn (N : Nat) (p : Nat → Bool) : Nat := match N with
  | 0 => 0
  | N + 1 => cn N p + (if p N = true then 1 else 0)
theorem cn_congr {N : Nat} {p q : Nat → Bool} (h : ∀ i, i < N → p i = q i) : cn N p = cn N q := by
  induction N with
  | zero => rfl
  | succ N ih =>
    show cn N p + _ = cn N q + _
    rw [ih (fun i hi => h i (by omega)), h N (by omega)]
theorem cn_le (N : Nat) (p : Nat → Bool) : cn N p ≤ N := by
  induction N with
  | zero => exact Nat.le_refl _
  | succ N ih =>
    show cn N p + (if p N = true then 1 else 0) ≤ N + 1
    split <;> omega
theorem cn_more {N M : Nat} {p : Nat → Bool} (h : N ≤ M) (hp : ∀ i, N ≤ i → i < M → p i = false) : cn M p = cn N p := by
  induction M with
  | zero => have : N = 0 := by omega
            subst this; rfl
  | succ M ih =>
    by_cases hN : N = M + 1
    · subst hN; rfl
    · show cn M p + (if p M = true then 1 else 0) = _
      rw [ih (by omega) (fun i h1 h2 => hp i h1 (by omega)), hp M (by omega) (by omega)]
      simp
/-- x sees y -/
def se (an fk : Nat → Nat → Bool) (c : Nat → Nat) (x y : Nat) : Bool := an x y && !fk x (c y)
/-- how many nodes have an event between -/
def sn (n : Nat) (an fk : Nat → Nat → Bool) (c : Nat → Nat) (x y : Nat) : Nat := cn n (fun m => ex (x + 1) (fun z => c z == m && (se an fk c x z && se an fk c z y)))
/-- more than two thirds -/
def mn (n k : Nat) : Bool := decide (2 * n < 3 * k)
def wi (s rd : Nat → Nat) (x : Nat) : Bool := s x == 0 || decide (rd (s x - 1) < rd x)
def pr (rd : Nat → Nat) (t : Nat) : Nat := if t = 0 then 0 else rd (t - 1)
def pa (f : Nat → Nat → Bool) (t y : Nat) : Bool := !(t == 0) && f (t - 1) y
def wn (n : Nat) (an fk : Nat → Nat → Bool) (c s rd : Nat → Nat) (x r : Nat) : Nat := cn n (fun m => ex x (fun w => c w == m && (rd w == r && (wi s rd w && mn n (sn n an fk c x w)))))
def ro (n : Nat) (an fk : Nat → Nat → Bool) (c s o rd : Nat → Nat) (x : Nat) : Nat :=
  if s x = 0 ∧ o x = 0 then 1 else if mn n (wn n an fk c s rd x (max (pr rd (s x)) (pr rd (o x)))) = true then max (pr rd (s x)) (pr rd (o x)) + 1 else max (pr rd (s x)) (pr rd (o x))
/-- a fork of m in the set a -/
def fo (a : Nat → Bool) (ow : Nat → Nat → Bool) (c : Nat → Nat) (N m : Nat) : Bool := ex N (fun y => ex y (fun z => (a y && c y == m) && ((a z && c z == m) && !ow y z)))
/-- the events' own laws, below K -/
def Lw (K n : Nat) (c s o : Nat → Nat) (an ow : Nat → Nat → Bool) : Prop := ∀ x, x < K → c x < n ∧ s x ≤ x ∧ o x ≤ x ∧ (s x ≠ 0 → c (s x - 1) = c x) ∧ (o x ≠ 0 → c (o x - 1) ≠ c x) ∧ (∀ y, an x y = (x == y || (pa an (s x) y || pa an (o x) y))) ∧ (∀ y, ow x y = (x == y || pa ow (s x) y))
theorem Lw.mono {K K' n : Nat} {c s o : Nat → Nat} {an ow : Nat → Nat → Bool} (h : Lw K n c s o an ow) (hK : K' ≤ K) : Lw K' n c s o an ow := fun x hx => h x (by omega)
theorem Lw.ow_le {K n : Nat} {c s o : Nat → Nat} {an ow : Nat → Nat → Bool} (h : Lw K n c s o an ow) : ∀ x, x < K → ∀ y, ow x y = true → y ≤ x := by
  intro x
  induction x using Nat.strongRecOn with
  | _ x ih =>
    intro hx y hy
    obtain ⟨-, h2, -, -, -, -, h7⟩ := h x hx
    rw [h7 y, Bool.or_eq_true] at hy
    rcases hy with hy | hy
    · have := of_decide_eq_true (show decide (x = y) = true from hy); omega
    · simp only [pa, Bool.and_eq_true, Bool.not_eq_true', beq_eq_false_iff_ne, ne_eq] at hy
      have := ih (s x - 1) (by omega) (by omega) y hy.2
      omega
theorem Lw.an_le {K n : Nat} {c s o : Nat → Nat} {an ow : Nat → Nat → Bool} (h : Lw K n c s o an ow) : ∀ x, x < K → ∀ y, an x y = true → y ≤ x := by
  intro x
  induction x using Nat.strongRecOn with
  | _ x ih =>
    intro hx y hy
    obtain ⟨-, h2, h3, -, -, h6, -⟩ := h x hx
    rw [h6 y, Bool.or_eq_true, Bool.or_eq_true] at hy
    rcases hy with hy | hy | hy
    · have := of_decide_eq_true (show decide (x = y) = true from hy); omega
    · simp only [pa, Bool.and_eq_true, Bool.not_eq_true', beq_eq_false_iff_ne, ne_eq] at hy
      have := ih (s x - 1) (by omega) (by omega) y hy.2
      omega
    · simp only [pa, Bool.and_eq_true, Bool.not_eq_true', beq_eq_false_iff_ne, ne_eq] at hy
      have := ih (o x - 1) (by omega) (by omega) y hy.2
      omega
/-- what x reaches, its parents reach too -/
theorem Lw.an_self {K n : Nat} {c s o : Nat → Nat} {an ow : Nat → Nat → Bool} (h : Lw K n c s o an ow) : ∀ x, x < K → ∀ y, an x y = true → (s y ≠ 0 → an x (s y - 1) = true) ∧ (o y ≠ 0 → an x (o y - 1) = true) := by
  intro x
  induction x using Nat.strongRecOn with
  | _ x ih =>
    intro hx y hy
    have hyx := h.an_le x hx y hy
    obtain ⟨-, h2, h3, -, -, h6, -⟩ := h x hx
    rw [h6 y, Bool.or_eq_true, Bool.or_eq_true] at hy
    rcases hy with hy | hy | hy
    · have e := of_decide_eq_true (show decide (x = y) = true from hy)
      subst e
      constructor
      · intro q
        obtain ⟨-, -, -, -, -, h6', -⟩ := h (s x - 1) (by omega)
        rw [h6]
        simp [pa, q, h6' (s x - 1)]
      · intro q
        obtain ⟨-, -, -, -, -, h6', -⟩ := h (o x - 1) (by omega)
        rw [h6]
        simp [pa, q, h6' (o x - 1)]
    · simp only [pa, Bool.and_eq_true, Bool.not_eq_true', beq_eq_false_iff_ne, ne_eq] at hy
      have r := ih (s x - 1) (by omega) (by omega) y hy.2
      constructor
      · intro q; rw [h6]; simp [pa, hy.1, r.1 q]
      · intro q; rw [h6]; simp [pa, hy.1, r.2 q]
    · simp only [pa, Bool.and_eq_true, Bool.not_eq_true', beq_eq_false_iff_ne, ne_eq] at hy
      have r := ih (o x - 1) (by omega) (by omega) y hy.2
      constructor
      · intro q; rw [h6]; simp [pa, hy.1, r.1 q]
      · intro q; rw [h6]; simp [pa, hy.1, r.2 q]
