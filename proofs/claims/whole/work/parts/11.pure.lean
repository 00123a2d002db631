/-! numbers: sums, sets of bits, rings, what the class reckons -/
def sm (f : Nat → Nat) : Nat → Nat
  | 0 => 0
  | k + 1 => sm f k + f k
theorem sm_s (f : Nat → Nat) (k : Nat) : sm f (k + 1) = sm f k + f k := rfl
theorem sm_cong {f g : Nat → Nat} : ∀ {k : Nat}, (∀ i, i < k → f i = g i) → sm f k = sm g k
  | 0, _ => rfl
  | k + 1, h => by rw [sm_s, sm_s, sm_cong (fun i hi => h i (by omega)), h k (by omega)]
theorem sm_le {f : Nat → Nat} {c : Nat} : ∀ {k : Nat}, (∀ i, i < k → f i ≤ c) → sm f k ≤ c * k
  | 0, _ => Nat.zero_le _
  | k + 1, h => by
    have h1 := sm_le (f := f) (c := c) (k := k) (fun i hi => h i (by omega))
    have h2 := h k (by omega)
    rw [sm_s, Nat.mul_succ]
    omega
theorem sm_zero {f : Nat → Nat} : ∀ {k : Nat}, (∀ i, i < k → f i = 0) → sm f k = 0
  | 0, _ => rfl
  | k + 1, h => by rw [sm_s, sm_zero (fun i hi => h i (by omega)), h k (by omega)]
theorem sm_one {f : Nat → Nat} {a : Nat} : ∀ {k : Nat}, a < k → (∀ i, i < k → i ≠ a → f i = 0) → sm f k = f a
  | 0, h, _ => absurd h (Nat.not_lt_zero _)
  | k + 1, h, h2 => by
    rw [sm_s]
    by_cases e : a = k
    · subst e
      rw [sm_zero (fun i hi => h2 i (by omega) (by omega)), Nat.zero_add]
    · rw [sm_one (a := a) (k := k) (by omega) (fun i hi => h2 i (by omega)), h2 k (by omega) (by omega), Nat.add_zero]
theorem z_pow_bit (a i : Nat) : (2 ^ a).testBit i = decide (a = i) := by
  by_cases h : a = i
  · subst h; simp
  · simp [Nat.testBit_two_pow_of_ne h, h]
theorem z_pow31 {a : Nat} (h : a < 31) : 2 ^ a < 2 ^ 31 := Nat.pow_lt_pow_right (by decide) h
theorem z_pow6 {a : Nat} (h : a < 6) : 2 ^ a < 64 := Nat.lt_of_lt_of_le (Nat.pow_lt_pow_right (by decide) h) (by decide)
theorem z_pow5 {a : Nat} (h : a < 5) : 2 ^ a < 32 := Nat.lt_of_lt_of_le (Nat.pow_lt_pow_right (by decide) h) (by decide)
theorem z_powL6 {a : Nat} (h : a ≤ 6) : 2 ^ a ≤ 64 := Nat.le_trans (Nat.pow_le_pow_right (by decide) h) (by decide)
theorem z_powL5 {a : Nat} (h : a ≤ 5) : 2 ^ a ≤ 32 := Nat.le_trans (Nat.pow_le_pow_right (by decide) h) (by decide)
theorem z_or64 {a b : Nat} (h : a < 64) (h2 : b < 64) : a ||| b < 64 := Nat.or_lt_two_pow (n := 6) h h2
theorem z_or32 {a b : Nat} (h : a < 32) (h2 : b < 32) : a ||| b < 32 := Nat.or_lt_two_pow (n := 5) h h2
/-- the set of those below k that have P -/
def orr (P : Nat → Bool) : Nat → Nat
  | 0 => 0
  | k + 1 => if P k then orr P k ||| 2 ^ k else orr P k
theorem orr_s (P : Nat → Bool) (k : Nat) : orr P (k + 1) = if P k then orr P k ||| 2 ^ k else orr P k := rfl
theorem orr_cong {P Q : Nat → Bool} : ∀ {k : Nat}, (∀ i, i < k → P i = Q i) → orr P k = orr Q k
  | 0, _ => rfl
  | k + 1, h => by rw [orr_s, orr_s, orr_cong (fun i hi => h i (by omega)), h k (by omega)]
theorem orr_lt (P : Nat → Bool) : ∀ k, orr P k < 2 ^ k
  | 0 => Nat.zero_lt_one
  | k + 1 => by
    have h := orr_lt P k
    have h1 : 2 ^ k < 2 ^ (k + 1) := Nat.pow_lt_pow_right (by decide) (Nat.lt_succ_self k)
    rw [orr_s]
    split
    · exact Nat.or_lt_two_pow (by omega) h1
    · omega
theorem orr_bit (P : Nat → Bool) : ∀ k i, (orr P k).testBit i = (decide (i < k) && P i)
  | 0, i => by simp [orr]
  | k + 1, i => by
    rw [orr_s]
    by_cases hP : P k = true
    · rw [if_pos hP, Nat.testBit_or, orr_bit P k i, z_pow_bit]
      by_cases e : k = i
      · subst e; simp [hP]
      · have h1 : decide (i < k) = decide (i < k + 1) := by
          by_cases h : i < k
          · simp [h, Nat.lt_succ_of_lt h]
          · simp [h, show ¬ i < k + 1 by omega]
        simp [e, h1]
    · rw [if_neg hP, orr_bit P k i]
      by_cases e : i = k
      · subst e; simp [hP]
      · have h1 : decide (i < k) = decide (i < k + 1) := by
          by_cases h : i < k
          · simp [h, Nat.lt_succ_of_lt h]
          · simp [h, show ¬ i < k + 1 by omega]
        simp [h1]
def spanF (x y : Nat) : Int32 := if x = 0 then 0 else if y = 0 then -9 else nI ((x + y - 1) / y)
/-- how long an act still can be: the least over the decanters, 60 at most -/
def lmin (lv ai nd : Nat → Nat) : Nat → Nat
  | 0 => 60
  | d + 1 => if 0 < nd d ∧ 0 < ai d then min (lmin lv ai nd d) ((lv d - nd d) / ai d) else lmin lv ai nd d
theorem lmin_le (lv ai nd : Nat → Nat) : ∀ d, lmin lv ai nd d ≤ 60
  | 0 => Nat.le_refl _
  | d + 1 => by
    have h := lmin_le lv ai nd d
    unfold lmin
    split
    · exact Nat.le_trans (Nat.min_le_left _ _) h
    · exact h
/-- k steps of a ring from e on -/
def rg (la : Nat → Nat) : Nat → Nat → Nat → Nat
  | 0, _, acc => acc
  | k + 1, e, acc => rg la k (la e) (acc ||| 2 ^ e)
def fcS (la : Nat → Nat) (n : Nat) : Nat → Nat × Nat
  | 0 => (n, 0)
  | d + 1 => if (fcS la n d).2.testBit d then fcS la n d else ((fcS la n d).1 - 1, (fcS la n d).2 ||| rg la n d 0)
def fin9 (la : Nat → Nat) (d : Nat) : Nat → Nat → Option Nat
  | _, 0 => none
  | e, k + 1 => if la d = e ∨ la e = d then some (10 * d + e) else fin9 la d (e + 1) k
def fou9 (la : Nat → Nat) (n : Nat) : Nat → Nat → Option Nat
  | _, 0 => none
  | d, k + 1 => match fin9 la d (d + 1) (n - (d + 1)) with
    | some v => some v
    | none => fou9 la n (d + 1) k
def oI (o : Option Nat) : Int32 := match o with
  | some v => nI v
  | none => -9
def dabs (lv : Nat → Nat) (st n : Nat) : Nat := if sm (fun i => if st.testBit i then lv i else 0) n < sm (fun i => if st.testBit i then 0 else lv i) n then sm (fun i => if st.testBit i then 0 else lv i) n - sm (fun i => if st.testBit i then lv i else 0) n else sm (fun i => if st.testBit i then lv i else 0) n - sm (fun i => if st.testBit i then 0 else lv i) n
def iltL (num x : Nat) : Nat → Nat
  | 0 => num
  | d + 1 => if d = 0 then num else if 10 % (d + 1) = 0 ∧ x % (d + 1) = 0 then num / (d + 1) else iltL num x d
theorem iltL_1 (num x : Nat) : iltL num x 1 = num := rfl
theorem iltL_s (num x d : Nat) (h : 1 < d) : iltL num x d = if 10 % d = 0 ∧ x % d = 0 then num / d else iltL num x (d - 1) := by
  obtain ⟨k, rfl⟩ : ∃ k, d = k + 1 := ⟨d - 1, by omega⟩
  show (if k = 0 then num else _) = _
  rw [if_neg (by omega)]
  rfl
def popc (x : Nat) : Nat := sm (fun i => (x.testBit i).toNat) 6
theorem popc_le (x : Nat) : popc x ≤ 6 := sm_le (c := 1) (fun _ _ => by have := Bool.toNat_lt (x.testBit ‹_›); omega)
theorem z_andnot {a o : Nat} (ha : a < 64) : nI a &&& (nI o ^^^ (-1)) = nI (a ^^^ (a &&& o)) := by
  apply Int32.toBitVec_inj.mp
  show BitVec.ofNat 32 a &&& (BitVec.ofNat 32 o ^^^ BitVec.allOnes 32) = BitVec.ofNat 32 (a ^^^ (a &&& o))
  apply BitVec.eq_of_getLsbD_eq
  intro i hi
  simp only [BitVec.getLsbD_and, BitVec.getLsbD_xor, BitVec.getLsbD_ofNat, BitVec.getLsbD_allOnes, Nat.testBit_xor, Nat.testBit_and, hi, decide_true, Bool.true_and]
  cases a.testBit i <;> cases o.testBit i <;> rfl
theorem z_min {a b : Nat} (ha : a < 2 ^ 31) (hb : b < 2 ^ 31) : (if nI b < nI a then nI b else nI a) = nI (min a b) := by
  by_cases h : b < a
  · rw [if_pos ((nI_ltI hb ha).mpr h), Nat.min_eq_right (by omega)]
  · rw [if_neg (fun q => h ((nI_ltI hb ha).mp q)), Nat.min_eq_left (by omega)]
theorem z_abs {a b : Nat} (ha : a < 2 ^ 30) (hb : b < 2 ^ 30) : (if 0 ≤ nI a - nI b then nI a - nI b else 0 - (nI a - nI b)) = nI (if a < b then b - a else a - b) := by
  have e : ∀ x y : Int32, 0 - (x - y) = y - x := by intro x y; grind
  by_cases h : a < b
  · have h1 := pk_sneg hb h
    have h2 : ¬ (0 : Int32) ≤ nI a - nI b := fun q => by
      have h3 := Int32.lt_iff_toInt_lt.mp h1
      have h4 := Int32.le_iff_toInt_le.mp q
      omega
    rw [if_neg h2, if_pos h, e, pk_sub (by omega)]
  · rw [pk_sub (by omega), if_pos (nI_pos' (by omega)), if_neg h]
theorem z_max0 {a b : Nat} (ha : a < 2 ^ 30) (hb : b < 2 ^ 30) : (if (0 : Int32) < nI a - nI b then nI a - nI b else 0) = nI (a - b) := by
  by_cases h : a < b
  · have h1 := pk_sneg hb h
    have h2 : ¬ (0 : Int32) < nI a - nI b := fun q => by
      have h3 := Int32.lt_iff_toInt_lt.mp h1
      have h4 := Int32.lt_iff_toInt_lt.mp q
      have h5 : (0 : Int32).toInt = 0 := rfl
      omega
    rw [if_neg h2, show a - b = 0 by omega]
    rfl
  · rw [pk_sub (by omega)]
    by_cases h0 : a - b = 0
    · rw [h0]; decide
    · rw [if_pos (show (0 : Int32) < nI (a - b) from (nI_ltI (a := 0) (b := a - b) (by decide) (by omega)).mpr (by omega))]
