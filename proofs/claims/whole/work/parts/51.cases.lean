/-! cases of arguments; what can be poured, told by one word for both sides -/
theorem rng9 {w : Int32} (a b : Nat) (ha : a < 1000) (hb : b < 1000) : (∃ k, a ≤ k ∧ k ≤ b ∧ w = nI k) ∨ ((w < nI a ∨ nI b < w) ∧ ¬ (nI a ≤ w ∧ w ≤ nI b)) := by
  have h1 := nI_toInt (n := a) (by omega)
  have h2 := nI_toInt (n := b) (by omega)
  by_cases h : nI a ≤ w ∧ w ≤ nI b
  · have h3 := Int32.le_iff_toInt_le.mp h.1
    have h4 := Int32.le_iff_toInt_le.mp h.2
    have h5 : ¬ w < 0 := fun q => by
      have := Int32.lt_iff_toInt_lt.mp q
      have h5 : (0 : Int32).toInt = 0 := rfl
      omega
    obtain ⟨j, hj, rfl⟩ := nI_of h5
    have h6 := nI_toInt hj
    exact Or.inl ⟨j, by omega, by omega, rfl⟩
  · refine Or.inr ⟨?_, h⟩
    by_cases q : nI a ≤ w
    · exact Or.inr (Int32.not_le.mp (fun r => h ⟨q, r⟩))
    · exact Or.inl (Int32.not_le.mp q)
theorem swi9 {w : Int32} (m9 : Nat) (hm : m9 < 1000) : (∃ k, k ≤ m9 ∧ w = nI k) ∨ (w.toInt < 0 ∨ (m9 : Int) < w.toInt) := by
  rcases rng9 (w := w) 0 m9 (by decide) hm with ⟨k, -, h1, h2⟩ | ⟨h, -⟩
  · exact Or.inl ⟨k, h1, h2⟩
  · refine Or.inr ?_
    rcases h with h | h
    · have := Int32.lt_iff_toInt_lt.mp h
      have h5 : (nI 0).toInt = 0 := rfl
      exact Or.inl (by omega)
    · have := Int32.lt_iff_toInt_lt.mp h
      rw [nI_toInt (by omega)] at this
      exact Or.inr this
theorem n019 {x : Int32} : x = nI 0 ∨ x = nI 1 ∨ (¬ (x = 0 ∨ x = nI 1) ∧ ¬ (nI 0 ≤ x ∧ x ≤ nI 1)) := by
  rcases rng9 (w := x) 0 1 (by decide) (by decide) with ⟨k, -, h1, h2⟩ | ⟨h, h3⟩
  · rcases (show k = 0 ∨ k = 1 by omega) with rfl | rfl
    · exact Or.inl h2
    · exact Or.inr (Or.inl h2)
  · refine Or.inr (Or.inr ⟨fun q => ?_, h3⟩)
    rcases q with rfl | rfl
    · exact h3 (by decide)
    · exact h3 (by decide)
theorem b_byte : ∀ c, c < 256 → (nI c).toInt8.toInt32 &&& nI 255 = nI c := by decide +kernel
def canB (n : Nat) (f lv ai : Nat → Nat) (m : Nat) : Bool := decide (∀ d, d < n → f d ≤ lv d - m * ai d)
theorem canB_0 {n : Nat} {f lv ai : Nat → Nat} : canB n f lv ai 0 = true ↔ ∀ d, d < n → f d ≤ lv d := by
  unfold canB
  rw [decide_eq_true_iff]
  constructor
  · intro h d hd
    have := h d hd
    rw [Nat.zero_mul] at this
    exact this
  · intro h d hd
    rw [Nat.zero_mul]
    exact h d hd
theorem canB_m {n m a : Nat} {la lv ai nw ar nd W9 da : Nat → Nat} (w1 : ∀ i, i < n → la i < n ∧ W9 (la i) = i) (w2 : ∀ j, j < n → W9 j < n ∧ la (W9 j) = j) (hl : ∀ d, d < n → lv d = nw d) (ha : ∀ d, d < n → ai d = ar d) (hd : ∀ q, q < n → da q = nd (6 * a + q)) :
    canB n (fun d => da (la d)) lv ai m = true ↔ ∀ j, j < n → nd (6 * a + j) ≤ nw (W9 j) - m * ar (W9 j) := by
  unfold canB
  rw [decide_eq_true_iff]
  constructor
  · intro h j hj
    have h1 := h (W9 j) (w2 j hj).1
    dsimp only at h1
    rw [(w2 j hj).2, hd j hj, hl _ (w2 j hj).1, ha _ (w2 j hj).1] at h1
    exact h1
  · intro h d hd2
    have h1 := h (la d) (w1 d hd2).1
    rw [(w1 d hd2).2, ← hd _ (w1 d hd2).1, ← hl d hd2, ← ha d hd2] at h1
    exact h1
def setB (n ac : Nat) (dr : Nat → Nat → Nat) (la lv : Nat → Nat) (s9 : Nat) : Bool := decide (∀ d, d < n → sm (fun i => if s9.testBit i then dr i (la d) else 0) ac ≤ lv d)
theorem setB_c {n ac : Nat} {dr : Nat → Nat → Nat} {la lv : Nat → Nat} {s9 : Nat} : setB n ac dr la lv s9 = true ↔ ∀ d, d < n → sm (fun i => if s9.testBit i then dr i (la d) else 0) ac ≤ lv d := by
  unfold setB
  rw [decide_eq_true_iff]
theorem setB_m {n ac : Nat} {dr : Nat → Nat → Nat} {la lv nw nd W9 : Nat → Nat} {s9 : Nat} (w1 : ∀ i, i < n → la i < n ∧ W9 (la i) = i) (w2 : ∀ j, j < n → W9 j < n ∧ la (W9 j) = j) (hl : ∀ d, d < n → lv d = nw d) (hd : ∀ a, a < ac → ∀ q, q < n → dr a q = nd (6 * a + q)) :
    setB n ac dr la lv s9 = true ↔ ∀ d, d < n → sm (fun i => if Nat.testBit s9 i then nd (6 * i + d) else 0) ac ≤ nw (W9 d) := by
  have e : ∀ q, q < n → sm (fun i => if s9.testBit i then dr i q else 0) ac = sm (fun i => if Nat.testBit s9 i then nd (6 * i + q) else 0) ac := fun q hq => sm_cong (fun i hi => by rw [hd i hi q hq])
  rw [setB_c]
  constructor
  · intro h j hj
    have h1 := h (W9 j) (w2 j hj).1
    rw [(w2 j hj).2, e j hj, hl _ (w2 j hj).1] at h1
    exact h1
  · intro h d hd2
    have h1 := h (la d) (w1 d hd2).1
    rw [(w1 d hd2).2, ← e _ (w1 d hd2).1, ← hl d hd2] at h1
    exact h1
theorem SN.W {n : Nat} {lv te la W9 : Nat → Nat} {mo dn ea bn : Nat} {g : Nat → Nat} (q : SN n lv te la mo dn ea bn g) (w1 : ∀ i, i < n → la i < n ∧ W9 (la i) = i) (w2 : ∀ j, j < n → W9 j < n ∧ la (W9 j) = j) : ∀ j, j < n → W9 j < n ∧ g (12 + W9 j) = j ∧ ∀ i, i < W9 j → g (12 + i) ≠ j := by
  intro j hj
  obtain ⟨h1, h2⟩ := w2 j hj
  refine ⟨h1, by rw [← (q.1 _ h1).2.2.1]; exact h2, fun i hi e => ?_⟩
  rw [← (q.1 i (by omega)).2.2.1] at e
  have h3 := (w1 i (by omega)).2
  rw [e] at h3
  omega
theorem nI_congr {a b : Nat} (h : a = b) : (some (Value.int (nI a)) : Option Value) = some (Value.int (nI b)) := by rw [h]
theorem iv_congr {a b : Int32} (h : a = b) : (some (Value.int a) : Option Value) = some (Value.int b) := by rw [h]
