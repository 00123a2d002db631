/-! numbers of the class and of the reference are the same -/
theorem le_lmin {lv ai f : Nat → Nat} {m : Nat} : ∀ n, (m ≤ lmin lv ai f n ↔ m ≤ 60 ∧ ∀ d, d < n → 0 < f d ∧ 0 < ai d → m ≤ (lv d - f d) / ai d)
  | 0 => ⟨fun h => ⟨h, fun d hd => absurd hd (Nat.not_lt_zero d)⟩, fun h => h.1⟩
  | n + 1 => by
    have ih := le_lmin (lv := lv) (ai := ai) (f := f) (m := m) n
    unfold lmin
    by_cases h : 0 < f n ∧ 0 < ai n
    · rw [if_pos h, Nat.le_min, ih]
      constructor
      · rintro ⟨⟨h1, h2⟩, h3⟩
        refine ⟨h1, fun d hd hq => ?_⟩
        rcases Nat.lt_succ_iff_lt_or_eq.mp hd with h4 | h4
        · exact h2 d h4 hq
        · rw [h4]; exact h3
      · rintro ⟨h1, h2⟩
        exact ⟨⟨h1, fun d hd hq => h2 d (by omega) hq⟩, h2 n (by omega) h⟩
    · rw [if_neg h, ih]
      constructor
      · rintro ⟨h1, h2⟩
        refine ⟨h1, fun d hd hq => ?_⟩
        rcases Nat.lt_succ_iff_lt_or_eq.mp hd with h4 | h4
        · exact h2 d h4 hq
        · rw [h4] at hq; exact absurd hq h
      · rintro ⟨h1, h2⟩
        exact ⟨h1, fun d hd hq => h2 d (by omega) hq⟩
theorem lsc_eq {C9 : Nat → Bool} {L : Nat} (h : ∀ m, m ≤ 60 → (C9 m = true ↔ m ≤ L)) (hL : L ≤ 60) : ∀ k n, n ≤ L → n + k = 60 → lsc C9 k n = L
  | 0, n, h1, h2 => by show n = L; omega
  | k + 1, n, h1, h2 => by
    rw [lsc_s]
    by_cases q : C9 (n + 1) = true
    · rw [if_pos q]
      exact lsc_eq h hL k (n + 1) ((h (n + 1) (by omega)).mp q) (by omega)
    · rw [if_neg q]
      have h3 : ¬ n + 1 ≤ L := fun r => q ((h (n + 1) (by omega)).mpr r)
      omega
theorem can_le {m f l a : Nat} (h : f ≤ l) : f ≤ l - m * a ↔ (0 < f ∧ 0 < a → m ≤ (l - f) / a) := by
  by_cases ha : 0 < a
  · rw [Nat.le_div_iff_mul_le ha]
    generalize m * a = x
    constructor
    · intro h1 h2; omega
    · intro h1
      by_cases hf : 0 < f
      · have := h1 ⟨hf, ha⟩; omega
      · omega
  · have e : a = 0 := by omega
    subst e
    rw [Nat.mul_zero]
    exact ⟨fun _ h2 => absurd h2.2 (Nat.lt_irrefl 0), fun _ => h⟩
theorem last_eq {lv ai f : Nat → Nat} {n : Nat} {C9 : Nat → Bool} (h : ∀ m, m ≤ 60 → (C9 m = true ↔ ∀ d, d < n → f d ≤ lv d - m * ai d)) (h0 : C9 0 = true) : lsc C9 60 0 = lmin lv ai f n := by
  have hf : ∀ d, d < n → f d ≤ lv d := fun d hd => by
    have := (h 0 (by omega)).mp h0 d hd
    rw [Nat.zero_mul] at this
    exact this
  refine lsc_eq (fun m hm => ?_) (lmin_le lv ai f n) 60 0 (Nat.zero_le _) rfl
  rw [h m hm, le_lmin]
  constructor
  · intro h1
    exact ⟨hm, fun d hd => (can_le (hf d hd)).mp (h1 d hd)⟩
  · rintro ⟨-, h1⟩ d hd
    exact (can_le (hf d hd)).mpr (h1 d hd)
theorem lmin_cong {lv ai f lv' ai' f' : Nat → Nat} : ∀ {n}, (∀ d, d < n → lv d = lv' d ∧ ai d = ai' d ∧ f d = f' d) → lmin lv ai f n = lmin lv' ai' f' n
  | 0, _ => rfl
  | n + 1, h => by
    obtain ⟨h1, h2, h3⟩ := h n (by omega)
    unfold lmin
    rw [h1, h2, h3, lmin_cong (fun d hd => h d (by omega))]
/-! shares -/
theorem dabs_cong {f g : Nat → Nat} {s n : Nat} (h : ∀ i, i < n → f i = g i) : dabs f s n = dabs g s n := by
  have e1 : sm (fun i => if s.testBit i then f i else 0) n = sm (fun i => if s.testBit i then g i else 0) n := sm_cong (fun i hi => by rw [h i hi])
  have e2 : sm (fun i => if s.testBit i then 0 else f i) n = sm (fun i => if s.testBit i then 0 else g i) n := sm_cong (fun i hi => by rw [h i hi])
  unfold dabs
  rw [e1, e2]
theorem shB_cong {f g : Nat → Nat} {n : Nat} (h : ∀ i, i < n → f i = g i) : ∀ k, shB f n k = shB g n k
  | 0 => rfl
  | k + 1 => by rw [shB_s, shB_s, shB_cong h k, dabs_cong h, dabs_cong h]
theorem shm_eq {lv : Nat → Nat} {n : Nat} (hn : 0 < n) : ∀ j, shm lv n (2 * j + 2) = some (shB lv n j)
  | 0 => by
    have e0 : shm lv n 1 = none := by
      rw [show (1 : Nat) = 0 + 1 from rfl, shm_s]
      exact if_neg (fun h => by rcases h.1 with h | h; omega; exact absurd h (by decide))
    show shm lv n (1 + 1) = _
    rw [shm_s, e0]
    rw [if_pos ⟨Or.inr (by decide), Or.inl rfl⟩]
    unfold shB
    rw [if_neg (by omega)]
  | j + 1 => by
    have ih := shm_eq (lv := lv) hn j
    have a1 : (2 * j + 2) &&& 1 = 0 := by rw [Nat.and_one_is_mod]; omega
    have a2 : (2 * j + 3) &&& 1 = 1 := by rw [Nat.and_one_is_mod]; omega
    have e1 : shm lv n (2 * j + 3) = some (shB lv n j) := by
      rw [show 2 * j + 3 = (2 * j + 2) + 1 from rfl, shm_s, ih]
      exact if_neg (fun h => by rcases h.1 with h | h; omega; omega)
    rw [show 2 * (j + 1) + 2 = (2 * j + 3) + 1 by omega, shm_s, e1, shB_s]
    by_cases q : dabs lv (2 * j + 3) n < dabs lv (shB lv n j) n
    · rw [if_pos q, if_pos ⟨Or.inr a2, Or.inr q⟩]
    · rw [if_neg q]
      exact if_neg (fun h => by rcases h.2 with h | h; cases h; exact q h)
theorem share_eq {f g : Nat → Nat} {n : Nat} (h : ∀ i, i < n → f i = g i) : shm g n (2 ^ n) = some (shB f n ((2 ^ n - 2) / 2)) := by
  rw [shB_cong h]
  by_cases hn : 0 < n
  · have h2 : 2 ^ n = 2 * 2 ^ (n - 1) := by
      rw [← Nat.pow_succ', show (n - 1).succ = n by omega]
    have h3 : 1 ≤ 2 ^ (n - 1) := Nat.one_le_two_pow
    rw [show 2 ^ n = 2 * ((2 ^ n - 2) / 2) + 2 by omega, shm_eq hn, show (2 * ((2 ^ n - 2) / 2) + 2 - 2) / 2 = (2 ^ n - 2) / 2 by omega]
  · have e : n = 0 := by omega
    subst e
    show shm g 0 (0 + 1) = _
    rw [shm_s, if_pos ⟨Or.inl rfl, Or.inl rfl⟩]
    rfl
/-! the first change -/
def sel9 (o : Option Nat) (f : Int32) : Int32 := match o with
  | some v => nI v
  | none => f
theorem fin9_s (la : Nat → Nat) (d e k : Nat) : fin9 la d e (k + 1) = if la d = e ∨ la e = d then some (10 * d + e) else fin9 la d (e + 1) k := rfl
theorem fin9_cong {la lb : Nat → Nat} {d n : Nat} (hd : d < n) (h : ∀ i, i < n → la i = lb i) : ∀ k e, e + k ≤ n → fin9 la d e k = fin9 lb d e k
  | 0, _, _ => rfl
  | k + 1, e, he => by rw [fin9_s, fin9_s, h d hd, h e (by omega), fin9_cong hd h k (e + 1) (by omega)]
theorem fou9_s (la : Nat → Nat) (n d k : Nat) : fou9 la n d (k + 1) = match fin9 la d (d + 1) (n - (d + 1)) with
    | some v => some v
    | none => fou9 la n (d + 1) k := rfl
theorem fou9_cong {la lb : Nat → Nat} {n : Nat} (h : ∀ i, i < n → la i = lb i) : ∀ k d, d + k ≤ n → fou9 la n d k = fou9 lb n d k
  | 0, _, _ => rfl
  | k + 1, d, hd => by rw [fou9_s, fou9_s, fin9_cong (by omega) h _ _ (by omega), fou9_cong h k (d + 1) (by omega)]
theorem mfI_sel {la : Nat → Nat} {d n : Nat} {f : Int32} : ∀ e, d ≤ e → e + 1 ≤ n → mfI la d e (sel9 (fin9 la d (e + 1) (n - (e + 1))) f) = sel9 (fin9 la d (d + 1) (n - (d + 1))) f
  | 0, h, _ => by
    have e : d = 0 := by omega
    subst e
    rfl
  | e + 1, h, h2 => by
    by_cases q : d = e + 1
    · rw [mfI_le (by omega), q]
    · rw [mfI_s (by omega), Nat.add_sub_cancel, ← mfI_sel e (by omega) (by omega)]
      congr 1
      rw [show n - (e + 1) = (n - (e + 1 + 1)) + 1 by omega, fin9_s]
      by_cases r : la d = e + 1 ∨ la (e + 1) = d
      · rw [if_pos r, if_pos r]; rfl
      · rw [if_neg r, if_neg r]
theorem mfO_fou {la : Nat → Nat} {n : Nat} : ∀ k, k ≤ n → mfO la n k (oI (fou9 la n k (n - k))) = oI (fou9 la n 0 n)
  | 0, _ => rfl
  | k + 1, h => by
    rw [mfO_s (Nat.succ_pos k), Nat.succ_sub_one, ← mfO_fou k (by omega)]
    congr 1
    rw [show n - k = (n - (k + 1)) + 1 by omega, fou9_s]
    have e := mfI_sel (la := la) (d := k) (n := n) (f := oI (fou9 la n (k + 1) (n - (k + 1)))) (n - 1) (by omega) (by omega)
    rw [show n - (n - 1 + 1) = 0 by omega] at e
    refine Eq.trans e ?_
    cases fin9 la k (k + 1) (n - (k + 1)) with
    | none => rfl
    | some v => rfl
theorem first_eq {la lb : Nat → Nat} {n : Nat} (h : ∀ i, i < n → la i = lb i) : mfO lb n n (-9) = oI (fou9 la n 0 n) := by
  rw [fou9_cong h n 0 (by omega), ← mfO_fou (la := lb) n (Nat.le_refl n), Nat.sub_self]
  rfl
/-! the odds -/
theorem pm_if {P : Nat → Bool} {A : Nat} : ∀ n, pm (fun d => if P d = true then A else 1) n = A ^ sm (fun d => (P d).toNat) n
  | 0 => rfl
  | n + 1 => by
    rw [pm_s, sm_s, pm_if n, Nat.pow_add]
    cases P n <;> simp
theorem popc_orr {P : Nat → Bool} {n : Nat} (hn : n ≤ 6) : popc (orr P n) = sm (fun d => (P d).toNat) n := by
  have h1 : ∀ k, sm (fun i => ((orr P n).testBit i).toNat) (n + k) = sm (fun d => (P d).toNat) n := by
    intro k
    induction k with
    | zero => exact sm_cong (fun i hi => by rw [orr_bit, decide_eq_true (show i < n by omega), Bool.true_and])
    | succ k ih => rw [← Nat.add_assoc, sm_s, ih, orr_bit, decide_eq_false (show ¬ n + k < n by omega), Bool.false_and]; rfl
  have h2 := h1 (6 - n)
  rw [show n + (6 - n) = 6 by omega] at h2
  exact h2
theorem odds_tab : ∀ x, x < 11 → ∀ c, c < 7 → (iltL (10 - x) x 10) ^ c = (10 - x) ^ c / Nat.gcd ((10 - x) ^ c) (10 ^ c) ∧ (iltL 10 x 10) ^ c = 10 ^ c / Nat.gcd ((10 - x) ^ c) (10 ^ c) := by decide +kernel
theorem odds_eq {f : Nat → Nat} {n x : Nat} (hn : n ≤ 6) (hx : x ≤ 10) :
    (iltL (10 - x) x 10) ^ popc (orr (fun i => decide (0 < f i)) n) = pm (fun d => if 0 < f d then 10 - x else 1) n / Nat.gcd (pm (fun d => if 0 < f d then 10 - x else 1) n) (pm (fun d => if 0 < f d then 10 else 1) n) ∧
    (iltL 10 x 10) ^ popc (orr (fun i => decide (0 < f i)) n) = pm (fun d => if 0 < f d then 10 else 1) n / Nat.gcd (pm (fun d => if 0 < f d then 10 - x else 1) n) (pm (fun d => if 0 < f d then 10 else 1) n) := by
  have e : ∀ A, pm (fun d => if 0 < f d then A else 1) n = A ^ popc (orr (fun i => decide (0 < f i)) n) := by
    intro A
    rw [popc_orr hn, ← pm_if]
    congr 1
    funext d
    by_cases q : 0 < f d
    · rw [if_pos q, if_pos (decide_eq_true q)]
    · rw [if_neg q, if_neg (by rw [decide_eq_false q]; decide)]
  rw [e, e]
  exact odds_tab x (by omega) _ (by have := popc_le (orr (fun i => decide (0 < f i)) n); omega)
theorem trB_cong {W9 W8 : Nat → Nat} {E9 : Nat → Bool} {dn : Nat} (h : ∀ s, W9 s = W8 s) (k : Nat) : trB W9 E9 dn k = trB W8 E9 dn k := by
  rw [show W9 = W8 from funext h]
