/-! the ways of hanging, one after another; how many are as told, what hangs where for sure -/
theorem pvt_le (h : Nat → Nat) : ∀ j, pvt h j ≤ j
  | 0 => Nat.le_refl _
  | j + 1 => by
    unfold pvt
    split
    · exact Nat.le_succ_of_le (pvt_le h j)
    · exact Nat.le_refl _
theorem pvt_cong {h g : Nat → Nat} : ∀ j, (∀ i, i ≤ j → h i = g i) → pvt h j = pvt g j
  | 0, _ => rfl
  | j + 1, q => by
    unfold pvt
    rw [q j (by omega), q (j + 1) (by omega), pvt_cong j (fun i hi => q i (by omega))]
theorem pvt_spec {h : Nat → Nat} : ∀ j, (∀ i, pvt h j ≤ i → i + 1 ≤ j → h (i + 1) < h i) ∧ (∀ i, pvt h j = i + 1 → h i ≤ h (i + 1))
  | 0 => ⟨fun i _ h => absurd h (by omega), fun i h => by cases h⟩
  | j + 1 => by
    unfold pvt
    by_cases q : h (j + 1) < h j
    · rw [if_pos q]
      obtain ⟨a, b⟩ := pvt_spec (h := h) j
      refine ⟨fun i h1 h2 => ?_, b⟩
      by_cases e : i = j
      · rw [e]; exact q
      · exact a i h1 (by omega)
    · rw [if_neg q]
      refine ⟨fun i h1 h2 => absurd h2 (by omega), fun i h1 => ?_⟩
      have e : i = j := by omega
      rw [e]
      omega
theorem jst_spec {h : Nat → Nat} {v : Nat} : ∀ k, jst h v k ≤ k ∧ (∀ i, jst h v k < i → i ≤ k → h i < v) ∧ (jst h v k = 0 ∨ v ≤ h (jst h v k))
  | 0 => ⟨Nat.le_refl _, fun i h1 h2 => by omega, Or.inl rfl⟩
  | k + 1 => by
    unfold jst
    by_cases q : h (k + 1) < v
    · rw [if_pos q]
      obtain ⟨a, b, c⟩ := jst_spec (h := h) (v := v) k
      refine ⟨by omega, fun i h1 h2 => ?_, c⟩
      by_cases e : i = k + 1
      · rw [e]; exact q
      · exact b i h1 (by omega)
    · rw [if_neg q]
      exact ⟨Nat.le_refl _, fun i h1 h2 => by omega, Or.inr (by omega)⟩
theorem jst_cong {h g : Nat → Nat} {v : Nat} : ∀ j, (∀ i, i ≤ j → h i = g i) → jst h v j = jst g v j
  | 0, _ => rfl
  | j + 1, q => by
    unfold jst
    rw [q (j + 1) (by omega), jst_cong j (fun i hi => q i (by omega))]
theorem pvO_of {n : Nat} {h : Nat → Nat} (h0 : pvt h (n - 1) ≠ 0) : pvO n h (pvt h (n - 1) - 1) (jst h (h (pvt h (n - 1) - 1)) (n - 1)) := by
  have hl := pvt_le h (n - 1)
  obtain ⟨a, b⟩ := pvt_spec (h := h) (n - 1)
  generalize hp : pvt h (n - 1) = p9 at *
  obtain ⟨i0, rfl⟩ : ∃ i, p9 = i + 1 := ⟨p9 - 1, by omega⟩
  rw [Nat.add_sub_cancel]
  obtain ⟨a2, b2, c2⟩ := jst_spec (h := h) (v := h i0) (n - 1)
  generalize hj : jst h (h i0) (n - 1) = j0 at *
  have hb := b i0 rfl
  have hij : i0 < j0 := by
    rcases Nat.lt_or_ge i0 j0 with q | q
    · exact q
    · have := b2 (i0 + 1) (by omega) (by omega)
      omega
  refine ⟨by omega, hb, fun i h1 h2 => a i (by omega) (by omega), hij, by omega, ?_, fun j h1 h2 => b2 j h1 (by omega)⟩
  rcases c2 with q | q
  · omega
  · exact q
theorem swp_cong {g g2 : Nat → Nat} {a b : Nat} (h : ∀ q, q < 6 → g q = g2 q) (ha : a < 6) (hb : b < 6) : ∀ q, q < 6 → swp g a b q = swp g2 a b q := by
  intro q hq
  show (if q = b then g a else if q = a then g b else g q) = (if q = b then g2 a else if q = a then g2 b else g2 q)
  rw [h a ha, h b hb, h q hq]
theorem rvS_cong {g g2 : Nat → Nat} {lo hi : Nat} (h : ∀ q, q < 6 → g q = g2 q) (hh : hi < 6) : ∀ t, lo + t ≤ 6 → ∀ q, q < 6 → rvS g lo hi t q = rvS g2 lo hi t q
  | 0, _, q, hq => h q hq
  | t + 1, ht, q, hq => by
    rw [rvS_s, rvS_s]
    exact swp_cong (rvS_cong h hh t (by omega)) (by omega) (by omega) q hq
theorem nxP_cong {n : Nat} {g g2 : Nat → Nat} (hn : n ≤ 6) (h : ∀ q, q < 6 → g q = g2 q) : ∀ q, q < 6 → nxP n g q = nxP n g2 q := by
  have e1 : pvt g (n - 1) = pvt g2 (n - 1) := pvt_cong _ (fun i hi => h i (by omega))
  have e2 := pvt_le g2 (n - 1)
  have e3 : jst g (g (pvt g (n - 1) - 1)) (n - 1) = jst g2 (g2 (pvt g2 (n - 1) - 1)) (n - 1) := by
    rw [e1, h _ (by omega)]
    exact jst_cong _ (fun i hi => h i (by omega))
  have e4 := (jst_spec (h := g2) (v := g2 (pvt g2 (n - 1) - 1)) (n - 1)).1
  intro q hq
  unfold nxP nxt
  rw [e3, e1]
  exact rvS_cong (swp_cong h (by omega) (by omega)) (by omega) _ (by omega) q hq
theorem chn_spec {n : Nat} (hn : n ≤ 6) : ∀ (S : List Nat) (h : Nat → Nat → Nat), chn n S = true → (∀ q, q < 6 → h 0 q = lC (S.getD 0 0) q) → (∀ i, h (i + 1) = nxP n (h i)) →
    1 ≤ S.length ∧ (∀ i, i < S.length → ∀ q, q < 6 → h i q = lC (S.getD i 0) q) ∧ (∀ i, i + 1 < S.length → pvt (h i) (n - 1) ≠ 0) ∧ pvt (h (S.length - 1)) (n - 1) = 0
  | [], _, hc, _, _ => by cases hc
  | [a], h, hc, h0, hs => by
    have h1 : pvt (lC a) (n - 1) = 0 := by
      have : (pvt (lC a) (n - 1) == 0) = true := hc
      simpa using this
    refine ⟨Nat.le_refl _, fun i hi q hq => ?_, fun i hi => absurd hi (by simp), ?_⟩
    · have e : i = 0 := by simpa using hi
      rw [e]
      exact h0 q hq
    · show pvt (h 0) (n - 1) = 0
      rw [pvt_cong (g := lC a) _ (fun i hi => h0 i (by omega)), h1]
  | a :: b :: r, h, hc, h0, hs => by
    have hc2 : ((pvt (lC a) (n - 1) != 0) && all6 (fun q => nxP n (lC a) q == lC b q) && chn n (b :: r)) = true := hc
    rw [Bool.and_eq_true, Bool.and_eq_true] at hc2
    obtain ⟨⟨c1, c2⟩, c3⟩ := hc2
    have e0 : pvt (h 0) (n - 1) = pvt (lC a) (n - 1) := pvt_cong (g := lC a) _ (fun i hi => h0 i (by omega))
    have ih := chn_spec hn (b :: r) (fun i => h (i + 1)) c3 (fun q hq => by
      show h 1 q = lC b q
      rw [hs 0, nxP_cong hn (g2 := lC a) h0 q hq]
      have := all6_s c2 q hq
      simpa using this) (fun i => hs (i + 1))
    obtain ⟨i1, i2, i3, i4⟩ := ih
    refine ⟨by simp, fun i hi q hq => ?_, fun i hi => ?_, ?_⟩
    · cases i with
      | zero => exact h0 q hq
      | succ i => exact i2 i (by simpa using hi) q hq
    · cases i with
      | zero => rw [e0]; simpa using c1
      | succ i => exact i3 i (by simpa using hi)
    · exact i4
theorem tb_own_s {n : Nat} : ∀ (S O : List Nat), tb_own n S O = true → S.length = O.length ∧ ∀ i, i < S.length → ownm n (lC (S.getD i 0)) = O.getD i 0 ∧ (∀ q, q < 6 → lC (S.getD i 0) q < 6) ∧ ∀ d, d < n → (lab9 n (O.getD i 0) d).testBit (lC (S.getD i 0) d) = true ∧ lC (S.getD i 0) d < n
  | [], [], _ => ⟨rfl, fun i hi => absurd hi (Nat.not_lt_zero i)⟩
  | [], _ :: _, h => by cases h
  | _ :: _, [], h => by cases h
  | c :: cs, o :: os, h => by
    have h2 : ((ownm n (lC c) == o) && all6 (fun q => Nat.blt (lC c q) 6) && rngA (fun d => (lab9 n o d).testBit (lC c d) && Nat.blt (lC c d) n) n && tb_own n cs os) = true := h
    rw [Bool.and_eq_true, Bool.and_eq_true, Bool.and_eq_true] at h2
    obtain ⟨⟨⟨c1, c2⟩, c3⟩, c4⟩ := h2
    obtain ⟨i1, i2⟩ := tb_own_s cs os c4
    refine ⟨by simp [i1], fun i hi => ?_⟩
    cases i with
    | zero =>
      refine ⟨by simpa using c1, fun q hq => ?_, fun d hd => ?_⟩
      · have := all6_s c2 q hq
        simpa [Nat.blt_eq] using this
      · have := rngA_s c3 d hd
        rw [Bool.and_eq_true, Nat.blt_eq] at this
        exact this
    | succ i => exact i2 i (by simpa using hi)
theorem sm_shift (g : Nat → Nat) : ∀ k, sm g (k + 1) = g 0 + sm (fun i => g (i + 1)) k
  | 0 => by show 0 + g 0 = g 0 + 0; omega
  | k + 1 => by
    rw [sm_s, sm_shift g k, sm_s]
    omega
theorem sm_lsm {f : Nat → Nat} : ∀ (O : List Nat), sm (fun k => f (O.getD k 0)) O.length = lsm f O
  | [] => rfl
  | x :: r => by
    rw [List.length_cons, sm_shift]
    show f x + sm (fun k => f (r.getD k 0)) r.length = f x + lsm f r
    rw [sm_lsm r]
theorem sm_add (f g : Nat → Nat) : ∀ k, sm (fun i => f i + g i) k = sm f k + sm g k
  | 0 => rfl
  | k + 1 => by rw [sm_s, sm_s, sm_s, sm_add f g k]; omega
theorem cnt_ex {G : Nat → Bool} {M9 : Nat} : ∀ (O : List Nat), (∀ x, x ∈ O → x < M9) → lsm (fun x => if G x = true then 1 else 0) O = sm (fun ow => if G ow = true then lsm (fun x => if x = ow then 1 else 0) O else 0) M9
  | [], _ => (sm_zero (fun i _ => by show (if G i = true then 0 else 0) = 0; split <;> rfl)).symm
  | x :: r, h => by
    have e : ∀ ow, (if G ow = true then lsm (fun x => if x = ow then 1 else 0) (x :: r) else 0) = (if G ow = true then (if x = ow then 1 else 0) else 0) + (if G ow = true then lsm (fun x => if x = ow then 1 else 0) r else 0) := by
      intro ow
      cases G ow with
      | true => rfl
      | false => rfl
    rw [show (fun ow => if G ow = true then lsm (fun x => if x = ow then 1 else 0) (x :: r) else 0) = fun ow => (if G ow = true then (if x = ow then 1 else 0) else 0) + (if G ow = true then lsm (fun x => if x = ow then 1 else 0) r else 0) from funext e, sm_add, ← cnt_ex r (fun y hy => h y (List.mem_cons_of_mem _ hy))]
    rw [sm_one (a := x) (h x List.mem_cons_self) (fun i _ hi => by show (if G i = true then (if x = i then 1 else 0) else 0) = 0; rw [if_neg (show ¬ x = i from fun q => hi q.symm)]; split <;> rfl)]
    show _ = (if G x = true then (if x = x then 1 else 0) else 0) + _
    rw [if_pos (show x = x from rfl)]
    rfl
theorem ftS_sm {U : Nat → Bool} {lab : Nat → Nat} : ∀ i, (ftS U lab i).1 = sm (fun k => if U k = true then 1 else 0) i
  | 0 => rfl
  | i + 1 => by
    rw [sm_s]
    cases q : U i with
    | true => rw [ftS_t q, ← ftS_sm i]; rfl
    | false => rw [ftS_f q, ftS_sm i]; rfl
theorem ftS_spec {U : Nat → Bool} {lab : Nat → Nat} : ∀ i, ((ftS U lab i).1 = 0 → (ftS U lab i).2.1 = -9 ∧ (ftS U lab i).2.2 = true ∧ ∀ k, k < i → U k = false) ∧
    (0 < (ftS U lab i).1 → (∃ k, k < i ∧ U k = true ∧ (ftS U lab i).2.1 = nI (lab k)) ∧ ((ftS U lab i).2.2 = true ↔ ∀ k, k < i → U k = true → nI (lab k) = (ftS U lab i).2.1))
  | 0 => ⟨fun _ => ⟨rfl, rfl, fun k hk => absurd hk (Nat.not_lt_zero k)⟩, fun h => absurd h (Nat.lt_irrefl 0)⟩
  | i + 1 => by
    obtain ⟨a, b⟩ := ftS_spec (U := U) (lab := lab) i
    cases q : U i with
    | false =>
      rw [ftS_f q]
      refine ⟨fun h => ?_, fun h => ?_⟩
      · obtain ⟨a1, a2, a3⟩ := a h
        refine ⟨a1, a2, fun k hk => ?_⟩
        rcases Nat.lt_succ_iff_lt_or_eq.mp hk with h3 | h3
        · exact a3 k h3
        · rw [h3]; exact q
      · obtain ⟨⟨k, k1, k2, k3⟩, b2⟩ := b h
        refine ⟨⟨k, by omega, k2, k3⟩, b2.trans ⟨fun h4 j hj hu => ?_, fun h4 j hj => h4 j (by omega)⟩⟩
        rcases Nat.lt_succ_iff_lt_or_eq.mp hj with h3 | h3
        · exact h4 j h3 hu
        · rw [h3, q] at hu; cases hu
    | true =>
      rw [ftS_t q]
      refine ⟨fun h => absurd h (Nat.succ_ne_zero _), fun _ => ⟨⟨i, by omega, q, rfl⟩, ?_⟩⟩
      show ((ftS U lab i).2.2 && (decide ((ftS U lab i).1 = 0) || decide (nI (lab i) = (ftS U lab i).2.1))) = true ↔ ∀ k, k < i + 1 → U k = true → nI (lab k) = nI (lab i)
      rw [Bool.and_eq_true, Bool.or_eq_true, decide_eq_true_iff, decide_eq_true_iff]
      by_cases h0 : (ftS U lab i).1 = 0
      · obtain ⟨a1, a2, a3⟩ := a h0
        refine ⟨fun _ k hk hu => ?_, fun _ => ⟨a2, Or.inl h0⟩⟩
        rcases Nat.lt_succ_iff_lt_or_eq.mp hk with h3 | h3
        · rw [a3 k h3] at hu; cases hu
        · rw [h3]
      · obtain ⟨⟨k0, k1, k2, k3⟩, b2⟩ := b (Nat.pos_of_ne_zero h0)
        constructor
        · rintro ⟨h1, h2⟩ k hk hu
          have h4 : nI (lab i) = (ftS U lab i).2.1 := h2.resolve_left h0
          rcases Nat.lt_succ_iff_lt_or_eq.mp hk with h3 | h3
          · rw [b2.mp h1 k h3 hu, h4]
          · rw [h3]
        · intro h1
          have h4 : (ftS U lab i).2.1 = nI (lab i) := by rw [k3]; exact h1 k0 (by omega) k2
          exact ⟨b2.mpr (fun k hk hu => by rw [h4]; exact h1 k (by omega) hu), Or.inr h4.symm⟩
theorem flL_some {x : Nat} : ∀ k j v, flL x j k = some v → x = 2 ^ v ∧ j ≤ v ∧ v < j + k
  | 0, _, _, h => by cases h
  | k + 1, j, v, h => by
    rw [flL_s] at h
    by_cases q : x = 2 ^ j
    · rw [if_pos q] at h
      cases h
      exact ⟨q, by omega, by omega⟩
    · rw [if_neg q] at h
      obtain ⟨a, b, c⟩ := flL_some k (j + 1) v h
      exact ⟨a, by omega, by omega⟩
theorem flL_none {x : Nat} : ∀ k j, flL x j k = none → ∀ v, j ≤ v → v < j + k → x ≠ 2 ^ v
  | 0, _, _, v, h1, h2 => by omega
  | k + 1, j, h, v, h1, h2 => by
    rw [flL_s] at h
    by_cases q : x = 2 ^ j
    · rw [if_pos q] at h; cases h
    · rw [if_neg q] at h
      rcases Nat.eq_or_lt_of_le h1 with e | e
      · rw [← e]; exact q
      · exact flL_none k (j + 1) h v e (by omega)
theorem pS_bit {W9 : Nat → Nat} {n d j : Nat} : ∀ k, ((pS W9 (2 ^ n - 1) d k).testBit j = true ↔ ∃ ow, ow < k ∧ 0 < W9 ow ∧ (lab9 n ow d).testBit j = true)
  | 0 => by
    constructor
    · intro h
      rw [show pS W9 (2 ^ n - 1) d 0 = 0 from rfl, Nat.zero_testBit] at h
      cases h
    · rintro ⟨ow, h, -⟩
      exact absurd h (Nat.not_lt_zero ow)
  | k + 1 => by
    have ih := pS_bit (W9 := W9) (n := n) (d := d) (j := j) k
    rw [pS_s]
    by_cases q : 0 < W9 k
    · rw [if_pos q, Nat.testBit_or, Bool.or_eq_true, ih]
      constructor
      · rintro (⟨ow, h1, h2, h3⟩ | h)
        · exact ⟨ow, by omega, h2, h3⟩
        · exact ⟨k, by omega, q, h⟩
      · rintro ⟨ow, h1, h2, h3⟩
        rcases Nat.lt_succ_iff_lt_or_eq.mp h1 with h4 | h4
        · exact Or.inl ⟨ow, h4, h2, h3⟩
        · rw [h4] at h3; exact Or.inr h3
    · rw [if_neg q, ih]
      constructor
      · rintro ⟨ow, h1, h2, h3⟩
        exact ⟨ow, by omega, h2, h3⟩
      · rintro ⟨ow, h1, h2, h3⟩
        rcases Nat.lt_succ_iff_lt_or_eq.mp h1 with h4 | h4
        · exact ⟨ow, h4, h2, h3⟩
        · rw [h4] at h2; exact absurd h2 q
theorem zpF_mem {ow c : Nat} : ∀ (S O : List Nat), c ∈ zpF ow S O → ∃ i, i < S.length ∧ S.getD i 0 = c ∧ O.getD i 0 = ow
  | [], _, h => by
    unfold zpF at h
    cases h
  | _ :: _, [], h => by
    unfold zpF at h
    cases h
  | a :: cs, o :: os, h => by
    unfold zpF at h
    by_cases q : o = ow
    · rw [if_pos q] at h
      rcases List.mem_cons.mp h with e | e
      · exact ⟨0, by simp, e.symm, q⟩
      · obtain ⟨i, h1, h2, h3⟩ := zpF_mem cs os e
        exact ⟨i + 1, by simpa using h1, h2, h3⟩
    · rw [if_neg q] at h
      obtain ⟨i, h1, h2, h3⟩ := zpF_mem cs os h
      exact ⟨i + 1, by simpa using h1, h2, h3⟩
theorem lsm_pos {f : Nat → Nat} : ∀ (O : List Nat) i, i < O.length → 0 < f (O.getD i 0) → 0 < lsm f O
  | [], i, h, _ => absurd h (Nat.not_lt_zero i)
  | x :: r, i, h, h2 => by
    show 0 < f x + lsm f r
    cases i with
    | zero => have : 0 < f x := h2; omega
    | succ i => have := lsm_pos r i (by simpa using h) h2; omega
theorem noF_le (j : Nat) : noF j ≤ 265 := by
  unfold noF
  repeat (first | omega | split)
theorem popc_n : ∀ n, n < 7 → ∀ ow, ow < 2 ^ n → popc ow ≤ n := by decide +kernel
theorem lab9_lt {n ow d : Nat} (hd : d < n) : lab9 n ow d < 2 ^ n := by
  have h1 : 2 ^ n - 1 < 2 ^ n := by have := Nat.one_le_two_pow (n := n); omega
  have h2 : (2 ^ n - 1) ^^^ ((2 ^ n - 1) &&& ow) < 2 ^ n := Nat.xor_lt_two_pow h1 (Nat.lt_of_le_of_lt Nat.and_le_left h1)
  unfold lab9
  split
  · exact Nat.pow_lt_pow_right (by decide) hd
  · exact Nat.xor_lt_two_pow h2 (Nat.lt_of_le_of_lt Nat.and_le_left h2)
/-- the tables, as the reference's loop and the class's sums want them -/
theorem ways_all {n : Nat} (hn : n ≤ 6) {G U : Nat → Bool} {lab : Nat → Nat} (hU : ∀ i, i < (pSn n).length → U i = G ((pMn n).getD i 0)) :
    (ftS U lab (pSn n).length).1 = sm (fun ow => if G ow = true then noF (n - popc ow) else 0) (2 ^ n) := by
  obtain ⟨t1, t2, t3, t4⟩ := tab9 n hn
  obtain ⟨o1, o2⟩ := tb_own_s _ _ t2
  have hM : ∀ x, x ∈ pMn n → x < 2 ^ n := by
    intro x hx
    obtain ⟨i, hi, e⟩ := List.getElem_of_mem hx
    have h2 := (o2 i (by omega)).1
    have h3 : (pMn n).getD i 0 = x := by rw [List.getD_eq_getElem?_getD, List.getElem?_eq_getElem hi, Option.getD_some, e]
    rw [← h3, ← h2]
    exact orr_lt _ _
  rw [ftS_sm, sm_cong (g := fun k => (fun x => if G x = true then 1 else 0) ((pMn n).getD k 0)) (fun i hi => by rw [hU i hi]), o1, sm_lsm (f := fun x => if G x = true then 1 else 0) (pMn n), cnt_ex _ hM]
  refine sm_cong (fun ow how => ?_)
  have := rngA_s t3 ow how
  rw [show lsm (fun x => if x = ow then 1 else 0) (pMn n) = noF (n - popc ow) by simpa using this]
theorem nI_inj6 {a b : Nat} (ha : a < 6) (hb : b < 6) (h : nI a = nI b) : a = b := by
  have h1 := nI_toInt (n := a) (by omega)
  have h2 := nI_toInt (n := b) (by omega)
  rw [h] at h1
  omega
theorem ways_d {n d : Nat} (hn : n ≤ 6) (hd : d < n) {G U : Nat → Bool} {lab : Nat → Nat} (hU : ∀ i, i < (pSn n).length → U i = G ((pMn n).getD i 0)) (hlab : ∀ i, i < (pSn n).length → lab i = lC ((pSn n).getD i 0) d) :
    (if (ftS U lab (pSn n).length).2.2 = true then (ftS U lab (pSn n).length).2.1 else -9) = oI (flL (pS (fun ow => if G ow = true then noF (n - popc ow) else 0) (2 ^ n - 1) d (2 ^ n)) 0 n) := by
  obtain ⟨t1, t2, t3, t4⟩ := tab9 n hn
  obtain ⟨o1, o2⟩ := tb_own_s _ _ t2
  have hX : ∀ j, ((pS (fun ow => if G ow = true then noF (n - popc ow) else 0) (2 ^ n - 1) d (2 ^ n)).testBit j = true ↔ ∃ i, i < (pSn n).length ∧ U i = true ∧ lab i = j) := by
    intro j
    rw [pS_bit]
    constructor
    · rintro ⟨ow, h1, h2, h3⟩
      have hG : G ow = true := by
        cases q : G ow with
        | true => rfl
        | false => exact absurd h2 (by show ¬ 0 < (if G ow = true then noF (n - popc ow) else 0); rw [q]; exact Nat.lt_irrefl 0)
      have hno : 0 < noF (n - popc ow) := by
        have h4 : 0 < (if G ow = true then noF (n - popc ow) else 0) := h2
        rw [if_pos hG] at h4
        exact h4
      have hj : j < n := by
        rcases Nat.lt_or_ge j n with q | q
        · exact q
        · rw [Nat.testBit_lt_two_pow (Nat.lt_of_lt_of_le (lab9_lt hd) (Nat.pow_le_pow_right (by decide) q))] at h3
          cases h3
      have h5 := rngA_s t4 ow h1
      rw [Bool.or_eq_true] at h5
      have h6 := h5.resolve_left (by simp; omega)
      have h7 := rngA_s (rngA_s h6 d hd) j hj
      rw [h3] at h7
      simp only [Bool.not_true, Bool.false_or] at h7
      obtain ⟨c, hc, hc2⟩ := List.any_eq_true.mp h7
      obtain ⟨i, i1, i2, i3⟩ := zpF_mem _ _ hc
      exact ⟨i, i1, by rw [hU i i1, i3]; exact hG, by rw [hlab i i1, i2]; simpa using hc2⟩
    · rintro ⟨i, i1, i2, i3⟩
      obtain ⟨p1, p2, p3⟩ := o2 i i1
      have how : (pMn n).getD i 0 < 2 ^ n := by rw [← p1]; exact orr_lt _ _
      refine ⟨(pMn n).getD i 0, how, ?_, ?_⟩
      · have h1 := rngA_s t3 _ how
        have h2 : 0 < lsm (fun x => if x = (pMn n).getD i 0 then 1 else 0) (pMn n) := lsm_pos _ i (by omega) (by rw [if_pos rfl]; exact Nat.zero_lt_one)
        rw [show lsm (fun x => if x = (pMn n).getD i 0 then 1 else 0) (pMn n) = noF (n - popc ((pMn n).getD i 0)) by simpa using h1] at h2
        show 0 < (if G ((pMn n).getD i 0) = true then noF (n - popc ((pMn n).getD i 0)) else 0)
        rw [← hU i i1, if_pos i2]
        exact h2
      · rw [← i3, hlab i i1]
        exact (p3 d hd).1
  have hlt : ∀ i, i < (pSn n).length → lab i < n := fun i hi => by rw [hlab i hi]; exact ((o2 i hi).2.2 d hd).2
  generalize pS (fun ow => if G ow = true then noF (n - popc ow) else 0) (2 ^ n - 1) d (2 ^ n) = X9 at hX
  obtain ⟨a, b⟩ := ftS_spec (U := U) (lab := lab) (pSn n).length
  by_cases h0 : (ftS U lab (pSn n).length).1 = 0
  · obtain ⟨a1, a2, a3⟩ := a h0
    rw [if_pos a2, a1]
    cases hf : flL X9 0 n with
    | none => rfl
    | some v =>
      obtain ⟨f1, f2, f3⟩ := flL_some n 0 v hf
      have h1 : X9.testBit v = true := by rw [f1, z_pow_bit]; simp
      obtain ⟨i, i1, i2, i3⟩ := (hX v).mp h1
      rw [a3 i i1] at i2
      cases i2
  · obtain ⟨⟨k0, k1, k2, k3⟩, b2⟩ := b (Nat.pos_of_ne_zero h0)
    by_cases hal : (ftS U lab (pSn n).length).2.2 = true
    · rw [if_pos hal, k3]
      have h1 : ∀ i, i < (pSn n).length → U i = true → lab i = lab k0 := fun i hi hu => nI_inj6 (by have := hlt i hi; omega) (by have := hlt k0 k1; omega) (by rw [← k3]; exact b2.mp hal i hi hu)
      have h2 : X9 = 2 ^ lab k0 := by
        apply Nat.eq_of_testBit_eq
        intro j
        rw [z_pow_bit]
        by_cases e : lab k0 = j
        · rw [decide_eq_true e]
          exact (hX j).mpr ⟨k0, k1, k2, e⟩
        · rw [decide_eq_false e]
          cases q : X9.testBit j with
          | false => rfl
          | true =>
            obtain ⟨i, i1, i2, i3⟩ := (hX j).mp q
            exact absurd ((h1 i i1 i2).symm.trans i3) e
      cases hf : flL X9 0 n with
      | none => exact absurd h2 (flL_none n 0 hf _ (Nat.zero_le _) (by have := hlt k0 k1; omega))
      | some v =>
        obtain ⟨f1, f2, f3⟩ := flL_some n 0 v hf
        have h5 : (2 ^ lab k0).testBit v = (2 ^ v).testBit v := by rw [h2.symm.trans f1]
        rw [z_pow_bit, z_pow_bit] at h5
        have : lab k0 = v := of_decide_eq_true (h5.trans (decide_eq_true rfl))
        show nI (lab k0) = nI v
        rw [this]
    · rw [if_neg hal]
      cases hf : flL X9 0 n with
      | none => rfl
      | some v =>
        obtain ⟨f1, f2, f3⟩ := flL_some n 0 v hf
        refine absurd (b2.mpr (fun i hi hu => ?_)) hal
        have h3 : ∀ i, i < (pSn n).length → U i = true → lab i = v := fun i hi hu => by
          have h4 := (hX (lab i)).mpr ⟨i, hi, hu, rfl⟩
          rw [f1, z_pow_bit] at h4
          exact (of_decide_eq_true h4).symm
        rw [k3, h3 i hi hu, h3 k0 k1 k2]
