/-! calls that change the decanters, on both sides -/
/-- the reference's row behind a kept step, but for the state of now -/
theorem now_PR {n : Nat} {lv te la lv' te' la' st : Nat → Nat} {mo dn ea bn mo' dn' ea' bn' k : Nat} {g g' : Nat → Nat} (hn : n ≤ 6) (h : PR n lv te la mo dn ea bn st k g) (hx : ∀ x, 22 ≤ x → g' x = knF g x) (hS : SN n lv' te' la' mo' dn' ea' bn' g') : PR n lv' te' la' mo' dn' ea' bn' (remS lv te la mo dn ea bn st k) (remK k) g' :=
  (h.rem hn).cur (fun x h1 _ => (hx x h1).symm) hS hn
theorem now_hi {g g' : Nat → Nat} (hk : g 22 ≤ 10) (hx : ∀ x, 22 ≤ x → g' x = knF g x) : ∀ x, 243 ≤ x → g' x = g x := fun x h => by rw [hx x (by omega), knF_hi hk h]
theorem month_SN {n : Nat} {lv te la st ai ar : Nat → Nat} {mo dn ea bn k : Nat} {g g' : Nat → Nat} (hn : n ≤ 6) (h : PR n lv te la mo dn ea bn st k g) (hmo : mo < 999) (ha : ∀ d, d < n → ai d = ar d)
    (hg : g' = updN (blk (blk (knF g) 0 n (fun m => g m - 1 * ar m)) 6 n (fun m => min ((blk (knF g) 0 n (fun m => g m - 1 * ar m)) (6 + m)) ((blk (knF g) 0 n (fun m => g m - 1 * ar m)) m))) 18 (g 18 + 1)) :
    SN n (lsL lv ai n) (lsT te lv ai n) la (mo + 1) dn ea bn g' ∧ ∀ x, 22 ≤ x → g' x = knF g x := by
  have hS := (h.rem hn).1
  have b0 : ∀ d, d < n → (blk (knF g) 0 n (fun m => g m - 1 * ar m)) d = g d - ar d := fun d hd => by
    have h1 := blk_in (base := knF g) (off := 0) (val := fun m => g m - 1 * ar m) hd
    rw [Nat.zero_add] at h1
    rw [h1, Nat.one_mul]
  have b1 : ∀ x, n ≤ x → (blk (knF g) 0 n (fun m => g m - 1 * ar m)) x = knF g x := fun x hx => blk_hi (by omega)
  have hlo := fun (x : Nat) (hx : x < 22) => knF_lo g hx
  obtain ⟨-, ⟨m1, m2, m3, m4⟩, -, -, -, q6, q7⟩ := h.1
  subst hg
  refine ⟨SN.lose (f := ai) hn hS (fun d hd => ⟨?_, ?_⟩) (fun d h1 h2 => ⟨?_, ?_⟩) (fun d hd => ?_) ⟨?_, ?_, ?_, ?_⟩ (by omega) q7, fun x hx => ?_⟩
  · rw [updN_n (by omega), blk_lo (by omega), b0 d hd, hlo d (by omega), ha d hd]
  · rw [updN_n (by omega), blk_in hd, b1 _ (by omega), b0 d hd, hlo d (by omega), ha d hd]
  · rw [updN_n (by omega), blk_lo (by omega), b1 d h1]
  · rw [updN_n (by omega), blk_hi (by omega), b1 _ (by omega)]
  · rw [updN_n (by omega), blk_hi (by omega), b1 _ (by omega)]
  · rw [updN_s, m1]
  · rw [updN_n (by omega), blk_hi (by omega), b1 _ (by omega), hlo _ (by omega)]; exact m2
  · rw [updN_n (by omega), blk_hi (by omega), b1 _ (by omega), hlo _ (by omega)]; exact m3
  · rw [updN_n (by omega), blk_hi (by omega), b1 _ (by omega), hlo _ (by omega)]; exact m4
  · rw [updN_n (by omega), blk_hi (by omega), b1 _ (by omega)]
theorem tops_SN {n d m9 : Nat} {lv te la st : Nat → Nat} {mo dn ea bn k : Nat} {g g' : Nat → Nat} (hn : n ≤ 6) (h : PR n lv te la mo dn ea bn st k g) (hd : d < n) (hm : lv d + m9 ≤ 40)
    (hg : g' = updN (updN (knF g) d (g d + m9)) (6 + d) (g (6 + d) + m9)) :
    SN n (updN lv d (lv d + m9)) (updN te d (te d + m9)) la mo dn ea bn g' ∧ ∀ x, 22 ≤ x → g' x = knF g x := by
  have hlo := fun (x : Nat) (hx : x < 22) => knF_lo g hx
  obtain ⟨q1, ⟨m1, m2, m3, m4⟩, q3, q4, q5, q6, q7⟩ := h.1
  obtain ⟨d1, d2, d3, d4⟩ := q1 d hd
  subst hg
  refine ⟨⟨fun e he => ?_, ⟨?_, ?_, ?_, ?_⟩, fun e he => ?_, fun e he => ?_, q5, q6, q7⟩, fun x hx => ?_⟩
  · by_cases e1 : e = d
    · subst e1
      rw [updN_s, updN_s, updN_n (show e ≠ 6 + e by omega), updN_s, updN_s, updN_n (show 12 + e ≠ 6 + e by omega), updN_n (show 12 + e ≠ e by omega), hlo _ (by omega), d1, d2]
      exact ⟨rfl, rfl, d3, by omega⟩
    · rw [updN_n e1, updN_n e1, updN_n (show e ≠ 6 + d by omega), updN_n e1, updN_n (show 6 + e ≠ 6 + d by omega), updN_n (show 6 + e ≠ d by omega), updN_n (show 12 + e ≠ 6 + d by omega), updN_n (show 12 + e ≠ d by omega), hlo _ (by omega), hlo _ (by omega), hlo _ (by omega)]
      exact q1 e he
  · rw [updN_n (by omega), updN_n (by omega), hlo _ (by omega)]; exact m1
  · rw [updN_n (by omega), updN_n (by omega), hlo _ (by omega)]; exact m2
  · rw [updN_n (by omega), updN_n (by omega), hlo _ (by omega)]; exact m3
  · rw [updN_n (by omega), updN_n (by omega), hlo _ (by omega)]; exact m4
  · obtain ⟨a1, a2, a3⟩ := q3 e he
    refine ⟨?_, ?_, a3⟩
    · unfold updN; split
      · exact hm
      · exact a1
    · unfold updN; split
      · omega
      · exact a2
  · obtain ⟨a1, a2, a3⟩ := q4 e he
    rw [updN_n (show e ≠ 6 + d by omega), updN_n (show 12 + e ≠ 6 + d by omega), updN_n (show 12 + e ≠ d by omega), hlo (12 + e) (by omega)]
    refine ⟨?_, ?_, a3⟩
    · by_cases e1 : e = d
      · rw [e1, updN_s]; omega
      · rw [updN_n e1, hlo _ (by omega)]; exact a1
    · by_cases e1 : e = d
      · rw [e1, updN_s]; omega
      · rw [updN_n (show 6 + e ≠ 6 + d by omega), updN_n (show 6 + e ≠ d by omega), hlo _ (by omega)]; exact a2
  · rw [updN_n (by omega), updN_n (by omega)]
theorem labels_SN {n d e9 : Nat} {lv te la st : Nat → Nat} {mo dn ea bn k : Nat} {g g' : Nat → Nat} (hn : n ≤ 6) (h : PR n lv te la mo dn ea bn st k g) (hd : d < n) (he : e9 < n) (hne : d ≠ e9)
    (hg : g' = updN (updN (knF g) (12 + d) (g (12 + e9))) (12 + e9) (g (12 + d))) :
    SN n lv te (updN (updN la d (la e9)) e9 (la d)) mo dn ea bn g' ∧ (∀ x, 22 ≤ x → g' x = knF g x) ∧ ∀ i, i < n → updN (updN la d (la e9)) e9 (la d) i = g' (12 + i) := by
  have hlo := fun (x : Nat) (hx : x < 22) => knF_lo g hx
  obtain ⟨q1, ⟨m1, m2, m3, m4⟩, q3, q4, q5, q6, q7⟩ := h.1
  obtain ⟨-, -, d3, -⟩ := q1 d hd
  obtain ⟨-, -, e3, -⟩ := q1 e9 he
  subst hg
  have hla : ∀ i, i < n → updN (updN la d (la e9)) e9 (la d) i = updN (updN (knF g) (12 + d) (g (12 + e9))) (12 + e9) (g (12 + d)) (12 + i) := fun i hi => by
    by_cases x1 : i = e9
    · rw [x1, updN_s, updN_s]; exact d3
    · rw [updN_n x1, updN_n (show 12 + i ≠ 12 + e9 by omega)]
      by_cases x2 : i = d
      · rw [x2, updN_s, updN_s]; exact e3
      · rw [updN_n x2, updN_n (show 12 + i ≠ 12 + d by omega), hlo _ (by omega)]
        exact (q1 i hi).2.2.1
  refine ⟨⟨fun e he2 => ⟨?_, ?_, hla e he2, (q1 e he2).2.2.2⟩, ⟨?_, ?_, ?_, ?_⟩, fun e he2 => ?_, fun e he2 => ?_, q5.swap hd he hne, q6, q7⟩, fun x hx => ?_, hla⟩
  · rw [updN_n (by omega), updN_n (by omega), hlo _ (by omega)]; exact (q1 e he2).1
  · rw [updN_n (by omega), updN_n (by omega), hlo _ (by omega)]; exact (q1 e he2).2.1
  · rw [updN_n (by omega), updN_n (by omega), hlo _ (by omega)]; exact m1
  · rw [updN_n (by omega), updN_n (by omega), hlo _ (by omega)]; exact m2
  · rw [updN_n (by omega), updN_n (by omega), hlo _ (by omega)]; exact m3
  · rw [updN_n (by omega), updN_n (by omega), hlo _ (by omega)]; exact m4
  · obtain ⟨a1, a2, a3⟩ := q3 e he2
    refine ⟨a1, a2, ?_⟩
    unfold updN
    split
    · exact (q3 d (by omega)).2.2
    · split
      · exact (q3 e9 (by omega)).2.2
      · exact a3
  · obtain ⟨a1, a2, a3⟩ := q4 e he2
    rw [updN_n (show e ≠ 12 + e9 by omega), updN_n (show e ≠ 12 + d by omega), updN_n (show 6 + e ≠ 12 + e9 by omega), updN_n (show 6 + e ≠ 12 + d by omega), hlo _ (by omega), hlo _ (by omega)]
    refine ⟨a1, a2, ?_⟩
    by_cases x1 : e = e9
    · rw [x1, updN_s]; exact (q4 d (by omega)).2.2
    · rw [updN_n (show 12 + e ≠ 12 + e9 by omega)]
      by_cases x2 : e = d
      · rw [x2, updN_s]; exact (q4 e9 (by omega)).2.2
      · rw [updN_n (show 12 + e ≠ 12 + d by omega), hlo _ (by omega)]; exact a3
  · rw [updN_n (by omega), updN_n (by omega)]
theorem pours_SN {n a : Nat} {lv te la st W9 nd f : Nat → Nat} {mo dn ea bn k wx : Nat} {g g' : Nat → Nat} {b9 : Bool} (hn : n ≤ 6) (h : PR n lv te la mo dn ea bn st k g) (w1 : ∀ i, i < n → la i < n ∧ W9 (la i) = i) (w2 : ∀ j, j < n → W9 j < n ∧ la (W9 j) = j) (ha : a < 5) (hf : ∀ q, q < n → f q = nd (6 * a + q))
    (hg : g' = updN (updN (updN (blk (puS (knF g) W9 (fun i => nd (6 * a + i)) n) 6 n (fun m => min ((puS (knF g) W9 (fun i => nd (6 * a + i)) n) (6 + m)) ((puS (knF g) W9 (fun i => nd (6 * a + i)) n) m))) 19 (g 19 ||| 2 ^ a)) 20 (g 20 + (if b9 = true then wx else 0))) 21 (g 21 + (if b9 = true then 0 else 1))) :
    SN n (lsL lv (fun i => f (la i)) n) (lsT te lv (fun i => f (la i)) n) la mo (dn ||| 2 ^ a) (if b9 = true then ea + wx else ea) (if b9 = true then bn else bn + 1) g' ∧ ∀ x, 22 ≤ x → g' x = knF g x := by
  have hS := (h.rem hn).1
  have hlo := fun (x : Nat) (hx : x < 22) => knF_lo g hx
  have hinj : ∀ i j, i < n → j < n → W9 i = W9 j → i = j := fun i j hi hj e => by rw [← (w2 i hi).2, e, (w2 j hj).2]
  obtain ⟨-, ⟨m1, m2, m3, m4⟩, -, -, -, q6, q7⟩ := h.1
  have b0 : ∀ d, d < n → puS (knF g) W9 (fun i => nd (6 * a + i)) n d = knF g d - f (la d) := fun d hd => by
    have h1 := puS_at (base := knF g) (f := fun i => nd (6 * a + i)) hinj n (Nat.le_refl n) (la d) (w1 d hd).1
    rw [(w1 d hd).2] at h1
    rw [h1, hf _ (w1 d hd).1]
  have b1 : ∀ x, n ≤ x → puS (knF g) W9 (fun i => nd (6 * a + i)) n x = knF g x := fun x hx => puS_out n (fun j hj => by have := (w2 j hj).1; omega)
  subst hg
  refine ⟨SN.lose (f := fun i => f (la i)) hn hS (fun d hd => ⟨?_, ?_⟩) (fun d h1 h2 => ⟨?_, ?_⟩) (fun d hd => ?_) ⟨?_, ?_, ?_, ?_⟩ q6 (z_or32 q7 (z_pow5 ha)), fun x hx => ?_⟩
  · rw [updN_n (by omega), updN_n (by omega), updN_n (by omega), blk_lo (by omega), b0 d hd]
  · rw [updN_n (by omega), updN_n (by omega), updN_n (by omega), blk_in hd, b1 _ (by omega), b0 d hd]
  · rw [updN_n (by omega), updN_n (by omega), updN_n (by omega), blk_lo (by omega), b1 d h1]
  · rw [updN_n (by omega), updN_n (by omega), updN_n (by omega), blk_hi (by omega), b1 _ (by omega)]
  · rw [updN_n (by omega), updN_n (by omega), updN_n (by omega), blk_hi (by omega), b1 _ (by omega)]
  · rw [updN_n (by omega), updN_n (by omega), updN_n (by omega), blk_hi (by omega), b1 _ (by omega), hlo _ (by omega)]; exact m1
  · rw [updN_n (by omega), updN_n (by omega), updN_s, m2]
  · rw [updN_n (by omega), updN_s, m3]; cases b9 <;> rfl
  · rw [updN_s, m4]; cases b9 <;> rfl
  · rw [updN_n (by omega), updN_n (by omega), updN_n (by omega), blk_hi (by omega), b1 _ (by omega)]
def wellB (n : Nat) (f la te : Nat → Nat) : Bool := decide (∀ d, d < n → f (la d) = 0 ∨ la d = d ∧ te d = 0)
theorem wellB_m {n a : Nat} {la te g nd W9 f : Nat → Nat} (w1 : ∀ i, i < n → la i < n ∧ W9 (la i) = i) (w2 : ∀ j, j < n → W9 j < n ∧ la (W9 j) = j) (ht : ∀ d, d < n → te d = g (6 + d)) (hf : ∀ q, q < n → f q = nd (6 * a + q)) :
    wellB n f la te = true ↔ ∀ d, d < n → nd (6 * a + d) = 0 ∨ W9 d = d ∧ g (6 + W9 d) = 0 := by
  unfold wellB
  rw [decide_eq_true_iff]
  constructor
  · intro h j hj
    have h1 := h (W9 j) (w2 j hj).1
    rw [(w2 j hj).2, hf j hj, ht _ (w2 j hj).1] at h1
    rcases h1 with h1 | ⟨h1, h2⟩
    · exact Or.inl h1
    · exact Or.inr ⟨h1.symm, h2⟩
  · intro h d hd
    have h1 := h (la d) (w1 d hd).1
    rw [(w1 d hd).2, ← hf _ (w1 d hd).1, ← ht d hd] at h1
    rcases h1 with h1 | ⟨h1, h2⟩
    · exact Or.inl h1
    · exact Or.inr ⟨h1.symm, h2⟩
