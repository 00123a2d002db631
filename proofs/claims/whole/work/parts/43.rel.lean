/-! what both sides hold, side by side -/
def PM (n : Nat) (la : Nat → Nat) : Prop := ∃ W9 : Nat → Nat, (∀ i, i < n → la i < n ∧ W9 (la i) = i) ∧ ∀ j, j < n → W9 j < n ∧ la (W9 j) = j
theorem PM.cong {n : Nat} {la lb : Nat → Nat} (h : ∀ i, i < n → la i = lb i) (q : PM n la) : PM n lb := by
  obtain ⟨W9, h1, h2⟩ := q
  exact ⟨W9, fun i hi => by rw [← h i hi]; exact h1 i hi, fun j hj => ⟨(h2 j hj).1, by rw [← h _ (h2 j hj).1]; exact (h2 j hj).2⟩⟩
theorem PM.inj {n : Nat} {la : Nat → Nat} (q : PM n la) {i j : Nat} (hi : i < n) (hj : j < n) (e : la i = la j) : i = j := by
  obtain ⟨W9, h1, -⟩ := q
  rw [← (h1 i hi).2, e, (h1 j hj).2]
theorem PM.swap {n d e9 : Nat} {la : Nat → Nat} (q : PM n la) (hd : d < n) (he : e9 < n) (hne : d ≠ e9) : PM n (updN (updN la d (la e9)) e9 (la d)) := by
  have hinj : la d ≠ la e9 := fun h => hne (q.inj hd he h)
  obtain ⟨W9, h1, h2⟩ := q
  refine ⟨updN (updN W9 (la d) e9) (la e9) d, fun i hi => ?_, fun j hj => ?_⟩
  · by_cases e1 : i = e9
    · subst e1
      rw [updN_s]
      exact ⟨(h1 d hd).1, by rw [updN_n hinj, updN_s]⟩
    · rw [updN_n e1]
      by_cases e2 : i = d
      · subst e2
        rw [updN_s]
        exact ⟨(h1 e9 he).1, by rw [updN_s]⟩
      · rw [updN_n e2]
        refine ⟨(h1 i hi).1, ?_⟩
        rw [updN_n (fun h => e1 (by rw [← (h1 i hi).2, h, (h1 e9 he).2])), updN_n (fun h => e2 (by rw [← (h1 i hi).2, h, (h1 d hd).2]))]
        exact (h1 i hi).2
  · by_cases e1 : j = la e9
    · subst e1
      rw [updN_s]
      exact ⟨hd, by rw [updN_n hne, updN_s]⟩
    · rw [updN_n e1]
      by_cases e2 : j = la d
      · subst e2
        rw [updN_s]
        exact ⟨he, by rw [updN_s]⟩
      · rw [updN_n e2]
        refine ⟨(h2 j hj).1, ?_⟩
        rw [updN_n (fun h => e1 (by rw [← (h2 j hj).2, h])), updN_n (fun h => e2 (by rw [← (h2 j hj).2, h]))]
        exact (h2 j hj).2
/-- one state of the decanters, on both sides: the reference's stands in g from 0 on -/
def SN (n : Nat) (lv te la : Nat → Nat) (mo dn ea bn : Nat) (g : Nat → Nat) : Prop :=
  (∀ d, d < n → lv d = g d ∧ te d = g (6 + d) ∧ la d = g (12 + d) ∧ te d ≤ lv d) ∧ (mo = g 18 ∧ dn = g 19 ∧ ea = g 20 ∧ bn = g 21) ∧
  (∀ d, d < 6 → lv d ≤ 40 ∧ te d ≤ 40 ∧ la d < 6) ∧ (∀ d, d < 6 → g d ≤ 40 ∧ g (6 + d) ≤ 40 ∧ g (12 + d) < 6) ∧ PM n la ∧ mo ≤ 999 ∧ dn < 32
theorem SN.cong {n : Nat} {lv te la lv' te' la' : Nat → Nat} {mo dn ea bn : Nat} {g g' : Nat → Nat} (hn : n ≤ 6) (h : ∀ d, d < 6 → lv d = lv' d ∧ te d = te' d ∧ la d = la' d) (hg : ∀ x, x < 22 → g x = g' x) (q : SN n lv te la mo dn ea bn g) : SN n lv' te' la' mo dn ea bn g' := by
  obtain ⟨q1, ⟨m1, m2, m3, m4⟩, q3, q4, q5, q6, q7⟩ := q
  refine ⟨fun d hd => ?_, ⟨by rw [← hg _ (by decide)]; exact m1, by rw [← hg _ (by decide)]; exact m2, by rw [← hg _ (by decide)]; exact m3, by rw [← hg _ (by decide)]; exact m4⟩, fun d hd => ?_, fun d hd => ?_, q5.cong (fun i hi => (h i (by omega)).2.2), q6, q7⟩
  · obtain ⟨h1, h2, h3⟩ := h d (by omega)
    rw [← h1, ← h2, ← h3, ← hg _ (by omega), ← hg _ (by omega), ← hg _ (by omega)]
    exact q1 d hd
  · obtain ⟨h1, h2, h3⟩ := h d hd
    rw [← h1, ← h2, ← h3]
    exact q3 d hd
  · rw [← hg _ (by omega), ← hg _ (by omega), ← hg _ (by omega)]
    exact q4 d hd
/-- a state and the steps before it -/
def PR (n : Nat) (lv te la : Nat → Nat) (mo dn ea bn : Nat) (st : Nat → Nat) (k : Nat) (g : Nat → Nat) : Prop :=
  SN n lv te la mo dn ea bn g ∧ k = g 22 ∧ k ≤ 10 ∧ ∀ j, j < k → SN n (fun i => st (j * 22 + i)) (fun i => st (j * 22 + 6 + i)) (fun i => st (j * 22 + 12 + i)) (st (j * 22 + 18)) (st (j * 22 + 18 + 1)) (st (j * 22 + 18 + 2)) (st (j * 22 + 18 + 3)) (fun x => g (23 + 22 * j + x))
theorem PR.cong {n : Nat} {lv te la lv' te' la' : Nat → Nat} {mo dn ea bn k : Nat} {st st' g g' : Nat → Nat} (hn : n ≤ 6) (h : ∀ d, d < 6 → lv d = lv' d ∧ te d = te' d ∧ la d = la' d) (hs : ∀ x, x < 220 → st x = st' x) (hg : ∀ x, x < 243 → g x = g' x) (q : PR n lv te la mo dn ea bn st k g) : PR n lv' te' la' mo dn ea bn st' k g' := by
  obtain ⟨q1, q2, q3, q4⟩ := q
  refine ⟨q1.cong hn h (fun x hx => hg x (by omega)), by rw [← hg _ (by decide)]; exact q2, q3, fun j hj => ?_⟩
  have h1 := q4 j hj
  rw [hs (j * 22 + 18) (by omega), hs (j * 22 + 18 + 1) (by omega), hs (j * 22 + 18 + 2) (by omega), hs (j * 22 + 18 + 3) (by omega)] at h1
  exact h1.cong hn (fun d hd => ⟨hs _ (by omega), hs _ (by omega), hs _ (by omega)⟩) (fun x hx => hg _ (by omega))
/-- the state of now, another -/
theorem PR.cur {n : Nat} {lv te la lv' te' la' : Nat → Nat} {mo dn ea bn mo' dn' ea' bn' k : Nat} {st g g' : Nat → Nat} (q : PR n lv te la mo dn ea bn st k g) (hg : ∀ x, 22 ≤ x → x < 243 → g x = g' x) (h : SN n lv' te' la' mo' dn' ea' bn' g') (hn : n ≤ 6) : PR n lv' te' la' mo' dn' ea' bn' st k g' := by
  obtain ⟨q1, q2, q3, q4⟩ := q
  refine ⟨h, by rw [← hg _ (by decide) (by decide)]; exact q2, q3, fun j hj => ?_⟩
  exact (q4 j hj).cong hn (fun d hd => ⟨rfl, rfl, rfl⟩) (fun x hx => hg _ (by omega) (by omega))
theorem cpyN_in {f g : Nat → Nat} {sp dp n k : Nat} (h : dp ≤ k ∧ k < dp + n) : cpyN f g sp dp n k = f (sp + (k - dp)) := if_pos h
theorem cpyN_out {f g : Nat → Nat} {sp dp n k : Nat} (h : ¬ (dp ≤ k ∧ k < dp + n)) : cpyN f g sp dp n k = g k := if_neg h
theorem push_lo {lv te la st : Nat → Nat} {mo dn ea bn k x : Nat} (h : x < k * 22) : pushS lv te la mo dn ea bn st k x = st x := by
  unfold pushS
  rw [updN_n (by omega), updN_n (by omega), updN_n (by omega), updN_n (by omega), cpyN_out (by omega), cpyN_out (by omega), cpyN_out (by omega)]
theorem push_at {lv te la st : Nat → Nat} {mo dn ea bn k : Nat} : (∀ i, i < 6 → pushS lv te la mo dn ea bn st k (k * 22 + i) = lv i ∧ pushS lv te la mo dn ea bn st k (k * 22 + 6 + i) = te i ∧ pushS lv te la mo dn ea bn st k (k * 22 + 12 + i) = la i) ∧
    pushS lv te la mo dn ea bn st k (k * 22 + 18) = mo ∧ pushS lv te la mo dn ea bn st k (k * 22 + 18 + 1) = dn ∧ pushS lv te la mo dn ea bn st k (k * 22 + 18 + 2) = ea ∧ pushS lv te la mo dn ea bn st k (k * 22 + 18 + 3) = bn := by
  unfold pushS
  refine ⟨fun i hi => ⟨?_, ?_, ?_⟩, ?_, ?_, ?_, ?_⟩
  · rw [updN_n (by omega), updN_n (by omega), updN_n (by omega), updN_n (by omega), cpyN_out (by omega), cpyN_out (by omega), cpyN_in (by omega)]
    congr 1; omega
  · rw [updN_n (by omega), updN_n (by omega), updN_n (by omega), updN_n (by omega), cpyN_out (by omega), cpyN_in (by omega)]
    congr 1; omega
  · rw [updN_n (by omega), updN_n (by omega), updN_n (by omega), updN_n (by omega), cpyN_in (by omega)]
    congr 1; omega
  · rw [updN_n (by omega), updN_n (by omega), updN_n (by omega), updN_s]
  · rw [updN_n (by omega), updN_n (by omega), updN_s]
  · rw [updN_n (by omega), updN_s]
  · rw [updN_s]
/-- a step is kept on both sides -/
theorem PR.rem {n : Nat} {lv te la : Nat → Nat} {mo dn ea bn k : Nat} {st g : Nat → Nat} (hn : n ≤ 6) (q : PR n lv te la mo dn ea bn st k g) : PR n lv te la mo dn ea bn (remS lv te la mo dn ea bn st k) (remK k) (knF g) := by
  obtain ⟨q1, q2, q3, q4⟩ := q
  have hlo : ∀ x, x < 22 → g x = knF g x := fun x hx => (knF_lo g hx).symm
  have e22 : knF g 22 = knK g + 1 := updN_s
  have hblk : ∀ j x, 23 + 22 * j + x ≠ 22 := fun j x => by omega
  by_cases hk : k < 10
  · have hkn : knK g = k := by unfold knK; rw [if_neg (by omega), q2]
    have hkb : knB g = g := by unfold knB; exact if_neg (by omega)
    rw [show remS lv te la mo dn ea bn st k = pushS lv te la mo dn ea bn st k from if_pos hk, show remK k = k + 1 from if_pos hk]
    refine ⟨q1.cong hn (fun _ _ => ⟨rfl, rfl, rfl⟩) hlo, by rw [e22, hkn], by omega, fun j hj => ?_⟩
    by_cases hjk : j = k
    · subst hjk
      obtain ⟨p1, p2, p3, p4, p5⟩ := push_at (lv := lv) (te := te) (la := la) (st := st) (mo := mo) (dn := dn) (ea := ea) (bn := bn) (k := j)
      rw [p2, p3, p4, p5]
      refine q1.cong hn (fun d hd => ⟨(p1 d hd).1.symm, (p1 d hd).2.1.symm, (p1 d hd).2.2.symm⟩) (fun x hx => ?_)
      show g x = updN (blk (knB g) (23 + 22 * knK g) 22 (knB g)) 22 (knK g + 1) (23 + 22 * j + x)
      rw [updN_n (hblk j x), hkn, hkb, blk_in hx]
    · have h1 := q4 j (by omega)
      rw [push_lo (by omega), push_lo (by omega), push_lo (by omega), push_lo (by omega)]
      refine h1.cong hn (fun d hd => ⟨(push_lo (by omega)).symm, (push_lo (by omega)).symm, (push_lo (by omega)).symm⟩) (fun x hx => ?_)
      show g (23 + 22 * j + x) = updN (blk (knB g) (23 + 22 * knK g) 22 (knB g)) 22 (knK g + 1) (23 + 22 * j + x)
      rw [updN_n (hblk j x), hkn, hkb, blk_lo (by omega)]
  · have hk10 : k = 10 := by omega
    have hkn : knK g = 9 := by unfold knK; rw [if_pos (by omega)]
    have hkb : knB g = updN (blk g 23 198 (fun m => g (45 + m))) 22 9 := by unfold knB; exact if_pos (by omega)
    rw [show remS lv te la mo dn ea bn st k = pushS lv te la mo dn ea bn (cpyN st st 22 0 (9 * 22)) 9 from if_neg hk, show remK k = 10 from if_neg hk]
    refine ⟨q1.cong hn (fun _ _ => ⟨rfl, rfl, rfl⟩) hlo, by rw [e22, hkn], by omega, fun j hj => ?_⟩
    by_cases hjk : j = 9
    · subst hjk
      obtain ⟨p1, p2, p3, p4, p5⟩ := push_at (lv := lv) (te := te) (la := la) (st := cpyN st st 22 0 (9 * 22)) (mo := mo) (dn := dn) (ea := ea) (bn := bn) (k := 9)
      rw [p2, p3, p4, p5]
      refine q1.cong hn (fun d hd => ⟨(p1 d hd).1.symm, (p1 d hd).2.1.symm, (p1 d hd).2.2.symm⟩) (fun x hx => ?_)
      show g x = updN (blk (knB g) (23 + 22 * knK g) 22 (knB g)) 22 (knK g + 1) (23 + 22 * 9 + x)
      rw [updN_n (hblk 9 x), hkn, blk_in hx, hkb, updN_n (by omega), blk_lo (by omega)]
    · have hs : ∀ x, x < 198 → pushS lv te la mo dn ea bn (cpyN st st 22 0 (9 * 22)) 9 x = st (22 + x) := fun x hx => by
        rw [push_lo (by omega), cpyN_in (by omega)]; rfl
      have h1 := q4 (j + 1) (by omega)
      rw [hs _ (by omega), hs _ (by omega), hs _ (by omega), hs _ (by omega), show 22 + (j * 22 + 18) = (j + 1) * 22 + 18 by omega, show 22 + (j * 22 + 18 + 1) = (j + 1) * 22 + 18 + 1 by omega, show 22 + (j * 22 + 18 + 2) = (j + 1) * 22 + 18 + 2 by omega, show 22 + (j * 22 + 18 + 3) = (j + 1) * 22 + 18 + 3 by omega]
      refine h1.cong hn (fun d hd => ⟨?_, ?_, ?_⟩) (fun x hx => ?_)
      · rw [hs _ (by omega)]; congr 1; omega
      · rw [hs _ (by omega)]; congr 1; omega
      · rw [hs _ (by omega)]; congr 1; omega
      · show g (23 + 22 * (j + 1) + x) = updN (blk (knB g) (23 + 22 * knK g) 22 (knB g)) 22 (knK g + 1) (23 + 22 * j + x)
        rw [updN_n (hblk j x), hkn, blk_lo (by omega), hkb, updN_n (hblk j x), show 23 + 22 * j + x = 23 + (22 * j + x) by omega, blk_in (by omega)]
        congr 1; omega
theorem knF_hi {g : Nat → Nat} {x : Nat} (hk : g 22 ≤ 10) (h : 243 ≤ x) : knF g x = g x := by
  have h1 := knK_le hk
  unfold knF
  rw [updN_n (by omega), blk_hi (by omega)]
  unfold knB
  split
  · rw [updN_n (by omega), blk_hi (by omega)]
  · rfl
/-- a step back on both sides -/
theorem PR.undo {n : Nat} {lv te la : Nat → Nat} {mo dn ea bn k : Nat} {st g : Nat → Nat} (hn : n ≤ 6) (q : PR n lv te la mo dn ea bn st k g) (hk : 0 < k) :
    PR n (cpyN st lv ((k - 1) * 22) 0 6) (cpyN st te ((k - 1) * 22 + 6) 0 6) (cpyN st la ((k - 1) * 22 + 12) 0 6) (st ((k - 1) * 22 + 18)) (st ((k - 1) * 22 + 18 + 1)) (st ((k - 1) * 22 + 18 + 2)) (st ((k - 1) * 22 + 18 + 3)) st (k - 1) (blk (updN g 22 (g 22 - 1)) 0 22 (fun m => g (23 + 22 * (g 22 - 1) + m))) := by
  obtain ⟨q1, q2, q3, q4⟩ := q
  rw [← q2]
  have hg : ∀ x, x < 22 → g (23 + 22 * (k - 1) + x) = blk (updN g 22 (k - 1)) 0 22 (fun m => g (23 + 22 * (k - 1) + m)) x := fun x hx => by
    have h1 := blk_in (base := updN g 22 (k - 1)) (off := 0) (i := 22) (val := fun m => g (23 + 22 * (k - 1) + m)) hx
    rw [Nat.zero_add] at h1
    exact h1.symm
  have hh : ∀ x, 22 < x → g x = blk (updN g 22 (k - 1)) 0 22 (fun m => g (23 + 22 * (k - 1) + m)) x := fun x hx => by
    rw [blk_hi (by omega), updN_n (by omega)]
  refine ⟨(q4 (k - 1) (by omega)).cong hn (fun d hd => ⟨?_, ?_, ?_⟩) hg, by rw [blk_hi (by omega), updN_s], by omega, fun j hj => ?_⟩
  · rw [cpyN_in (by omega)]; rfl
  · rw [cpyN_in (by omega)]; rfl
  · rw [cpyN_in (by omega)]; rfl
  · exact (q4 j (by omega)).cong hn (fun _ _ => ⟨rfl, rfl, rfl⟩) (fun x hx => hh _ (by omega))
/-! what is poured, what goes off -/
theorem puS_at {base W9 f : Nat → Nat} {n : Nat} (hinj : ∀ i j, i < n → j < n → W9 i = W9 j → i = j) : ∀ k, k ≤ n → ∀ j, j < k → puS base W9 f k (W9 j) = base (W9 j) - f j
  | 0, _, j, hj => absurd hj (Nat.not_lt_zero j)
  | k + 1, hk, j, hj => by
    show updN (puS base W9 f k) (W9 k) (base (W9 k) - f k) (W9 j) = _
    by_cases e : j = k
    · subst e; rw [updN_s]
    · rw [updN_n (fun h => e (hinj j k (by omega) (by omega) h)), puS_at hinj k (by omega) j (by omega)]
theorem SN.lose {n : Nat} {lv te la f : Nat → Nat} {mo dn ea bn mo' dn' ea' bn' : Nat} {g g' : Nat → Nat} (hn : n ≤ 6) (q : SN n lv te la mo dn ea bn g)
    (h1 : ∀ d, d < n → g' d = g d - f d ∧ g' (6 + d) = min (g (6 + d)) (g d - f d)) (h2 : ∀ d, n ≤ d → d < 6 → g' d = g d ∧ g' (6 + d) = g (6 + d)) (h3 : ∀ d, d < 6 → g' (12 + d) = g (12 + d)) (h4 : mo' = g' 18 ∧ dn' = g' 19 ∧ ea' = g' 20 ∧ bn' = g' 21) (h5 : mo' ≤ 999) (h6 : dn' < 32) :
    SN n (lsL lv f n) (lsT te lv f n) la mo' dn' ea' bn' g' := by
  obtain ⟨q1, -, q3, q4, q5, -, -⟩ := q
  refine ⟨fun d hd => ?_, h4, fun d hd => ?_, fun d hd => ?_, q5, h5, h6⟩
  · obtain ⟨a1, a2, a3, a4⟩ := q1 d hd
    rw [show lsL lv f n d = lv d - f d from if_pos hd, show lsT te lv f n d = min (te d) (lv d - f d) from if_pos hd, (h1 d hd).1, (h1 d hd).2, h3 d (by omega), a1, a2]
    exact ⟨rfl, rfl, a3, Nat.min_le_right _ _⟩
  · obtain ⟨a1, a2, a3⟩ := q3 d hd
    refine ⟨?_, ?_, a3⟩
    · unfold lsL; split <;> omega
    · unfold lsT; split <;> omega
  · obtain ⟨a1, a2, a3⟩ := q4 d hd
    rw [h3 d hd]
    rcases Nat.lt_or_ge d n with hd2 | hd2
    · rw [(h1 d hd2).1, (h1 d hd2).2]
      exact ⟨by omega, by omega, a3⟩
    · rw [(h2 d hd2 hd).1, (h2 d hd2 hd).2]
      exact ⟨a1, a2, a3⟩
