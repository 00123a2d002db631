/-! rows and the whole text are read alike -/
abbrev Xd : Type := (Nat → Nat) × (Nat → Nat) × (Nat → Nat) × (Nat → Nat) × (Nat → Nat) × (Nat → Nat) × (Nat → Nat)
def BOK (D : Bds) : Prop := (∀ i, D.2.1 i ≤ 40) ∧ (∀ i, D.2.2.1 i ≤ 5) ∧ (∀ i, D.2.2.2.1 i < 6) ∧ (∀ i, D.2.2.2.2.2.1 i ≤ 99) ∧ (∀ i j, D.2.2.2.2.2.2 i j ≤ 9)
def FRM (X0 X : Xd) : Prop := X.1 0 = X0.1 0 ∧ X.2.1 0 = X0.2.1 0 ∧ (∀ i, i < 6 → X.2.2.2.2.1 i = X0.2.2.2.2.1 i) ∧ (∀ i, i < 5 → X.2.2.2.2.2.1 i = X0.2.2.2.2.2.1 i) ∧ (∀ i, i < 30 → X.2.2.2.2.2.2 i = X0.2.2.2.2.2.2 i) ∧ ∀ i, X.2.2.2.2.2.2 i ≤ 9
def DRX (D : Bds) (X : Xd) : Prop := X.1 1 = D.1 ∧ X.2.1 1 = D.2.2.2.2.1 ∧ D.1 ≤ 6 ∧ D.2.2.2.2.1 ≤ 5 ∧ (∀ d, d < D.1 → X.2.2.1 d = D.2.1 d ∧ X.2.2.2.1 d = D.2.2.2.1 d ∧ X.2.2.2.2.1 (6 + d) = D.2.2.1 d) ∧
  (∀ a, a < D.2.2.2.2.1 → X.2.2.2.2.2.1 (5 + a) = D.2.2.2.2.2.1 a ∧ ∀ q, q < 6 → X.2.2.2.2.2.2 (6 * (5 + a) + q) = D.2.2.2.2.2.2 a q) ∧ PM D.1 D.2.2.2.1
def ROWP (len : Nat) (X0 : Xd) (c : Bool × Cu × Bds) (R9 : Md) : Prop :=
  (c.1 = true → TK len c.2.1 R9.1 ∧ R9.1.2.2.2.2 = -9 ∧ R9.1.2.2.1 = 2 ∧ DRX c.2.2 R9.2) ∧
  (c.1 = false → c.2.1.2.2.1 ≤ len ∧ (R9.1.2.2.2.2 = nI c.2.1.2.2.1 ∨ (R9.1.2.2.2.2 = -9 ∧ R9.1.2.2.1 ≠ 2 ∧ TK len c.2.1 R9.1))) ∧ BOK c.2.2 ∧ FRM X0 R9.2
theorem adv_mono {by_ : Nat → Nat} {len : Nat} {u : Cu} (h : u.1 ≤ len) : u.1 ≤ (adv by_ len u).1 ∧ (adv by_ len u).1 ≤ len ∧ ((adv by_ len u).2.1 = 0 ∨ u.1 < (adv by_ len u).1) := by
  obtain ⟨pl, tk, tA, va⟩ := u
  have h : pl ≤ len := h
  have hq := skp_le (by_ := by_) (len - pl) pl
  have hg := skp_ge (by_ := by_) (len - pl) pl
  generalize hs : skp by_ (len - pl) pl = q9 at hq hg
  by_cases h1 : q9 < len
  · rw [adv_tok hs h1]
    have hin := advE_in (by_ := by_) h1
    show pl ≤ advE by_ len q9 ∧ advE by_ len q9 ≤ len ∧ (_ ∨ pl < advE by_ len q9)
    exact ⟨by omega, hin.2.1, Or.inr (by omega)⟩
  · rw [adv_end hs (by omega)]
    exact ⟨hg, by show q9 ≤ len; omega, Or.inl rfl⟩
theorem updN_le {g : Nat → Nat} {i v c : Nat} (h : ∀ j, g j ≤ c) (hv : v ≤ c) : ∀ j, updN g i v j ≤ c := fun j => by
  unfold updN
  split
  · exact hv
  · exact h j
theorem updN_lt {g : Nat → Nat} {i v c : Nat} (h : ∀ j, g j < c) (hv : v < c) : ∀ j, updN g i v j < c := fun j => by
  unfold updN
  split
  · exact hv
  · exact h j
theorem PM.push {n : Nat} {la : Nat → Nat} (h : PM n la) : PM (n + 1) (updN la n n) := by
  obtain ⟨W9, h1, h2⟩ := h
  refine ⟨updN W9 n n, fun i hi => ?_, fun j hj => ?_⟩
  · by_cases e : i = n
    · subst e
      rw [updN_s, updN_s]
      exact ⟨by omega, rfl⟩
    · have h3 := h1 i (by omega)
      rw [updN_n e, updN_n (by omega)]
      exact ⟨by omega, h3.2⟩
  · by_cases e : j = n
    · subst e
      rw [updN_s, updN_s]
      exact ⟨by omega, rfl⟩
    · have h3 := h2 j (by omega)
      rw [updN_n e, updN_n (by omega)]
      exact ⟨by omega, h3.2⟩
theorem end_sim {by_ : Nat → Nat} {len : Nat} {u : Cu} {v : Mp} (h : AL by_ len u v) : (decide ((adv by_ len u).2.1 = 3) = true → v.2.2.1 = 2) ∧ (decide ((adv by_ len u).2.1 = 3) = false → v.2.2.1 ≠ 2) := by
  obtain ⟨-, -, k3, -⟩ := tk_num h.1
  exact ⟨fun e => k3.mp (of_decide_eq_true e), fun e q => of_decide_eq_false e (k3.mpr q)⟩
theorem row_d {by_ : Nat → Nat} {len : Nat} {u : Cu} {F9 : Mp} {D : Bds} {X0 X : Xd} (hl : len ≤ 150) (h : AL by_ len u F9) (hD : DRX D X) (hB : BOK D) (hF : FRM X0 X) (h6 : D.1 < 6) :
    ROWP len X0 ((rdF by_ len u D.1 D.2.1 D.2.2.1 D.2.2.2.1).1, (rdF by_ len u D.1 D.2.1 D.2.2.1 D.2.2.2.1).2.1, ((rdF by_ len u D.1 D.2.1 D.2.2.1 D.2.2.2.1).2.2.1, (rdF by_ len u D.1 D.2.1 D.2.2.1 D.2.2.2.1).2.2.2.1, (rdF by_ len u D.1 D.2.1 D.2.2.1 D.2.2.2.1).2.2.2.2.1, (rdF by_ len u D.1 D.2.1 D.2.2.1 D.2.2.2.1).2.2.2.2.2, D.2.2.2.2)) (rowD by_ len (F9, X)) := by
  obtain ⟨n, bl, ai, bla, ac, wo, dr⟩ := D
  obtain ⟨dc, acn, dl, db, ar, wm, nd⟩ := X
  obtain ⟨d1, d2, d3, d4, d5, d6, d7⟩ := hD
  obtain ⟨b1, b2, b3, b4, b5⟩ := hB
  obtain ⟨f1, f2, f3, f4, f5, f6⟩ := hF
  dsimp only at d1 d2 d3 d4 d5 d6 d7 b1 b2 b3 b4 b5 f1 f2 f3 f4 f5 f6 h6 ⊢
  have hfr : ∀ x y z, FRM X0 (updN dc 1 x, acn, y, z, updN ar (6 + dc 1) (numF by_ len (nI 40) F9).2.2.2.1, wm, nd) := fun x y z => ⟨by show updN dc 1 x 0 = _; rw [updN_n (by decide)]; exact f1, f2, fun i hi => by show updN ar (6 + dc 1) _ i = _; rw [updN_n (by omega)]; exact f3 i hi, f4, f5, f6⟩
  unfold rdF rowD
  dsimp only
  by_cases c1 : numOk by_ len u (nI 40) = true
  · obtain ⟨e1, e2, e3, e4⟩ := num_on h c1
    rw [if_pos c1]
    have e5 : F9.2.2.2.1 ≤ 40 := (nI_leI (by omega) (by omega)).mp e3
    by_cases c2 : numOk by_ len (adv by_ len u) (nI 5) = true
    · obtain ⟨g1, g2, g3, g4⟩ := num_on e1 c2
      rw [if_pos c2]
      have g5 : (numF by_ len (nI 40) F9).2.2.2.1 ≤ 5 := (nI_leI (by omega) (by omega)).mp g3
      obtain ⟨x1, x2⟩ := end_sim g1
      refine ⟨fun q => ⟨g1.1, g1.2, x1 q, ?_⟩, fun q => ⟨g1.1.2.2.2.1, Or.inr ⟨g1.2, x2 q, g1.1⟩⟩, ?_, hfr _ _ _⟩
      · refine ⟨?_, d2, h6, d4, fun d hd => ?_, d6, d7.push⟩
        · show updN dc 1 (dc 1 + 1) 1 = n + 1
          rw [updN_s, d1]
        · show updN dl (dc 1) F9.2.2.2.1 d = updN bl n (vN (adv by_ len u)) d ∧ updN db (dc 1) (dc 1) d = updN bla n n d ∧ updN ar (6 + dc 1) (numF by_ len (nI 40) F9).2.2.2.1 (6 + d) = updN ai n (vN (adv by_ len (adv by_ len u))) d
          have hd : d < n + 1 := hd
          rw [d1, e2, g2]
          by_cases e : d = n
          · subst e
            rw [updN_s, updN_s, updN_s, updN_s, updN_s, updN_s]
            exact ⟨rfl, rfl, rfl⟩
          · rw [updN_n e, updN_n e, updN_n e, updN_n e, updN_n (by omega), updN_n e]
            exact d5 d (by omega)
      · exact ⟨updN_le b1 (by rw [e2]; exact e5), updN_le b2 (by rw [g2]; exact g5), updN_lt b3 h6, b4, b5⟩
    · have c3 : numOk by_ len (adv by_ len u) (nI 5) = false := by simpa using c2
      rw [if_neg c2]
      exact ⟨fun q => (by cases q), fun _ => ⟨e1.1.2.2.2.1, Or.inl (num_off e1 c3)⟩, ⟨b1, b2, b3, b4, b5⟩, hfr _ _ _⟩
  · have c3 : numOk by_ len u (nI 40) = false := by simpa using c1
    rw [if_neg c1]
    have e4 := num_off h c3
    have e5 : (numF by_ len (nI 40) F9).2.2.2.2 ≠ -9 := by rw [e4]; exact h.le hl
    exact ⟨fun q => (by cases q), fun _ => ⟨h.1.2.2.2.1, Or.inl (by show (numF by_ len (nI 5) (numF by_ len (nI 40) F9)).2.2.2.2 = _; rw [num_no e5]; exact e4)⟩, ⟨b1, b2, b3, b4, b5⟩, hfr _ _ _⟩
theorem row_x {by_ : Nat → Nat} {len : Nat} {u : Cu} {F9 : Mp} {D : Bds} {X0 X : Xd} (hl : len ≤ 150) (h : AL by_ len u F9) (hD : DRX D X) (hB : BOK D) (hF : FRM X0 X) :
    ROWP len X0 ((rxF by_ len u D.1 D.2.2.2.1).1, (rxF by_ len u D.1 D.2.2.2.1).2.1, (D.1, D.2.1, D.2.2.1, (rxF by_ len u D.1 D.2.2.2.1).2.2, D.2.2.2.2)) (rowX by_ len (F9, X)) := by
  obtain ⟨n, bl, ai, bla, ac, wo, dr⟩ := D
  obtain ⟨dc, acn, dl, db, ar, wm, nd⟩ := X
  obtain ⟨d1, d2, d3, d4, d5, d6, d7⟩ := hD
  obtain ⟨b1, b2, b3, b4, b5⟩ := hB
  obtain ⟨f1, f2, f3, f4, f5, f6⟩ := hF
  dsimp only at d1 d2 d3 d4 d5 d6 d7 b1 b2 b3 b4 b5 f1 f2 f3 f4 f5 f6 ⊢
  have hfr : ∀ z, FRM X0 (dc, acn, dl, z, ar, wm, nd) := fun z => ⟨f1, f2, f3, f4, f5, f6⟩
  unfold rxF rowX exF
  dsimp only
  simp only [d1]
  by_cases c1 : numOk by_ len u (nI n - nI 1) = true
  · obtain ⟨e1, e2, e3, e4⟩ := num_on h c1
    have e5 := le_pred (by omega) d3 e3
    rw [if_pos c1]
    generalize hv : numF by_ len (nI n - nI 1) F9 = v9 at *
    have hex : exO n F9 v9 = decide (numOk by_ len (adv by_ len u) (nI n - nI 1) = true ∧ vN (adv by_ len (adv by_ len u)) ≠ vN (adv by_ len u)) := by
      unfold exO
      apply decide_eq_decide.mpr
      obtain ⟨k1, k2, -, -⟩ := tk_num e1.1
      rw [num_dec e1, decide_eq_true_iff, e2]
      constructor
      · rintro ⟨q1, q2, q3⟩
        refine ⟨⟨q1, ?_⟩, ?_⟩
        · rw [pk_sub (show 1 ≤ n by omega)]
          exact (nI_leI (by omega) (by omega)).mpr (by omega)
        · rw [(k2 (k1.mpr q1)).2.2]
          exact q3
      · rintro ⟨⟨q1, q2⟩, q3⟩
        rw [(k2 (k1.mpr q1)).2.2] at q3
        exact ⟨q1, le_pred (by have := (k2 (k1.mpr q1)).2.1; omega) d3 q2, q3⟩
    by_cases c2 : numOk by_ len (adv by_ len u) (nI n - nI 1) = true ∧ vN (adv by_ len (adv by_ len u)) ≠ vN (adv by_ len u)
    · rw [if_pos c2, hex, decide_eq_true c2]
      have g1 : AL by_ len (adv by_ len (adv by_ len u)) (dueF by_ len true v9) := due_on e1.1 e1.2
      obtain ⟨n1, n2, n3, n4⟩ := num_on e1 c2.1
      have n5 := le_pred (by omega) d3 n3
      rw [if_pos g1.2]
      obtain ⟨x1, x2⟩ := end_sim g1
      have hne : F9.2.2.2.1 ≠ v9.2.2.2.1 := fun q => c2.2 (by rw [e2, n2, q])
      rw [e2, n2]
      refine ⟨fun q => ⟨g1.1, g1.2, x1 q, ?_⟩, fun q => ⟨g1.1.2.2.2.1, Or.inr ⟨g1.2, x2 q, g1.1⟩⟩, ?_, hfr _⟩
      · refine ⟨d1, d2, d3, d4, fun d hd => ⟨(d5 d hd).1, ?_, (d5 d hd).2.2⟩, d6, d7.swap e5 n5 hne⟩
        show updN (updN db F9.2.2.2.1 (db v9.2.2.2.1)) v9.2.2.2.1 (db F9.2.2.2.1) d = updN (updN bla F9.2.2.2.1 (bla v9.2.2.2.1)) v9.2.2.2.1 (bla F9.2.2.2.1) d
        have hd : d < n := hd
        rw [show db v9.2.2.2.1 = bla v9.2.2.2.1 from (d5 _ n5).2.1, show db F9.2.2.2.1 = bla F9.2.2.2.1 from (d5 _ e5).2.1]
        by_cases q1 : d = v9.2.2.2.1
        · rw [q1, updN_s, updN_s]
        · rw [updN_n q1, updN_n q1]
          by_cases q2 : d = F9.2.2.2.1
          · rw [q2, updN_s, updN_s]
          · rw [updN_n q2, updN_n q2]
            exact (d5 d hd).2.1
      · exact ⟨b1, b2, updN_lt (updN_lt b3 (b3 _)) (b3 _), b4, b5⟩
    · rw [if_neg c2, hex, decide_eq_false c2]
      have g1 : (dueF by_ len false v9).2.2.2.2 = nI (adv by_ len (adv by_ len u)).2.2.1 := due_off e1.1 e1.2
      have g2 : (dueF by_ len false v9).2.2.2.2 ≠ -9 := by rw [g1]; exact e1.le hl
      rw [if_neg g2]
      exact ⟨fun q => (by cases q), fun _ => ⟨e1.1.2.2.2.1, Or.inl g1⟩, ⟨b1, b2, b3, b4, b5⟩, hfr _⟩
  · have c3 : numOk by_ len u (nI n - nI 1) = false := by simpa using c1
    rw [if_neg c1]
    have e4 := num_off h c3
    have e5 : (numF by_ len (nI n - nI 1) F9).2.2.2.2 ≠ -9 := by rw [e4]; exact h.le hl
    rw [dueF_no e5, if_neg e5]
    exact ⟨fun q => (by cases q), fun _ => ⟨h.1.2.2.2.1, Or.inl e4⟩, ⟨b1, b2, b3, b4, b5⟩, hfr _⟩
theorem row_a {by_ : Nat → Nat} {len : Nat} {u : Cu} {F9 : Mp} {D : Bds} {X0 X : Xd} (hl : len ≤ 150) (h : AL by_ len u F9) (hD : DRX D X) (hB : BOK D) (hF : FRM X0 X) (h5 : D.2.2.2.2.1 < 5) :
    ROWP len X0 ((raF by_ len u D.1 D.2.2.2.2.1 D.2.2.2.2.2.1 D.2.2.2.2.2.2).1, (raF by_ len u D.1 D.2.2.2.2.1 D.2.2.2.2.2.1 D.2.2.2.2.2.2).2.1, (D.1, D.2.1, D.2.2.1, D.2.2.2.1, (raF by_ len u D.1 D.2.2.2.2.1 D.2.2.2.2.2.1 D.2.2.2.2.2.2).2.2.1, (raF by_ len u D.1 D.2.2.2.2.1 D.2.2.2.2.2.1 D.2.2.2.2.2.2).2.2.2.1, (raF by_ len u D.1 D.2.2.2.2.1 D.2.2.2.2.2.1 D.2.2.2.2.2.2).2.2.2.2)) (rowA by_ len (F9, X)) := by
  obtain ⟨n, bl, ai, bla, ac, wo, dr⟩ := D
  obtain ⟨dc, acn, dl, db, ar, wm, nd⟩ := X
  obtain ⟨d1, d2, d3, d4, d5, d6, d7⟩ := hD
  obtain ⟨b1, b2, b3, b4, b5⟩ := hB
  obtain ⟨f1, f2, f3, f4, f5, f6⟩ := hF
  dsimp only at d1 d2 d3 d4 d5 d6 d7 b1 b2 b3 b4 b5 f1 f2 f3 f4 f5 f6 h5 ⊢
  have hn9 : ∀ i, blk nd (6 * (5 + ac)) 6 (fun _ => 0) i ≤ 9 := fun i => by
    unfold blk
    split
    · exact Nat.zero_le _
    · exact f6 i
  have hfr : ∀ (g : Nat → Nat), (∀ x, ¬ (6 * (5 + ac) ≤ x ∧ x < 6 * (5 + ac) + 6) → g x = blk nd (6 * (5 + ac)) 6 (fun _ => 0) x) → (∀ i, g i ≤ 9) → FRM X0 (dc, updN acn 1 (acn 1 + 1), dl, db, ar, updN wm (5 + acn 1) F9.2.2.2.1, g) := fun g hg hg9 =>
    ⟨f1, by show updN acn 1 (acn 1 + 1) 0 = X0.2.1 0; rw [updN_n (by decide)]; exact f2, f3, fun i hi => by show updN wm (5 + acn 1) F9.2.2.2.1 i = X0.2.2.2.2.2.1 i; rw [updN_n (by omega)]; exact f4 i hi, fun i hi => by show g i = _; rw [hg i (by omega), blk_lo (by omega)]; exact f5 i hi, hg9⟩
  unfold raF rowA
  dsimp only
  rw [d1, d2, Nat.add_sub_cancel]
  rw [d2] at hfr
  by_cases c1 : numOk by_ len u (nI 99) = true
  · obtain ⟨e1, e2, e3, e4⟩ := num_on h c1
    rw [if_pos c1]
    have hdr9 : ∀ i j, updF dr ac (cpyN (fun _ => 0) (dr ac) 0 0 6) i j ≤ 9 := fun i j => by
      by_cases e : i = ac
      · subst e
        rw [updF_s]
        unfold cpyN
        split
        · exact Nat.zero_le _
        · exact b5 _ _
      · rw [updF_n e]; exact b5 i j
    have hs := act_sim (by_ := by_) (a := ac) (off := 6 * (5 + ac)) hl d3 6 (adv by_ len (adv by_ len u)) (numF by_ len (nI 99) F9) (blk nd (6 * (5 + ac)) 6 (fun _ => 0)) (updF dr ac (cpyN (fun _ => 0) (dr ac) 0 0 6)) e1.1 e1.2 (fun q hq => by
      rw [blk_in hq, updF_s, cpyN_in (by omega)]) hdr9 hn9
    obtain ⟨s1, s2, s3, s4, s5, s6⟩ := hs
    refine ⟨fun q => ?_, fun q => ?_, ⟨b1, b2, b3, updN_le b4 (by rw [e2]; omega), s5⟩, hfr _ s4 s6⟩
    · obtain ⟨t1, t2, t3, t4⟩ := s1 q
      refine ⟨t1, t2, t3, d1, ?_, d3, by show ac + 1 ≤ 5; omega, d5, fun a ha => ?_, d7⟩
      · show updN acn 1 (ac + 1) 1 = ac + 1
        rw [updN_s]
      · show updN wm (5 + ac) F9.2.2.2.1 (5 + a) = updN wo ac (vN (adv by_ len u)) a ∧ ∀ q, q < 6 → (raL by_ len n (6 * (5 + ac)) 6 (numF by_ len (nI 99) F9) (blk nd (6 * (5 + ac)) 6 (fun _ => 0))).2 (6 * (5 + a) + q) = _
        have ha : a < ac + 1 := ha
        by_cases e : a = ac
        · subst e
          rw [updN_s, updN_s]
          exact ⟨e2.symm, t4⟩
        · rw [updN_n (by omega), updN_n e]
          refine ⟨(d6 a (by omega)).1, fun q hq => ?_⟩
          rw [s4 _ (by omega), s3 a e, updF_n e]
          have h7 := (d6 a (by omega)).2 q hq
          rw [blk_lo (by omega)]
          exact h7
    · exact s2 q
  · have c3 : numOk by_ len u (nI 99) = false := by simpa using c1
    rw [if_neg c1]
    have e4 := num_off h c3
    have e5 : (numF by_ len (nI 99) F9).2.2.2.2 ≠ -9 := by rw [e4]; exact h.le hl
    rw [raL_n (fun q => e5 q.2)]
    exact ⟨fun q => (by cases q), fun _ => ⟨h.1.2.2.2.1, Or.inl e4⟩, ⟨b1, b2, b3, b4, b5⟩, hfr _ (fun _ _ => rfl) hn9⟩
theorem item_sim {by_ : Nat → Nat} {len : Nat} {u : Cu} {v : Mp} {D : Bds} {X0 X : Xd} (hl : len ≤ 150) (h : TK len u v) (hf : v.2.2.2.2 = -9) (h0 : u.2.1 ≠ 0) (hD : DRX D X) (hB : BOK D) (hF : FRM X0 X) :
    ((dueF by_ len (mbF (X.1 1) (X.2.1 1) v.2.2.1) v).2.2.2.2 = -9 ∧ ROWP len X0 (itF by_ len u D) (rowF by_ len v.2.2.1 (dueF by_ len (mbF (X.1 1) (X.2.1 1) v.2.2.1) v, X))) ∨
    (itF by_ len u D = (false, u, D) ∧ (dueF by_ len (mbF (X.1 1) (X.2.1 1) v.2.2.1) v).2.2.2.2 = nI u.2.2.1) := by
  have hoff : mbF (X.1 1) (X.2.1 1) v.2.2.1 = false → (dueF by_ len (mbF (X.1 1) (X.2.1 1) v.2.2.1) v).2.2.2.2 = nI u.2.2.1 := fun e => by rw [e]; exact due_off h hf
  have hon : mbF (X.1 1) (X.2.1 1) v.2.2.1 = true → AL by_ len u (dueF by_ len (mbF (X.1 1) (X.2.1 1) v.2.2.1) v) := fun e => by rw [e]; exact due_on h hf
  have hx1 : X.1 1 = D.1 := hD.1
  have hx2 : X.2.1 1 = D.2.2.2.2.1 := hD.2.1
  have hcase := h.2.2.2.2
  have hn1 : u.2.1 ≠ 1 → v.2.2.1 ≠ 97 ∧ v.2.2.1 ≠ 100 ∧ v.2.2.1 ≠ 120 := fun q => by
    rcases hcase with c | c | c | c | c | c <;> omega
  by_cases c1 : u.2.1 = 1
  · unfold itF
    rw [if_pos c1]
    have hv : (97 ≤ v.2.2.1 ∧ v.2.2.1 ≤ 122 ∧ u.2.2.2 = nI v.2.2.1) ∨ (v.2.2.1 = 4 ∧ u.2.2.2 = -1) := by
      rcases hcase with c | c | c | c | c | c
      · omega
      · exact Or.inl c.2
      · exact Or.inr c.2
      · omega
      · omega
      · omega
    have hval : ∀ x, 97 ≤ x ∧ x ≤ 122 → (u.2.2.2 = nI x ↔ v.2.2.1 = x) := fun x hx => by
      rcases hv with c | c
      · rw [c.2.2]
        constructor
        · intro q
          have h1 := nI_toInt (n := v.2.2.1) (by omega)
          have h2 := nI_toInt (n := x) (by omega)
          rw [q] at h1
          omega
        · intro q; rw [q]
      · rw [c.2]
        constructor
        · intro q
          have h2 := nI_toInt (n := x) (by omega)
          rw [← q] at h2
          have h3 : (-1 : Int32).toInt = -1 := rfl
          omega
        · intro q; omega
    by_cases k1 : v.2.2.1 = 97
    · rw [if_pos ((hval 97 (by decide)).mpr k1)]
      by_cases k5 : D.2.2.2.2.1 < 5
      · rw [if_pos k5]
        have hm : mbF (X.1 1) (X.2.1 1) v.2.2.1 = true := by unfold mbF; rw [if_pos k1, hx2]; exact decide_eq_true k5
        refine Or.inl ⟨(hon hm).2, ?_⟩
        rw [show ∀ E, rowF by_ len v.2.2.1 E = rowA by_ len E from fun E => if_pos k1]
        exact row_a hl (hon hm) hD hB hF k5
      · rw [if_neg k5]
        have hm : mbF (X.1 1) (X.2.1 1) v.2.2.1 = false := by unfold mbF; rw [if_pos k1, hx2]; exact decide_eq_false k5
        exact Or.inr ⟨rfl, hoff hm⟩
    · rw [if_neg (fun q => k1 ((hval 97 (by decide)).mp q))]
      by_cases k2 : v.2.2.1 = 100
      · rw [if_pos ((hval 100 (by decide)).mpr k2)]
        by_cases k6 : D.1 < 6
        · rw [if_pos k6]
          have hm : mbF (X.1 1) (X.2.1 1) v.2.2.1 = true := by unfold mbF; rw [if_neg k1, if_pos k2, hx1]; exact decide_eq_true k6
          refine Or.inl ⟨(hon hm).2, ?_⟩
          rw [show ∀ E, rowF by_ len v.2.2.1 E = rowD by_ len E from fun E => (if_neg k1).trans (if_pos k2)]
          exact row_d hl (hon hm) hD hB hF k6
        · rw [if_neg k6]
          have hm : mbF (X.1 1) (X.2.1 1) v.2.2.1 = false := by unfold mbF; rw [if_neg k1, if_pos k2, hx1]; exact decide_eq_false k6
          exact Or.inr ⟨rfl, hoff hm⟩
      · rw [if_neg (fun q => k2 ((hval 100 (by decide)).mp q))]
        by_cases k3 : v.2.2.1 = 120
        · rw [if_pos ((hval 120 (by decide)).mpr k3)]
          have hm : mbF (X.1 1) (X.2.1 1) v.2.2.1 = true := by unfold mbF; rw [if_neg k1, if_neg k2]; exact decide_eq_true k3
          refine Or.inl ⟨(hon hm).2, ?_⟩
          rw [show ∀ E, rowF by_ len v.2.2.1 E = rowX by_ len E from fun E => (if_neg k1).trans (if_neg k2)]
          exact row_x hl (hon hm) hD hB hF
        · rw [if_neg (fun q => k3 ((hval 120 (by decide)).mp q))]
          have hm : mbF (X.1 1) (X.2.1 1) v.2.2.1 = false := by unfold mbF; rw [if_neg k1, if_neg k2]; exact decide_eq_false k3
          exact Or.inr ⟨rfl, hoff hm⟩
  · have hm : mbF (X.1 1) (X.2.1 1) v.2.2.1 = false := by
      obtain ⟨a, b, c⟩ := hn1 c1
      unfold mbF
      rw [if_neg a, if_neg b]
      exact decide_eq_false c
    exact Or.inr ⟨if_neg c1, hoff hm⟩
theorem actL_mono {by_ : Nat → Nat} {len n a : Nat} : ∀ (k : Nat) (u : Cu) (dr : Nat → Nat → Nat), u.1 ≤ len → u.1 ≤ (actL by_ len n a k u dr).2.1.1
  | 0, u, dr, _ => by rw [actL_0]; exact Nat.le_refl _
  | k + 1, u, dr, h => by
    have m1 := adv_mono (by_ := by_) h
    have m2 := adv_mono (by_ := by_) m1.2.1
    rw [actL_s]
    by_cases c1 : u.2.1 = 2
    · rw [if_pos c1]
      by_cases c2 : vN u < n
      · rw [if_pos c2]
        by_cases c3 : numOk by_ len u (nI 9) = true
        · rw [if_pos c3]
          exact Nat.le_trans (Nat.le_trans m1.1 m2.1) (actL_mono k _ _ m2.2.1)
        · rw [if_neg c3]; exact m1.1
      · rw [if_neg c2]; exact Nat.le_refl _
    · rw [if_neg c1]; exact Nat.le_refl _
theorem itF_mono {by_ : Nat → Nat} {len : Nat} {u : Cu} {D : Bds} (h : u.1 ≤ len) : u.1 ≤ (itF by_ len u D).2.1.1 := by
  have m1 := adv_mono (by_ := by_) h
  have m2 := adv_mono (by_ := by_) m1.2.1
  have m3 := adv_mono (by_ := by_) m2.2.1
  unfold itF
  by_cases c1 : u.2.1 = 1
  · rw [if_pos c1]
    by_cases k1 : u.2.2.2 = nI 97
    · rw [if_pos k1]
      by_cases k5 : D.2.2.2.2.1 < 5
      · rw [if_pos k5]
        unfold raF
        split
        · exact Nat.le_trans (Nat.le_trans m1.1 m2.1) (actL_mono 6 _ _ m2.2.1)
        · exact m1.1
      · rw [if_neg k5]; exact Nat.le_refl _
    · rw [if_neg k1]
      by_cases k2 : u.2.2.2 = nI 100
      · rw [if_pos k2]
        by_cases k6 : D.1 < 6
        · rw [if_pos k6]
          unfold rdF
          split
          · split
            · exact Nat.le_trans (Nat.le_trans m1.1 m2.1) m3.1
            · exact Nat.le_trans m1.1 m2.1
          · exact m1.1
        · rw [if_neg k6]; exact Nat.le_refl _
      · rw [if_neg k2]
        by_cases k3 : u.2.2.2 = nI 120
        · rw [if_pos k3]
          unfold rxF
          split
          · split
            · exact Nat.le_trans (Nat.le_trans m1.1 m2.1) m3.1
            · exact Nat.le_trans m1.1 m2.1
          · exact m1.1
        · rw [if_neg k3]; exact Nat.le_refl _
  · rw [if_neg c1]; exact Nat.le_refl _
theorem in_sim {by_ : Nat → Nat} {len : Nat} {X0 : Xd} (hl : len ≤ 150) : ∀ (k i : Nat) (u : Cu) (D : Bds) (K9 : Nat) (v : Mp) (X : Xd), TK len u v → v.2.2.2.2 = -9 → DRX D X → BOK D → FRM X0 X → (u.2.1 = 0 ∨ len - u.1 < k) → (u.2.1 = 0 ∨ len - u.1 < K9) →
    ((inL by_ len k i u D).1 = true → (sbF by_ len K9 i (v, X)).2.1.2.2.2.2 = -9 ∧ (sbF by_ len K9 i (v, X)).1 = (inL by_ len k i u D).2.1 ∧ DRX (inL by_ len k i u D).2.2.2 (sbF by_ len K9 i (v, X)).2.2 ∧ (inL by_ len k i u D).2.1 ≤ i + k) ∧
    ((inL by_ len k i u D).1 = false → (inL by_ len k i u D).2.1 ≤ len ∧ (sbF by_ len K9 i (v, X)).2.1.2.2.2.2 = nI (inL by_ len k i u D).2.1) ∧
    BOK (inL by_ len k i u D).2.2.2 ∧ FRM X0 (sbF by_ len K9 i (v, X)).2.2
  | 0, i, u, D, K9, v, X, h, hf, hD, hB, hF, hk, hK => by
    obtain ⟨k1, k2, k3, k4⟩ := tk_num h
    have e0 : u.2.1 = 0 := by rcases hk with q | q; exact q; omega
    rw [inL_0, sbF_n (fun q => q.2 (k4.mp e0))]
    exact ⟨fun _ => ⟨hf, rfl, hD, Nat.le_refl _⟩, fun q => (by cases q), hB, hF⟩
  | k + 1, i, u, D, K9, v, X, h, hf, hD, hB, hF, hk, hK => by
    obtain ⟨k1, k2, k3, k4⟩ := tk_num h
    rw [inL_s]
    by_cases e0 : u.2.1 = 0
    · rw [if_pos e0, sbF_n (fun q => q.2 (k4.mp e0))]
      exact ⟨fun _ => ⟨hf, rfl, hD, by show i ≤ i + (k + 1); omega⟩, fun q => (by cases q), hB, hF⟩
    · rw [if_neg e0]
      have hKp : 0 < K9 := by rcases hK with q | q; exact absurd q e0; omega
      have hkp : len - u.1 < k + 1 := by rcases hk with q | q; exact absurd q e0; exact q
      have hKq : len - u.1 < K9 := by rcases hK with q | q; exact absurd q e0; exact q
      have hv3 : v.2.2.1 ≠ 3 := fun q => e0 (k4.mpr q)
      rcases item_sim hl h hf e0 hD hB hF with ⟨g1, r1, r2, r3, r4⟩ | ⟨g1, g2⟩
      · by_cases c1 : (itF by_ len u D).1 = true
        · obtain ⟨t1, t2, t3, t4⟩ := r1 c1
          rw [if_pos c1, sbF_rV hKp ⟨hf, hv3⟩ rfl g1 rfl (decide_eq_true t3) rfl]
          have a1 := due_on t1 t2 (by_ := by_)
          have m1 := itF_mono (by_ := by_) (D := D) h.2.2.1
          have m2 := adv_mono (by_ := by_) t1.2.2.1
          have ih := in_sim (by_ := by_) (X0 := X0) hl k (i + 1) (adv by_ len (itF by_ len u D).2.1) (itF by_ len u D).2.2 (K9 - 1) (dueF by_ len true (rowF by_ len v.2.2.1 (dueF by_ len (mbF (X.1 1) (X.2.1 1) v.2.2.1) v, X)).1) (rowF by_ len v.2.2.1 (dueF by_ len (mbF (X.1 1) (X.2.1 1) v.2.2.1) v, X)).2 a1.1 a1.2 t4 r3 r4
            (by rcases m2.2.2 with q | q
                · exact Or.inl q
                · exact Or.inr (by omega)) (by rcases m2.2.2 with q | q
                                               · exact Or.inl q
                                               · exact Or.inr (by omega))
          obtain ⟨i1, i2, i3, i4⟩ := ih
          exact ⟨fun q => ⟨(i1 q).1, (i1 q).2.1, (i1 q).2.2.1, by have := (i1 q).2.2.2; omega⟩, i2, i3, i4⟩
        · have c2 : (itF by_ len u D).1 = false := by simpa using c1
          obtain ⟨t1, t2⟩ := r2 c2
          have hne := nI_ne9 (x := (itF by_ len u D).2.1.2.2.1) (by omega)
          rw [if_neg c1]
          have hG : ∀ b, decide ((rowF by_ len v.2.2.1 (dueF by_ len (mbF (X.1 1) (X.2.1 1) v.2.2.1) v, X)).1.2.2.1 = 2) = b → (dueF by_ len b (rowF by_ len v.2.2.1 (dueF by_ len (mbF (X.1 1) (X.2.1 1) v.2.2.1) v, X)).1).2.2.2.2 = nI (itF by_ len u D).2.1.2.2.1 := by
            intro b hb
            rcases t2 with q | ⟨q1, q2, q3⟩
            · rw [dueF_no (by rw [q]; exact hne)]; exact q
            · rw [← hb, decide_eq_false q2]
              exact due_off q3 q1
          rw [sbF_rV hKp ⟨hf, hv3⟩ rfl g1 rfl rfl rfl, sbF_n (fun q => by rw [hG _ rfl] at q; exact hne q.1)]
          exact ⟨fun q => (by cases q), fun _ => ⟨t1, hG _ rfl⟩, r3, r4⟩
      · have hne := nI_ne9 (x := u.2.2.1) (by have := h.2.2.2.1; omega)
        rw [g1, if_neg (show ¬ ((false, u, D) : Bool × Cu × Bds).1 = true from fun q => (by cases q))]
        rw [sbF_dV hKp ⟨hf, hv3⟩ rfl (by rw [g2]; exact hne), sbF_n (fun q => by rw [g2] at q; exact hne q.1)]
        exact ⟨fun q => (by cases q), fun _ => ⟨h.2.2.2.1, g2⟩, hB, hF⟩
