/-- the model's draft: the place in the text, decanters, acts, levels, labels, air, worth, need -/
abbrev Md : Type := Mp × (Nat → Nat) × (Nat → Nat) × (Nat → Nat) × (Nat → Nat) × (Nat → Nat) × (Nat → Nat) × (Nat → Nat)
def rowA (by_ : Nat → Nat) (len : Nat) (D : Md) : Md :=
  ((raL by_ len (D.2.1 1) (6 * (5 + D.2.2.1 1)) 6 (numF by_ len (nI 99) D.1) (blk D.2.2.2.2.2.2.2 (6 * (5 + D.2.2.1 1)) 6 (fun _ => 0))).1, D.2.1, updN D.2.2.1 1 (D.2.2.1 1 + 1), D.2.2.2.1, D.2.2.2.2.1, D.2.2.2.2.2.1, updN D.2.2.2.2.2.2.1 (5 + D.2.2.1 1) D.1.2.2.2.1, (raL by_ len (D.2.1 1) (6 * (5 + D.2.2.1 1)) 6 (numF by_ len (nI 99) D.1) (blk D.2.2.2.2.2.2.2 (6 * (5 + D.2.2.1 1)) 6 (fun _ => 0))).2)
def rowD (by_ : Nat → Nat) (len : Nat) (D : Md) : Md :=
  (numF by_ len (nI 5) (numF by_ len (nI 40) D.1), updN D.2.1 1 (D.2.1 1 + 1), D.2.2.1, updN D.2.2.2.1 (D.2.1 1) D.1.2.2.2.1, updN D.2.2.2.2.1 (D.2.1 1) (D.2.1 1), updN D.2.2.2.2.2.1 (6 + D.2.1 1) (numF by_ len (nI 40) D.1).2.2.2.1, D.2.2.2.2.2.2.1, D.2.2.2.2.2.2.2)
def exF (by_ : Nat → Nat) (len n : Nat) (u : Mp) : Mp := dueF by_ len (exO n u (numF by_ len (nI n - nI 1) u)) (numF by_ len (nI n - nI 1) u)
def rowX (by_ : Nat → Nat) (len : Nat) (D : Md) : Md :=
  (exF by_ len (D.2.1 1) D.1, D.2.1, D.2.2.1, D.2.2.2.1, (if (exF by_ len (D.2.1 1) D.1).2.2.2.2 = -9 then updN (updN D.2.2.2.2.1 D.1.2.2.2.1 (D.2.2.2.2.1 (numF by_ len (nI (D.2.1 1) - nI 1) D.1).2.2.2.1)) (numF by_ len (nI (D.2.1 1) - nI 1) D.1).2.2.2.1 (D.2.2.2.2.1 D.1.2.2.2.1) else D.2.2.2.2.1), D.2.2.2.2.2.1, D.2.2.2.2.2.2.1, D.2.2.2.2.2.2.2)
def dM (by_ : Nat → Nat) (len : Nat) (D : Md) : Md := (dueF by_ len (mbF (D.2.1 1) (D.2.2.1 1) D.1.2.2.1) D.1, D.2)
def eM (by_ : Nat → Nat) (len : Nat) (b : Bool) (D : Md) : Md := (dueF by_ len b D.1, D.2)
def rowF (by_ : Nat → Nat) (len x : Nat) (D : Md) : Md := if x = 97 then rowA by_ len D else if x = 100 then rowD by_ len D else rowX by_ len D
def sbF (by_ : Nat → Nat) (len : Nat) : Nat → Nat → Md → Nat × Md
  | 0, c, D => (c, D)
  | k + 1, c, D => if D.1.2.2.2.2 = -9 ∧ D.1.2.2.1 ≠ 3 then (if (dM by_ len D).1.2.2.2.2 = -9 then sbF by_ len k (c + 1) (eM by_ len (decide ((rowF by_ len D.1.2.2.1 (dM by_ len D)).1.2.2.1 = 2)) (rowF by_ len D.1.2.2.1 (dM by_ len D))) else sbF by_ len k c (dM by_ len D)) else (c, D)
theorem sbF_n {by_ : Nat → Nat} {len k c : Nat} {D : Md} (h : ¬ (D.1.2.2.2.2 = -9 ∧ D.1.2.2.1 ≠ 3)) : sbF by_ len k c D = (c, D) := by
  cases k with
  | zero => rfl
  | succ k => exact if_neg h
theorem sbF_d {by_ : Nat → Nat} {len k c : Nat} {D : Md} (hk : 0 < k) (h : D.1.2.2.2.2 = -9 ∧ D.1.2.2.1 ≠ 3) (h2 : (dM by_ len D).1.2.2.2.2 ≠ -9) : sbF by_ len k c D = sbF by_ len (k - 1) c (dM by_ len D) := by
  obtain ⟨j, rfl⟩ : ∃ j, k = j + 1 := ⟨k - 1, by omega⟩
  exact (if_pos h).trans (if_neg h2)
theorem sbF_r {by_ : Nat → Nat} {len k c : Nat} {D E : Md} {b : Bool} (hk : 0 < k) (h : D.1.2.2.2.2 = -9 ∧ D.1.2.2.1 ≠ 3) (h2 : (dM by_ len D).1.2.2.2.2 = -9) (hE : rowF by_ len D.1.2.2.1 (dM by_ len D) = E) (hb : decide (E.1.2.2.1 = 2) = b) : sbF by_ len k c D = sbF by_ len (k - 1) (c + 1) (eM by_ len b E) := by
  obtain ⟨j, rfl⟩ : ∃ j, k = j + 1 := ⟨k - 1, by omega⟩
  rw [← hb, ← hE]
  exact (if_pos h).trans (if_pos h2)
theorem mbF_ok {n a s : Nat} (h : mbF n a s = true) : (s = 97 ∧ a < 5) ∨ (s = 100 ∧ n < 6) ∨ s = 120 := by
  unfold mbF at h
  split at h
  · exact Or.inl ⟨by assumption, of_decide_eq_true h⟩
  · split at h
    · exact Or.inr (Or.inl ⟨by assumption, of_decide_eq_true h⟩)
    · exact Or.inr (Or.inr (of_decide_eq_true h))
def wfD (len : Nat) (D : Md) : Prop := wfP len D.1 ∧ D.2.1 1 ≤ 6 ∧ D.2.2.1 1 ≤ 5
theorem raL_wf {by_ : Nat → Nat} {len n off : Nat} : ∀ {k : Nat} {u : Mp} {nd : Nat → Nat}, wfP len u → wfP len (raL by_ len n off k u nd).1
  | 0, _, _, h => h
  | k + 1, u, nd, h => by
    by_cases q : u.2.2.1 = 1 ∧ u.2.2.2.2 = -9
    · rw [raL_s (Nat.succ_pos k) q]; exact raL_wf (k := k) (numF_wf (numF_wf h))
    · rw [raL_n q]; exact h
theorem dM_wf {by_ : Nat → Nat} {len : Nat} {D : Md} (h : wfD len D) : wfD len (dM by_ len D) := ⟨dueF_wf h.1, h.2⟩
theorem eM_wf {by_ : Nat → Nat} {len : Nat} {b : Bool} {D : Md} (h : wfD len D) : wfD len (eM by_ len b D) := ⟨dueF_wf h.1, h.2⟩
theorem rowA_wf {by_ : Nat → Nat} {len : Nat} {D : Md} (h : wfD len D) (h2 : D.2.2.1 1 < 5) : wfD len (rowA by_ len D) := ⟨raL_wf (numF_wf h.1), h.2.1, by show updN D.2.2.1 1 (D.2.2.1 1 + 1) 1 ≤ 5; rw [updN_s]; omega⟩
theorem rowD_wf {by_ : Nat → Nat} {len : Nat} {D : Md} (h : wfD len D) (h2 : D.2.1 1 < 6) : wfD len (rowD by_ len D) := ⟨numF_wf (numF_wf h.1), by show updN D.2.1 1 (D.2.1 1 + 1) 1 ≤ 6; rw [updN_s]; omega, h.2.2⟩
theorem rowX_wf {by_ : Nat → Nat} {len : Nat} {D : Md} (h : wfD len D) : wfD len (rowX by_ len D) := ⟨dueF_wf (numF_wf h.1), h.2⟩
theorem skp_ge {by_ : Nat → Nat} : ∀ k p, p ≤ skp by_ k p
  | 0, p => Nat.le_refl _
  | k + 1, p => by
    unfold skp
    split
    · have := skp_ge (by_ := by_) k (p + 1); omega
    · omega
theorem stp_mono {by_ : Nat → Nat} {len at_ : Nat} (h : at_ ≤ len) : at_ ≤ (stp by_ len at_).1 ∧ ((stp by_ len at_).2.2.1 = 1 → at_ < (stp by_ len at_).1) := by
  have hq := skp_le (by_ := by_) (len - at_) at_
  have hg := skp_ge (by_ := by_) (len - at_) at_
  generalize hs : skp by_ (len - at_) at_ = q at hq hg
  by_cases h1 : q < len
  · by_cases h2 : 97 ≤ by_ q ∧ by_ q ≤ 122
    · have r1 := rn_in (by_ := by_) (s := 1) (len - q) q
      rw [stp_l hs h1 h2 rfl]
      rw [rn_go h1 (sortN_1i.mpr h2)] at r1 ⊢
      have r2 := (rn_in (by_ := by_) (s := 1) (len - (q + 1)) (q + 1)).1
      exact ⟨by show at_ ≤ rn by_ 1 (len - (q + 1)) (q + 1); omega, fun _ => by show at_ < rn by_ 1 (len - (q + 1)) (q + 1); omega⟩
    · by_cases h3 : 48 ≤ by_ q ∧ by_ q ≤ 57
      · rw [stp_d hs h1 h2 h3 rfl rfl, rn_go h1 (sortN_2i.mpr h3)]
        have r2 := (rn_in (by_ := by_) (s := 2) (len - (q + 1)) (q + 1)).1
        exact ⟨by show at_ ≤ rn by_ 2 (len - (q + 1)) (q + 1); omega, fun _ => by show at_ < rn by_ 2 (len - (q + 1)) (q + 1); omega⟩
      · rw [stp_o hs h1 h2 h3]
        exact ⟨by show at_ ≤ q + 1; omega, fun _ => by show at_ < q + 1; omega⟩
  · rw [stp_e hs (Nat.not_lt.mp h1)]
    exact ⟨hg, fun h => by cases h⟩
theorem dueF_mono {by_ : Nat → Nat} {len : Nat} {ok : Bool} {u : Mp} (h : wfP len u) : u.1 ≤ (dueF by_ len ok u).1 := by
  by_cases h1 : u.2.2.2.2 = -9
  · cases ok with
    | true => rw [dueF_t h1]; exact (stp_mono h.1).1
    | false => rw [dueF_f h1]; exact Nat.le_refl _
  · rw [dueF_no h1]; exact Nat.le_refl _
theorem raL_mono {by_ : Nat → Nat} {len n off : Nat} (hl : len ≤ 150) : ∀ {k : Nat} {u : Mp} {nd : Nat → Nat}, wfP len u → u.1 ≤ (raL by_ len n off k u nd).1.1 ∧ ((raL by_ len n off k u nd).1.2.2.2.2 = -9 → u.2.2.2.2 = -9)
  | 0, _, _, h => ⟨Nat.le_refl _, fun q => q⟩
  | k + 1, u, nd, h => by
    by_cases q : u.2.2.1 = 1 ∧ u.2.2.2.2 = -9
    · rw [raL_s (Nat.succ_pos k) q]
      have h1 := dueF_mono (by_ := by_) (ok := decide (u.2.2.1 = 1 ∧ nI u.2.2.2.1 ≤ nI n - nI 1)) h
      have h2 := raL_mono hl (k := k) (by_ := by_) (n := n) (off := off) (nd := (if (numF by_ len (nI 9) (numF by_ len (nI n - nI 1) u)).2.2.2.2 = -9 then updN nd (off + u.2.2.2.1) (numF by_ len (nI n - nI 1) u).2.2.2.1 else nd)) (numF_wf (by_ := by_) (hi := nI 9) (numF_wf (by_ := by_) (hi := nI n - nI 1) h))
      have h3 : (numF by_ len (nI n - nI 1) u).1 ≤ (numF by_ len (nI 9) (numF by_ len (nI n - nI 1) u)).1 := dueF_mono (numF_wf h)
      exact ⟨Nat.le_trans h1 (Nat.le_trans h3 h2.1), fun _ => q.2⟩
    · rw [raL_n q]; exact ⟨Nat.le_refl _, fun q => q⟩
def mu (len : Nat) (u : Mp) : Nat := if u.2.2.2.2 = -9 then len - u.1 + 1 else 0
theorem mu_le {len : Nat} {u : Mp} : mu len u ≤ len + 1 := by
  unfold mu; split <;> omega
theorem mu_lt {len : Nat} {u v : Mp} (hu : u.2.2.2.2 = -9) (hv : v.1 ≤ len) (h : v.2.2.2.2 = -9 → u.1 < v.1) : mu len v < mu len u := by
  unfold mu
  rw [if_pos hu]
  split
  · rename_i q
    have := h q
    omega
  · omega
theorem dM_num {by_ : Nat → Nat} {len : Nat} {hi : Int32} {D : Md} (hl : len ≤ 150) (h : wfD len D) (q : (numF by_ len hi (dM by_ len D).1).2.2.2.2 = -9) : D.1.1 < (dM by_ len D).1.1 := by
  obtain ⟨h1, -, h2⟩ := numF_ok hl (dM_wf h).1 q
  obtain ⟨h3, h4⟩ := dueF_ok hl h.1 h2
  have e : (dM by_ len D).1 = dueF by_ len true D.1 := by unfold dM; rw [h3]
  rw [e, dueF_t h4] at h1 ⊢
  exact (stp_mono h.1.1).2 h1
theorem mu_A {by_ : Nat → Nat} {len : Nat} {b : Bool} {D : Md} (hl : len ≤ 150) (h : wfD len D) (hf : D.1.2.2.2.2 = -9) (ha : D.2.2.1 1 < 5) : mu len (eM by_ len b (rowA by_ len (dM by_ len D))).1 < mu len D.1 := by
  have w := rowA_wf (by_ := by_) (dM_wf (by_ := by_) h) ha
  refine mu_lt hf (eM_wf w).1.1 (fun q => ?_)
  have q1 := (dueF_ok hl w.1 q).2
  have m1 := dueF_mono (by_ := by_) (ok := b) w.1
  have m2 := raL_mono hl (by_ := by_) (n := (dM by_ len D).2.1 1) (off := 6 * (5 + (dM by_ len D).2.2.1 1)) (k := 6) (nd := blk (dM by_ len D).2.2.2.2.2.2.2 (6 * (5 + (dM by_ len D).2.2.1 1)) 6 (fun _ => 0)) (numF_wf (by_ := by_) (hi := nI 99) (dM_wf (by_ := by_) h).1)
  have m3 := dM_num hl h (m2.2 q1)
  have m4 : (dM by_ len D).1.1 ≤ (numF by_ len (nI 99) (dM by_ len D).1).1 := dueF_mono (dM_wf h).1
  exact Nat.lt_of_lt_of_le m3 (Nat.le_trans m4 (Nat.le_trans m2.1 m1))
theorem mu_D {by_ : Nat → Nat} {len : Nat} {b : Bool} {D : Md} (hl : len ≤ 150) (h : wfD len D) (hf : D.1.2.2.2.2 = -9) (ha : D.2.1 1 < 6) : mu len (eM by_ len b (rowD by_ len (dM by_ len D))).1 < mu len D.1 := by
  have w := rowD_wf (by_ := by_) (dM_wf (by_ := by_) h) ha
  refine mu_lt hf (eM_wf w).1.1 (fun q => ?_)
  have q1 := (dueF_ok hl w.1 q).2
  have m1 := dueF_mono (by_ := by_) (ok := b) w.1
  have q2 := (dueF_ok hl (numF_wf (dM_wf h).1) q1).2
  have m2 : (numF by_ len (nI 40) (dM by_ len D).1).1 ≤ (numF by_ len (nI 5) (numF by_ len (nI 40) (dM by_ len D).1)).1 := dueF_mono (numF_wf (dM_wf h).1)
  have m3 := dM_num hl h q2
  have m4 : (dM by_ len D).1.1 ≤ (numF by_ len (nI 40) (dM by_ len D).1).1 := dueF_mono (dM_wf h).1
  exact Nat.lt_of_lt_of_le m3 (Nat.le_trans m4 (Nat.le_trans m2 m1))
theorem mu_X {by_ : Nat → Nat} {len : Nat} {b : Bool} {D : Md} (hl : len ≤ 150) (h : wfD len D) (hf : D.1.2.2.2.2 = -9) : mu len (eM by_ len b (rowX by_ len (dM by_ len D))).1 < mu len D.1 := by
  have w := rowX_wf (by_ := by_) (dM_wf (by_ := by_) h)
  refine mu_lt hf (eM_wf w).1.1 (fun q => ?_)
  have q1 := (dueF_ok hl w.1 q).2
  have m1 := dueF_mono (by_ := by_) (ok := b) w.1
  have q2 := (dueF_ok hl (numF_wf (dM_wf h).1) q1).2
  have m2 : (numF by_ len (nI ((dM by_ len D).2.1 1) - nI 1) (dM by_ len D).1).1 ≤ (exF by_ len ((dM by_ len D).2.1 1) (dM by_ len D).1).1 := dueF_mono (numF_wf (dM_wf h).1)
  have m3 := dM_num hl h q2
  have m4 : (dM by_ len D).1.1 ≤ (numF by_ len (nI ((dM by_ len D).2.1 1) - nI 1) (dM by_ len D).1).1 := dueF_mono (dM_wf h).1
  exact Nat.lt_of_lt_of_le m3 (Nat.le_trans m4 (Nat.le_trans m2 m1))
theorem mu_d {by_ : Nat → Nat} {len : Nat} {D : Md} (hf : D.1.2.2.2.2 = -9) (q : (dM by_ len D).1.2.2.2.2 ≠ -9) : mu len (dM by_ len D).1 < mu len D.1 := by
  unfold mu
  rw [if_pos hf, if_neg q]
  omega
set_option maxHeartbeats 12000000 in
set_option maxRecDepth 100000 in
theorem c_X4_sideboard_bad {l : Launch} {D : va_G} {cI cZ cB cR : ClassId} {q xtx ty xdc xdl xdb xar xac xwm xnd at9 sta sor val xnw xkp xta xtw td xhg : Nat} {tr : Int64} {fau : Int32} {dc acn dl db ar wm nd nw : Nat → Nat} {tx : Nat → Int32} {kp : Nat → Bool} {by_ : Nat → Nat}  (hlen : ty ≤ 150) (htx : ∀ i, i < ty → tx i &&& nI 255 = nI (by_ i)) (hby : ∀ i, by_ i < 256) (hbad : (sbF by_ ty 400 0 (((stp by_ ty 0).1, (stp by_ ty 0).2.1, (stp by_ ty 0).2.2.1, (stp by_ ty 0).2.2.2, -9), updN dc 1 0, updN acn 1 0, dl, db, ar, wm, nd)).2.1.2.2.2.2 ≠ -9) : mW l yX4_sideboard cX4_sideboard 3 (some .int) 6 135 D cI cZ cB cR [oM q tr xtx ty xdc xdl xdb xar xac xwm xnd at9 sta sor val fau xnw xkp xta xtw td xhg, aB cB xtx 150 tx, aI cI xdc 2 dc, aI cI xac 2 acn, aI cI xdl 6 dl, aI cI xdb 6 db, aI cI xar 12 ar, aI cI xwm 10 wm, aI cI xnd 60 nd, aI cI xnw 729 nw, aZ cZ xkp 2 kp] [oM q tr xtx ty xdc xdl xdb xar xac xwm xnd (((sbF by_ ty 400 0 (((stp by_ ty 0).1, (stp by_ ty 0).2.1, (stp by_ ty 0).2.2.1, (stp by_ ty 0).2.2.2, -9), updN dc 1 0, updN acn 1 0, dl, db, ar, wm, nd)).2.1).1) (((sbF by_ ty 400 0 (((stp by_ ty 0).1, (stp by_ ty 0).2.1, (stp by_ ty 0).2.2.1, (stp by_ ty 0).2.2.2, -9), updN dc 1 0, updN acn 1 0, dl, db, ar, wm, nd)).2.1).2.1) (((sbF by_ ty 400 0 (((stp by_ ty 0).1, (stp by_ ty 0).2.1, (stp by_ ty 0).2.2.1, (stp by_ ty 0).2.2.2, -9), updN dc 1 0, updN acn 1 0, dl, db, ar, wm, nd)).2.1).2.2.1) (((sbF by_ ty 400 0 (((stp by_ ty 0).1, (stp by_ ty 0).2.1, (stp by_ ty 0).2.2.1, (stp by_ ty 0).2.2.2, -9), updN dc 1 0, updN acn 1 0, dl, db, ar, wm, nd)).2.1).2.2.2.1) (((sbF by_ ty 400 0 (((stp by_ ty 0).1, (stp by_ ty 0).2.1, (stp by_ ty 0).2.2.1, (stp by_ ty 0).2.2.2, -9), updN dc 1 0, updN acn 1 0, dl, db, ar, wm, nd)).2.1).2.2.2.2) xnw xkp xta xtw td xhg, aB cB xtx 150 tx, aI cI xdc 2 ((sbF by_ ty 400 0 (((stp by_ ty 0).1, (stp by_ ty 0).2.1, (stp by_ ty 0).2.2.1, (stp by_ ty 0).2.2.2, -9), updN dc 1 0, updN acn 1 0, dl, db, ar, wm, nd)).2.2.1), aI cI xac 2 ((sbF by_ ty 400 0 (((stp by_ ty 0).1, (stp by_ ty 0).2.1, (stp by_ ty 0).2.2.1, (stp by_ ty 0).2.2.2, -9), updN dc 1 0, updN acn 1 0, dl, db, ar, wm, nd)).2.2.2.1), aI cI xdl 6 ((sbF by_ ty 400 0 (((stp by_ ty 0).1, (stp by_ ty 0).2.1, (stp by_ ty 0).2.2.1, (stp by_ ty 0).2.2.2, -9), updN dc 1 0, updN acn 1 0, dl, db, ar, wm, nd)).2.2.2.2.1), aI cI xdb 6 ((sbF by_ ty 400 0 (((stp by_ ty 0).1, (stp by_ ty 0).2.1, (stp by_ ty 0).2.2.1, (stp by_ ty 0).2.2.2, -9), updN dc 1 0, updN acn 1 0, dl, db, ar, wm, nd)).2.2.2.2.2.1), aI cI xar 12 ((sbF by_ ty 400 0 (((stp by_ ty 0).1, (stp by_ ty 0).2.1, (stp by_ ty 0).2.2.1, (stp by_ ty 0).2.2.2, -9), updN dc 1 0, updN acn 1 0, dl, db, ar, wm, nd)).2.2.2.2.2.2.1), aI cI xwm 10 ((sbF by_ ty 400 0 (((stp by_ ty 0).1, (stp by_ ty 0).2.1, (stp by_ ty 0).2.2.1, (stp by_ ty 0).2.2.2, -9), updN dc 1 0, updN acn 1 0, dl, db, ar, wm, nd)).2.2.2.2.2.2.2.1), aI cI xnd 60 ((sbF by_ ty 400 0 (((stp by_ ty 0).1, (stp by_ ty 0).2.1, (stp by_ ty 0).2.2.1, (stp by_ ty 0).2.2.2, -9), updN dc 1 0, updN acn 1 0, dl, db, ar, wm, nd)).2.2.2.2.2.2.2.2), aI cI xnw 729 nw, aZ cZ xkp 2 kp] [.ref q] (some (.int ((-10) - (sbF by_ ty 400 0 (((stp by_ ty 0).1, (stp by_ ty 0).2.1, (stp by_ ty 0).2.2.1, (stp by_ ty 0).2.2.2, -9), updN dc 1 0, updN acn 1 0, dl, db, ar, wm, nd)).2.1.2.2.2.2))) := by
  refine mW_of rfl (Nat.le_of_ble_eq_true rfl) ?_
  intro p e s m args below meth c hC hr hlk hK A hA hD H0 h0 hP hS ls hl
  have hP : va_P D vwCl [oM q tr xtx ty xdc xdl xdb xar xac xwm xnd at9 sta sor val fau xnw xkp xta xtw td xhg, aB cB xtx 150 tx, aI cI xdc 2 dc, aI cI xac 2 acn, aI cI xdl 6 dl, aI cI xdb 6 db, aI cI xar 12 ar, aI cI xwm 10 wm, aI cI xnd 60 nd, aI cI xnw 729 nw, aZ cZ xkp 2 kp] H0 := hP
  have hl : lv_has ls 3 [(0, .ref q)] := hl
  obtain ⟨hx, hb, hml, hown, hts⟩ := id hC
  refine lv_aload_n hx hb dX4_sideboard_0 rfl (lv_at hl 0 rfl) ?_
  refine lv_iconst (v := nI 0) hx hb dX4_sideboard_1 (by decide) ?_
  refine z_put (k := 10) zcX4 hC hK hP hD hS 0 rfl (by decide) lF_X4_65 rfl rfl rfl (Nat.le_of_ble_eq_true rfl) dX4_sideboard_2 (fun H locs hP hD hS => ?_)
  have hP : va_P D vwCl [oM q tr xtx ty xdc xdl xdb xar xac xwm xnd 0 sta sor val fau xnw xkp xta xtw td xhg, aB cB xtx 150 tx, aI cI xdc 2 dc, aI cI xac 2 acn, aI cI xdl 6 dl, aI cI xdb 6 db, aI cI xar 12 ar, aI cI xwm 10 wm, aI cI xnd 60 nd, aI cI xnw 729 nw, aZ cZ xkp 2 kp] H := hP
  have hD : va_D A [oM q tr xtx ty xdc xdl xdb xar xac xwm xnd 0 sta sor val fau xnw xkp xta xtw td xhg, aB cB xtx 150 tx, aI cI xdc 2 dc, aI cI xac 2 acn, aI cI xdl 6 dl, aI cI xdb 6 db, aI cI xar 12 ar, aI cI xwm 10 wm, aI cI xnd 60 nd, aI cI xnw 729 nw, aZ cZ xkp 2 kp] := hD
  refine lv_aload_n hx hb dX4_sideboard_5 rfl (lv_at hl 0 rfl) ?_
  refine lv_bipush (v := (-9)) hx hb dX4_sideboard_6 (by decide) ?_
  refine z_put (k := 14) zcX4 hC hK hP hD hS 0 rfl (by decide) lF_X4_81 rfl rfl rfl (Nat.le_of_ble_eq_true rfl) dX4_sideboard_8 (fun H locs hP hD hS => ?_)
  have hP : va_P D vwCl [oM q tr xtx ty xdc xdl xdb xar xac xwm xnd 0 sta sor val (-9) xnw xkp xta xtw td xhg, aB cB xtx 150 tx, aI cI xdc 2 dc, aI cI xac 2 acn, aI cI xdl 6 dl, aI cI xdb 6 db, aI cI xar 12 ar, aI cI xwm 10 wm, aI cI xnd 60 nd, aI cI xnw 729 nw, aZ cZ xkp 2 kp] H := hP
  have hD : va_D A [oM q tr xtx ty xdc xdl xdb xar xac xwm xnd 0 sta sor val (-9) xnw xkp xta xtw td xhg, aB cB xtx 150 tx, aI cI xdc 2 dc, aI cI xac 2 acn, aI cI xdl 6 dl, aI cI xdb 6 db, aI cI xar 12 ar, aI cI xwm 10 wm, aI cI xnd 60 nd, aI cI xnw 729 nw, aZ cZ xkp 2 kp] := hD
  refine lv_aload_n hx hb dX4_sideboard_11 rfl (lv_at hl 0 rfl) ?_
  refine zXV (As := []) (b := q) (rest := []) hC (c_X4_plain (l := l) ) lM_X4_51 vM_X4_plain (by decide) hK hP hD hS [0, 2, 3] [q, xdc, xac] rfl (by decide) rfl rfl ⟨rfl, rfl, rfl⟩ rfl hl.1 rfl (Nat.le_of_ble_eq_true rfl) dX4_sideboard_12 (by decide) (fun H locs hP hD hS => ?_)
  have hP : va_P D vwCl [oM q tr xtx ty xdc xdl xdb xar xac xwm xnd 0 sta sor val (-9) xnw xkp xta xtw td xhg, aB cB xtx 150 tx, aI cI xdc 2 (updN dc 1 0), aI cI xac 2 (updN acn 1 0), aI cI xdl 6 dl, aI cI xdb 6 db, aI cI xar 12 ar, aI cI xwm 10 wm, aI cI xnd 60 nd, aI cI xnw 729 nw, aZ cZ xkp 2 kp] H := hP
  have hD : va_D A [oM q tr xtx ty xdc xdl xdb xar xac xwm xnd 0 sta sor val (-9) xnw xkp xta xtw td xhg, aB cB xtx 150 tx, aI cI xdc 2 (updN dc 1 0), aI cI xac 2 (updN acn 1 0), aI cI xdl 6 dl, aI cI xdb 6 db, aI cI xar 12 ar, aI cI xwm 10 wm, aI cI xnd 60 nd, aI cI xnw 729 nw, aZ cZ xkp 2 kp] := hD
  show W _ _ _ _ _ _ _ _ _ _ _ _ _ _ _ (F0 m 15 ls [])
  refine lv_iconst (v := nI 0) hx hb dX4_sideboard_15 (by decide) ?_
  refine lv_istore_n (lv' := [(1, .int (nI 0)), (0, .ref q)]) hx hb dX4_sideboard_16 rfl hl (by decide) rfl (fun ls hl => ?_)
  refine lv_aload_n hx hb dX4_sideboard_17 rfl (lv_at hl 1 rfl) ?_
  refine zXV (As := []) (b := q) (rest := []) hC (c_X4_step (l := l) (hlen := hlen) (htx := htx) (hby := hby) (hat := Nat.zero_le _)) lM_X4_84 vM_X4_step (by decide) hK hP hD hS [0, 1] [q, xtx] rfl (by decide) rfl rfl ⟨rfl, rfl, rfl⟩ rfl hl.1 rfl (Nat.le_of_ble_eq_true rfl) dX4_sideboard_18 (by decide) (fun H locs hP hD hS => ?_)
  have hP : va_P D vwCl [oM q tr xtx ty xdc xdl xdb xar xac xwm xnd ((stp by_ ty 0).1) ((stp by_ ty 0).2.1) ((stp by_ ty 0).2.2.1) ((stp by_ ty 0).2.2.2) (-9) xnw xkp xta xtw td xhg, aB cB xtx 150 tx, aI cI xdc 2 (updN dc 1 0), aI cI xac 2 (updN acn 1 0), aI cI xdl 6 dl, aI cI xdb 6 db, aI cI xar 12 ar, aI cI xwm 10 wm, aI cI xnd 60 nd, aI cI xnw 729 nw, aZ cZ xkp 2 kp] H := hP
  have hD : va_D A [oM q tr xtx ty xdc xdl xdb xar xac xwm xnd ((stp by_ ty 0).1) ((stp by_ ty 0).2.1) ((stp by_ ty 0).2.2.1) ((stp by_ ty 0).2.2.2) (-9) xnw xkp xta xtw td xhg, aB cB xtx 150 tx, aI cI xdc 2 (updN dc 1 0), aI cI xac 2 (updN acn 1 0), aI cI xdl 6 dl, aI cI xdb 6 db, aI cI xar 12 ar, aI cI xwm 10 wm, aI cI xnd 60 nd, aI cI xnw 729 nw, aZ cZ xkp 2 kp] := hD
  show W _ _ _ _ _ _ _ _ _ _ _ _ _ _ _ (F0 m 21 ls [])
  have hL21 : ∀ (z21 : Nat) (c9 : Nat) (D9 : Md) (k9 : Nat), mu ty D9.1 = z21 → (wfD ty D9) → (mu ty D9.1 < k9) → (sbF by_ ty k9 c9 D9 = (sbF by_ ty 400 0 (((stp by_ ty 0).1, (stp by_ ty 0).2.1, (stp by_ ty 0).2.2.1, (stp by_ ty 0).2.2.2, -9), updN dc 1 0, updN acn 1 0, dl, db, ar, wm, nd))) → ∀ (H : Heap) (locs : List Loc), va_P D vwCl [oM q tr xtx ty xdc xdl xdb xar xac xwm xnd D9.1.1 D9.1.2.1 D9.1.2.2.1 D9.1.2.2.2.1 D9.1.2.2.2.2 xnw xkp xta xtw td xhg, aB cB xtx 150 tx, aI cI xdc 2 D9.2.1, aI cI xac 2 D9.2.2.1, aI cI xdl 6 D9.2.2.2.1, aI cI xdb 6 D9.2.2.2.2.1, aI cI xar 12 D9.2.2.2.2.2.1, aI cI xwm 10 D9.2.2.2.2.2.2.1, aI cI xnd 60 D9.2.2.2.2.2.2.2, aI cI xnw 729 nw, aZ cZ xkp 2 kp] H → va_D A [oM q tr xtx ty xdc xdl xdb xar xac xwm xnd D9.1.1 D9.1.2.1 D9.1.2.2.1 D9.1.2.2.2.1 D9.1.2.2.2.2 xnw xkp xta xtw td xhg, aB cB xtx 150 tx, aI cI xdc 2 D9.2.1, aI cI xac 2 D9.2.2.1, aI cI xdl 6 D9.2.2.2.1, aI cI xdb 6 D9.2.2.2.2.1, aI cI xar 12 D9.2.2.2.2.2.1, aI cI xwm 10 D9.2.2.2.2.2.2.1, aI cI xnd 60 D9.2.2.2.2.2.2.2, aI cI xnw 729 nw, aZ cZ xkp 2 kp] → va_S A H0 H locs → ∀ ls : Array Slot, lv_has ls 3 [(0, .ref q), (1, .int (nI c9))] → W p l e { frames := 6, cells := 0, slots := 0, locals := 135 } s m args below meth c H locs 0 0 (MQ below (qW D [oM q tr xtx ty xdc xdl xdb xar xac xwm xnd at9 sta sor val fau xnw xkp xta xtw td xhg, aB cB xtx 150 tx, aI cI xdc 2 dc, aI cI xac 2 acn, aI cI xdl 6 dl, aI cI xdb 6 db, aI cI xar 12 ar, aI cI xwm 10 wm, aI cI xnd 60 nd, aI cI xnw 729 nw, aZ cZ xkp 2 kp] [oM q tr xtx ty xdc xdl xdb xar xac xwm xnd (((sbF by_ ty 400 0 (((stp by_ ty 0).1, (stp by_ ty 0).2.1, (stp by_ ty 0).2.2.1, (stp by_ ty 0).2.2.2, -9), updN dc 1 0, updN acn 1 0, dl, db, ar, wm, nd)).2.1).1) (((sbF by_ ty 400 0 (((stp by_ ty 0).1, (stp by_ ty 0).2.1, (stp by_ ty 0).2.2.1, (stp by_ ty 0).2.2.2, -9), updN dc 1 0, updN acn 1 0, dl, db, ar, wm, nd)).2.1).2.1) (((sbF by_ ty 400 0 (((stp by_ ty 0).1, (stp by_ ty 0).2.1, (stp by_ ty 0).2.2.1, (stp by_ ty 0).2.2.2, -9), updN dc 1 0, updN acn 1 0, dl, db, ar, wm, nd)).2.1).2.2.1) (((sbF by_ ty 400 0 (((stp by_ ty 0).1, (stp by_ ty 0).2.1, (stp by_ ty 0).2.2.1, (stp by_ ty 0).2.2.2, -9), updN dc 1 0, updN acn 1 0, dl, db, ar, wm, nd)).2.1).2.2.2.1) (((sbF by_ ty 400 0 (((stp by_ ty 0).1, (stp by_ ty 0).2.1, (stp by_ ty 0).2.2.1, (stp by_ ty 0).2.2.2, -9), updN dc 1 0, updN acn 1 0, dl, db, ar, wm, nd)).2.1).2.2.2.2) xnw xkp xta xtw td xhg, aB cB xtx 150 tx, aI cI xdc 2 ((sbF by_ ty 400 0 (((stp by_ ty 0).1, (stp by_ ty 0).2.1, (stp by_ ty 0).2.2.1, (stp by_ ty 0).2.2.2, -9), updN dc 1 0, updN acn 1 0, dl, db, ar, wm, nd)).2.2.1), aI cI xac 2 ((sbF by_ ty 400 0 (((stp by_ ty 0).1, (stp by_ ty 0).2.1, (stp by_ ty 0).2.2.1, (stp by_ ty 0).2.2.2, -9), updN dc 1 0, updN acn 1 0, dl, db, ar, wm, nd)).2.2.2.1), aI cI xdl 6 ((sbF by_ ty 400 0 (((stp by_ ty 0).1, (stp by_ ty 0).2.1, (stp by_ ty 0).2.2.1, (stp by_ ty 0).2.2.2, -9), updN dc 1 0, updN acn 1 0, dl, db, ar, wm, nd)).2.2.2.2.1), aI cI xdb 6 ((sbF by_ ty 400 0 (((stp by_ ty 0).1, (stp by_ ty 0).2.1, (stp by_ ty 0).2.2.1, (stp by_ ty 0).2.2.2, -9), updN dc 1 0, updN acn 1 0, dl, db, ar, wm, nd)).2.2.2.2.2.1), aI cI xar 12 ((sbF by_ ty 400 0 (((stp by_ ty 0).1, (stp by_ ty 0).2.1, (stp by_ ty 0).2.2.1, (stp by_ ty 0).2.2.2, -9), updN dc 1 0, updN acn 1 0, dl, db, ar, wm, nd)).2.2.2.2.2.2.1), aI cI xwm 10 ((sbF by_ ty 400 0 (((stp by_ ty 0).1, (stp by_ ty 0).2.1, (stp by_ ty 0).2.2.1, (stp by_ ty 0).2.2.2, -9), updN dc 1 0, updN acn 1 0, dl, db, ar, wm, nd)).2.2.2.2.2.2.2.1), aI cI xnd 60 ((sbF by_ ty 400 0 (((stp by_ ty 0).1, (stp by_ ty 0).2.1, (stp by_ ty 0).2.2.1, (stp by_ ty 0).2.2.2, -9), updN dc 1 0, updN acn 1 0, dl, db, ar, wm, nd)).2.2.2.2.2.2.2.2), aI cI xnw 729 nw, aZ cZ xkp 2 kp] (some (.int ((-10) - (sbF by_ ty 400 0 (((stp by_ ty 0).1, (stp by_ ty 0).2.1, (stp by_ ty 0).2.2.1, (stp by_ ty 0).2.2.2, -9), updN dc 1 0, updN acn 1 0, dl, db, ar, wm, nd)).2.1.2.2.2.2)))) args s 0 0 (zA [oM q tr xtx ty xdc xdl xdb xar xac xwm xnd at9 sta sor val fau xnw xkp xta xtw td xhg, aB cB xtx 150 tx, aI cI xdc 2 dc, aI cI xac 2 acn, aI cI xdl 6 dl, aI cI xdb 6 db, aI cI xar 12 ar, aI cI xwm 10 wm, aI cI xnd 60 nd, aI cI xnw 729 nw, aZ cZ xkp 2 kp])) (F0 m 21 ls []) := by
    intro z21
    induction z21 using Nat.strongRecOn with
    | _ z21 ih21 =>
    intro c9 D9 k9 hz21 hw hk9 hq9 H locs hP hD hS ls hl
    refine lv_aload_n hx hb dX4_sideboard_21 rfl (lv_at hl 0 rfl) ?_
    refine z_get (k := 14) zcX4 hC hK hP 0 rfl (by decide) lF_X4_81 rfl dX4_sideboard_22 ?_
    refine lv_bipush (v := (-9)) hx hb dX4_sideboard_25 (by decide) ?_
    refine lv_icmp_ne (tgt := 91) hx hb dX4_sideboard_27 (by decide) (fun c27 => ?_) (fun c27 => ?_)
    · skip
      refine lv_aload_n hx hb dX4_sideboard_91 rfl (lv_at hl 0 rfl) ?_
      refine z_get (k := 14) zcX4 hC hK hP 0 rfl (by decide) lF_X4_81 rfl dX4_sideboard_92 ?_
      refine lv_bipush (v := (-9)) hx hb dX4_sideboard_95 (by decide) ?_
      refine lv_icmp_eq (tgt := 108) hx hb dX4_sideboard_97 (by decide) (fun c97 => by exfalso; exact hbad (by rw [show (sbF by_ ty 400 0 (((stp by_ ty 0).1, (stp by_ ty 0).2.1, (stp by_ ty 0).2.2.1, (stp by_ ty 0).2.2.2, -9), updN dc 1 0, updN acn 1 0, dl, db, ar, wm, nd)) = (c9, D9) from hq9.symm.trans (sbF_n (fun h => c27 h.1))]; exact c97)) (fun c97 => ?_)
      refine lv_bipush (v := (-10)) hx hb dX4_sideboard_100 (by decide) ?_
      refine lv_aload_n hx hb dX4_sideboard_102 rfl (lv_at hl 0 rfl) ?_
      refine z_get (k := 14) zcX4 hC hK hP 0 rfl (by decide) lF_X4_81 rfl dX4_sideboard_103 ?_
      refine lv_isub hx hb dX4_sideboard_106 ?_
      exact zw_i hC hr hlk hA h0 (by rw [show (sbF by_ ty 400 0 (((stp by_ ty 0).1, (stp by_ ty 0).2.1, (stp by_ ty 0).2.2.1, (stp by_ ty 0).2.2.2, -9), updN dc 1 0, updN acn 1 0, dl, db, ar, wm, nd)) = (c9, D9) from hq9.symm.trans (sbF_n (fun h => c27 h.1))]; exact hP) hS (by rw [show (sbF by_ ty 400 0 (((stp by_ ty 0).1, (stp by_ ty 0).2.1, (stp by_ ty 0).2.2.1, (stp by_ ty 0).2.2.2, -9), updN dc 1 0, updN acn 1 0, dl, db, ar, wm, nd)) = (c9, D9) from hq9.symm.trans (sbF_n (fun h => c27 h.1))]) dX4_sideboard_107
    · skip
      refine lv_aload_n hx hb dX4_sideboard_30 rfl (lv_at hl 0 rfl) ?_
      refine z_get (k := 12) zcX4 hC hK hP 0 rfl (by decide) lF_X4_78 rfl dX4_sideboard_31 ?_
      refine lv_iconst (v := nI 3) hx hb dX4_sideboard_34 (by decide) ?_
      have b35 := hw.1.2.2.1
      refine zc_eq (tgt := 91) hC dX4_sideboard_35 (by decide) (by omega) (by omega) (fun c35 => ?_) (fun c35 => ?_)
      · skip
        refine lv_aload_n hx hb dX4_sideboard_91 rfl (lv_at hl 0 rfl) ?_
        refine z_get (k := 14) zcX4 hC hK hP 0 rfl (by decide) lF_X4_81 rfl dX4_sideboard_92 ?_
        refine lv_bipush (v := (-9)) hx hb dX4_sideboard_95 (by decide) ?_
        refine lv_icmp_eq (tgt := 108) hx hb dX4_sideboard_97 (by decide) (fun c97 => by exfalso; exact hbad (by rw [show (sbF by_ ty 400 0 (((stp by_ ty 0).1, (stp by_ ty 0).2.1, (stp by_ ty 0).2.2.1, (stp by_ ty 0).2.2.2, -9), updN dc 1 0, updN acn 1 0, dl, db, ar, wm, nd)) = (c9, D9) from hq9.symm.trans (sbF_n (fun h => h.2 c35))]; exact c97)) (fun c97 => ?_)
        refine lv_bipush (v := (-10)) hx hb dX4_sideboard_100 (by decide) ?_
        refine lv_aload_n hx hb dX4_sideboard_102 rfl (lv_at hl 0 rfl) ?_
        refine z_get (k := 14) zcX4 hC hK hP 0 rfl (by decide) lF_X4_81 rfl dX4_sideboard_103 ?_
        refine lv_isub hx hb dX4_sideboard_106 ?_
        exact zw_i hC hr hlk hA h0 (by rw [show (sbF by_ ty 400 0 (((stp by_ ty 0).1, (stp by_ ty 0).2.1, (stp by_ ty 0).2.2.1, (stp by_ ty 0).2.2.2, -9), updN dc 1 0, updN acn 1 0, dl, db, ar, wm, nd)) = (c9, D9) from hq9.symm.trans (sbF_n (fun h => h.2 c35))]; exact hP) hS (by rw [show (sbF by_ ty 400 0 (((stp by_ ty 0).1, (stp by_ ty 0).2.1, (stp by_ ty 0).2.2.1, (stp by_ ty 0).2.2.2, -9), updN dc 1 0, updN acn 1 0, dl, db, ar, wm, nd)) = (c9, D9) from hq9.symm.trans (sbF_n (fun h => h.2 c35))]) dX4_sideboard_107
      · skip
        refine lv_aload_n hx hb dX4_sideboard_38 rfl (lv_at hl 0 rfl) ?_
        refine z_get (k := 12) zcX4 hC hK hP 0 rfl (by decide) lF_X4_78 rfl dX4_sideboard_39 ?_
        refine lv_istore_n (lv' := [(2, .int (nI D9.1.2.2.1)), (0, .ref q), (1, .int (nI c9))]) hx hb dX4_sideboard_42 rfl hl (by decide) rfl (fun ls hl => ?_)
        refine lv_aload_n hx hb dX4_sideboard_43 rfl (lv_at hl 1 rfl) ?_
        refine lv_aload_n hx hb dX4_sideboard_44 rfl (lv_at hl 1 rfl) ?_
        refine lv_iload_n hx hb dX4_sideboard_45 rfl (lv_at hl 0 rfl) ?_
        refine zRV (As := [.int (nI D9.1.2.2.1)]) (b := q) (rest := [.ref q]) hC (c_X4_mayBe (l := l) (hx9 := hw.1.2.2.1) (hn1 := hw.2.1) (ha1 := hw.2.2)) lM_X4_101 vM_X4_mayBe (by decide) hK hP [0, 2, 3] rfl ⟨rfl, rfl, rfl⟩ rfl hl.1 rfl (Nat.le_of_ble_eq_true rfl) dX4_sideboard_46 (by decide) ?_
        show W _ _ _ _ _ _ _ _ _ _ _ _ _ _ _ (F0 m 49 ls [.int (bI (mbF (D9.2.1 1) (D9.2.2.1 1) D9.1.2.2.1)), .ref q])
        refine zXV (As := [.int (bI (mbF (D9.2.1 1) (D9.2.2.1 1) D9.1.2.2.1))]) (b := q) (rest := []) hC (c_X4_due (l := l) (u := D9.1) (ok9 := mbF (D9.2.1 1) (D9.2.2.1 1) D9.1.2.2.1) (hlen := hlen) (htx := htx) (hby := hby) (hu := hw.1)) lM_X4_87 vM_X4_due (by decide) hK hP hD hS [0, 1] [q, xtx] rfl (by decide) rfl rfl ⟨rfl, rfl, rfl⟩ rfl hl.1 rfl (Nat.le_of_ble_eq_true rfl) dX4_sideboard_49 (by decide) (fun H locs hP hD hS => ?_)
        have hP : va_P D vwCl [oM q tr xtx ty xdc xdl xdb xar xac xwm xnd (((dM by_ ty D9).1).1) (((dM by_ ty D9).1).2.1) (((dM by_ ty D9).1).2.2.1) (((dM by_ ty D9).1).2.2.2.1) (((dM by_ ty D9).1).2.2.2.2) xnw xkp xta xtw td xhg, aB cB xtx 150 tx, aI cI xdc 2 D9.2.1, aI cI xac 2 D9.2.2.1, aI cI xdl 6 D9.2.2.2.1, aI cI xdb 6 D9.2.2.2.2.1, aI cI xar 12 D9.2.2.2.2.2.1, aI cI xwm 10 D9.2.2.2.2.2.2.1, aI cI xnd 60 D9.2.2.2.2.2.2.2, aI cI xnw 729 nw, aZ cZ xkp 2 kp] H := hP
        have hD : va_D A [oM q tr xtx ty xdc xdl xdb xar xac xwm xnd (((dM by_ ty D9).1).1) (((dM by_ ty D9).1).2.1) (((dM by_ ty D9).1).2.2.1) (((dM by_ ty D9).1).2.2.2.1) (((dM by_ ty D9).1).2.2.2.2) xnw xkp xta xtw td xhg, aB cB xtx 150 tx, aI cI xdc 2 D9.2.1, aI cI xac 2 D9.2.2.1, aI cI xdl 6 D9.2.2.2.1, aI cI xdb 6 D9.2.2.2.2.1, aI cI xar 12 D9.2.2.2.2.2.1, aI cI xwm 10 D9.2.2.2.2.2.2.1, aI cI xnd 60 D9.2.2.2.2.2.2.2, aI cI xnw 729 nw, aZ cZ xkp 2 kp] := hD
        show W _ _ _ _ _ _ _ _ _ _ _ _ _ _ _ (F0 m 52 ls [.int (nI D9.1.2.2.2.1)])
        refine lv_pop hx hb dX4_sideboard_52 rfl ?_
        refine lv_aload_n hx hb dX4_sideboard_53 rfl (lv_at hl 1 rfl) ?_
        refine z_get (k := 14) zcX4 hC hK hP 0 rfl (by decide) lF_X4_81 rfl dX4_sideboard_54 ?_
        refine lv_bipush (v := (-9)) hx hb dX4_sideboard_57 (by decide) ?_
        refine lv_icmp_ne (tgt := 88) hx hb dX4_sideboard_59 (by decide) (fun c59 => ?_) (fun c59 => ?_)
        · skip
          have b59 := mu_d (by_ := by_) (len := ty) c27 c59
          refine lv_goto (tgt := 21) hx hb dX4_sideboard_88 (by decide) ?_
          exact ih21 (mu ty (dM by_ ty D9).1) (by omega) c9 (dM by_ ty D9) (k9 - 1) rfl (by exact dM_wf hw) (by omega) (by rw [← hq9]; exact (sbF_d (by omega) ⟨c27, c35⟩ c59).symm) _ _ hP hD hS ls (lv_sub hl [1, 2] rfl)
        · skip
          refine lv_aload_n hx hb dX4_sideboard_62 rfl (lv_at hl 1 rfl) ?_
          refine lv_iload_n hx hb dX4_sideboard_63 rfl (lv_at hl 0 rfl) ?_
          have h64s := mbF_ok (dueF_ok hlen hw.1 c59).1
          rcases h64s with h64 | h64 | h64
          · skip
            refine z_top (show (nI D9.1.2.2.1) = nI 97 from by rw [h64.1]) ?_
            refine zXV (As := [.int (nI 97)]) (b := q) (rest := []) hC (c_X4_readRow_a (l := l) (u := (dM by_ ty D9).1) (hlen := hlen) (htx := htx) (hby := hby) (hu := (dM_wf hw).1) (hn1 := hw.2.1) (ha1 := h64.2)) lM_X4_105 vM_X4_readRow (by decide) hK hP hD hS [0, 1, 2, 3, 7, 8] [q, xtx, xdc, xac, xwm, xnd] rfl (by decide) rfl rfl ⟨rfl, rfl, rfl⟩ rfl hl.1 rfl (Nat.le_of_ble_eq_true rfl) dX4_sideboard_64 (by decide) (fun H locs hP hD hS => ?_)
            have hP : va_P D vwCl [oM q tr xtx ty xdc xdl xdb xar xac xwm xnd (((rowA by_ ty (dM by_ ty D9)).1).1) (((rowA by_ ty (dM by_ ty D9)).1).2.1) (((rowA by_ ty (dM by_ ty D9)).1).2.2.1) (((rowA by_ ty (dM by_ ty D9)).1).2.2.2.1) (((rowA by_ ty (dM by_ ty D9)).1).2.2.2.2) xnw xkp xta xtw td xhg, aB cB xtx 150 tx, aI cI xdc 2 ((rowA by_ ty (dM by_ ty D9)).2.1), aI cI xac 2 ((rowA by_ ty (dM by_ ty D9)).2.2.1), aI cI xdl 6 D9.2.2.2.1, aI cI xdb 6 D9.2.2.2.2.1, aI cI xar 12 D9.2.2.2.2.2.1, aI cI xwm 10 ((rowA by_ ty (dM by_ ty D9)).2.2.2.2.2.2.1), aI cI xnd 60 ((rowA by_ ty (dM by_ ty D9)).2.2.2.2.2.2.2), aI cI xnw 729 nw, aZ cZ xkp 2 kp] H := hP
            have hD : va_D A [oM q tr xtx ty xdc xdl xdb xar xac xwm xnd (((rowA by_ ty (dM by_ ty D9)).1).1) (((rowA by_ ty (dM by_ ty D9)).1).2.1) (((rowA by_ ty (dM by_ ty D9)).1).2.2.1) (((rowA by_ ty (dM by_ ty D9)).1).2.2.2.1) (((rowA by_ ty (dM by_ ty D9)).1).2.2.2.2) xnw xkp xta xtw td xhg, aB cB xtx 150 tx, aI cI xdc 2 ((rowA by_ ty (dM by_ ty D9)).2.1), aI cI xac 2 ((rowA by_ ty (dM by_ ty D9)).2.2.1), aI cI xdl 6 D9.2.2.2.1, aI cI xdb 6 D9.2.2.2.2.1, aI cI xar 12 D9.2.2.2.2.2.1, aI cI xwm 10 ((rowA by_ ty (dM by_ ty D9)).2.2.2.2.2.2.1), aI cI xnd 60 ((rowA by_ ty (dM by_ ty D9)).2.2.2.2.2.2.2), aI cI xnw 729 nw, aZ cZ xkp 2 kp] := hD
            show W _ _ _ _ _ _ _ _ _ _ _ _ _ _ _ (F0 m 67 ls [])
            refine lv_aload_n hx hb dX4_sideboard_67 rfl (lv_at hl 1 rfl) ?_
            refine lv_aload_n hx hb dX4_sideboard_68 rfl (lv_at hl 1 rfl) ?_
            refine z_get (k := 12) zcX4 hC hK hP 0 rfl (by decide) lF_X4_78 rfl dX4_sideboard_69 ?_
            refine lv_iconst (v := nI 2) hx hb dX4_sideboard_72 (by decide) ?_
            have w73 := rowA_wf (by_ := by_) (dM_wf (by_ := by_) hw) h64.2
            have b73 := w73.1.2.2.1
            refine zc_ne (tgt := 80) hC dX4_sideboard_73 (by decide) (by omega) (by omega) (fun c73 => ?_) (fun c73 => ?_)
            · skip
              refine lv_iconst (v := nI 0) hx hb dX4_sideboard_80 (by decide) ?_
              refine z_top (show (nI 0) = bI false from by rfl) ?_
              refine zXV (As := [.int (bI false)]) (b := q) (rest := []) hC (c_X4_due (l := l) (u := (rowA by_ ty (dM by_ ty D9)).1) (ok9 := false) (hlen := hlen) (htx := htx) (hby := hby) (hu := w73.1)) lM_X4_87 vM_X4_due (by decide) hK hP hD hS [0, 1] [q, xtx] rfl (by decide) rfl rfl ⟨rfl, rfl, rfl⟩ rfl hl.1 rfl (Nat.le_of_ble_eq_true rfl) dX4_sideboard_81 (by decide) (fun H locs hP hD hS => ?_)
              have hP : va_P D vwCl [oM q tr xtx ty xdc xdl xdb xar xac xwm xnd (((eM by_ ty false (rowA by_ ty (dM by_ ty D9))).1).1) (((eM by_ ty false (rowA by_ ty (dM by_ ty D9))).1).2.1) (((eM by_ ty false (rowA by_ ty (dM by_ ty D9))).1).2.2.1) (((eM by_ ty false (rowA by_ ty (dM by_ ty D9))).1).2.2.2.1) (((eM by_ ty false (rowA by_ ty (dM by_ ty D9))).1).2.2.2.2) xnw xkp xta xtw td xhg, aB cB xtx 150 tx, aI cI xdc 2 ((rowA by_ ty (dM by_ ty D9)).2.1), aI cI xac 2 ((rowA by_ ty (dM by_ ty D9)).2.2.1), aI cI xdl 6 D9.2.2.2.1, aI cI xdb 6 D9.2.2.2.2.1, aI cI xar 12 D9.2.2.2.2.2.1, aI cI xwm 10 ((rowA by_ ty (dM by_ ty D9)).2.2.2.2.2.2.1), aI cI xnd 60 ((rowA by_ ty (dM by_ ty D9)).2.2.2.2.2.2.2), aI cI xnw 729 nw, aZ cZ xkp 2 kp] H := hP
              have hD : va_D A [oM q tr xtx ty xdc xdl xdb xar xac xwm xnd (((eM by_ ty false (rowA by_ ty (dM by_ ty D9))).1).1) (((eM by_ ty false (rowA by_ ty (dM by_ ty D9))).1).2.1) (((eM by_ ty false (rowA by_ ty (dM by_ ty D9))).1).2.2.1) (((eM by_ ty false (rowA by_ ty (dM by_ ty D9))).1).2.2.2.1) (((eM by_ ty false (rowA by_ ty (dM by_ ty D9))).1).2.2.2.2) xnw xkp xta xtw td xhg, aB cB xtx 150 tx, aI cI xdc 2 ((rowA by_ ty (dM by_ ty D9)).2.1), aI cI xac 2 ((rowA by_ ty (dM by_ ty D9)).2.2.1), aI cI xdl 6 D9.2.2.2.1, aI cI xdb 6 D9.2.2.2.2.1, aI cI xar 12 D9.2.2.2.2.2.1, aI cI xwm 10 ((rowA by_ ty (dM by_ ty D9)).2.2.2.2.2.2.1), aI cI xnd 60 ((rowA by_ ty (dM by_ ty D9)).2.2.2.2.2.2.2), aI cI xnw 729 nw, aZ cZ xkp 2 kp] := hD
              show W _ _ _ _ _ _ _ _ _ _ _ _ _ _ _ (F0 m 84 ls [.int (nI ((rowA by_ ty (dM by_ ty D9)).1.2.2.2.1))])
              refine lv_pop hx hb dX4_sideboard_84 rfl ?_
              have b85 := mu_A (by_ := by_) (b := false) hlen hw c27 h64.2
              refine lv_iinc (v := nI (c9 + 1)) (lv' := [(1, .int (nI (c9 + 1))), (2, .int (nI D9.1.2.2.1)), (0, .ref q)]) hx hb dX4_sideboard_85 hl (k := 2) rfl (z_inc c9 1) (by decide) rfl (fun ls hl => ?_)
              refine lv_goto (tgt := 21) hx hb dX4_sideboard_88 (by decide) ?_
              exact ih21 (mu ty (eM by_ ty false (rowA by_ ty (dM by_ ty D9))).1) (by omega) (c9 + 1) (eM by_ ty false (rowA by_ ty (dM by_ ty D9))) (k9 - 1) rfl (by exact eM_wf w73) (by omega) (by rw [← hq9]; exact (sbF_r (by omega) ⟨c27, c35⟩ c59 (if_pos h64.1) (decide_eq_false c73)).symm) _ _ hP hD hS ls (lv_sub hl [2, 0] rfl)
            · skip
              refine lv_iconst (v := nI 1) hx hb dX4_sideboard_76 (by decide) ?_
              refine lv_goto (tgt := 81) hx hb dX4_sideboard_77 (by decide) ?_
              refine z_top (show (nI 1) = bI true from by rfl) ?_
              refine zXV (As := [.int (bI true)]) (b := q) (rest := []) hC (c_X4_due (l := l) (u := (rowA by_ ty (dM by_ ty D9)).1) (ok9 := true) (hlen := hlen) (htx := htx) (hby := hby) (hu := w73.1)) lM_X4_87 vM_X4_due (by decide) hK hP hD hS [0, 1] [q, xtx] rfl (by decide) rfl rfl ⟨rfl, rfl, rfl⟩ rfl hl.1 rfl (Nat.le_of_ble_eq_true rfl) dX4_sideboard_81 (by decide) (fun H locs hP hD hS => ?_)
              have hP : va_P D vwCl [oM q tr xtx ty xdc xdl xdb xar xac xwm xnd (((eM by_ ty true (rowA by_ ty (dM by_ ty D9))).1).1) (((eM by_ ty true (rowA by_ ty (dM by_ ty D9))).1).2.1) (((eM by_ ty true (rowA by_ ty (dM by_ ty D9))).1).2.2.1) (((eM by_ ty true (rowA by_ ty (dM by_ ty D9))).1).2.2.2.1) (((eM by_ ty true (rowA by_ ty (dM by_ ty D9))).1).2.2.2.2) xnw xkp xta xtw td xhg, aB cB xtx 150 tx, aI cI xdc 2 ((rowA by_ ty (dM by_ ty D9)).2.1), aI cI xac 2 ((rowA by_ ty (dM by_ ty D9)).2.2.1), aI cI xdl 6 D9.2.2.2.1, aI cI xdb 6 D9.2.2.2.2.1, aI cI xar 12 D9.2.2.2.2.2.1, aI cI xwm 10 ((rowA by_ ty (dM by_ ty D9)).2.2.2.2.2.2.1), aI cI xnd 60 ((rowA by_ ty (dM by_ ty D9)).2.2.2.2.2.2.2), aI cI xnw 729 nw, aZ cZ xkp 2 kp] H := hP
              have hD : va_D A [oM q tr xtx ty xdc xdl xdb xar xac xwm xnd (((eM by_ ty true (rowA by_ ty (dM by_ ty D9))).1).1) (((eM by_ ty true (rowA by_ ty (dM by_ ty D9))).1).2.1) (((eM by_ ty true (rowA by_ ty (dM by_ ty D9))).1).2.2.1) (((eM by_ ty true (rowA by_ ty (dM by_ ty D9))).1).2.2.2.1) (((eM by_ ty true (rowA by_ ty (dM by_ ty D9))).1).2.2.2.2) xnw xkp xta xtw td xhg, aB cB xtx 150 tx, aI cI xdc 2 ((rowA by_ ty (dM by_ ty D9)).2.1), aI cI xac 2 ((rowA by_ ty (dM by_ ty D9)).2.2.1), aI cI xdl 6 D9.2.2.2.1, aI cI xdb 6 D9.2.2.2.2.1, aI cI xar 12 D9.2.2.2.2.2.1, aI cI xwm 10 ((rowA by_ ty (dM by_ ty D9)).2.2.2.2.2.2.1), aI cI xnd 60 ((rowA by_ ty (dM by_ ty D9)).2.2.2.2.2.2.2), aI cI xnw 729 nw, aZ cZ xkp 2 kp] := hD
              show W _ _ _ _ _ _ _ _ _ _ _ _ _ _ _ (F0 m 84 ls [.int (nI ((rowA by_ ty (dM by_ ty D9)).1.2.2.2.1))])
              refine lv_pop hx hb dX4_sideboard_84 rfl ?_
              have b85 := mu_A (by_ := by_) (b := true) hlen hw c27 h64.2
              refine lv_iinc (v := nI (c9 + 1)) (lv' := [(1, .int (nI (c9 + 1))), (2, .int (nI D9.1.2.2.1)), (0, .ref q)]) hx hb dX4_sideboard_85 hl (k := 2) rfl (z_inc c9 1) (by decide) rfl (fun ls hl => ?_)
              refine lv_goto (tgt := 21) hx hb dX4_sideboard_88 (by decide) ?_
              exact ih21 (mu ty (eM by_ ty true (rowA by_ ty (dM by_ ty D9))).1) (by omega) (c9 + 1) (eM by_ ty true (rowA by_ ty (dM by_ ty D9))) (k9 - 1) rfl (by exact eM_wf w73) (by omega) (by rw [← hq9]; exact (sbF_r (by omega) ⟨c27, c35⟩ c59 (if_pos h64.1) (decide_eq_true c73)).symm) _ _ hP hD hS ls (lv_sub hl [2, 0] rfl)
          · skip
            refine z_top (show (nI D9.1.2.2.1) = nI 100 from by rw [h64.1]) ?_
            refine zXV (As := [.int (nI 100)]) (b := q) (rest := []) hC (c_X4_readRow_d (l := l) (u := (dM by_ ty D9).1) (hlen := hlen) (htx := htx) (hby := hby) (hu := (dM_wf hw).1) (hn1 := h64.2)) lM_X4_105 vM_X4_readRow (by decide) hK hP hD hS [0, 1, 2, 4, 5, 6] [q, xtx, xdc, xdl, xdb, xar] rfl (by decide) rfl rfl ⟨rfl, rfl, rfl⟩ rfl hl.1 rfl (Nat.le_of_ble_eq_true rfl) dX4_sideboard_64 (by decide) (fun H locs hP hD hS => ?_)
            have hP : va_P D vwCl [oM q tr xtx ty xdc xdl xdb xar xac xwm xnd (((rowD by_ ty (dM by_ ty D9)).1).1) (((rowD by_ ty (dM by_ ty D9)).1).2.1) (((rowD by_ ty (dM by_ ty D9)).1).2.2.1) (((rowD by_ ty (dM by_ ty D9)).1).2.2.2.1) (((rowD by_ ty (dM by_ ty D9)).1).2.2.2.2) xnw xkp xta xtw td xhg, aB cB xtx 150 tx, aI cI xdc 2 ((rowD by_ ty (dM by_ ty D9)).2.1), aI cI xac 2 D9.2.2.1, aI cI xdl 6 ((rowD by_ ty (dM by_ ty D9)).2.2.2.1), aI cI xdb 6 ((rowD by_ ty (dM by_ ty D9)).2.2.2.2.1), aI cI xar 12 ((rowD by_ ty (dM by_ ty D9)).2.2.2.2.2.1), aI cI xwm 10 D9.2.2.2.2.2.2.1, aI cI xnd 60 D9.2.2.2.2.2.2.2, aI cI xnw 729 nw, aZ cZ xkp 2 kp] H := hP
            have hD : va_D A [oM q tr xtx ty xdc xdl xdb xar xac xwm xnd (((rowD by_ ty (dM by_ ty D9)).1).1) (((rowD by_ ty (dM by_ ty D9)).1).2.1) (((rowD by_ ty (dM by_ ty D9)).1).2.2.1) (((rowD by_ ty (dM by_ ty D9)).1).2.2.2.1) (((rowD by_ ty (dM by_ ty D9)).1).2.2.2.2) xnw xkp xta xtw td xhg, aB cB xtx 150 tx, aI cI xdc 2 ((rowD by_ ty (dM by_ ty D9)).2.1), aI cI xac 2 D9.2.2.1, aI cI xdl 6 ((rowD by_ ty (dM by_ ty D9)).2.2.2.1), aI cI xdb 6 ((rowD by_ ty (dM by_ ty D9)).2.2.2.2.1), aI cI xar 12 ((rowD by_ ty (dM by_ ty D9)).2.2.2.2.2.1), aI cI xwm 10 D9.2.2.2.2.2.2.1, aI cI xnd 60 D9.2.2.2.2.2.2.2, aI cI xnw 729 nw, aZ cZ xkp 2 kp] := hD
            show W _ _ _ _ _ _ _ _ _ _ _ _ _ _ _ (F0 m 67 ls [])
            refine lv_aload_n hx hb dX4_sideboard_67 rfl (lv_at hl 1 rfl) ?_
            refine lv_aload_n hx hb dX4_sideboard_68 rfl (lv_at hl 1 rfl) ?_
            refine z_get (k := 12) zcX4 hC hK hP 0 rfl (by decide) lF_X4_78 rfl dX4_sideboard_69 ?_
            refine lv_iconst (v := nI 2) hx hb dX4_sideboard_72 (by decide) ?_
            have w73 := rowD_wf (by_ := by_) (dM_wf (by_ := by_) hw) h64.2
            have b73 := w73.1.2.2.1
            refine zc_ne (tgt := 80) hC dX4_sideboard_73 (by decide) (by omega) (by omega) (fun c73 => ?_) (fun c73 => ?_)
            · skip
              refine lv_iconst (v := nI 0) hx hb dX4_sideboard_80 (by decide) ?_
              refine z_top (show (nI 0) = bI false from by rfl) ?_
              refine zXV (As := [.int (bI false)]) (b := q) (rest := []) hC (c_X4_due (l := l) (u := (rowD by_ ty (dM by_ ty D9)).1) (ok9 := false) (hlen := hlen) (htx := htx) (hby := hby) (hu := w73.1)) lM_X4_87 vM_X4_due (by decide) hK hP hD hS [0, 1] [q, xtx] rfl (by decide) rfl rfl ⟨rfl, rfl, rfl⟩ rfl hl.1 rfl (Nat.le_of_ble_eq_true rfl) dX4_sideboard_81 (by decide) (fun H locs hP hD hS => ?_)
              have hP : va_P D vwCl [oM q tr xtx ty xdc xdl xdb xar xac xwm xnd (((eM by_ ty false (rowD by_ ty (dM by_ ty D9))).1).1) (((eM by_ ty false (rowD by_ ty (dM by_ ty D9))).1).2.1) (((eM by_ ty false (rowD by_ ty (dM by_ ty D9))).1).2.2.1) (((eM by_ ty false (rowD by_ ty (dM by_ ty D9))).1).2.2.2.1) (((eM by_ ty false (rowD by_ ty (dM by_ ty D9))).1).2.2.2.2) xnw xkp xta xtw td xhg, aB cB xtx 150 tx, aI cI xdc 2 ((rowD by_ ty (dM by_ ty D9)).2.1), aI cI xac 2 D9.2.2.1, aI cI xdl 6 ((rowD by_ ty (dM by_ ty D9)).2.2.2.1), aI cI xdb 6 ((rowD by_ ty (dM by_ ty D9)).2.2.2.2.1), aI cI xar 12 ((rowD by_ ty (dM by_ ty D9)).2.2.2.2.2.1), aI cI xwm 10 D9.2.2.2.2.2.2.1, aI cI xnd 60 D9.2.2.2.2.2.2.2, aI cI xnw 729 nw, aZ cZ xkp 2 kp] H := hP
              have hD : va_D A [oM q tr xtx ty xdc xdl xdb xar xac xwm xnd (((eM by_ ty false (rowD by_ ty (dM by_ ty D9))).1).1) (((eM by_ ty false (rowD by_ ty (dM by_ ty D9))).1).2.1) (((eM by_ ty false (rowD by_ ty (dM by_ ty D9))).1).2.2.1) (((eM by_ ty false (rowD by_ ty (dM by_ ty D9))).1).2.2.2.1) (((eM by_ ty false (rowD by_ ty (dM by_ ty D9))).1).2.2.2.2) xnw xkp xta xtw td xhg, aB cB xtx 150 tx, aI cI xdc 2 ((rowD by_ ty (dM by_ ty D9)).2.1), aI cI xac 2 D9.2.2.1, aI cI xdl 6 ((rowD by_ ty (dM by_ ty D9)).2.2.2.1), aI cI xdb 6 ((rowD by_ ty (dM by_ ty D9)).2.2.2.2.1), aI cI xar 12 ((rowD by_ ty (dM by_ ty D9)).2.2.2.2.2.1), aI cI xwm 10 D9.2.2.2.2.2.2.1, aI cI xnd 60 D9.2.2.2.2.2.2.2, aI cI xnw 729 nw, aZ cZ xkp 2 kp] := hD
              show W _ _ _ _ _ _ _ _ _ _ _ _ _ _ _ (F0 m 84 ls [.int (nI ((rowD by_ ty (dM by_ ty D9)).1.2.2.2.1))])
              refine lv_pop hx hb dX4_sideboard_84 rfl ?_
              have b85 := mu_D (by_ := by_) (b := false) hlen hw c27 h64.2
              refine lv_iinc (v := nI (c9 + 1)) (lv' := [(1, .int (nI (c9 + 1))), (2, .int (nI D9.1.2.2.1)), (0, .ref q)]) hx hb dX4_sideboard_85 hl (k := 2) rfl (z_inc c9 1) (by decide) rfl (fun ls hl => ?_)
              refine lv_goto (tgt := 21) hx hb dX4_sideboard_88 (by decide) ?_
              exact ih21 (mu ty (eM by_ ty false (rowD by_ ty (dM by_ ty D9))).1) (by omega) (c9 + 1) (eM by_ ty false (rowD by_ ty (dM by_ ty D9))) (k9 - 1) rfl (by exact eM_wf w73) (by omega) (by rw [← hq9]; exact (sbF_r (by omega) ⟨c27, c35⟩ c59 ((if_neg (by omega)).trans (if_pos h64.1)) (decide_eq_false c73)).symm) _ _ hP hD hS ls (lv_sub hl [2, 0] rfl)
            · skip
              refine lv_iconst (v := nI 1) hx hb dX4_sideboard_76 (by decide) ?_
              refine lv_goto (tgt := 81) hx hb dX4_sideboard_77 (by decide) ?_
              refine z_top (show (nI 1) = bI true from by rfl) ?_
              refine zXV (As := [.int (bI true)]) (b := q) (rest := []) hC (c_X4_due (l := l) (u := (rowD by_ ty (dM by_ ty D9)).1) (ok9 := true) (hlen := hlen) (htx := htx) (hby := hby) (hu := w73.1)) lM_X4_87 vM_X4_due (by decide) hK hP hD hS [0, 1] [q, xtx] rfl (by decide) rfl rfl ⟨rfl, rfl, rfl⟩ rfl hl.1 rfl (Nat.le_of_ble_eq_true rfl) dX4_sideboard_81 (by decide) (fun H locs hP hD hS => ?_)
              have hP : va_P D vwCl [oM q tr xtx ty xdc xdl xdb xar xac xwm xnd (((eM by_ ty true (rowD by_ ty (dM by_ ty D9))).1).1) (((eM by_ ty true (rowD by_ ty (dM by_ ty D9))).1).2.1) (((eM by_ ty true (rowD by_ ty (dM by_ ty D9))).1).2.2.1) (((eM by_ ty true (rowD by_ ty (dM by_ ty D9))).1).2.2.2.1) (((eM by_ ty true (rowD by_ ty (dM by_ ty D9))).1).2.2.2.2) xnw xkp xta xtw td xhg, aB cB xtx 150 tx, aI cI xdc 2 ((rowD by_ ty (dM by_ ty D9)).2.1), aI cI xac 2 D9.2.2.1, aI cI xdl 6 ((rowD by_ ty (dM by_ ty D9)).2.2.2.1), aI cI xdb 6 ((rowD by_ ty (dM by_ ty D9)).2.2.2.2.1), aI cI xar 12 ((rowD by_ ty (dM by_ ty D9)).2.2.2.2.2.1), aI cI xwm 10 D9.2.2.2.2.2.2.1, aI cI xnd 60 D9.2.2.2.2.2.2.2, aI cI xnw 729 nw, aZ cZ xkp 2 kp] H := hP
              have hD : va_D A [oM q tr xtx ty xdc xdl xdb xar xac xwm xnd (((eM by_ ty true (rowD by_ ty (dM by_ ty D9))).1).1) (((eM by_ ty true (rowD by_ ty (dM by_ ty D9))).1).2.1) (((eM by_ ty true (rowD by_ ty (dM by_ ty D9))).1).2.2.1) (((eM by_ ty true (rowD by_ ty (dM by_ ty D9))).1).2.2.2.1) (((eM by_ ty true (rowD by_ ty (dM by_ ty D9))).1).2.2.2.2) xnw xkp xta xtw td xhg, aB cB xtx 150 tx, aI cI xdc 2 ((rowD by_ ty (dM by_ ty D9)).2.1), aI cI xac 2 D9.2.2.1, aI cI xdl 6 ((rowD by_ ty (dM by_ ty D9)).2.2.2.1), aI cI xdb 6 ((rowD by_ ty (dM by_ ty D9)).2.2.2.2.1), aI cI xar 12 ((rowD by_ ty (dM by_ ty D9)).2.2.2.2.2.1), aI cI xwm 10 D9.2.2.2.2.2.2.1, aI cI xnd 60 D9.2.2.2.2.2.2.2, aI cI xnw 729 nw, aZ cZ xkp 2 kp] := hD
              show W _ _ _ _ _ _ _ _ _ _ _ _ _ _ _ (F0 m 84 ls [.int (nI ((rowD by_ ty (dM by_ ty D9)).1.2.2.2.1))])
              refine lv_pop hx hb dX4_sideboard_84 rfl ?_
              have b85 := mu_D (by_ := by_) (b := true) hlen hw c27 h64.2
              refine lv_iinc (v := nI (c9 + 1)) (lv' := [(1, .int (nI (c9 + 1))), (2, .int (nI D9.1.2.2.1)), (0, .ref q)]) hx hb dX4_sideboard_85 hl (k := 2) rfl (z_inc c9 1) (by decide) rfl (fun ls hl => ?_)
              refine lv_goto (tgt := 21) hx hb dX4_sideboard_88 (by decide) ?_
              exact ih21 (mu ty (eM by_ ty true (rowD by_ ty (dM by_ ty D9))).1) (by omega) (c9 + 1) (eM by_ ty true (rowD by_ ty (dM by_ ty D9))) (k9 - 1) rfl (by exact eM_wf w73) (by omega) (by rw [← hq9]; exact (sbF_r (by omega) ⟨c27, c35⟩ c59 ((if_neg (by omega)).trans (if_pos h64.1)) (decide_eq_true c73)).symm) _ _ hP hD hS ls (lv_sub hl [2, 0] rfl)
          · skip
            refine z_top (show (nI D9.1.2.2.1) = nI 120 from by rw [h64]) ?_
            refine zXV (As := [.int (nI 120)]) (b := q) (rest := []) hC (c_X4_readRow_x (l := l) (u := (dM by_ ty D9).1) (hlen := hlen) (htx := htx) (hby := hby) (hu := (dM_wf hw).1) (hn1 := hw.2.1)) lM_X4_105 vM_X4_readRow (by decide) hK hP hD hS [0, 1, 2, 5] [q, xtx, xdc, xdb] rfl (by decide) rfl rfl ⟨rfl, rfl, rfl⟩ rfl hl.1 rfl (Nat.le_of_ble_eq_true rfl) dX4_sideboard_64 (by decide) (fun H locs hP hD hS => ?_)
            have hP : va_P D vwCl [oM q tr xtx ty xdc xdl xdb xar xac xwm xnd (((rowX by_ ty (dM by_ ty D9)).1).1) (((rowX by_ ty (dM by_ ty D9)).1).2.1) (((rowX by_ ty (dM by_ ty D9)).1).2.2.1) (((rowX by_ ty (dM by_ ty D9)).1).2.2.2.1) (((rowX by_ ty (dM by_ ty D9)).1).2.2.2.2) xnw xkp xta xtw td xhg, aB cB xtx 150 tx, aI cI xdc 2 ((rowX by_ ty (dM by_ ty D9)).2.1), aI cI xac 2 D9.2.2.1, aI cI xdl 6 D9.2.2.2.1, aI cI xdb 6 ((rowX by_ ty (dM by_ ty D9)).2.2.2.2.1), aI cI xar 12 D9.2.2.2.2.2.1, aI cI xwm 10 D9.2.2.2.2.2.2.1, aI cI xnd 60 D9.2.2.2.2.2.2.2, aI cI xnw 729 nw, aZ cZ xkp 2 kp] H := hP
            have hD : va_D A [oM q tr xtx ty xdc xdl xdb xar xac xwm xnd (((rowX by_ ty (dM by_ ty D9)).1).1) (((rowX by_ ty (dM by_ ty D9)).1).2.1) (((rowX by_ ty (dM by_ ty D9)).1).2.2.1) (((rowX by_ ty (dM by_ ty D9)).1).2.2.2.1) (((rowX by_ ty (dM by_ ty D9)).1).2.2.2.2) xnw xkp xta xtw td xhg, aB cB xtx 150 tx, aI cI xdc 2 ((rowX by_ ty (dM by_ ty D9)).2.1), aI cI xac 2 D9.2.2.1, aI cI xdl 6 D9.2.2.2.1, aI cI xdb 6 ((rowX by_ ty (dM by_ ty D9)).2.2.2.2.1), aI cI xar 12 D9.2.2.2.2.2.1, aI cI xwm 10 D9.2.2.2.2.2.2.1, aI cI xnd 60 D9.2.2.2.2.2.2.2, aI cI xnw 729 nw, aZ cZ xkp 2 kp] := hD
            show W _ _ _ _ _ _ _ _ _ _ _ _ _ _ _ (F0 m 67 ls [])
            refine lv_aload_n hx hb dX4_sideboard_67 rfl (lv_at hl 1 rfl) ?_
            refine lv_aload_n hx hb dX4_sideboard_68 rfl (lv_at hl 1 rfl) ?_
            refine z_get (k := 12) zcX4 hC hK hP 0 rfl (by decide) lF_X4_78 rfl dX4_sideboard_69 ?_
            refine lv_iconst (v := nI 2) hx hb dX4_sideboard_72 (by decide) ?_
            have w73 := rowX_wf (by_ := by_) (dM_wf (by_ := by_) hw)
            have b73 := w73.1.2.2.1
            refine zc_ne (tgt := 80) hC dX4_sideboard_73 (by decide) (by omega) (by omega) (fun c73 => ?_) (fun c73 => ?_)
            · skip
              refine lv_iconst (v := nI 0) hx hb dX4_sideboard_80 (by decide) ?_
              refine z_top (show (nI 0) = bI false from by rfl) ?_
              refine zXV (As := [.int (bI false)]) (b := q) (rest := []) hC (c_X4_due (l := l) (u := (rowX by_ ty (dM by_ ty D9)).1) (ok9 := false) (hlen := hlen) (htx := htx) (hby := hby) (hu := w73.1)) lM_X4_87 vM_X4_due (by decide) hK hP hD hS [0, 1] [q, xtx] rfl (by decide) rfl rfl ⟨rfl, rfl, rfl⟩ rfl hl.1 rfl (Nat.le_of_ble_eq_true rfl) dX4_sideboard_81 (by decide) (fun H locs hP hD hS => ?_)
              have hP : va_P D vwCl [oM q tr xtx ty xdc xdl xdb xar xac xwm xnd (((eM by_ ty false (rowX by_ ty (dM by_ ty D9))).1).1) (((eM by_ ty false (rowX by_ ty (dM by_ ty D9))).1).2.1) (((eM by_ ty false (rowX by_ ty (dM by_ ty D9))).1).2.2.1) (((eM by_ ty false (rowX by_ ty (dM by_ ty D9))).1).2.2.2.1) (((eM by_ ty false (rowX by_ ty (dM by_ ty D9))).1).2.2.2.2) xnw xkp xta xtw td xhg, aB cB xtx 150 tx, aI cI xdc 2 ((rowX by_ ty (dM by_ ty D9)).2.1), aI cI xac 2 D9.2.2.1, aI cI xdl 6 D9.2.2.2.1, aI cI xdb 6 ((rowX by_ ty (dM by_ ty D9)).2.2.2.2.1), aI cI xar 12 D9.2.2.2.2.2.1, aI cI xwm 10 D9.2.2.2.2.2.2.1, aI cI xnd 60 D9.2.2.2.2.2.2.2, aI cI xnw 729 nw, aZ cZ xkp 2 kp] H := hP
              have hD : va_D A [oM q tr xtx ty xdc xdl xdb xar xac xwm xnd (((eM by_ ty false (rowX by_ ty (dM by_ ty D9))).1).1) (((eM by_ ty false (rowX by_ ty (dM by_ ty D9))).1).2.1) (((eM by_ ty false (rowX by_ ty (dM by_ ty D9))).1).2.2.1) (((eM by_ ty false (rowX by_ ty (dM by_ ty D9))).1).2.2.2.1) (((eM by_ ty false (rowX by_ ty (dM by_ ty D9))).1).2.2.2.2) xnw xkp xta xtw td xhg, aB cB xtx 150 tx, aI cI xdc 2 ((rowX by_ ty (dM by_ ty D9)).2.1), aI cI xac 2 D9.2.2.1, aI cI xdl 6 D9.2.2.2.1, aI cI xdb 6 ((rowX by_ ty (dM by_ ty D9)).2.2.2.2.1), aI cI xar 12 D9.2.2.2.2.2.1, aI cI xwm 10 D9.2.2.2.2.2.2.1, aI cI xnd 60 D9.2.2.2.2.2.2.2, aI cI xnw 729 nw, aZ cZ xkp 2 kp] := hD
              show W _ _ _ _ _ _ _ _ _ _ _ _ _ _ _ (F0 m 84 ls [.int (nI ((rowX by_ ty (dM by_ ty D9)).1.2.2.2.1))])
              refine lv_pop hx hb dX4_sideboard_84 rfl ?_
              have b85 := mu_X (by_ := by_) (b := false) hlen hw c27
              refine lv_iinc (v := nI (c9 + 1)) (lv' := [(1, .int (nI (c9 + 1))), (2, .int (nI D9.1.2.2.1)), (0, .ref q)]) hx hb dX4_sideboard_85 hl (k := 2) rfl (z_inc c9 1) (by decide) rfl (fun ls hl => ?_)
              refine lv_goto (tgt := 21) hx hb dX4_sideboard_88 (by decide) ?_
              exact ih21 (mu ty (eM by_ ty false (rowX by_ ty (dM by_ ty D9))).1) (by omega) (c9 + 1) (eM by_ ty false (rowX by_ ty (dM by_ ty D9))) (k9 - 1) rfl (by exact eM_wf w73) (by omega) (by rw [← hq9]; exact (sbF_r (by omega) ⟨c27, c35⟩ c59 ((if_neg (by omega)).trans (if_neg (by omega))) (decide_eq_false c73)).symm) _ _ hP hD hS ls (lv_sub hl [2, 0] rfl)
            · skip
              refine lv_iconst (v := nI 1) hx hb dX4_sideboard_76 (by decide) ?_
              refine lv_goto (tgt := 81) hx hb dX4_sideboard_77 (by decide) ?_
              refine z_top (show (nI 1) = bI true from by rfl) ?_
              refine zXV (As := [.int (bI true)]) (b := q) (rest := []) hC (c_X4_due (l := l) (u := (rowX by_ ty (dM by_ ty D9)).1) (ok9 := true) (hlen := hlen) (htx := htx) (hby := hby) (hu := w73.1)) lM_X4_87 vM_X4_due (by decide) hK hP hD hS [0, 1] [q, xtx] rfl (by decide) rfl rfl ⟨rfl, rfl, rfl⟩ rfl hl.1 rfl (Nat.le_of_ble_eq_true rfl) dX4_sideboard_81 (by decide) (fun H locs hP hD hS => ?_)
              have hP : va_P D vwCl [oM q tr xtx ty xdc xdl xdb xar xac xwm xnd (((eM by_ ty true (rowX by_ ty (dM by_ ty D9))).1).1) (((eM by_ ty true (rowX by_ ty (dM by_ ty D9))).1).2.1) (((eM by_ ty true (rowX by_ ty (dM by_ ty D9))).1).2.2.1) (((eM by_ ty true (rowX by_ ty (dM by_ ty D9))).1).2.2.2.1) (((eM by_ ty true (rowX by_ ty (dM by_ ty D9))).1).2.2.2.2) xnw xkp xta xtw td xhg, aB cB xtx 150 tx, aI cI xdc 2 ((rowX by_ ty (dM by_ ty D9)).2.1), aI cI xac 2 D9.2.2.1, aI cI xdl 6 D9.2.2.2.1, aI cI xdb 6 ((rowX by_ ty (dM by_ ty D9)).2.2.2.2.1), aI cI xar 12 D9.2.2.2.2.2.1, aI cI xwm 10 D9.2.2.2.2.2.2.1, aI cI xnd 60 D9.2.2.2.2.2.2.2, aI cI xnw 729 nw, aZ cZ xkp 2 kp] H := hP
              have hD : va_D A [oM q tr xtx ty xdc xdl xdb xar xac xwm xnd (((eM by_ ty true (rowX by_ ty (dM by_ ty D9))).1).1) (((eM by_ ty true (rowX by_ ty (dM by_ ty D9))).1).2.1) (((eM by_ ty true (rowX by_ ty (dM by_ ty D9))).1).2.2.1) (((eM by_ ty true (rowX by_ ty (dM by_ ty D9))).1).2.2.2.1) (((eM by_ ty true (rowX by_ ty (dM by_ ty D9))).1).2.2.2.2) xnw xkp xta xtw td xhg, aB cB xtx 150 tx, aI cI xdc 2 ((rowX by_ ty (dM by_ ty D9)).2.1), aI cI xac 2 D9.2.2.1, aI cI xdl 6 D9.2.2.2.1, aI cI xdb 6 ((rowX by_ ty (dM by_ ty D9)).2.2.2.2.1), aI cI xar 12 D9.2.2.2.2.2.1, aI cI xwm 10 D9.2.2.2.2.2.2.1, aI cI xnd 60 D9.2.2.2.2.2.2.2, aI cI xnw 729 nw, aZ cZ xkp 2 kp] := hD
              show W _ _ _ _ _ _ _ _ _ _ _ _ _ _ _ (F0 m 84 ls [.int (nI ((rowX by_ ty (dM by_ ty D9)).1.2.2.2.1))])
              refine lv_pop hx hb dX4_sideboard_84 rfl ?_
              have b85 := mu_X (by_ := by_) (b := true) hlen hw c27
              refine lv_iinc (v := nI (c9 + 1)) (lv' := [(1, .int (nI (c9 + 1))), (2, .int (nI D9.1.2.2.1)), (0, .ref q)]) hx hb dX4_sideboard_85 hl (k := 2) rfl (z_inc c9 1) (by decide) rfl (fun ls hl => ?_)
              refine lv_goto (tgt := 21) hx hb dX4_sideboard_88 (by decide) ?_
              exact ih21 (mu ty (eM by_ ty true (rowX by_ ty (dM by_ ty D9))).1) (by omega) (c9 + 1) (eM by_ ty true (rowX by_ ty (dM by_ ty D9))) (k9 - 1) rfl (by exact eM_wf w73) (by omega) (by rw [← hq9]; exact (sbF_r (by omega) ⟨c27, c35⟩ c59 ((if_neg (by omega)).trans (if_neg (by omega))) (decide_eq_true c73)).symm) _ _ hP hD hS ls (lv_sub hl [2, 0] rfl)
  exact hL21 _ 0 (((stp by_ ty 0).1, (stp by_ ty 0).2.1, (stp by_ ty 0).2.2.1, (stp by_ ty 0).2.2.2, -9), updN dc 1 0, updN acn 1 0, dl, db, ar, wm, nd) 400 rfl (by exact ⟨stp_wf (Nat.zero_le _), by show updN dc 1 0 1 ≤ 6; rw [updN_s]; omega, by show updN acn 1 0 1 ≤ 5; rw [updN_s]; omega⟩) (by exact Nat.lt_of_le_of_lt mu_le (by omega)) (by rfl) _ _ hP hD hS ls (lv_sub hl [1, 0] rfl)
set_option maxHeartbeats 12000000 in
set_option maxRecDepth 100000 in
theorem c_X4_sideboard {l : Launch} {D : va_G} {cI cZ cB cR : ClassId} {q xtx ty xdc xdl xdb xar xac xwm xnd at9 sta sor val xnw xkp xta xtw td xhg : Nat} {tr : Int64} {fau : Int32} {dc acn dl db ar wm nd nw : Nat → Nat} {tx : Nat → Int32} {kp : Nat → Bool} {by_ : Nat → Nat}  (hlen : ty ≤ 150) (htx : ∀ i, i < ty → tx i &&& nI 255 = nI (by_ i)) (hby : ∀ i, by_ i < 256) (hgood : (sbF by_ ty 400 0 (((stp by_ ty 0).1, (stp by_ ty 0).2.1, (stp by_ ty 0).2.2.1, (stp by_ ty 0).2.2.2, -9), updN dc 1 0, updN acn 1 0, dl, db, ar, wm, nd)).2.1.2.2.2.2 = -9) : mW l yX4_sideboard cX4_sideboard 3 (some .int) 6 135 D cI cZ cB cR [oM q tr xtx ty xdc xdl xdb xar xac xwm xnd at9 sta sor val fau xnw xkp xta xtw td xhg, aB cB xtx 150 tx, aI cI xdc 2 dc, aI cI xac 2 acn, aI cI xdl 6 dl, aI cI xdb 6 db, aI cI xar 12 ar, aI cI xwm 10 wm, aI cI xnd 60 nd, aI cI xnw 729 nw, aZ cZ xkp 2 kp] [oM q tr xtx 0 xdc xdl xdb xar xac xwm xnd (((sbF by_ ty 400 0 (((stp by_ ty 0).1, (stp by_ ty 0).2.1, (stp by_ ty 0).2.2.1, (stp by_ ty 0).2.2.2, -9), updN dc 1 0, updN acn 1 0, dl, db, ar, wm, nd)).2.1).1) (((sbF by_ ty 400 0 (((stp by_ ty 0).1, (stp by_ ty 0).2.1, (stp by_ ty 0).2.2.1, (stp by_ ty 0).2.2.2, -9), updN dc 1 0, updN acn 1 0, dl, db, ar, wm, nd)).2.1).2.1) (((sbF by_ ty 400 0 (((stp by_ ty 0).1, (stp by_ ty 0).2.1, (stp by_ ty 0).2.2.1, (stp by_ ty 0).2.2.2, -9), updN dc 1 0, updN acn 1 0, dl, db, ar, wm, nd)).2.1).2.2.1) (((sbF by_ ty 400 0 (((stp by_ ty 0).1, (stp by_ ty 0).2.1, (stp by_ ty 0).2.2.1, (stp by_ ty 0).2.2.2, -9), updN dc 1 0, updN acn 1 0, dl, db, ar, wm, nd)).2.1).2.2.2.1) (((sbF by_ ty 400 0 (((stp by_ ty 0).1, (stp by_ ty 0).2.1, (stp by_ ty 0).2.2.1, (stp by_ ty 0).2.2.2, -9), updN dc 1 0, updN acn 1 0, dl, db, ar, wm, nd)).2.1).2.2.2.2) xnw xkp xta xtw 0 xhg, aB cB xtx 150 tx, aI cI xdc 2 (updN (sbF by_ ty 400 0 (((stp by_ ty 0).1, (stp by_ ty 0).2.1, (stp by_ ty 0).2.2.1, (stp by_ ty 0).2.2.2, -9), updN dc 1 0, updN acn 1 0, dl, db, ar, wm, nd)).2.2.1 0 ((sbF by_ ty 400 0 (((stp by_ ty 0).1, (stp by_ ty 0).2.1, (stp by_ ty 0).2.2.1, (stp by_ ty 0).2.2.2, -9), updN dc 1 0, updN acn 1 0, dl, db, ar, wm, nd)).2.2.1 1)), aI cI xac 2 (updN (sbF by_ ty 400 0 (((stp by_ ty 0).1, (stp by_ ty 0).2.1, (stp by_ ty 0).2.2.1, (stp by_ ty 0).2.2.2, -9), updN dc 1 0, updN acn 1 0, dl, db, ar, wm, nd)).2.2.2.1 0 ((sbF by_ ty 400 0 (((stp by_ ty 0).1, (stp by_ ty 0).2.1, (stp by_ ty 0).2.2.1, (stp by_ ty 0).2.2.2, -9), updN dc 1 0, updN acn 1 0, dl, db, ar, wm, nd)).2.2.2.1 1)), aI cI xdl 6 ((sbF by_ ty 400 0 (((stp by_ ty 0).1, (stp by_ ty 0).2.1, (stp by_ ty 0).2.2.1, (stp by_ ty 0).2.2.2, -9), updN dc 1 0, updN acn 1 0, dl, db, ar, wm, nd)).2.2.2.2.1), aI cI xdb 6 ((sbF by_ ty 400 0 (((stp by_ ty 0).1, (stp by_ ty 0).2.1, (stp by_ ty 0).2.2.1, (stp by_ ty 0).2.2.2, -9), updN dc 1 0, updN acn 1 0, dl, db, ar, wm, nd)).2.2.2.2.2.1), aI cI xar 12 (blk (sbF by_ ty 400 0 (((stp by_ ty 0).1, (stp by_ ty 0).2.1, (stp by_ ty 0).2.2.1, (stp by_ ty 0).2.2.2, -9), updN dc 1 0, updN acn 1 0, dl, db, ar, wm, nd)).2.2.2.2.2.2.1 0 ((sbF by_ ty 400 0 (((stp by_ ty 0).1, (stp by_ ty 0).2.1, (stp by_ ty 0).2.2.1, (stp by_ ty 0).2.2.2, -9), updN dc 1 0, updN acn 1 0, dl, db, ar, wm, nd)).2.2.1 1) (fun m => (sbF by_ ty 400 0 (((stp by_ ty 0).1, (stp by_ ty 0).2.1, (stp by_ ty 0).2.2.1, (stp by_ ty 0).2.2.2, -9), updN dc 1 0, updN acn 1 0, dl, db, ar, wm, nd)).2.2.2.2.2.2.1 (6 + m))), aI cI xwm 10 (blk (sbF by_ ty 400 0 (((stp by_ ty 0).1, (stp by_ ty 0).2.1, (stp by_ ty 0).2.2.1, (stp by_ ty 0).2.2.2, -9), updN dc 1 0, updN acn 1 0, dl, db, ar, wm, nd)).2.2.2.2.2.2.2.1 0 ((sbF by_ ty 400 0 (((stp by_ ty 0).1, (stp by_ ty 0).2.1, (stp by_ ty 0).2.2.1, (stp by_ ty 0).2.2.2, -9), updN dc 1 0, updN acn 1 0, dl, db, ar, wm, nd)).2.2.2.1 1) (fun m => (sbF by_ ty 400 0 (((stp by_ ty 0).1, (stp by_ ty 0).2.1, (stp by_ ty 0).2.2.1, (stp by_ ty 0).2.2.2, -9), updN dc 1 0, updN acn 1 0, dl, db, ar, wm, nd)).2.2.2.2.2.2.2.1 (5 + m))), aI cI xnd 60 (blk (sbF by_ ty 400 0 (((stp by_ ty 0).1, (stp by_ ty 0).2.1, (stp by_ ty 0).2.2.1, (stp by_ ty 0).2.2.2, -9), updN dc 1 0, updN acn 1 0, dl, db, ar, wm, nd)).2.2.2.2.2.2.2.2 0 (6 * (sbF by_ ty 400 0 (((stp by_ ty 0).1, (stp by_ ty 0).2.1, (stp by_ ty 0).2.2.1, (stp by_ ty 0).2.2.2, -9), updN dc 1 0, updN acn 1 0, dl, db, ar, wm, nd)).2.2.2.1 1) (fun m => (sbF by_ ty 400 0 (((stp by_ ty 0).1, (stp by_ ty 0).2.1, (stp by_ ty 0).2.2.1, (stp by_ ty 0).2.2.2, -9), updN dc 1 0, updN acn 1 0, dl, db, ar, wm, nd)).2.2.2.2.2.2.2.2 (30 + m))), aI cI xnw 729 (updN (tdN (blk nw 0 22 (fun _ => 0)) (sbF by_ ty 400 0 (((stp by_ ty 0).1, (stp by_ ty 0).2.1, (stp by_ ty 0).2.2.1, (stp by_ ty 0).2.2.2, -9), updN dc 1 0, updN acn 1 0, dl, db, ar, wm, nd)).2.2.2.2.1 (sbF by_ ty 400 0 (((stp by_ ty 0).1, (stp by_ ty 0).2.1, (stp by_ ty 0).2.2.1, (stp by_ ty 0).2.2.2, -9), updN dc 1 0, updN acn 1 0, dl, db, ar, wm, nd)).2.2.2.2.2.1 ((sbF by_ ty 400 0 (((stp by_ ty 0).1, (stp by_ ty 0).2.1, (stp by_ ty 0).2.2.1, (stp by_ ty 0).2.2.2, -9), updN dc 1 0, updN acn 1 0, dl, db, ar, wm, nd)).2.2.1 1)) 22 0), aZ cZ xkp 2 (updB (updB kp 0 false) 1 false)] [.ref q] (some (.int (nI (sbF by_ ty 400 0 (((stp by_ ty 0).1, (stp by_ ty 0).2.1, (stp by_ ty 0).2.2.1, (stp by_ ty 0).2.2.2, -9), updN dc 1 0, updN acn 1 0, dl, db, ar, wm, nd)).1))) := by
  refine mW_of rfl (Nat.le_of_ble_eq_true rfl) ?_
  intro p e s m args below meth c hC hr hlk hK A hA hD H0 h0 hP hS ls hl
  have hP : va_P D vwCl [oM q tr xtx ty xdc xdl xdb xar xac xwm xnd at9 sta sor val fau xnw xkp xta xtw td xhg, aB cB xtx 150 tx, aI cI xdc 2 dc, aI cI xac 2 acn, aI cI xdl 6 dl, aI cI xdb 6 db, aI cI xar 12 ar, aI cI xwm 10 wm, aI cI xnd 60 nd, aI cI xnw 729 nw, aZ cZ xkp 2 kp] H0 := hP
  have hl : lv_has ls 3 [(0, .ref q)] := hl
  obtain ⟨hx, hb, hml, hown, hts⟩ := id hC
  refine lv_aload_n hx hb dX4_sideboard_0 rfl (lv_at hl 0 rfl) ?_
  refine lv_iconst (v := nI 0) hx hb dX4_sideboard_1 (by decide) ?_
  refine z_put (k := 10) zcX4 hC hK hP hD hS 0 rfl (by decide) lF_X4_65 rfl rfl rfl (Nat.le_of_ble_eq_true rfl) dX4_sideboard_2 (fun H locs hP hD hS => ?_)
  have hP : va_P D vwCl [oM q tr xtx ty xdc xdl xdb xar xac xwm xnd 0 sta sor val fau xnw xkp xta xtw td xhg, aB cB xtx 150 tx, aI cI xdc 2 dc, aI cI xac 2 acn, aI cI xdl 6 dl, aI cI xdb 6 db, aI cI xar 12 ar, aI cI xwm 10 wm, aI cI xnd 60 nd, aI cI xnw 729 nw, aZ cZ xkp 2 kp] H := hP
  have hD : va_D A [oM q tr xtx ty xdc xdl xdb xar xac xwm xnd 0 sta sor val fau xnw xkp xta xtw td xhg, aB cB xtx 150 tx, aI cI xdc 2 dc, aI cI xac 2 acn, aI cI xdl 6 dl, aI cI xdb 6 db, aI cI xar 12 ar, aI cI xwm 10 wm, aI cI xnd 60 nd, aI cI xnw 729 nw, aZ cZ xkp 2 kp] := hD
  refine lv_aload_n hx hb dX4_sideboard_5 rfl (lv_at hl 0 rfl) ?_
  refine lv_bipush (v := (-9)) hx hb dX4_sideboard_6 (by decide) ?_
  refine z_put (k := 14) zcX4 hC hK hP hD hS 0 rfl (by decide) lF_X4_81 rfl rfl rfl (Nat.le_of_ble_eq_true rfl) dX4_sideboard_8 (fun H locs hP hD hS => ?_)
  have hP : va_P D vwCl [oM q tr xtx ty xdc xdl xdb xar xac xwm xnd 0 sta sor val (-9) xnw xkp xta xtw td xhg, aB cB xtx 150 tx, aI cI xdc 2 dc, aI cI xac 2 acn, aI cI xdl 6 dl, aI cI xdb 6 db, aI cI xar 12 ar, aI cI xwm 10 wm, aI cI xnd 60 nd, aI cI xnw 729 nw, aZ cZ xkp 2 kp] H := hP
  have hD : va_D A [oM q tr xtx ty xdc xdl xdb xar xac xwm xnd 0 sta sor val (-9) xnw xkp xta xtw td xhg, aB cB xtx 150 tx, aI cI xdc 2 dc, aI cI xac 2 acn, aI cI xdl 6 dl, aI cI xdb 6 db, aI cI xar 12 ar, aI cI xwm 10 wm, aI cI xnd 60 nd, aI cI xnw 729 nw, aZ cZ xkp 2 kp] := hD
  refine lv_aload_n hx hb dX4_sideboard_11 rfl (lv_at hl 0 rfl) ?_
  refine zXV (As := []) (b := q) (rest := []) hC (c_X4_plain (l := l) ) lM_X4_51 vM_X4_plain (by decide) hK hP hD hS [0, 2, 3] [q, xdc, xac] rfl (by decide) rfl rfl ⟨rfl, rfl, rfl⟩ rfl hl.1 rfl (Nat.le_of_ble_eq_true rfl) dX4_sideboard_12 (by decide) (fun H locs hP hD hS => ?_)
  have hP : va_P D vwCl [oM q tr xtx ty xdc xdl xdb xar xac xwm xnd 0 sta sor val (-9) xnw xkp xta xtw td xhg, aB cB xtx 150 tx, aI cI xdc 2 (updN dc 1 0), aI cI xac 2 (updN acn 1 0), aI cI xdl 6 dl, aI cI xdb 6 db, aI cI xar 12 ar, aI cI xwm 10 wm, aI cI xnd 60 nd, aI cI xnw 729 nw, aZ cZ xkp 2 kp] H := hP
  have hD : va_D A [oM q tr xtx ty xdc xdl xdb xar xac xwm xnd 0 sta sor val (-9) xnw xkp xta xtw td xhg, aB cB xtx 150 tx, aI cI xdc 2 (updN dc 1 0), aI cI xac 2 (updN acn 1 0), aI cI xdl 6 dl, aI cI xdb 6 db, aI cI xar 12 ar, aI cI xwm 10 wm, aI cI xnd 60 nd, aI cI xnw 729 nw, aZ cZ xkp 2 kp] := hD
  show W _ _ _ _ _ _ _ _ _ _ _ _ _ _ _ (F0 m 15 ls [])
  refine lv_iconst (v := nI 0) hx hb dX4_sideboard_15 (by decide) ?_
  refine lv_istore_n (lv' := [(1, .int (nI 0)), (0, .ref q)]) hx hb dX4_sideboard_16 rfl hl (by decide) rfl (fun ls hl => ?_)
  refine lv_aload_n hx hb dX4_sideboard_17 rfl (lv_at hl 1 rfl) ?_
  refine zXV (As := []) (b := q) (rest := []) hC (c_X4_step (l := l) (hlen := hlen) (htx := htx) (hby := hby) (hat := Nat.zero_le _)) lM_X4_84 vM_X4_step (by decide) hK hP hD hS [0, 1] [q, xtx] rfl (by decide) rfl rfl ⟨rfl, rfl, rfl⟩ rfl hl.1 rfl (Nat.le_of_ble_eq_true rfl) dX4_sideboard_18 (by decide) (fun H locs hP hD hS => ?_)
  have hP : va_P D vwCl [oM q tr xtx ty xdc xdl xdb xar xac xwm xnd ((stp by_ ty 0).1) ((stp by_ ty 0).2.1) ((stp by_ ty 0).2.2.1) ((stp by_ ty 0).2.2.2) (-9) xnw xkp xta xtw td xhg, aB cB xtx 150 tx, aI cI xdc 2 (updN dc 1 0), aI cI xac 2 (updN acn 1 0), aI cI xdl 6 dl, aI cI xdb 6 db, aI cI xar 12 ar, aI cI xwm 10 wm, aI cI xnd 60 nd, aI cI xnw 729 nw, aZ cZ xkp 2 kp] H := hP
  have hD : va_D A [oM q tr xtx ty xdc xdl xdb xar xac xwm xnd ((stp by_ ty 0).1) ((stp by_ ty 0).2.1) ((stp by_ ty 0).2.2.1) ((stp by_ ty 0).2.2.2) (-9) xnw xkp xta xtw td xhg, aB cB xtx 150 tx, aI cI xdc 2 (updN dc 1 0), aI cI xac 2 (updN acn 1 0), aI cI xdl 6 dl, aI cI xdb 6 db, aI cI xar 12 ar, aI cI xwm 10 wm, aI cI xnd 60 nd, aI cI xnw 729 nw, aZ cZ xkp 2 kp] := hD
  show W _ _ _ _ _ _ _ _ _ _ _ _ _ _ _ (F0 m 21 ls [])
  have hL21 : ∀ (z21 : Nat) (c9 : Nat) (D9 : Md) (k9 : Nat), mu ty D9.1 = z21 → (wfD ty D9) → (mu ty D9.1 < k9) → (sbF by_ ty k9 c9 D9 = (sbF by_ ty 400 0 (((stp by_ ty 0).1, (stp by_ ty 0).2.1, (stp by_ ty 0).2.2.1, (stp by_ ty 0).2.2.2, -9), updN dc 1 0, updN acn 1 0, dl, db, ar, wm, nd))) → ∀ (H : Heap) (locs : List Loc), va_P D vwCl [oM q tr xtx ty xdc xdl xdb xar xac xwm xnd D9.1.1 D9.1.2.1 D9.1.2.2.1 D9.1.2.2.2.1 D9.1.2.2.2.2 xnw xkp xta xtw td xhg, aB cB xtx 150 tx, aI cI xdc 2 D9.2.1, aI cI xac 2 D9.2.2.1, aI cI xdl 6 D9.2.2.2.1, aI cI xdb 6 D9.2.2.2.2.1, aI cI xar 12 D9.2.2.2.2.2.1, aI cI xwm 10 D9.2.2.2.2.2.2.1, aI cI xnd 60 D9.2.2.2.2.2.2.2, aI cI xnw 729 nw, aZ cZ xkp 2 kp] H → va_D A [oM q tr xtx ty xdc xdl xdb xar xac xwm xnd D9.1.1 D9.1.2.1 D9.1.2.2.1 D9.1.2.2.2.1 D9.1.2.2.2.2 xnw xkp xta xtw td xhg, aB cB xtx 150 tx, aI cI xdc 2 D9.2.1, aI cI xac 2 D9.2.2.1, aI cI xdl 6 D9.2.2.2.1, aI cI xdb 6 D9.2.2.2.2.1, aI cI xar 12 D9.2.2.2.2.2.1, aI cI xwm 10 D9.2.2.2.2.2.2.1, aI cI xnd 60 D9.2.2.2.2.2.2.2, aI cI xnw 729 nw, aZ cZ xkp 2 kp] → va_S A H0 H locs → ∀ ls : Array Slot, lv_has ls 3 [(0, .ref q), (1, .int (nI c9))] → W p l e { frames := 6, cells := 0, slots := 0, locals := 135 } s m args below meth c H locs 0 0 (MQ below (qW D [oM q tr xtx ty xdc xdl xdb xar xac xwm xnd at9 sta sor val fau xnw xkp xta xtw td xhg, aB cB xtx 150 tx, aI cI xdc 2 dc, aI cI xac 2 acn, aI cI xdl 6 dl, aI cI xdb 6 db, aI cI xar 12 ar, aI cI xwm 10 wm, aI cI xnd 60 nd, aI cI xnw 729 nw, aZ cZ xkp 2 kp] [oM q tr xtx 0 xdc xdl xdb xar xac xwm xnd (((sbF by_ ty 400 0 (((stp by_ ty 0).1, (stp by_ ty 0).2.1, (stp by_ ty 0).2.2.1, (stp by_ ty 0).2.2.2, -9), updN dc 1 0, updN acn 1 0, dl, db, ar, wm, nd)).2.1).1) (((sbF by_ ty 400 0 (((stp by_ ty 0).1, (stp by_ ty 0).2.1, (stp by_ ty 0).2.2.1, (stp by_ ty 0).2.2.2, -9), updN dc 1 0, updN acn 1 0, dl, db, ar, wm, nd)).2.1).2.1) (((sbF by_ ty 400 0 (((stp by_ ty 0).1, (stp by_ ty 0).2.1, (stp by_ ty 0).2.2.1, (stp by_ ty 0).2.2.2, -9), updN dc 1 0, updN acn 1 0, dl, db, ar, wm, nd)).2.1).2.2.1) (((sbF by_ ty 400 0 (((stp by_ ty 0).1, (stp by_ ty 0).2.1, (stp by_ ty 0).2.2.1, (stp by_ ty 0).2.2.2, -9), updN dc 1 0, updN acn 1 0, dl, db, ar, wm, nd)).2.1).2.2.2.1) (((sbF by_ ty 400 0 (((stp by_ ty 0).1, (stp by_ ty 0).2.1, (stp by_ ty 0).2.2.1, (stp by_ ty 0).2.2.2, -9), updN dc 1 0, updN acn 1 0, dl, db, ar, wm, nd)).2.1).2.2.2.2) xnw xkp xta xtw 0 xhg, aB cB xtx 150 tx, aI cI xdc 2 (updN (sbF by_ ty 400 0 (((stp by_ ty 0).1, (stp by_ ty 0).2.1, (stp by_ ty 0).2.2.1, (stp by_ ty 0).2.2.2, -9), updN dc 1 0, updN acn 1 0, dl, db, ar, wm, nd)).2.2.1 0 ((sbF by_ ty 400 0 (((stp by_ ty 0).1, (stp by_ ty 0).2.1, (stp by_ ty 0).2.2.1, (stp by_ ty 0).2.2.2, -9), updN dc 1 0, updN acn 1 0, dl, db, ar, wm, nd)).2.2.1 1)), aI cI xac 2 (updN (sbF by_ ty 400 0 (((stp by_ ty 0).1, (stp by_ ty 0).2.1, (stp by_ ty 0).2.2.1, (stp by_ ty 0).2.2.2, -9), updN dc 1 0, updN acn 1 0, dl, db, ar, wm, nd)).2.2.2.1 0 ((sbF by_ ty 400 0 (((stp by_ ty 0).1, (stp by_ ty 0).2.1, (stp by_ ty 0).2.2.1, (stp by_ ty 0).2.2.2, -9), updN dc 1 0, updN acn 1 0, dl, db, ar, wm, nd)).2.2.2.1 1)), aI cI xdl 6 ((sbF by_ ty 400 0 (((stp by_ ty 0).1, (stp by_ ty 0).2.1, (stp by_ ty 0).2.2.1, (stp by_ ty 0).2.2.2, -9), updN dc 1 0, updN acn 1 0, dl, db, ar, wm, nd)).2.2.2.2.1), aI cI xdb 6 ((sbF by_ ty 400 0 (((stp by_ ty 0).1, (stp by_ ty 0).2.1, (stp by_ ty 0).2.2.1, (stp by_ ty 0).2.2.2, -9), updN dc 1 0, updN acn 1 0, dl, db, ar, wm, nd)).2.2.2.2.2.1), aI cI xar 12 (blk (sbF by_ ty 400 0 (((stp by_ ty 0).1, (stp by_ ty 0).2.1, (stp by_ ty 0).2.2.1, (stp by_ ty 0).2.2.2, -9), updN dc 1 0, updN acn 1 0, dl, db, ar, wm, nd)).2.2.2.2.2.2.1 0 ((sbF by_ ty 400 0 (((stp by_ ty 0).1, (stp by_ ty 0).2.1, (stp by_ ty 0).2.2.1, (stp by_ ty 0).2.2.2, -9), updN dc 1 0, updN acn 1 0, dl, db, ar, wm, nd)).2.2.1 1) (fun m => (sbF by_ ty 400 0 (((stp by_ ty 0).1, (stp by_ ty 0).2.1, (stp by_ ty 0).2.2.1, (stp by_ ty 0).2.2.2, -9), updN dc 1 0, updN acn 1 0, dl, db, ar, wm, nd)).2.2.2.2.2.2.1 (6 + m))), aI cI xwm 10 (blk (sbF by_ ty 400 0 (((stp by_ ty 0).1, (stp by_ ty 0).2.1, (stp by_ ty 0).2.2.1, (stp by_ ty 0).2.2.2, -9), updN dc 1 0, updN acn 1 0, dl, db, ar, wm, nd)).2.2.2.2.2.2.2.1 0 ((sbF by_ ty 400 0 (((stp by_ ty 0).1, (stp by_ ty 0).2.1, (stp by_ ty 0).2.2.1, (stp by_ ty 0).2.2.2, -9), updN dc 1 0, updN acn 1 0, dl, db, ar, wm, nd)).2.2.2.1 1) (fun m => (sbF by_ ty 400 0 (((stp by_ ty 0).1, (stp by_ ty 0).2.1, (stp by_ ty 0).2.2.1, (stp by_ ty 0).2.2.2, -9), updN dc 1 0, updN acn 1 0, dl, db, ar, wm, nd)).2.2.2.2.2.2.2.1 (5 + m))), aI cI xnd 60 (blk (sbF by_ ty 400 0 (((stp by_ ty 0).1, (stp by_ ty 0).2.1, (stp by_ ty 0).2.2.1, (stp by_ ty 0).2.2.2, -9), updN dc 1 0, updN acn 1 0, dl, db, ar, wm, nd)).2.2.2.2.2.2.2.2 0 (6 * (sbF by_ ty 400 0 (((stp by_ ty 0).1, (stp by_ ty 0).2.1, (stp by_ ty 0).2.2.1, (stp by_ ty 0).2.2.2, -9), updN dc 1 0, updN acn 1 0, dl, db, ar, wm, nd)).2.2.2.1 1) (fun m => (sbF by_ ty 400 0 (((stp by_ ty 0).1, (stp by_ ty 0).2.1, (stp by_ ty 0).2.2.1, (stp by_ ty 0).2.2.2, -9), updN dc 1 0, updN acn 1 0, dl, db, ar, wm, nd)).2.2.2.2.2.2.2.2 (30 + m))), aI cI xnw 729 (updN (tdN (blk nw 0 22 (fun _ => 0)) (sbF by_ ty 400 0 (((stp by_ ty 0).1, (stp by_ ty 0).2.1, (stp by_ ty 0).2.2.1, (stp by_ ty 0).2.2.2, -9), updN dc 1 0, updN acn 1 0, dl, db, ar, wm, nd)).2.2.2.2.1 (sbF by_ ty 400 0 (((stp by_ ty 0).1, (stp by_ ty 0).2.1, (stp by_ ty 0).2.2.1, (stp by_ ty 0).2.2.2, -9), updN dc 1 0, updN acn 1 0, dl, db, ar, wm, nd)).2.2.2.2.2.1 ((sbF by_ ty 400 0 (((stp by_ ty 0).1, (stp by_ ty 0).2.1, (stp by_ ty 0).2.2.1, (stp by_ ty 0).2.2.2, -9), updN dc 1 0, updN acn 1 0, dl, db, ar, wm, nd)).2.2.1 1)) 22 0), aZ cZ xkp 2 (updB (updB kp 0 false) 1 false)] (some (.int (nI (sbF by_ ty 400 0 (((stp by_ ty 0).1, (stp by_ ty 0).2.1, (stp by_ ty 0).2.2.1, (stp by_ ty 0).2.2.2, -9), updN dc 1 0, updN acn 1 0, dl, db, ar, wm, nd)).1)))) args s 0 0 (zA [oM q tr xtx ty xdc xdl xdb xar xac xwm xnd at9 sta sor val fau xnw xkp xta xtw td xhg, aB cB xtx 150 tx, aI cI xdc 2 dc, aI cI xac 2 acn, aI cI xdl 6 dl, aI cI xdb 6 db, aI cI xar 12 ar, aI cI xwm 10 wm, aI cI xnd 60 nd, aI cI xnw 729 nw, aZ cZ xkp 2 kp])) (F0 m 21 ls []) := by
    intro z21
    induction z21 using Nat.strongRecOn with
    | _ z21 ih21 =>
    intro c9 D9 k9 hz21 hw hk9 hq9 H locs hP hD hS ls hl
    refine lv_aload_n hx hb dX4_sideboard_21 rfl (lv_at hl 0 rfl) ?_
    refine z_get (k := 14) zcX4 hC hK hP 0 rfl (by decide) lF_X4_81 rfl dX4_sideboard_22 ?_
    refine lv_bipush (v := (-9)) hx hb dX4_sideboard_25 (by decide) ?_
    refine lv_icmp_ne (tgt := 91) hx hb dX4_sideboard_27 (by decide) (fun c27 => ?_) (fun c27 => ?_)
    · skip
      refine lv_aload_n hx hb dX4_sideboard_91 rfl (lv_at hl 0 rfl) ?_
      refine z_get (k := 14) zcX4 hC hK hP 0 rfl (by decide) lF_X4_81 rfl dX4_sideboard_92 ?_
      refine lv_bipush (v := (-9)) hx hb dX4_sideboard_95 (by decide) ?_
      refine lv_icmp_eq (tgt := 108) hx hb dX4_sideboard_97 (by decide) (fun c97 => ?_) (fun c97 => by exfalso; exact c97 (by have := hgood; rw [show (sbF by_ ty 400 0 (((stp by_ ty 0).1, (stp by_ ty 0).2.1, (stp by_ ty 0).2.2.1, (stp by_ ty 0).2.2.2, -9), updN dc 1 0, updN acn 1 0, dl, db, ar, wm, nd)) = (c9, D9) from hq9.symm.trans (sbF_n (fun h => c27 h.1))] at this; exact this))
      refine lv_aload_n hx hb dX4_sideboard_108 rfl (lv_at hl 0 rfl) ?_
      refine zXV (As := []) (b := q) (rest := []) hC (c_X4_takeDraft (l := l) (hn1 := hw.2.1) (ha1 := hw.2.2)) lM_X4_54 vM_X4_takeDraft (by decide) hK hP hD hS [0, 2, 3, 9, 4, 5, 6, 7, 8, 10] [q, xdc, xac, xnw, xdl, xdb, xar, xwm, xnd, xkp] rfl (by decide) rfl rfl ⟨rfl, rfl, rfl⟩ rfl hl.1 rfl (Nat.le_of_ble_eq_true rfl) dX4_sideboard_109 (by decide) (fun H locs hP hD hS => ?_)
      have hP : va_P D vwCl [oM q tr xtx ty xdc xdl xdb xar xac xwm xnd D9.1.1 D9.1.2.1 D9.1.2.2.1 D9.1.2.2.2.1 D9.1.2.2.2.2 xnw xkp xta xtw 0 xhg, aB cB xtx 150 tx, aI cI xdc 2 (updN D9.2.1 0 (D9.2.1 1)), aI cI xac 2 (updN D9.2.2.1 0 (D9.2.2.1 1)), aI cI xdl 6 D9.2.2.2.1, aI cI xdb 6 D9.2.2.2.2.1, aI cI xar 12 (blk D9.2.2.2.2.2.1 0 (D9.2.1 1) (fun m => D9.2.2.2.2.2.1 (6 + m))), aI cI xwm 10 (blk D9.2.2.2.2.2.2.1 0 (D9.2.2.1 1) (fun m => D9.2.2.2.2.2.2.1 (5 + m))), aI cI xnd 60 (blk D9.2.2.2.2.2.2.2 0 (6 * D9.2.2.1 1) (fun m => D9.2.2.2.2.2.2.2 (30 + m))), aI cI xnw 729 (updN (tdN (blk nw 0 22 (fun _ => 0)) D9.2.2.2.1 D9.2.2.2.2.1 (D9.2.1 1)) 22 0), aZ cZ xkp 2 (updB (updB kp 0 false) 1 false)] H := hP
      have hD : va_D A [oM q tr xtx ty xdc xdl xdb xar xac xwm xnd D9.1.1 D9.1.2.1 D9.1.2.2.1 D9.1.2.2.2.1 D9.1.2.2.2.2 xnw xkp xta xtw 0 xhg, aB cB xtx 150 tx, aI cI xdc 2 (updN D9.2.1 0 (D9.2.1 1)), aI cI xac 2 (updN D9.2.2.1 0 (D9.2.2.1 1)), aI cI xdl 6 D9.2.2.2.1, aI cI xdb 6 D9.2.2.2.2.1, aI cI xar 12 (blk D9.2.2.2.2.2.1 0 (D9.2.1 1) (fun m => D9.2.2.2.2.2.1 (6 + m))), aI cI xwm 10 (blk D9.2.2.2.2.2.2.1 0 (D9.2.2.1 1) (fun m => D9.2.2.2.2.2.2.1 (5 + m))), aI cI xnd 60 (blk D9.2.2.2.2.2.2.2 0 (6 * D9.2.2.1 1) (fun m => D9.2.2.2.2.2.2.2 (30 + m))), aI cI xnw 729 (updN (tdN (blk nw 0 22 (fun _ => 0)) D9.2.2.2.1 D9.2.2.2.2.1 (D9.2.1 1)) 22 0), aZ cZ xkp 2 (updB (updB kp 0 false) 1 false)] := hD
      show W _ _ _ _ _ _ _ _ _ _ _ _ _ _ _ (F0 m 112 ls [])
      refine lv_aload_n hx hb dX4_sideboard_112 rfl (lv_at hl 0 rfl) ?_
      refine lv_iconst (v := nI 0) hx hb dX4_sideboard_113 (by decide) ?_
      refine z_put (k := 2) zcX4 hC hK hP hD hS 0 rfl (by decide) lF_X4_61 rfl rfl rfl (Nat.le_of_ble_eq_true rfl) dX4_sideboard_114 (fun H locs hP hD hS => ?_)
      have hP : va_P D vwCl [oM q tr xtx 0 xdc xdl xdb xar xac xwm xnd D9.1.1 D9.1.2.1 D9.1.2.2.1 D9.1.2.2.2.1 D9.1.2.2.2.2 xnw xkp xta xtw 0 xhg, aB cB xtx 150 tx, aI cI xdc 2 (updN D9.2.1 0 (D9.2.1 1)), aI cI xac 2 (updN D9.2.2.1 0 (D9.2.2.1 1)), aI cI xdl 6 D9.2.2.2.1, aI cI xdb 6 D9.2.2.2.2.1, aI cI xar 12 (blk D9.2.2.2.2.2.1 0 (D9.2.1 1) (fun m => D9.2.2.2.2.2.1 (6 + m))), aI cI xwm 10 (blk D9.2.2.2.2.2.2.1 0 (D9.2.2.1 1) (fun m => D9.2.2.2.2.2.2.1 (5 + m))), aI cI xnd 60 (blk D9.2.2.2.2.2.2.2 0 (6 * D9.2.2.1 1) (fun m => D9.2.2.2.2.2.2.2 (30 + m))), aI cI xnw 729 (updN (tdN (blk nw 0 22 (fun _ => 0)) D9.2.2.2.1 D9.2.2.2.2.1 (D9.2.1 1)) 22 0), aZ cZ xkp 2 (updB (updB kp 0 false) 1 false)] H := hP
      have hD : va_D A [oM q tr xtx 0 xdc xdl xdb xar xac xwm xnd D9.1.1 D9.1.2.1 D9.1.2.2.1 D9.1.2.2.2.1 D9.1.2.2.2.2 xnw xkp xta xtw 0 xhg, aB cB xtx 150 tx, aI cI xdc 2 (updN D9.2.1 0 (D9.2.1 1)), aI cI xac 2 (updN D9.2.2.1 0 (D9.2.2.1 1)), aI cI xdl 6 D9.2.2.2.1, aI cI xdb 6 D9.2.2.2.2.1, aI cI xar 12 (blk D9.2.2.2.2.2.1 0 (D9.2.1 1) (fun m => D9.2.2.2.2.2.1 (6 + m))), aI cI xwm 10 (blk D9.2.2.2.2.2.2.1 0 (D9.2.2.1 1) (fun m => D9.2.2.2.2.2.2.1 (5 + m))), aI cI xnd 60 (blk D9.2.2.2.2.2.2.2 0 (6 * D9.2.2.1 1) (fun m => D9.2.2.2.2.2.2.2 (30 + m))), aI cI xnw 729 (updN (tdN (blk nw 0 22 (fun _ => 0)) D9.2.2.2.1 D9.2.2.2.2.1 (D9.2.1 1)) 22 0), aZ cZ xkp 2 (updB (updB kp 0 false) 1 false)] := hD
      refine lv_iload_n hx hb dX4_sideboard_117 rfl (lv_at hl 1 rfl) ?_
      exact zw_i hC hr hlk hA h0 (by rw [show (sbF by_ ty 400 0 (((stp by_ ty 0).1, (stp by_ ty 0).2.1, (stp by_ ty 0).2.2.1, (stp by_ ty 0).2.2.2, -9), updN dc 1 0, updN acn 1 0, dl, db, ar, wm, nd)) = (c9, D9) from hq9.symm.trans (sbF_n (fun h => c27 h.1))]; exact hP) hS (by rw [show (sbF by_ ty 400 0 (((stp by_ ty 0).1, (stp by_ ty 0).2.1, (stp by_ ty 0).2.2.1, (stp by_ ty 0).2.2.2, -9), updN dc 1 0, updN acn 1 0, dl, db, ar, wm, nd)) = (c9, D9) from hq9.symm.trans (sbF_n (fun h => c27 h.1))]) dX4_sideboard_118
    · skip
      refine lv_aload_n hx hb dX4_sideboard_30 rfl (lv_at hl 0 rfl) ?_
      refine z_get (k := 12) zcX4 hC hK hP 0 rfl (by decide) lF_X4_78 rfl dX4_sideboard_31 ?_
      refine lv_iconst (v := nI 3) hx hb dX4_sideboard_34 (by decide) ?_
      have b35 := hw.1.2.2.1
      refine zc_eq (tgt := 91) hC dX4_sideboard_35 (by decide) (by omega) (by omega) (fun c35 => ?_) (fun c35 => ?_)
      · skip
        refine lv_aload_n hx hb dX4_sideboard_91 rfl (lv_at hl 0 rfl) ?_
        refine z_get (k := 14) zcX4 hC hK hP 0 rfl (by decide) lF_X4_81 rfl dX4_sideboard_92 ?_
        refine lv_bipush (v := (-9)) hx hb dX4_sideboard_95 (by decide) ?_
        refine lv_icmp_eq (tgt := 108) hx hb dX4_sideboard_97 (by decide) (fun c97 => ?_) (fun c97 => by exfalso; exact c97 (by have := hgood; rw [show (sbF by_ ty 400 0 (((stp by_ ty 0).1, (stp by_ ty 0).2.1, (stp by_ ty 0).2.2.1, (stp by_ ty 0).2.2.2, -9), updN dc 1 0, updN acn 1 0, dl, db, ar, wm, nd)) = (c9, D9) from hq9.symm.trans (sbF_n (fun h => h.2 c35))] at this; exact this))
        refine lv_aload_n hx hb dX4_sideboard_108 rfl (lv_at hl 0 rfl) ?_
        refine zXV (As := []) (b := q) (rest := []) hC (c_X4_takeDraft (l := l) (hn1 := hw.2.1) (ha1 := hw.2.2)) lM_X4_54 vM_X4_takeDraft (by decide) hK hP hD hS [0, 2, 3, 9, 4, 5, 6, 7, 8, 10] [q, xdc, xac, xnw, xdl, xdb, xar, xwm, xnd, xkp] rfl (by decide) rfl rfl ⟨rfl, rfl, rfl⟩ rfl hl.1 rfl (Nat.le_of_ble_eq_true rfl) dX4_sideboard_109 (by decide) (fun H locs hP hD hS => ?_)
        have hP : va_P D vwCl [oM q tr xtx ty xdc xdl xdb xar xac xwm xnd D9.1.1 D9.1.2.1 D9.1.2.2.1 D9.1.2.2.2.1 D9.1.2.2.2.2 xnw xkp xta xtw 0 xhg, aB cB xtx 150 tx, aI cI xdc 2 (updN D9.2.1 0 (D9.2.1 1)), aI cI xac 2 (updN D9.2.2.1 0 (D9.2.2.1 1)), aI cI xdl 6 D9.2.2.2.1, aI cI xdb 6 D9.2.2.2.2.1, aI cI xar 12 (blk D9.2.2.2.2.2.1 0 (D9.2.1 1) (fun m => D9.2.2.2.2.2.1 (6 + m))), aI cI xwm 10 (blk D9.2.2.2.2.2.2.1 0 (D9.2.2.1 1) (fun m => D9.2.2.2.2.2.2.1 (5 + m))), aI cI xnd 60 (blk D9.2.2.2.2.2.2.2 0 (6 * D9.2.2.1 1) (fun m => D9.2.2.2.2.2.2.2 (30 + m))), aI cI xnw 729 (updN (tdN (blk nw 0 22 (fun _ => 0)) D9.2.2.2.1 D9.2.2.2.2.1 (D9.2.1 1)) 22 0), aZ cZ xkp 2 (updB (updB kp 0 false) 1 false)] H := hP
        have hD : va_D A [oM q tr xtx ty xdc xdl xdb xar xac xwm xnd D9.1.1 D9.1.2.1 D9.1.2.2.1 D9.1.2.2.2.1 D9.1.2.2.2.2 xnw xkp xta xtw 0 xhg, aB cB xtx 150 tx, aI cI xdc 2 (updN D9.2.1 0 (D9.2.1 1)), aI cI xac 2 (updN D9.2.2.1 0 (D9.2.2.1 1)), aI cI xdl 6 D9.2.2.2.1, aI cI xdb 6 D9.2.2.2.2.1, aI cI xar 12 (blk D9.2.2.2.2.2.1 0 (D9.2.1 1) (fun m => D9.2.2.2.2.2.1 (6 + m))), aI cI xwm 10 (blk D9.2.2.2.2.2.2.1 0 (D9.2.2.1 1) (fun m => D9.2.2.2.2.2.2.1 (5 + m))), aI cI xnd 60 (blk D9.2.2.2.2.2.2.2 0 (6 * D9.2.2.1 1) (fun m => D9.2.2.2.2.2.2.2 (30 + m))), aI cI xnw 729 (updN (tdN (blk nw 0 22 (fun _ => 0)) D9.2.2.2.1 D9.2.2.2.2.1 (D9.2.1 1)) 22 0), aZ cZ xkp 2 (updB (updB kp 0 false) 1 false)] := hD
        show W _ _ _ _ _ _ _ _ _ _ _ _ _ _ _ (F0 m 112 ls [])
        refine lv_aload_n hx hb dX4_sideboard_112 rfl (lv_at hl 0 rfl) ?_
        refine lv_iconst (v := nI 0) hx hb dX4_sideboard_113 (by decide) ?_
        refine z_put (k := 2) zcX4 hC hK hP hD hS 0 rfl (by decide) lF_X4_61 rfl rfl rfl (Nat.le_of_ble_eq_true rfl) dX4_sideboard_114 (fun H locs hP hD hS => ?_)
        have hP : va_P D vwCl [oM q tr xtx 0 xdc xdl xdb xar xac xwm xnd D9.1.1 D9.1.2.1 D9.1.2.2.1 D9.1.2.2.2.1 D9.1.2.2.2.2 xnw xkp xta xtw 0 xhg, aB cB xtx 150 tx, aI cI xdc 2 (updN D9.2.1 0 (D9.2.1 1)), aI cI xac 2 (updN D9.2.2.1 0 (D9.2.2.1 1)), aI cI xdl 6 D9.2.2.2.1, aI cI xdb 6 D9.2.2.2.2.1, aI cI xar 12 (blk D9.2.2.2.2.2.1 0 (D9.2.1 1) (fun m => D9.2.2.2.2.2.1 (6 + m))), aI cI xwm 10 (blk D9.2.2.2.2.2.2.1 0 (D9.2.2.1 1) (fun m => D9.2.2.2.2.2.2.1 (5 + m))), aI cI xnd 60 (blk D9.2.2.2.2.2.2.2 0 (6 * D9.2.2.1 1) (fun m => D9.2.2.2.2.2.2.2 (30 + m))), aI cI xnw 729 (updN (tdN (blk nw 0 22 (fun _ => 0)) D9.2.2.2.1 D9.2.2.2.2.1 (D9.2.1 1)) 22 0), aZ cZ xkp 2 (updB (updB kp 0 false) 1 false)] H := hP
        have hD : va_D A [oM q tr xtx 0 xdc xdl xdb xar xac xwm xnd D9.1.1 D9.1.2.1 D9.1.2.2.1 D9.1.2.2.2.1 D9.1.2.2.2.2 xnw xkp xta xtw 0 xhg, aB cB xtx 150 tx, aI cI xdc 2 (updN D9.2.1 0 (D9.2.1 1)), aI cI xac 2 (updN D9.2.2.1 0 (D9.2.2.1 1)), aI cI xdl 6 D9.2.2.2.1, aI cI xdb 6 D9.2.2.2.2.1, aI cI xar 12 (blk D9.2.2.2.2.2.1 0 (D9.2.1 1) (fun m => D9.2.2.2.2.2.1 (6 + m))), aI cI xwm 10 (blk D9.2.2.2.2.2.2.1 0 (D9.2.2.1 1) (fun m => D9.2.2.2.2.2.2.1 (5 + m))), aI cI xnd 60 (blk D9.2.2.2.2.2.2.2 0 (6 * D9.2.2.1 1) (fun m => D9.2.2.2.2.2.2.2 (30 + m))), aI cI xnw 729 (updN (tdN (blk nw 0 22 (fun _ => 0)) D9.2.2.2.1 D9.2.2.2.2.1 (D9.2.1 1)) 22 0), aZ cZ xkp 2 (updB (updB kp 0 false) 1 false)] := hD
        refine lv_iload_n hx hb dX4_sideboard_117 rfl (lv_at hl 1 rfl) ?_
        exact zw_i hC hr hlk hA h0 (by rw [show (sbF by_ ty 400 0 (((stp by_ ty 0).1, (stp by_ ty 0).2.1, (stp by_ ty 0).2.2.1, (stp by_ ty 0).2.2.2, -9), updN dc 1 0, updN acn 1 0, dl, db, ar, wm, nd)) = (c9, D9) from hq9.symm.trans (sbF_n (fun h => h.2 c35))]; exact hP) hS (by rw [show (sbF by_ ty 400 0 (((stp by_ ty 0).1, (stp by_ ty 0).2.1, (stp by_ ty 0).2.2.1, (stp by_ ty 0).2.2.2, -9), updN dc 1 0, updN acn 1 0, dl, db, ar, wm, nd)) = (c9, D9) from hq9.symm.trans (sbF_n (fun h => h.2 c35))]) dX4_sideboard_118
      · skip
        refine lv_aload_n hx hb dX4_sideboard_38 rfl (lv_at hl 0 rfl) ?_
        refine z_get (k := 12) zcX4 hC hK hP 0 rfl (by decide) lF_X4_78 rfl dX4_sideboard_39 ?_
        refine lv_istore_n (lv' := [(2, .int (nI D9.1.2.2.1)), (0, .ref q), (1, .int (nI c9))]) hx hb dX4_sideboard_42 rfl hl (by decide) rfl (fun ls hl => ?_)
        refine lv_aload_n hx hb dX4_sideboard_43 rfl (lv_at hl 1 rfl) ?_
        refine lv_aload_n hx hb dX4_sideboard_44 rfl (lv_at hl 1 rfl) ?_
        refine lv_iload_n hx hb dX4_sideboard_45 rfl (lv_at hl 0 rfl) ?_
        refine zRV (As := [.int (nI D9.1.2.2.1)]) (b := q) (rest := [.ref q]) hC (c_X4_mayBe (l := l) (hx9 := hw.1.2.2.1) (hn1 := hw.2.1) (ha1 := hw.2.2)) lM_X4_101 vM_X4_mayBe (by decide) hK hP [0, 2, 3] rfl ⟨rfl, rfl, rfl⟩ rfl hl.1 rfl (Nat.le_of_ble_eq_true rfl) dX4_sideboard_46 (by decide) ?_
        show W _ _ _ _ _ _ _ _ _ _ _ _ _ _ _ (F0 m 49 ls [.int (bI (mbF (D9.2.1 1) (D9.2.2.1 1) D9.1.2.2.1)), .ref q])
        refine zXV (As := [.int (bI (mbF (D9.2.1 1) (D9.2.2.1 1) D9.1.2.2.1))]) (b := q) (rest := []) hC (c_X4_due (l := l) (u := D9.1) (ok9 := mbF (D9.2.1 1) (D9.2.2.1 1) D9.1.2.2.1) (hlen := hlen) (htx := htx) (hby := hby) (hu := hw.1)) lM_X4_87 vM_X4_due (by decide) hK hP hD hS [0, 1] [q, xtx] rfl (by decide) rfl rfl ⟨rfl, rfl, rfl⟩ rfl hl.1 rfl (Nat.le_of_ble_eq_true rfl) dX4_sideboard_49 (by decide) (fun H locs hP hD hS => ?_)
        have hP : va_P D vwCl [oM q tr xtx ty xdc xdl xdb xar xac xwm xnd (((dM by_ ty D9).1).1) (((dM by_ ty D9).1).2.1) (((dM by_ ty D9).1).2.2.1) (((dM by_ ty D9).1).2.2.2.1) (((dM by_ ty D9).1).2.2.2.2) xnw xkp xta xtw td xhg, aB cB xtx 150 tx, aI cI xdc 2 D9.2.1, aI cI xac 2 D9.2.2.1, aI cI xdl 6 D9.2.2.2.1, aI cI xdb 6 D9.2.2.2.2.1, aI cI xar 12 D9.2.2.2.2.2.1, aI cI xwm 10 D9.2.2.2.2.2.2.1, aI cI xnd 60 D9.2.2.2.2.2.2.2, aI cI xnw 729 nw, aZ cZ xkp 2 kp] H := hP
        have hD : va_D A [oM q tr xtx ty xdc xdl xdb xar xac xwm xnd (((dM by_ ty D9).1).1) (((dM by_ ty D9).1).2.1) (((dM by_ ty D9).1).2.2.1) (((dM by_ ty D9).1).2.2.2.1) (((dM by_ ty D9).1).2.2.2.2) xnw xkp xta xtw td xhg, aB cB xtx 150 tx, aI cI xdc 2 D9.2.1, aI cI xac 2 D9.2.2.1, aI cI xdl 6 D9.2.2.2.1, aI cI xdb 6 D9.2.2.2.2.1, aI cI xar 12 D9.2.2.2.2.2.1, aI cI xwm 10 D9.2.2.2.2.2.2.1, aI cI xnd 60 D9.2.2.2.2.2.2.2, aI cI xnw 729 nw, aZ cZ xkp 2 kp] := hD
        show W _ _ _ _ _ _ _ _ _ _ _ _ _ _ _ (F0 m 52 ls [.int (nI D9.1.2.2.2.1)])
        refine lv_pop hx hb dX4_sideboard_52 rfl ?_
        refine lv_aload_n hx hb dX4_sideboard_53 rfl (lv_at hl 1 rfl) ?_
        refine z_get (k := 14) zcX4 hC hK hP 0 rfl (by decide) lF_X4_81 rfl dX4_sideboard_54 ?_
        refine lv_bipush (v := (-9)) hx hb dX4_sideboard_57 (by decide) ?_
        refine lv_icmp_ne (tgt := 88) hx hb dX4_sideboard_59 (by decide) (fun c59 => ?_) (fun c59 => ?_)
        · skip
          have b59 := mu_d (by_ := by_) (len := ty) c27 c59
          refine lv_goto (tgt := 21) hx hb dX4_sideboard_88 (by decide) ?_
          exact ih21 (mu ty (dM by_ ty D9).1) (by omega) c9 (dM by_ ty D9) (k9 - 1) rfl (by exact dM_wf hw) (by omega) (by rw [← hq9]; exact (sbF_d (by omega) ⟨c27, c35⟩ c59).symm) _ _ hP hD hS ls (lv_sub hl [1, 2] rfl)
        · skip
          refine lv_aload_n hx hb dX4_sideboard_62 rfl (lv_at hl 1 rfl) ?_
          refine lv_iload_n hx hb dX4_sideboard_63 rfl (lv_at hl 0 rfl) ?_
          have h64s := mbF_ok (dueF_ok hlen hw.1 c59).1
          rcases h64s with h64 | h64 | h64
          · skip
            refine z_top (show (nI D9.1.2.2.1) = nI 97 from by rw [h64.1]) ?_
            refine zXV (As := [.int (nI 97)]) (b := q) (rest := []) hC (c_X4_readRow_a (l := l) (u := (dM by_ ty D9).1) (hlen := hlen) (htx := htx) (hby := hby) (hu := (dM_wf hw).1) (hn1 := hw.2.1) (ha1 := h64.2)) lM_X4_105 vM_X4_readRow (by decide) hK hP hD hS [0, 1, 2, 3, 7, 8] [q, xtx, xdc, xac, xwm, xnd] rfl (by decide) rfl rfl ⟨rfl, rfl, rfl⟩ rfl hl.1 rfl (Nat.le_of_ble_eq_true rfl) dX4_sideboard_64 (by decide) (fun H locs hP hD hS => ?_)
            have hP : va_P D vwCl [oM q tr xtx ty xdc xdl xdb xar xac xwm xnd (((rowA by_ ty (dM by_ ty D9)).1).1) (((rowA by_ ty (dM by_ ty D9)).1).2.1) (((rowA by_ ty (dM by_ ty D9)).1).2.2.1) (((rowA by_ ty (dM by_ ty D9)).1).2.2.2.1) (((rowA by_ ty (dM by_ ty D9)).1).2.2.2.2) xnw xkp xta xtw td xhg, aB cB xtx 150 tx, aI cI xdc 2 ((rowA by_ ty (dM by_ ty D9)).2.1), aI cI xac 2 ((rowA by_ ty (dM by_ ty D9)).2.2.1), aI cI xdl 6 D9.2.2.2.1, aI cI xdb 6 D9.2.2.2.2.1, aI cI xar 12 D9.2.2.2.2.2.1, aI cI xwm 10 ((rowA by_ ty (dM by_ ty D9)).2.2.2.2.2.2.1), aI cI xnd 60 ((rowA by_ ty (dM by_ ty D9)).2.2.2.2.2.2.2), aI cI xnw 729 nw, aZ cZ xkp 2 kp] H := hP
            have hD : va_D A [oM q tr xtx ty xdc xdl xdb xar xac xwm xnd (((rowA by_ ty (dM by_ ty D9)).1).1) (((rowA by_ ty (dM by_ ty D9)).1).2.1) (((rowA by_ ty (dM by_ ty D9)).1).2.2.1) (((rowA by_ ty (dM by_ ty D9)).1).2.2.2.1) (((rowA by_ ty (dM by_ ty D9)).1).2.2.2.2) xnw xkp xta xtw td xhg, aB cB xtx 150 tx, aI cI xdc 2 ((rowA by_ ty (dM by_ ty D9)).2.1), aI cI xac 2 ((rowA by_ ty (dM by_ ty D9)).2.2.1), aI cI xdl 6 D9.2.2.2.1, aI cI xdb 6 D9.2.2.2.2.1, aI cI xar 12 D9.2.2.2.2.2.1, aI cI xwm 10 ((rowA by_ ty (dM by_ ty D9)).2.2.2.2.2.2.1), aI cI xnd 60 ((rowA by_ ty (dM by_ ty D9)).2.2.2.2.2.2.2), aI cI xnw 729 nw, aZ cZ xkp 2 kp] := hD
            show W _ _ _ _ _ _ _ _ _ _ _ _ _ _ _ (F0 m 67 ls [])
            refine lv_aload_n hx hb dX4_sideboard_67 rfl (lv_at hl 1 rfl) ?_
            refine lv_aload_n hx hb dX4_sideboard_68 rfl (lv_at hl 1 rfl) ?_
            refine z_get (k := 12) zcX4 hC hK hP 0 rfl (by decide) lF_X4_78 rfl dX4_sideboard_69 ?_
            refine lv_iconst (v := nI 2) hx hb dX4_sideboard_72 (by decide) ?_
            have w73 := rowA_wf (by_ := by_) (dM_wf (by_ := by_) hw) h64.2
            have b73 := w73.1.2.2.1
            refine zc_ne (tgt := 80) hC dX4_sideboard_73 (by decide) (by omega) (by omega) (fun c73 => ?_) (fun c73 => ?_)
            · skip
              refine lv_iconst (v := nI 0) hx hb dX4_sideboard_80 (by decide) ?_
              refine z_top (show (nI 0) = bI false from by rfl) ?_
              refine zXV (As := [.int (bI false)]) (b := q) (rest := []) hC (c_X4_due (l := l) (u := (rowA by_ ty (dM by_ ty D9)).1) (ok9 := false) (hlen := hlen) (htx := htx) (hby := hby) (hu := w73.1)) lM_X4_87 vM_X4_due (by decide) hK hP hD hS [0, 1] [q, xtx] rfl (by decide) rfl rfl ⟨rfl, rfl, rfl⟩ rfl hl.1 rfl (Nat.le_of_ble_eq_true rfl) dX4_sideboard_81 (by decide) (fun H locs hP hD hS => ?_)
              have hP : va_P D vwCl [oM q tr xtx ty xdc xdl xdb xar xac xwm xnd (((eM by_ ty false (rowA by_ ty (dM by_ ty D9))).1).1) (((eM by_ ty false (rowA by_ ty (dM by_ ty D9))).1).2.1) (((eM by_ ty false (rowA by_ ty (dM by_ ty D9))).1).2.2.1) (((eM by_ ty false (rowA by_ ty (dM by_ ty D9))).1).2.2.2.1) (((eM by_ ty false (rowA by_ ty (dM by_ ty D9))).1).2.2.2.2) xnw xkp xta xtw td xhg, aB cB xtx 150 tx, aI cI xdc 2 ((rowA by_ ty (dM by_ ty D9)).2.1), aI cI xac 2 ((rowA by_ ty (dM by_ ty D9)).2.2.1), aI cI xdl 6 D9.2.2.2.1, aI cI xdb 6 D9.2.2.2.2.1, aI cI xar 12 D9.2.2.2.2.2.1, aI cI xwm 10 ((rowA by_ ty (dM by_ ty D9)).2.2.2.2.2.2.1), aI cI xnd 60 ((rowA by_ ty (dM by_ ty D9)).2.2.2.2.2.2.2), aI cI xnw 729 nw, aZ cZ xkp 2 kp] H := hP
              have hD : va_D A [oM q tr xtx ty xdc xdl xdb xar xac xwm xnd (((eM by_ ty false (rowA by_ ty (dM by_ ty D9))).1).1) (((eM by_ ty false (rowA by_ ty (dM by_ ty D9))).1).2.1) (((eM by_ ty false (rowA by_ ty (dM by_ ty D9))).1).2.2.1) (((eM by_ ty false (rowA by_ ty (dM by_ ty D9))).1).2.2.2.1) (((eM by_ ty false (rowA by_ ty (dM by_ ty D9))).1).2.2.2.2) xnw xkp xta xtw td xhg, aB cB xtx 150 tx, aI cI xdc 2 ((rowA by_ ty (dM by_ ty D9)).2.1), aI cI xac 2 ((rowA by_ ty (dM by_ ty D9)).2.2.1), aI cI xdl 6 D9.2.2.2.1, aI cI xdb 6 D9.2.2.2.2.1, aI cI xar 12 D9.2.2.2.2.2.1, aI cI xwm 10 ((rowA by_ ty (dM by_ ty D9)).2.2.2.2.2.2.1), aI cI xnd 60 ((rowA by_ ty (dM by_ ty D9)).2.2.2.2.2.2.2), aI cI xnw 729 nw, aZ cZ xkp 2 kp] := hD
              show W _ _ _ _ _ _ _ _ _ _ _ _ _ _ _ (F0 m 84 ls [.int (nI ((rowA by_ ty (dM by_ ty D9)).1.2.2.2.1))])
              refine lv_pop hx hb dX4_sideboard_84 rfl ?_
              have b85 := mu_A (by_ := by_) (b := false) hlen hw c27 h64.2
              refine lv_iinc (v := nI (c9 + 1)) (lv' := [(1, .int (nI (c9 + 1))), (2, .int (nI D9.1.2.2.1)), (0, .ref q)]) hx hb dX4_sideboard_85 hl (k := 2) rfl (z_inc c9 1) (by decide) rfl (fun ls hl => ?_)
              refine lv_goto (tgt := 21) hx hb dX4_sideboard_88 (by decide) ?_
              exact ih21 (mu ty (eM by_ ty false (rowA by_ ty (dM by_ ty D9))).1) (by omega) (c9 + 1) (eM by_ ty false (rowA by_ ty (dM by_ ty D9))) (k9 - 1) rfl (by exact eM_wf w73) (by omega) (by rw [← hq9]; exact (sbF_r (by omega) ⟨c27, c35⟩ c59 (if_pos h64.1) (decide_eq_false c73)).symm) _ _ hP hD hS ls (lv_sub hl [2, 0] rfl)
            · skip
              refine lv_iconst (v := nI 1) hx hb dX4_sideboard_76 (by decide) ?_
              refine lv_goto (tgt := 81) hx hb dX4_sideboard_77 (by decide) ?_
              refine z_top (show (nI 1) = bI true from by rfl) ?_
              refine zXV (As := [.int (bI true)]) (b := q) (rest := []) hC (c_X4_due (l := l) (u := (rowA by_ ty (dM by_ ty D9)).1) (ok9 := true) (hlen := hlen) (htx := htx) (hby := hby) (hu := w73.1)) lM_X4_87 vM_X4_due (by decide) hK hP hD hS [0, 1] [q, xtx] rfl (by decide) rfl rfl ⟨rfl, rfl, rfl⟩ rfl hl.1 rfl (Nat.le_of_ble_eq_true rfl) dX4_sideboard_81 (by decide) (fun H locs hP hD hS => ?_)
              have hP : va_P D vwCl [oM q tr xtx ty xdc xdl xdb xar xac xwm xnd (((eM by_ ty true (rowA by_ ty (dM by_ ty D9))).1).1) (((eM by_ ty true (rowA by_ ty (dM by_ ty D9))).1).2.1) (((eM by_ ty true (rowA by_ ty (dM by_ ty D9))).1).2.2.1) (((eM by_ ty true (rowA by_ ty (dM by_ ty D9))).1).2.2.2.1) (((eM by_ ty true (rowA by_ ty (dM by_ ty D9))).1).2.2.2.2) xnw xkp xta xtw td xhg, aB cB xtx 150 tx, aI cI xdc 2 ((rowA by_ ty (dM by_ ty D9)).2.1), aI cI xac 2 ((rowA by_ ty (dM by_ ty D9)).2.2.1), aI cI xdl 6 D9.2.2.2.1, aI cI xdb 6 D9.2.2.2.2.1, aI cI xar 12 D9.2.2.2.2.2.1, aI cI xwm 10 ((rowA by_ ty (dM by_ ty D9)).2.2.2.2.2.2.1), aI cI xnd 60 ((rowA by_ ty (dM by_ ty D9)).2.2.2.2.2.2.2), aI cI xnw 729 nw, aZ cZ xkp 2 kp] H := hP
              have hD : va_D A [oM q tr xtx ty xdc xdl xdb xar xac xwm xnd (((eM by_ ty true (rowA by_ ty (dM by_ ty D9))).1).1) (((eM by_ ty true (rowA by_ ty (dM by_ ty D9))).1).2.1) (((eM by_ ty true (rowA by_ ty (dM by_ ty D9))).1).2.2.1) (((eM by_ ty true (rowA by_ ty (dM by_ ty D9))).1).2.2.2.1) (((eM by_ ty true (rowA by_ ty (dM by_ ty D9))).1).2.2.2.2) xnw xkp xta xtw td xhg, aB cB xtx 150 tx, aI cI xdc 2 ((rowA by_ ty (dM by_ ty D9)).2.1), aI cI xac 2 ((rowA by_ ty (dM by_ ty D9)).2.2.1), aI cI xdl 6 D9.2.2.2.1, aI cI xdb 6 D9.2.2.2.2.1, aI cI xar 12 D9.2.2.2.2.2.1, aI cI xwm 10 ((rowA by_ ty (dM by_ ty D9)).2.2.2.2.2.2.1), aI cI xnd 60 ((rowA by_ ty (dM by_ ty D9)).2.2.2.2.2.2.2), aI cI xnw 729 nw, aZ cZ xkp 2 kp] := hD
              show W _ _ _ _ _ _ _ _ _ _ _ _ _ _ _ (F0 m 84 ls [.int (nI ((rowA by_ ty (dM by_ ty D9)).1.2.2.2.1))])
              refine lv_pop hx hb dX4_sideboard_84 rfl ?_
              have b85 := mu_A (by_ := by_) (b := true) hlen hw c27 h64.2
              refine lv_iinc (v := nI (c9 + 1)) (lv' := [(1, .int (nI (c9 + 1))), (2, .int (nI D9.1.2.2.1)), (0, .ref q)]) hx hb dX4_sideboard_85 hl (k := 2) rfl (z_inc c9 1) (by decide) rfl (fun ls hl => ?_)
              refine lv_goto (tgt := 21) hx hb dX4_sideboard_88 (by decide) ?_
              exact ih21 (mu ty (eM by_ ty true (rowA by_ ty (dM by_ ty D9))).1) (by omega) (c9 + 1) (eM by_ ty true (rowA by_ ty (dM by_ ty D9))) (k9 - 1) rfl (by exact eM_wf w73) (by omega) (by rw [← hq9]; exact (sbF_r (by omega) ⟨c27, c35⟩ c59 (if_pos h64.1) (decide_eq_true c73)).symm) _ _ hP hD hS ls (lv_sub hl [2, 0] rfl)
          · skip
            refine z_top (show (nI D9.1.2.2.1) = nI 100 from by rw [h64.1]) ?_
            refine zXV (As := [.int (nI 100)]) (b := q) (rest := []) hC (c_X4_readRow_d (l := l) (u := (dM by_ ty D9).1) (hlen := hlen) (htx := htx) (hby := hby) (hu := (dM_wf hw).1) (hn1 := h64.2)) lM_X4_105 vM_X4_readRow (by decide) hK hP hD hS [0, 1, 2, 4, 5, 6] [q, xtx, xdc, xdl, xdb, xar] rfl (by decide) rfl rfl ⟨rfl, rfl, rfl⟩ rfl hl.1 rfl (Nat.le_of_ble_eq_true rfl) dX4_sideboard_64 (by decide) (fun H locs hP hD hS => ?_)
            have hP : va_P D vwCl [oM q tr xtx ty xdc xdl xdb xar xac xwm xnd (((rowD by_ ty (dM by_ ty D9)).1).1) (((rowD by_ ty (dM by_ ty D9)).1).2.1) (((rowD by_ ty (dM by_ ty D9)).1).2.2.1) (((rowD by_ ty (dM by_ ty D9)).1).2.2.2.1) (((rowD by_ ty (dM by_ ty D9)).1).2.2.2.2) xnw xkp xta xtw td xhg, aB cB xtx 150 tx, aI cI xdc 2 ((rowD by_ ty (dM by_ ty D9)).2.1), aI cI xac 2 D9.2.2.1, aI cI xdl 6 ((rowD by_ ty (dM by_ ty D9)).2.2.2.1), aI cI xdb 6 ((rowD by_ ty (dM by_ ty D9)).2.2.2.2.1), aI cI xar 12 ((rowD by_ ty (dM by_ ty D9)).2.2.2.2.2.1), aI cI xwm 10 D9.2.2.2.2.2.2.1, aI cI xnd 60 D9.2.2.2.2.2.2.2, aI cI xnw 729 nw, aZ cZ xkp 2 kp] H := hP
            have hD : va_D A [oM q tr xtx ty xdc xdl xdb xar xac xwm xnd (((rowD by_ ty (dM by_ ty D9)).1).1) (((rowD by_ ty (dM by_ ty D9)).1).2.1) (((rowD by_ ty (dM by_ ty D9)).1).2.2.1) (((rowD by_ ty (dM by_ ty D9)).1).2.2.2.1) (((rowD by_ ty (dM by_ ty D9)).1).2.2.2.2) xnw xkp xta xtw td xhg, aB cB xtx 150 tx, aI cI xdc 2 ((rowD by_ ty (dM by_ ty D9)).2.1), aI cI xac 2 D9.2.2.1, aI cI xdl 6 ((rowD by_ ty (dM by_ ty D9)).2.2.2.1), aI cI xdb 6 ((rowD by_ ty (dM by_ ty D9)).2.2.2.2.1), aI cI xar 12 ((rowD by_ ty (dM by_ ty D9)).2.2.2.2.2.1), aI cI xwm 10 D9.2.2.2.2.2.2.1, aI cI xnd 60 D9.2.2.2.2.2.2.2, aI cI xnw 729 nw, aZ cZ xkp 2 kp] := hD
            show W _ _ _ _ _ _ _ _ _ _ _ _ _ _ _ (F0 m 67 ls [])
            refine lv_aload_n hx hb dX4_sideboard_67 rfl (lv_at hl 1 rfl) ?_
            refine lv_aload_n hx hb dX4_sideboard_68 rfl (lv_at hl 1 rfl) ?_
            refine z_get (k := 12) zcX4 hC hK hP 0 rfl (by decide) lF_X4_78 rfl dX4_sideboard_69 ?_
            refine lv_iconst (v := nI 2) hx hb dX4_sideboard_72 (by decide) ?_
            have w73 := rowD_wf (by_ := by_) (dM_wf (by_ := by_) hw) h64.2
            have b73 := w73.1.2.2.1
            refine zc_ne (tgt := 80) hC dX4_sideboard_73 (by decide) (by omega) (by omega) (fun c73 => ?_) (fun c73 => ?_)
            · skip
              refine lv_iconst (v := nI 0) hx hb dX4_sideboard_80 (by decide) ?_
              refine z_top (show (nI 0) = bI false from by rfl) ?_
              refine zXV (As := [.int (bI false)]) (b := q) (rest := []) hC (c_X4_due (l := l) (u := (rowD by_ ty (dM by_ ty D9)).1) (ok9 := false) (hlen := hlen) (htx := htx) (hby := hby) (hu := w73.1)) lM_X4_87 vM_X4_due (by decide) hK hP hD hS [0, 1] [q, xtx] rfl (by decide) rfl rfl ⟨rfl, rfl, rfl⟩ rfl hl.1 rfl (Nat.le_of_ble_eq_true rfl) dX4_sideboard_81 (by decide) (fun H locs hP hD hS => ?_)
              have hP : va_P D vwCl [oM q tr xtx ty xdc xdl xdb xar xac xwm xnd (((eM by_ ty false (rowD by_ ty (dM by_ ty D9))).1).1) (((eM by_ ty false (rowD by_ ty (dM by_ ty D9))).1).2.1) (((eM by_ ty false (rowD by_ ty (dM by_ ty D9))).1).2.2.1) (((eM by_ ty false (rowD by_ ty (dM by_ ty D9))).1).2.2.2.1) (((eM by_ ty false (rowD by_ ty (dM by_ ty D9))).1).2.2.2.2) xnw xkp xta xtw td xhg, aB cB xtx 150 tx, aI cI xdc 2 ((rowD by_ ty (dM by_ ty D9)).2.1), aI cI xac 2 D9.2.2.1, aI cI xdl 6 ((rowD by_ ty (dM by_ ty D9)).2.2.2.1), aI cI xdb 6 ((rowD by_ ty (dM by_ ty D9)).2.2.2.2.1), aI cI xar 12 ((rowD by_ ty (dM by_ ty D9)).2.2.2.2.2.1), aI cI xwm 10 D9.2.2.2.2.2.2.1, aI cI xnd 60 D9.2.2.2.2.2.2.2, aI cI xnw 729 nw, aZ cZ xkp 2 kp] H := hP
              have hD : va_D A [oM q tr xtx ty xdc xdl xdb xar xac xwm xnd (((eM by_ ty false (rowD by_ ty (dM by_ ty D9))).1).1) (((eM by_ ty false (rowD by_ ty (dM by_ ty D9))).1).2.1) (((eM by_ ty false (rowD by_ ty (dM by_ ty D9))).1).2.2.1) (((eM by_ ty false (rowD by_ ty (dM by_ ty D9))).1).2.2.2.1) (((eM by_ ty false (rowD by_ ty (dM by_ ty D9))).1).2.2.2.2) xnw xkp xta xtw td xhg, aB cB xtx 150 tx, aI cI xdc 2 ((rowD by_ ty (dM by_ ty D9)).2.1), aI cI xac 2 D9.2.2.1, aI cI xdl 6 ((rowD by_ ty (dM by_ ty D9)).2.2.2.1), aI cI xdb 6 ((rowD by_ ty (dM by_ ty D9)).2.2.2.2.1), aI cI xar 12 ((rowD by_ ty (dM by_ ty D9)).2.2.2.2.2.1), aI cI xwm 10 D9.2.2.2.2.2.2.1, aI cI xnd 60 D9.2.2.2.2.2.2.2, aI cI xnw 729 nw, aZ cZ xkp 2 kp] := hD
              show W _ _ _ _ _ _ _ _ _ _ _ _ _ _ _ (F0 m 84 ls [.int (nI ((rowD by_ ty (dM by_ ty D9)).1.2.2.2.1))])
              refine lv_pop hx hb dX4_sideboard_84 rfl ?_
              have b85 := mu_D (by_ := by_) (b := false) hlen hw c27 h64.2
              refine lv_iinc (v := nI (c9 + 1)) (lv' := [(1, .int (nI (c9 + 1))), (2, .int (nI D9.1.2.2.1)), (0, .ref q)]) hx hb dX4_sideboard_85 hl (k := 2) rfl (z_inc c9 1) (by decide) rfl (fun ls hl => ?_)
              refine lv_goto (tgt := 21) hx hb dX4_sideboard_88 (by decide) ?_
              exact ih21 (mu ty (eM by_ ty false (rowD by_ ty (dM by_ ty D9))).1) (by omega) (c9 + 1) (eM by_ ty false (rowD by_ ty (dM by_ ty D9))) (k9 - 1) rfl (by exact eM_wf w73) (by omega) (by rw [← hq9]; exact (sbF_r (by omega) ⟨c27, c35⟩ c59 ((if_neg (by omega)).trans (if_pos h64.1)) (decide_eq_false c73)).symm) _ _ hP hD hS ls (lv_sub hl [2, 0] rfl)
            · skip
              refine lv_iconst (v := nI 1) hx hb dX4_sideboard_76 (by decide) ?_
              refine lv_goto (tgt := 81) hx hb dX4_sideboard_77 (by decide) ?_
              refine z_top (show (nI 1) = bI true from by rfl) ?_
              refine zXV (As := [.int (bI true)]) (b := q) (rest := []) hC (c_X4_due (l := l) (u := (rowD by_ ty (dM by_ ty D9)).1) (ok9 := true) (hlen := hlen) (htx := htx) (hby := hby) (hu := w73.1)) lM_X4_87 vM_X4_due (by decide) hK hP hD hS [0, 1] [q, xtx] rfl (by decide) rfl rfl ⟨rfl, rfl, rfl⟩ rfl hl.1 rfl (Nat.le_of_ble_eq_true rfl) dX4_sideboard_81 (by decide) (fun H locs hP hD hS => ?_)
              have hP : va_P D vwCl [oM q tr xtx ty xdc xdl xdb xar xac xwm xnd (((eM by_ ty true (rowD by_ ty (dM by_ ty D9))).1).1) (((eM by_ ty true (rowD by_ ty (dM by_ ty D9))).1).2.1) (((eM by_ ty true (rowD by_ ty (dM by_ ty D9))).1).2.2.1) (((eM by_ ty true (rowD by_ ty (dM by_ ty D9))).1).2.2.2.1) (((eM by_ ty true (rowD by_ ty (dM by_ ty D9))).1).2.2.2.2) xnw xkp xta xtw td xhg, aB cB xtx 150 tx, aI cI xdc 2 ((rowD by_ ty (dM by_ ty D9)).2.1), aI cI xac 2 D9.2.2.1, aI cI xdl 6 ((rowD by_ ty (dM by_ ty D9)).2.2.2.1), aI cI xdb 6 ((rowD by_ ty (dM by_ ty D9)).2.2.2.2.1), aI cI xar 12 ((rowD by_ ty (dM by_ ty D9)).2.2.2.2.2.1), aI cI xwm 10 D9.2.2.2.2.2.2.1, aI cI xnd 60 D9.2.2.2.2.2.2.2, aI cI xnw 729 nw, aZ cZ xkp 2 kp] H := hP
              have hD : va_D A [oM q tr xtx ty xdc xdl xdb xar xac xwm xnd (((eM by_ ty true (rowD by_ ty (dM by_ ty D9))).1).1) (((eM by_ ty true (rowD by_ ty (dM by_ ty D9))).1).2.1) (((eM by_ ty true (rowD by_ ty (dM by_ ty D9))).1).2.2.1) (((eM by_ ty true (rowD by_ ty (dM by_ ty D9))).1).2.2.2.1) (((eM by_ ty true (rowD by_ ty (dM by_ ty D9))).1).2.2.2.2) xnw xkp xta xtw td xhg, aB cB xtx 150 tx, aI cI xdc 2 ((rowD by_ ty (dM by_ ty D9)).2.1), aI cI xac 2 D9.2.2.1, aI cI xdl 6 ((rowD by_ ty (dM by_ ty D9)).2.2.2.1), aI cI xdb 6 ((rowD by_ ty (dM by_ ty D9)).2.2.2.2.1), aI cI xar 12 ((rowD by_ ty (dM by_ ty D9)).2.2.2.2.2.1), aI cI xwm 10 D9.2.2.2.2.2.2.1, aI cI xnd 60 D9.2.2.2.2.2.2.2, aI cI xnw 729 nw, aZ cZ xkp 2 kp] := hD
              show W _ _ _ _ _ _ _ _ _ _ _ _ _ _ _ (F0 m 84 ls [.int (nI ((rowD by_ ty (dM by_ ty D9)).1.2.2.2.1))])
              refine lv_pop hx hb dX4_sideboard_84 rfl ?_
              have b85 := mu_D (by_ := by_) (b := true) hlen hw c27 h64.2
              refine lv_iinc (v := nI (c9 + 1)) (lv' := [(1, .int (nI (c9 + 1))), (2, .int (nI D9.1.2.2.1)), (0, .ref q)]) hx hb dX4_sideboard_85 hl (k := 2) rfl (z_inc c9 1) (by decide) rfl (fun ls hl => ?_)
              refine lv_goto (tgt := 21) hx hb dX4_sideboard_88 (by decide) ?_
              exact ih21 (mu ty (eM by_ ty true (rowD by_ ty (dM by_ ty D9))).1) (by omega) (c9 + 1) (eM by_ ty true (rowD by_ ty (dM by_ ty D9))) (k9 - 1) rfl (by exact eM_wf w73) (by omega) (by rw [← hq9]; exact (sbF_r (by omega) ⟨c27, c35⟩ c59 ((if_neg (by omega)).trans (if_pos h64.1)) (decide_eq_true c73)).symm) _ _ hP hD hS ls (lv_sub hl [2, 0] rfl)
          · skip
            refine z_top (show (nI D9.1.2.2.1) = nI 120 from by rw [h64]) ?_
            refine zXV (As := [.int (nI 120)]) (b := q) (rest := []) hC (c_X4_readRow_x (l := l) (u := (dM by_ ty D9).1) (hlen := hlen) (htx := htx) (hby := hby) (hu := (dM_wf hw).1) (hn1 := hw.2.1)) lM_X4_105 vM_X4_readRow (by decide) hK hP hD hS [0, 1, 2, 5] [q, xtx, xdc, xdb] rfl (by decide) rfl rfl ⟨rfl, rfl, rfl⟩ rfl hl.1 rfl (Nat.le_of_ble_eq_true rfl) dX4_sideboard_64 (by decide) (fun H locs hP hD hS => ?_)
            have hP : va_P D vwCl [oM q tr xtx ty xdc xdl xdb xar xac xwm xnd (((rowX by_ ty (dM by_ ty D9)).1).1) (((rowX by_ ty (dM by_ ty D9)).1).2.1) (((rowX by_ ty (dM by_ ty D9)).1).2.2.1) (((rowX by_ ty (dM by_ ty D9)).1).2.2.2.1) (((rowX by_ ty (dM by_ ty D9)).1).2.2.2.2) xnw xkp xta xtw td xhg, aB cB xtx 150 tx, aI cI xdc 2 ((rowX by_ ty (dM by_ ty D9)).2.1), aI cI xac 2 D9.2.2.1, aI cI xdl 6 D9.2.2.2.1, aI cI xdb 6 ((rowX by_ ty (dM by_ ty D9)).2.2.2.2.1), aI cI xar 12 D9.2.2.2.2.2.1, aI cI xwm 10 D9.2.2.2.2.2.2.1, aI cI xnd 60 D9.2.2.2.2.2.2.2, aI cI xnw 729 nw, aZ cZ xkp 2 kp] H := hP
            have hD : va_D A [oM q tr xtx ty xdc xdl xdb xar xac xwm xnd (((rowX by_ ty (dM by_ ty D9)).1).1) (((rowX by_ ty (dM by_ ty D9)).1).2.1) (((rowX by_ ty (dM by_ ty D9)).1).2.2.1) (((rowX by_ ty (dM by_ ty D9)).1).2.2.2.1) (((rowX by_ ty (dM by_ ty D9)).1).2.2.2.2) xnw xkp xta xtw td xhg, aB cB xtx 150 tx, aI cI xdc 2 ((rowX by_ ty (dM by_ ty D9)).2.1), aI cI xac 2 D9.2.2.1, aI cI xdl 6 D9.2.2.2.1, aI cI xdb 6 ((rowX by_ ty (dM by_ ty D9)).2.2.2.2.1), aI cI xar 12 D9.2.2.2.2.2.1, aI cI xwm 10 D9.2.2.2.2.2.2.1, aI cI xnd 60 D9.2.2.2.2.2.2.2, aI cI xnw 729 nw, aZ cZ xkp 2 kp] := hD
            show W _ _ _ _ _ _ _ _ _ _ _ _ _ _ _ (F0 m 67 ls [])
            refine lv_aload_n hx hb dX4_sideboard_67 rfl (lv_at hl 1 rfl) ?_
            refine lv_aload_n hx hb dX4_sideboard_68 rfl (lv_at hl 1 rfl) ?_
            refine z_get (k := 12) zcX4 hC hK hP 0 rfl (by decide) lF_X4_78 rfl dX4_sideboard_69 ?_
            refine lv_iconst (v := nI 2) hx hb dX4_sideboard_72 (by decide) ?_
            have w73 := rowX_wf (by_ := by_) (dM_wf (by_ := by_) hw)
            have b73 := w73.1.2.2.1
            refine zc_ne (tgt := 80) hC dX4_sideboard_73 (by decide) (by omega) (by omega) (fun c73 => ?_) (fun c73 => ?_)
            · skip
              refine lv_iconst (v := nI 0) hx hb dX4_sideboard_80 (by decide) ?_
              refine z_top (show (nI 0) = bI false from by rfl) ?_
              refine zXV (As := [.int (bI false)]) (b := q) (rest := []) hC (c_X4_due (l := l) (u := (rowX by_ ty (dM by_ ty D9)).1) (ok9 := false) (hlen := hlen) (htx := htx) (hby := hby) (hu := w73.1)) lM_X4_87 vM_X4_due (by decide) hK hP hD hS [0, 1] [q, xtx] rfl (by decide) rfl rfl ⟨rfl, rfl, rfl⟩ rfl hl.1 rfl (Nat.le_of_ble_eq_true rfl) dX4_sideboard_81 (by decide) (fun H locs hP hD hS => ?_)
              have hP : va_P D vwCl [oM q tr xtx ty xdc xdl xdb xar xac xwm xnd (((eM by_ ty false (rowX by_ ty (dM by_ ty D9))).1).1) (((eM by_ ty false (rowX by_ ty (dM by_ ty D9))).1).2.1) (((eM by_ ty false (rowX by_ ty (dM by_ ty D9))).1).2.2.1) (((eM by_ ty false (rowX by_ ty (dM by_ ty D9))).1).2.2.2.1) (((eM by_ ty false (rowX by_ ty (dM by_ ty D9))).1).2.2.2.2) xnw xkp xta xtw td xhg, aB cB xtx 150 tx, aI cI xdc 2 ((rowX by_ ty (dM by_ ty D9)).2.1), aI cI xac 2 D9.2.2.1, aI cI xdl 6 D9.2.2.2.1, aI cI xdb 6 ((rowX by_ ty (dM by_ ty D9)).2.2.2.2.1), aI cI xar 12 D9.2.2.2.2.2.1, aI cI xwm 10 D9.2.2.2.2.2.2.1, aI cI xnd 60 D9.2.2.2.2.2.2.2, aI cI xnw 729 nw, aZ cZ xkp 2 kp] H := hP
              have hD : va_D A [oM q tr xtx ty xdc xdl xdb xar xac xwm xnd (((eM by_ ty false (rowX by_ ty (dM by_ ty D9))).1).1) (((eM by_ ty false (rowX by_ ty (dM by_ ty D9))).1).2.1) (((eM by_ ty false (rowX by_ ty (dM by_ ty D9))).1).2.2.1) (((eM by_ ty false (rowX by_ ty (dM by_ ty D9))).1).2.2.2.1) (((eM by_ ty false (rowX by_ ty (dM by_ ty D9))).1).2.2.2.2) xnw xkp xta xtw td xhg, aB cB xtx 150 tx, aI cI xdc 2 ((rowX by_ ty (dM by_ ty D9)).2.1), aI cI xac 2 D9.2.2.1, aI cI xdl 6 D9.2.2.2.1, aI cI xdb 6 ((rowX by_ ty (dM by_ ty D9)).2.2.2.2.1), aI cI xar 12 D9.2.2.2.2.2.1, aI cI xwm 10 D9.2.2.2.2.2.2.1, aI cI xnd 60 D9.2.2.2.2.2.2.2, aI cI xnw 729 nw, aZ cZ xkp 2 kp] := hD
              show W _ _ _ _ _ _ _ _ _ _ _ _ _ _ _ (F0 m 84 ls [.int (nI ((rowX by_ ty (dM by_ ty D9)).1.2.2.2.1))])
              refine lv_pop hx hb dX4_sideboard_84 rfl ?_
              have b85 := mu_X (by_ := by_) (b := false) hlen hw c27
              refine lv_iinc (v := nI (c9 + 1)) (lv' := [(1, .int (nI (c9 + 1))), (2, .int (nI D9.1.2.2.1)), (0, .ref q)]) hx hb dX4_sideboard_85 hl (k := 2) rfl (z_inc c9 1) (by decide) rfl (fun ls hl => ?_)
              refine lv_goto (tgt := 21) hx hb dX4_sideboard_88 (by decide) ?_
              exact ih21 (mu ty (eM by_ ty false (rowX by_ ty (dM by_ ty D9))).1) (by omega) (c9 + 1) (eM by_ ty false (rowX by_ ty (dM by_ ty D9))) (k9 - 1) rfl (by exact eM_wf w73) (by omega) (by rw [← hq9]; exact (sbF_r (by omega) ⟨c27, c35⟩ c59 ((if_neg (by omega)).trans (if_neg (by omega))) (decide_eq_false c73)).symm) _ _ hP hD hS ls (lv_sub hl [2, 0] rfl)
            · skip
              refine lv_iconst (v := nI 1) hx hb dX4_sideboard_76 (by decide) ?_
              refine lv_goto (tgt := 81) hx hb dX4_sideboard_77 (by decide) ?_
              refine z_top (show (nI 1) = bI true from by rfl) ?_
              refine zXV (As := [.int (bI true)]) (b := q) (rest := []) hC (c_X4_due (l := l) (u := (rowX by_ ty (dM by_ ty D9)).1) (ok9 := true) (hlen := hlen) (htx := htx) (hby := hby) (hu := w73.1)) lM_X4_87 vM_X4_due (by decide) hK hP hD hS [0, 1] [q, xtx] rfl (by decide) rfl rfl ⟨rfl, rfl, rfl⟩ rfl hl.1 rfl (Nat.le_of_ble_eq_true rfl) dX4_sideboard_81 (by decide) (fun H locs hP hD hS => ?_)
              have hP : va_P D vwCl [oM q tr xtx ty xdc xdl xdb xar xac xwm xnd (((eM by_ ty true (rowX by_ ty (dM by_ ty D9))).1).1) (((eM by_ ty true (rowX by_ ty (dM by_ ty D9))).1).2.1) (((eM by_ ty true (rowX by_ ty (dM by_ ty D9))).1).2.2.1) (((eM by_ ty true (rowX by_ ty (dM by_ ty D9))).1).2.2.2.1) (((eM by_ ty true (rowX by_ ty (dM by_ ty D9))).1).2.2.2.2) xnw xkp xta xtw td xhg, aB cB xtx 150 tx, aI cI xdc 2 ((rowX by_ ty (dM by_ ty D9)).2.1), aI cI xac 2 D9.2.2.1, aI cI xdl 6 D9.2.2.2.1, aI cI xdb 6 ((rowX by_ ty (dM by_ ty D9)).2.2.2.2.1), aI cI xar 12 D9.2.2.2.2.2.1, aI cI xwm 10 D9.2.2.2.2.2.2.1, aI cI xnd 60 D9.2.2.2.2.2.2.2, aI cI xnw 729 nw, aZ cZ xkp 2 kp] H := hP
              have hD : va_D A [oM q tr xtx ty xdc xdl xdb xar xac xwm xnd (((eM by_ ty true (rowX by_ ty (dM by_ ty D9))).1).1) (((eM by_ ty true (rowX by_ ty (dM by_ ty D9))).1).2.1) (((eM by_ ty true (rowX by_ ty (dM by_ ty D9))).1).2.2.1) (((eM by_ ty true (rowX by_ ty (dM by_ ty D9))).1).2.2.2.1) (((eM by_ ty true (rowX by_ ty (dM by_ ty D9))).1).2.2.2.2) xnw xkp xta xtw td xhg, aB cB xtx 150 tx, aI cI xdc 2 ((rowX by_ ty (dM by_ ty D9)).2.1), aI cI xac 2 D9.2.2.1, aI cI xdl 6 D9.2.2.2.1, aI cI xdb 6 ((rowX by_ ty (dM by_ ty D9)).2.2.2.2.1), aI cI xar 12 D9.2.2.2.2.2.1, aI cI xwm 10 D9.2.2.2.2.2.2.1, aI cI xnd 60 D9.2.2.2.2.2.2.2, aI cI xnw 729 nw, aZ cZ xkp 2 kp] := hD
              show W _ _ _ _ _ _ _ _ _ _ _ _ _ _ _ (F0 m 84 ls [.int (nI ((rowX by_ ty (dM by_ ty D9)).1.2.2.2.1))])
              refine lv_pop hx hb dX4_sideboard_84 rfl ?_
              have b85 := mu_X (by_ := by_) (b := true) hlen hw c27
              refine lv_iinc (v := nI (c9 + 1)) (lv' := [(1, .int (nI (c9 + 1))), (2, .int (nI D9.1.2.2.1)), (0, .ref q)]) hx hb dX4_sideboard_85 hl (k := 2) rfl (z_inc c9 1) (by decide) rfl (fun ls hl => ?_)
              refine lv_goto (tgt := 21) hx hb dX4_sideboard_88 (by decide) ?_
              exact ih21 (mu ty (eM by_ ty true (rowX by_ ty (dM by_ ty D9))).1) (by omega) (c9 + 1) (eM by_ ty true (rowX by_ ty (dM by_ ty D9))) (k9 - 1) rfl (by exact eM_wf w73) (by omega) (by rw [← hq9]; exact (sbF_r (by omega) ⟨c27, c35⟩ c59 ((if_neg (by omega)).trans (if_neg (by omega))) (decide_eq_true c73)).symm) _ _ hP hD hS ls (lv_sub hl [2, 0] rfl)
  exact hL21 _ 0 (((stp by_ ty 0).1, (stp by_ ty 0).2.1, (stp by_ ty 0).2.2.1, (stp by_ ty 0).2.2.2, -9), updN dc 1 0, updN acn 1 0, dl, db, ar, wm, nd) 400 rfl (by exact ⟨stp_wf (Nat.zero_le _), by show updN dc 1 0 1 ≤ 6; rw [updN_s]; omega, by show updN acn 1 0 1 ≤ 5; rw [updN_s]; omega⟩) (by exact Nat.lt_of_le_of_lt mu_le (by omega)) (by rfl) _ _ hP hD hS ls (lv_sub hl [1, 0] rfl)
