/-- the model's draft: the place in the text, decanters, acts, levels, labels, air, worth, need -/
abbrev Md : Type := Mp × (Nat → Nat) × (Nat → Nat) × (Nat → Nat) × (Nat → Nat) × (Nat → Nat) × (Nat → Nat) × (Nat → Nat)
def rowA (by_ : Nat → Nat) (len : Nat) (D : Md) : Md :=
  ((raL by_ len (D.2.1 1) (6 * (5 + D.2.2.1 1)) 6 (numF by_ len (nI 99) D.1) (blk D.2.2.2.2.2.2.2 (6 * (5 + D.2.2.1 1)) 6 (fun _ => 0))).1, D.2.1, updN D.2.2.1 1 (D.2.2.1 1 + 1), D.2.2.2.1, D.2.2.2.2.1, D.2.2.2.2.2.1, updN D.2.2.2.2.2.2.1 (5 + D.2.2.1 1) D.1.2.2.2.1, (raL by_ len (D.2.1 1) (6 * (5 + D.2.2.1 1)) 6 (numF by_ len (nI 99) D.1) (blk D.2.2.2.2.2.2.2 (6 * (5 + D.2.2.1 1)) 6 (fun _ => 0))).2)
def rowD (by_ : Nat → Nat) (len : Nat) (D : Md) : Md :=
  (numF by_ len (nI 5) (numF by_ len (nI 40) D.1), updN D.2.1 1 (D.2.1 1 + 1), D.2.2.1, updN D.2.2.2.1 (D.2.1 1) D.1.2.2.2.1, updN D.2.2.2.2.1 (D.2.1 1) (D.2.1 1), updN D.2.2.2.2.2.1 (6 + D.2.1 1) (numF by_ len (nI 40) D.1).2.2.2.1, D.2.2.2.2.2.2.1, D.2.2.2.2.2.2.2)
def exF (by_ : Nat → Nat) (len n : Nat) (u : Mp) : Mp := dueF by_ len (exO n u (numF by_ len (nI n - nI 1) u)) (numF by_ len (nI n - nI 1) u)
def rowX (by_ : Nat → Nat) (len : Nat) (D : Md) : Md :=
  (exF by_ len (D.2.1 1) D.1, D.2.1, D.2.2.1, D.2.2.2.1, (if (exF by_ len (D.2.1 1) D.1).2.2.2.2 = -9 then updN (updN D.2.2.2.2.1 D.1.2.2.2.1 (D.2.2.2.2.1 (numF by_ len (nI (D.2.1 1) - nI 1) D.1).2.2.2.1)) (numF by_ len (nI (D.2.1 1) - nI 1) D.1).2.2.2.1 (D.2.2.2.2.1 D.1.2.2.2.1) else D.2.2.2.2.1), D.2.2.2.2.2.1, D.2.2.2.2.2.2.1, D.2.2.2.2.2.2.2)
def dM (by_ : Nat → Nat) (len : Nat) (D : Md) : Md := (dueF by_ len (mbF (D.2.1 1) (D.2.2.1 1) D.1.2.2.1) D.1, D.2)
def eM (by_ : Nat → Nat) (len : Nat) (b : Bool) (D : Md) : Md := (dueF by_ len b D.1, D.2)
def rowF (by_ : Nat → Nat) (len x : Nat) (D : Md) : Md := if x = 97 then rowA by_ len D else if x = 100 then rowD by_ len D else rowX by_ len D
def sbF (by_ : Nat → Nat) (len : Nat) : Nat → Nat → Md → Nat × Md
  | 0, c, D => (c, D)
  | k + 1, c, D => if D.1.2.2.2.2 = -9 ∧ D.1.2.2.1 ≠ 3 then (if (dM by_ len D).1.2.2.2.2 = -9 then sbF by_ len k (c + 1) (eM by_ len (decide ((rowF by_ len D.1.2.2.1 (dM by_ len D)).1.2.2.1 = 2)) (rowF by_ len D.1.2.2.1 (dM by_ len D))) else sbF by_ len k c (dM by_ len D)) else (c, D)
theorem sbF_n {by_ : Nat → Nat} {len k c : Nat} {D : Md} (h : ¬ (D.1.2.2.2.2 = -9 ∧ D.1.2.2.1 ≠ 3)) : sbF by_ len k c D = (c, D) := by
  cases k with
  | zero => rfl
  | succ k => exact if_neg h
theorem sbF_d {by_ : Nat → Nat} {len k c : Nat} {D : Md} (hk : 0 < k) (h : D.1.2.2.2.2 = -9 ∧ D.1.2.2.1 ≠ 3) (h2 : (dM by_ len D).1.2.2.2.2 ≠ -9) : sbF by_ len k c D = sbF by_ len (k - 1) c (dM by_ len D) := by
  obtain ⟨j, rfl⟩ : ∃ j, k = j + 1 := ⟨k - 1, by omega⟩
  exact (if_pos h).trans (if_neg h2)
theorem sbF_r {by_ : Nat → Nat} {len k c : Nat} {D E : Md} {b : Bool} (hk : 0 < k) (h : D.1.2.2.2.2 = -9 ∧ D.1.2.2.1 ≠ 3) (h2 : (dM by_ len D).1.2.2.2.2 = -9) (hE : rowF by_ len D.1.2.2.1 (dM by_ len D) = E) (hb : decide (E.1.2.2.1 = 2) = b) : sbF by_ len k c D = sbF by_ len (k - 1) (c + 1) (eM by_ len b E) := by
  obtain ⟨j, rfl⟩ : ∃ j, k = j + 1 := ⟨k - 1, by omega⟩
  rw [← hb, ← hE]
  exact (if_pos h).trans (if_pos h2)
theorem mbF_ok {n a s : Nat} (h : mbF n a s = true) : (s = 97 ∧ a < 5) ∨ (s = 100 ∧ n < 6) ∨ s = 120 := by
  unfold mbF at h
  split at h
  · exact Or.inl ⟨by assumption, of_decide_eq_true h⟩
  · split at h
    · exact Or.inr (Or.inl ⟨by assumption, of_decide_eq_true h⟩)
    · exact Or.inr (Or.inr (of_decide_eq_true h))
def wfD (len : Nat) (D : Md) : Prop := wfP len D.1 ∧ D.2.1 1 ≤ 6 ∧ D.2.2.1 1 ≤ 5
theorem raL_wf {by_ : Nat → Nat} {len n off : Nat} : ∀ {k : Nat} {u : Mp} {nd : Nat → Nat}, wfP len u → wfP len (raL by_ len n off k u nd).1
  | 0, _, _, h => h
  | k + 1, u, nd, h => by
    by_cases q : u.2.2.1 = 1 ∧ u.2.2.2.2 = -9
    · rw [raL_s (Nat.succ_pos k) q]; exact raL_wf (k := k) (numF_wf (numF_wf h))
    · rw [raL_n q]; exact h
theorem dM_wf {by_ : Nat → Nat} {len : Nat} {D : Md} (h : wfD len D) : wfD len (dM by_ len D) := ⟨dueF_wf h.1, h.2⟩
theorem eM_wf {by_ : Nat → Nat} {len : Nat} {b : Bool} {D : Md} (h : wfD len D) : wfD len (eM by_ len b D) := ⟨dueF_wf h.1, h.2⟩
theorem rowA_wf {by_ : Nat → Nat} {len : Nat} {D : Md} (h : wfD len D) (h2 : D.2.2.1 1 < 5) : wfD len (rowA by_ len D) := ⟨raL_wf (numF_wf h.1), h.2.1, by show updN D.2.2.1 1 (D.2.2.1 1 + 1) 1 ≤ 5; rw [updN_s]; omega⟩
theorem rowD_wf {by_ : Nat → Nat} {len : Nat} {D : Md} (h : wfD len D) (h2 : D.2.1 1 < 6) : wfD len (rowD by_ len D) := ⟨numF_wf (numF_wf h.1), by show updN D.2.1 1 (D.2.1 1 + 1) 1 ≤ 6; rw [updN_s]; omega, h.2.2⟩
theorem rowX_wf {by_ : Nat → Nat} {len : Nat} {D : Md} (h : wfD len D) : wfD len (rowX by_ len D) := ⟨dueF_wf (numF_wf h.1), h.2⟩
theorem skp_ge {by_ : Nat → Nat} : ∀ k p, p ≤ skp by_ k p
  | 0, p => Nat.le_refl _
  | k + 1, p => by
    unfold skp
    split
    · have := skp_ge (by_ := by_) k (p + 1); omega
    · omega
theorem stp_mono {by_ : Nat → Nat} {len at_ : Nat} (h : at_ ≤ len) : at_ ≤ (stp by_ len at_).1 ∧ ((stp by_ len at_).2.2.1 = 1 → at_ < (stp by_ len at_).1) := by
  have hq := skp_le (by_ := by_) (len - at_) at_
  have hg := skp_ge (by_ := by_) (len - at_) at_
  generalize hs : skp by_ (len - at_) at_ = q at hq hg
  by_cases h1 : q < len
  · by_cases h2 : 97 ≤ by_ q ∧ by_ q ≤ 122
    · have r1 := rn_in (by_ := by_) (s := 1) (len - q) q
      rw [stp_l hs h1 h2 rfl]
      rw [rn_go h1 (sortN_1i.mpr h2)] at r1 ⊢
      have r2 := (rn_in (by_ := by_) (s := 1) (len - (q + 1)) (q + 1)).1
      exact ⟨by show at_ ≤ rn by_ 1 (len - (q + 1)) (q + 1); omega, fun _ => by show at_ < rn by_ 1 (len - (q + 1)) (q + 1); omega⟩
    · by_cases h3 : 48 ≤ by_ q ∧ by_ q ≤ 57
      · rw [stp_d hs h1 h2 h3 rfl rfl, rn_go h1 (sortN_2i.mpr h3)]
        have r2 := (rn_in (by_ := by_) (s := 2) (len - (q + 1)) (q + 1)).1
        exact ⟨by show at_ ≤ rn by_ 2 (len - (q + 1)) (q + 1); omega, fun _ => by show at_ < rn by_ 2 (len - (q + 1)) (q + 1); omega⟩
      · rw [stp_o hs h1 h2 h3]
        exact ⟨by show at_ ≤ q + 1; omega, fun _ => by show at_ < q + 1; omega⟩
  · rw [stp_e hs (Nat.not_lt.mp h1)]
    exact ⟨hg, fun h => by cases h⟩
theorem dueF_mono {by_ : Nat → Nat} {len : Nat} {ok : Bool} {u : Mp} (h : wfP len u) : u.1 ≤ (dueF by_ len ok u).1 := by
  by_cases h1 : u.2.2.2.2 = -9
  · cases ok with
    | true => rw [dueF_t h1]; exact (stp_mono h.1).1
    | false => rw [dueF_f h1]; exact Nat.le_refl _
  · rw [dueF_no h1]; exact Nat.le_refl _
theorem raL_mono {by_ : Nat → Nat} {len n off : Nat} (hl : len ≤ 150) : ∀ {k : Nat} {u : Mp} {nd : Nat → Nat}, wfP len u → u.1 ≤ (raL by_ len n off k u nd).1.1 ∧ ((raL by_ len n off k u nd).1.2.2.2.2 = -9 → u.2.2.2.2 = -9)
  | 0, _, _, h => ⟨Nat.le_refl _, fun q => q⟩
  | k + 1, u, nd, h => by
    by_cases q : u.2.2.1 = 1 ∧ u.2.2.2.2 = -9
    · rw [raL_s (Nat.succ_pos k) q]
      have h1 := dueF_mono (by_ := by_) (ok := decide (u.2.2.1 = 1 ∧ nI u.2.2.2.1 ≤ nI n - nI 1)) h
      have h2 := raL_mono hl (k := k) (by_ := by_) (n := n) (off := off) (nd := (if (numF by_ len (nI 9) (numF by_ len (nI n - nI 1) u)).2.2.2.2 = -9 then updN nd (off + u.2.2.2.1) (numF by_ len (nI n - nI 1) u).2.2.2.1 else nd)) (numF_wf (by_ := by_) (hi := nI 9) (numF_wf (by_ := by_) (hi := nI n - nI 1) h))
      have h3 : (numF by_ len (nI n - nI 1) u).1 ≤ (numF by_ len (nI 9) (numF by_ len (nI n - nI 1) u)).1 := dueF_mono (numF_wf h)
      exact ⟨Nat.le_trans h1 (Nat.le_trans h3 h2.1), fun _ => q.2⟩
    · rw [raL_n q]; exact ⟨Nat.le_refl _, fun q => q⟩
def mu (len : Nat) (u : Mp) : Nat := if u.2.2.2.2 = -9 then len - u.1 + 1 else 0
theorem mu_le {len : Nat} {u : Mp} : mu len u ≤ len + 1 := by
  unfold mu; split <;> omega
theorem mu_lt {len : Nat} {u v : Mp} (hu : u.2.2.2.2 = -9) (hv : v.1 ≤ len) (h : v.2.2.2.2 = -9 → u.1 < v.1) : mu len v < mu len u := by
  unfold mu
  rw [if_pos hu]
  split
  · rename_i q
    have := h q
    omega
  · omega
theorem dM_num {by_ : Nat → Nat} {len : Nat} {hi : Int32} {D : Md} (hl : len ≤ 150) (h : wfD len D) (q : (numF by_ len hi (dM by_ len D).1).2.2.2.2 = -9) : D.1.1 < (dM by_ len D).1.1 := by
  obtain ⟨h1, -, h2⟩ := numF_ok hl (dM_wf h).1 q
  obtain ⟨h3, h4⟩ := dueF_ok hl h.1 h2
  have e : (dM by_ len D).1 = dueF by_ len true D.1 := by unfold dM; rw [h3]
  rw [e, dueF_t h4] at h1 ⊢
  exact (stp_mono h.1.1).2 h1
theorem mu_A {by_ : Nat → Nat} {len : Nat} {b : Bool} {D : Md} (hl : len ≤ 150) (h : wfD len D) (hf : D.1.2.2.2.2 = -9) (ha : D.2.2.1 1 < 5) : mu len (eM by_ len b (rowA by_ len (dM by_ len D))).1 < mu len D.1 := by
  have w := rowA_wf (by_ := by_) (dM_wf (by_ := by_) h) ha
  refine mu_lt hf (eM_wf w).1.1 (fun q => ?_)
  have q1 := (dueF_ok hl w.1 q).2
  have m1 := dueF_mono (by_ := by_) (ok := b) w.1
  have m2 := raL_mono hl (by_ := by_) (n := (dM by_ len D).2.1 1) (off := 6 * (5 + (dM by_ len D).2.2.1 1)) (k := 6) (nd := blk (dM by_ len D).2.2.2.2.2.2.2 (6 * (5 + (dM by_ len D).2.2.1 1)) 6 (fun _ => 0)) (numF_wf (by_ := by_) (hi := nI 99) (dM_wf (by_ := by_) h).1)
  have m3 := dM_num hl h (m2.2 q1)
  have m4 : (dM by_ len D).1.1 ≤ (numF by_ len (nI 99) (dM by_ len D).1).1 := dueF_mono (dM_wf h).1
  exact Nat.lt_of_lt_of_le m3 (Nat.le_trans m4 (Nat.le_trans m2.1 m1))
theorem mu_D {by_ : Nat → Nat} {len : Nat} {b : Bool} {D : Md} (hl : len ≤ 150) (h : wfD len D) (hf : D.1.2.2.2.2 = -9) (ha : D.2.1 1 < 6) : mu len (eM by_ len b (rowD by_ len (dM by_ len D))).1 < mu len D.1 := by
  have w := rowD_wf (by_ := by_) (dM_wf (by_ := by_) h) ha
  refine mu_lt hf (eM_wf w).1.1 (fun q => ?_)
  have q1 := (dueF_ok hl w.1 q).2
  have m1 := dueF_mono (by_ := by_) (ok := b) w.1
  have q2 := (dueF_ok hl (numF_wf (dM_wf h).1) q1).2
  have m2 : (numF by_ len (nI 40) (dM by_ len D).1).1 ≤ (numF by_ len (nI 5) (numF by_ len (nI 40) (dM by_ len D).1)).1 := dueF_mono (numF_wf (dM_wf h).1)
  have m3 := dM_num hl h q2
  have m4 : (dM by_ len D).1.1 ≤ (numF by_ len (nI 40) (dM by_ len D).1).1 := dueF_mono (dM_wf h).1
  exact Nat.lt_of_lt_of_le m3 (Nat.le_trans m4 (Nat.le_trans m2 m1))
theorem mu_X {by_ : Nat → Nat} {len : Nat} {b : Bool} {D : Md} (hl : len ≤ 150) (h : wfD len D) (hf : D.1.2.2.2.2 = -9) : mu len (eM by_ len b (rowX by_ len (dM by_ len D))).1 < mu len D.1 := by
  have w := rowX_wf (by_ := by_) (dM_wf (by_ := by_) h)
  refine mu_lt hf (eM_wf w).1.1 (fun q => ?_)
  have q1 := (dueF_ok hl w.1 q).2
  have m1 := dueF_mono (by_ := by_) (ok := b) w.1
  have q2 := (dueF_ok hl (numF_wf (dM_wf h).1) q1).2
  have m2 : (numF by_ len (nI ((dM by_ len D).2.1 1) - nI 1) (dM by_ len D).1).1 ≤ (exF by_ len ((dM by_ len D).2.1 1) (dM by_ len D).1).1 := dueF_mono (numF_wf (dM_wf h).1)
  have m3 := dM_num hl h q2
  have m4 : (dM by_ len D).1.1 ≤ (numF by_ len (nI ((dM by_ len D).2.1 1) - nI 1) (dM by_ len D).1).1 := dueF_mono (dM_wf h).1
  exact Nat.lt_of_lt_of_le m3 (Nat.le_trans m4 (Nat.le_trans m2 m1))
theorem mu_d {by_ : Nat → Nat} {len : Nat} {D : Md} (hf : D.1.2.2.2.2 = -9) (q : (dM by_ len D).1.2.2.2.2 ≠ -9) : mu len (dM by_ len D).1 < mu len D.1 := by
  unfold mu
  rw [if_pos hf, if_neg q]
  omega
/-- a contract over some cells is one over all -/
theorem mW_wide {l : Launch} {y : MethodName} {cc : ByteArray} {nL : Nat} {ret : Option FieldType} {fr lo : Nat} {D : va_G} {cI cZ cB cR : ClassId} {ws wsC wsC' : va_W} {av : List Value} {rv : Option Value} (h : mW l y cc nL ret fr lo D cI cZ cB cR wsC wsC' av rv) (is L : List Nat) (hs : is.map (fun i => ws[i]?) = wsC.map some) (hnd : va_nd is = true) (hL : wsC.map Prod.fst = L) (hL' : wsC'.map Prod.fst = L) : mW l y cc nL ret fr lo D cI cZ cB cR ws (zspl is wsC' ws) av rv := by
  have hsub : ∀ q, zA wsC q → zA ws q := by
    rintro q ⟨k, e9, hk⟩
    have h1 : (is.map (fun i => ws[i]?))[k]? = some (some (q, e9)) := by rw [hs, List.getElem?_map, hk]; rfl
    rw [List.getElem?_map] at h1
    cases hi : is[k]? with
    | none => rw [hi] at h1; cases h1
    | some i => rw [hi] at h1; exact ⟨i, e9, Option.some.inj h1⟩
  unfold mW Met at h ⊢
  refine MetFree.mono h (fun a s hp => ?_) (fun _ _ _ _ _ q => q) (fun a s o t hp hq => ?_)
  · obtain ⟨e, hP, hK, hD⟩ := hp
    exact ⟨e, hP.sub is (z_fm hs), hK, z_subA hD hs hnd⟩
  · obtain ⟨e, hP, hK, hD⟩ := hp
    obtain ⟨⟨ho, hP', hF1, hF2⟩, L9, hFE, hb⟩ := hq
    exact ⟨⟨ho, z_join2 hP hD is hs hnd (by have h1 := congrArg List.length hL; have h2 := congrArg List.length hL'; simp at h1 h2; omega) hF2 hP', hF1, fun q h1 h2 => hF2 q h1 (fun z => h2 (hsub q z))⟩, L9, hFE, fun q hq => hsub _ (hb q hq)⟩
theorem dM_wfV {by_ : Nat → Nat} {len : Nat} {D : Md} {F9 : Mp} (hF9 : dueF by_ len (mbF (D.2.1 1) (D.2.2.1 1) D.1.2.2.1) D.1 = F9) (h : wfD len D) : wfD len (F9, D.2) := by
  subst hF9; exact dM_wf h
theorem mu_dV {by_ : Nat → Nat} {len : Nat} {D : Md} {F9 : Mp} (hf : D.1.2.2.2.2 = -9) (hF9 : dueF by_ len (mbF (D.2.1 1) (D.2.2.1 1) D.1.2.2.1) D.1 = F9) (q : F9.2.2.2.2 ≠ -9) : mu len F9 < mu len D.1 := by
  subst hF9; exact mu_d (by_ := by_) hf q
theorem mu_AV {by_ : Nat → Nat} {len : Nat} {b : Bool} {D R9 : Md} {F9 G9 : Mp} (hl : len ≤ 150) (h : wfD len D) (hf : D.1.2.2.2.2 = -9) (ha : D.2.2.1 1 < 5) (hF9 : dueF by_ len (mbF (D.2.1 1) (D.2.2.1 1) D.1.2.2.1) D.1 = F9) (hR9 : rowA by_ len (F9, D.2) = R9) (hG9 : dueF by_ len b R9.1 = G9) : mu len G9 < mu len D.1 := by
  subst hF9; subst hR9; subst hG9; exact mu_A (b := b) hl h hf ha
theorem mu_DV {by_ : Nat → Nat} {len : Nat} {b : Bool} {D R9 : Md} {F9 G9 : Mp} (hl : len ≤ 150) (h : wfD len D) (hf : D.1.2.2.2.2 = -9) (ha : D.2.1 1 < 6) (hF9 : dueF by_ len (mbF (D.2.1 1) (D.2.2.1 1) D.1.2.2.1) D.1 = F9) (hR9 : rowD by_ len (F9, D.2) = R9) (hG9 : dueF by_ len b R9.1 = G9) : mu len G9 < mu len D.1 := by
  subst hF9; subst hR9; subst hG9; exact mu_D (b := b) hl h hf ha
theorem mu_XV {by_ : Nat → Nat} {len : Nat} {b : Bool} {D R9 : Md} {F9 G9 : Mp} (hl : len ≤ 150) (h : wfD len D) (hf : D.1.2.2.2.2 = -9) (hF9 : dueF by_ len (mbF (D.2.1 1) (D.2.2.1 1) D.1.2.2.1) D.1 = F9) (hR9 : rowX by_ len (F9, D.2) = R9) (hG9 : dueF by_ len b R9.1 = G9) : mu len G9 < mu len D.1 := by
  subst hF9; subst hR9; subst hG9; exact mu_X (b := b) hl h hf
theorem eM_wfV {by_ : Nat → Nat} {len : Nat} {b : Bool} {R9 : Md} {G9 : Mp} (hG9 : dueF by_ len b R9.1 = G9) (h : wfD len R9) : wfD len (G9, R9.2) := by
  subst hG9; exact eM_wf h
theorem sbF_dV {by_ : Nat → Nat} {len k c : Nat} {D : Md} {F9 : Mp} (hk : 0 < k) (h : D.1.2.2.2.2 = -9 ∧ D.1.2.2.1 ≠ 3) (hF9 : dueF by_ len (mbF (D.2.1 1) (D.2.2.1 1) D.1.2.2.1) D.1 = F9) (h2 : F9.2.2.2.2 ≠ -9) : sbF by_ len k c D = sbF by_ len (k - 1) c (F9, D.2) := by
  subst hF9; exact sbF_d hk h h2
theorem sbF_rV {by_ : Nat → Nat} {len k c : Nat} {D R9 : Md} {F9 G9 : Mp} {b : Bool} (hk : 0 < k) (h : D.1.2.2.2.2 = -9 ∧ D.1.2.2.1 ≠ 3) (hF9 : dueF by_ len (mbF (D.2.1 1) (D.2.2.1 1) D.1.2.2.1) D.1 = F9) (h2 : F9.2.2.2.2 = -9) (hR9 : rowF by_ len D.1.2.2.1 (F9, D.2) = R9) (hb : decide (R9.1.2.2.1 = 2) = b) (hG9 : dueF by_ len b R9.1 = G9) : sbF by_ len k c D = sbF by_ len (k - 1) (c + 1) (G9, R9.2) := by
  subst hF9; subst hG9; exact sbF_r hk h h2 hR9 hb
set_option maxRecDepth 100000 in
theorem c_X4_dueV {l : Launch} {D : va_G} {cI cZ cB cR : ClassId} {q xtx ty xdc xdl xdb xar xac xwm xnd xnw xkp xta xtw td xhg : Nat} {tr : Int64} {u : Mp} {tx : Nat → Int32} {by_ : Nat → Nat} {ok9 : Bool} {F9 : Mp}  (hlen : ty ≤ 150) (htx : ∀ i, i < ty → tx i &&& nI 255 = nI (by_ i)) (hby : ∀ i, by_ i < 256) (hu : wfP ty u) (hF9 : dueF by_ ty ok9 u = F9) : mW l yX4_due cX4_due 3 (some .int) 2 43 D cI cZ cB cR [oM q tr xtx ty xdc xdl xdb xar xac xwm xnd u.1 u.2.1 u.2.2.1 u.2.2.2.1 u.2.2.2.2 xnw xkp xta xtw td xhg, aB cB xtx 150 tx] [oM q tr xtx ty xdc xdl xdb xar xac xwm xnd F9.1 F9.2.1 F9.2.2.1 F9.2.2.2.1 F9.2.2.2.2 xnw xkp xta xtw td xhg, aB cB xtx 150 tx] [.ref q, .int (bI ok9)] (some (.int (nI u.2.2.2.1))) := by
  subst hF9
  exact c_X4_due (hlen := hlen) (htx := htx) (hby := hby) (hu := hu)
set_option maxRecDepth 100000 in
theorem c_X4_readRow_aV {l : Launch} {D : va_G} {cI cZ cB cR : ClassId} {q xtx ty xdc xdl xdb xar xac xwm xnd xnw xkp xta xtw td xhg : Nat} {tr : Int64}  {tx : Nat → Int32} {by_ : Nat → Nat} {F9 : Mp} {X9 : (Nat → Nat) × (Nat → Nat) × (Nat → Nat) × (Nat → Nat) × (Nat → Nat) × (Nat → Nat) × (Nat → Nat)} {R9 : Md}  (hlen : ty ≤ 150) (htx : ∀ i, i < ty → tx i &&& nI 255 = nI (by_ i)) (hby : ∀ i, by_ i < 256) (hu : wfP ty F9) (hn1 : X9.1 1 ≤ 6) (ha1 : X9.2.1 1 < 5) (hR9 : rowA by_ ty (F9, X9) = R9) : mW l yX4_readRow cX4_readRow 5 none 5 111 D cI cZ cB cR [oM q tr xtx ty xdc xdl xdb xar xac xwm xnd F9.1 F9.2.1 F9.2.2.1 F9.2.2.2.1 F9.2.2.2.2 xnw xkp xta xtw td xhg, aB cB xtx 150 tx, aI cI xdc 2 X9.1, aI cI xac 2 X9.2.1, aI cI xdl 6 X9.2.2.1, aI cI xdb 6 X9.2.2.2.1, aI cI xar 12 X9.2.2.2.2.1, aI cI xwm 10 X9.2.2.2.2.2.1, aI cI xnd 60 X9.2.2.2.2.2.2] [oM q tr xtx ty xdc xdl xdb xar xac xwm xnd R9.1.1 R9.1.2.1 R9.1.2.2.1 R9.1.2.2.2.1 R9.1.2.2.2.2 xnw xkp xta xtw td xhg, aB cB xtx 150 tx, aI cI xdc 2 R9.2.1, aI cI xac 2 R9.2.2.1, aI cI xdl 6 R9.2.2.2.1, aI cI xdb 6 R9.2.2.2.2.1, aI cI xar 12 R9.2.2.2.2.2.1, aI cI xwm 10 R9.2.2.2.2.2.2.1, aI cI xnd 60 R9.2.2.2.2.2.2.2] [.ref q, .int (nI 97)] (none) := by
  subst hR9
  have h9 := mW_wide (l := l) (D := D) (cI := cI) (cZ := cZ) (cB := cB) (cR := cR) (ws := [oM q tr xtx ty xdc xdl xdb xar xac xwm xnd F9.1 F9.2.1 F9.2.2.1 F9.2.2.2.1 F9.2.2.2.2 xnw xkp xta xtw td xhg, aB cB xtx 150 tx, aI cI xdc 2 X9.1, aI cI xac 2 X9.2.1, aI cI xdl 6 X9.2.2.1, aI cI xdb 6 X9.2.2.2.1, aI cI xar 12 X9.2.2.2.2.1, aI cI xwm 10 X9.2.2.2.2.2.1, aI cI xnd 60 X9.2.2.2.2.2.2]) (c_X4_readRow_a (l := l) (D := D) (cI := cI) (cZ := cZ) (cB := cB) (cR := cR) (u := F9) (hlen := hlen) (htx := htx) (hby := hby) (hu := hu) (hn1 := hn1) (ha1 := ha1)) [0, 1, 2, 3, 7, 8] [q, xtx, xdc, xac, xwm, xnd] rfl rfl rfl rfl
  exact h9
set_option maxRecDepth 100000 in
theorem c_X4_readRow_dV {l : Launch} {D : va_G} {cI cZ cB cR : ClassId} {q xtx ty xdc xdl xdb xar xac xwm xnd xnw xkp xta xtw td xhg : Nat} {tr : Int64}  {tx : Nat → Int32} {by_ : Nat → Nat} {F9 : Mp} {X9 : (Nat → Nat) × (Nat → Nat) × (Nat → Nat) × (Nat → Nat) × (Nat → Nat) × (Nat → Nat) × (Nat → Nat)} {R9 : Md}  (hlen : ty ≤ 150) (htx : ∀ i, i < ty → tx i &&& nI 255 = nI (by_ i)) (hby : ∀ i, by_ i < 256) (hu : wfP ty F9) (hn1 : X9.1 1 < 6) (hR9 : rowD by_ ty (F9, X9) = R9) : mW l yX4_readRow cX4_readRow 5 none 4 87 D cI cZ cB cR [oM q tr xtx ty xdc xdl xdb xar xac xwm xnd F9.1 F9.2.1 F9.2.2.1 F9.2.2.2.1 F9.2.2.2.2 xnw xkp xta xtw td xhg, aB cB xtx 150 tx, aI cI xdc 2 X9.1, aI cI xac 2 X9.2.1, aI cI xdl 6 X9.2.2.1, aI cI xdb 6 X9.2.2.2.1, aI cI xar 12 X9.2.2.2.2.1, aI cI xwm 10 X9.2.2.2.2.2.1, aI cI xnd 60 X9.2.2.2.2.2.2] [oM q tr xtx ty xdc xdl xdb xar xac xwm xnd R9.1.1 R9.1.2.1 R9.1.2.2.1 R9.1.2.2.2.1 R9.1.2.2.2.2 xnw xkp xta xtw td xhg, aB cB xtx 150 tx, aI cI xdc 2 R9.2.1, aI cI xac 2 R9.2.2.1, aI cI xdl 6 R9.2.2.2.1, aI cI xdb 6 R9.2.2.2.2.1, aI cI xar 12 R9.2.2.2.2.2.1, aI cI xwm 10 R9.2.2.2.2.2.2.1, aI cI xnd 60 R9.2.2.2.2.2.2.2] [.ref q, .int (nI 100)] (none) := by
  subst hR9
  have h9 := mW_wide (l := l) (D := D) (cI := cI) (cZ := cZ) (cB := cB) (cR := cR) (ws := [oM q tr xtx ty xdc xdl xdb xar xac xwm xnd F9.1 F9.2.1 F9.2.2.1 F9.2.2.2.1 F9.2.2.2.2 xnw xkp xta xtw td xhg, aB cB xtx 150 tx, aI cI xdc 2 X9.1, aI cI xac 2 X9.2.1, aI cI xdl 6 X9.2.2.1, aI cI xdb 6 X9.2.2.2.1, aI cI xar 12 X9.2.2.2.2.1, aI cI xwm 10 X9.2.2.2.2.2.1, aI cI xnd 60 X9.2.2.2.2.2.2]) (c_X4_readRow_d (l := l) (D := D) (cI := cI) (cZ := cZ) (cB := cB) (cR := cR) (u := F9) (hlen := hlen) (htx := htx) (hby := hby) (hu := hu) (hn1 := hn1)) [0, 1, 2, 4, 5, 6] [q, xtx, xdc, xdl, xdb, xar] rfl rfl rfl rfl
  exact h9
set_option maxRecDepth 100000 in
theorem c_X4_readRow_xV {l : Launch} {D : va_G} {cI cZ cB cR : ClassId} {q xtx ty xdc xdl xdb xar xac xwm xnd xnw xkp xta xtw td xhg : Nat} {tr : Int64}  {tx : Nat → Int32} {by_ : Nat → Nat} {F9 : Mp} {X9 : (Nat → Nat) × (Nat → Nat) × (Nat → Nat) × (Nat → Nat) × (Nat → Nat) × (Nat → Nat) × (Nat → Nat)} {R9 : Md}  (hlen : ty ≤ 150) (htx : ∀ i, i < ty → tx i &&& nI 255 = nI (by_ i)) (hby : ∀ i, by_ i < 256) (hu : wfP ty F9) (hn1 : X9.1 1 ≤ 6) (hR9 : rowX by_ ty (F9, X9) = R9) : mW l yX4_readRow cX4_readRow 5 none 4 87 D cI cZ cB cR [oM q tr xtx ty xdc xdl xdb xar xac xwm xnd F9.1 F9.2.1 F9.2.2.1 F9.2.2.2.1 F9.2.2.2.2 xnw xkp xta xtw td xhg, aB cB xtx 150 tx, aI cI xdc 2 X9.1, aI cI xac 2 X9.2.1, aI cI xdl 6 X9.2.2.1, aI cI xdb 6 X9.2.2.2.1, aI cI xar 12 X9.2.2.2.2.1, aI cI xwm 10 X9.2.2.2.2.2.1, aI cI xnd 60 X9.2.2.2.2.2.2] [oM q tr xtx ty xdc xdl xdb xar xac xwm xnd R9.1.1 R9.1.2.1 R9.1.2.2.1 R9.1.2.2.2.1 R9.1.2.2.2.2 xnw xkp xta xtw td xhg, aB cB xtx 150 tx, aI cI xdc 2 R9.2.1, aI cI xac 2 R9.2.2.1, aI cI xdl 6 R9.2.2.2.1, aI cI xdb 6 R9.2.2.2.2.1, aI cI xar 12 R9.2.2.2.2.2.1, aI cI xwm 10 R9.2.2.2.2.2.2.1, aI cI xnd 60 R9.2.2.2.2.2.2.2] [.ref q, .int (nI 120)] (none) := by
  subst hR9
  have h9 := mW_wide (l := l) (D := D) (cI := cI) (cZ := cZ) (cB := cB) (cR := cR) (ws := [oM q tr xtx ty xdc xdl xdb xar xac xwm xnd F9.1 F9.2.1 F9.2.2.1 F9.2.2.2.1 F9.2.2.2.2 xnw xkp xta xtw td xhg, aB cB xtx 150 tx, aI cI xdc 2 X9.1, aI cI xac 2 X9.2.1, aI cI xdl 6 X9.2.2.1, aI cI xdb 6 X9.2.2.2.1, aI cI xar 12 X9.2.2.2.2.1, aI cI xwm 10 X9.2.2.2.2.2.1, aI cI xnd 60 X9.2.2.2.2.2.2]) (c_X4_readRow_x (l := l) (D := D) (cI := cI) (cZ := cZ) (cB := cB) (cR := cR) (u := F9) (hlen := hlen) (htx := htx) (hby := hby) (hu := hu) (hn1 := hn1)) [0, 1, 2, 5] [q, xtx, xdc, xdb] rfl rfl rfl rfl
  exact h9
