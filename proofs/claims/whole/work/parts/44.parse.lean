/-! the text is read alike -/
def TK (len : Nat) (u : Cu) (v : Mp) : Prop := u.1 = v.1 ∧ u.2.2.1 = v.2.1 ∧ u.1 ≤ len ∧ u.2.2.1 ≤ len ∧
  ((u.2.1 = 0 ∧ v.2.2.1 = 3) ∨ (u.2.1 = 1 ∧ 97 ≤ v.2.2.1 ∧ v.2.2.1 ≤ 122 ∧ u.2.2.2 = nI v.2.2.1) ∨ (u.2.1 = 1 ∧ v.2.2.1 = 4 ∧ u.2.2.2 = -1) ∨ (u.2.1 = 2 ∧ v.2.2.1 = 1 ∧ u.2.2.2 = nI v.2.2.2.1 ∧ v.2.2.2.1 < 100) ∨ (u.2.1 = 3 ∧ v.2.2.1 = 2) ∨ (u.2.1 = 4 ∧ v.2.2.1 = 4))
theorem sortN_3i {x : Nat} : sortN x = 3 ↔ x = 59 := by
  unfold sortN
  repeat' split
  all_goals omega
theorem dgv_1 {by_ : Nat → Nat} {p : Nat} : dgv by_ p 1 = by_ p - 48 := by
  have h0 : dgv by_ p 0 = 0 := rfl
  rw [show (1 : Nat) = 0 + 1 from rfl, dgv_s, h0, if_neg (by decide)]
  simp
theorem dgv_2 {by_ : Nat → Nat} {p : Nat} (h : by_ p ≤ 57) : dgv by_ p 2 = 10 * (by_ p - 48) + by_ (p + 1) - 48 := by
  rw [show (2 : Nat) = 1 + 1 from rfl, dgv_s, dgv_1, if_neg (by omega)]
theorem dgv_3 {by_ : Nat → Nat} {p : Nat} (h : 49 ≤ by_ p ∧ by_ p ≤ 57) : ∀ k, (∀ i, i < k + 3 → 48 ≤ by_ (p + i) ∧ by_ (p + i) ≤ 57) → 99 < dgv by_ p (k + 3)
  | 0, hd => by
    have h1 := hd 1 (by omega)
    have h2 := hd 2 (by omega)
    rw [show 0 + 3 = 2 + 1 from rfl, dgv_s, dgv_2 h.2]
    split <;> omega
  | k + 1, hd => by
    have ih := dgv_3 h k (fun i hi => hd i (by omega))
    rw [show k + 1 + 3 = (k + 3) + 1 from rfl, dgv_s, if_pos ih]
    exact ih
theorem adv_stp {by_ : Nat → Nat} {len : Nat} {u : Cu} {f9 : Int32} (hu : u.1 ≤ len) : TK len (adv by_ len u) ((stp by_ len u.1).1, (stp by_ len u.1).2.1, (stp by_ len u.1).2.2.1, (stp by_ len u.1).2.2.2, f9) := by
  have hq := skp_le (by_ := by_) (len - u.1) u.1
  obtain ⟨pl, tk, tA, va⟩ := u
  have hu : pl ≤ len := hu
  generalize hs : skp by_ (len - pl) pl = q9 at hq
  by_cases h1 : q9 < len
  · rw [adv_tok hs h1]
    have hin := advE_in (by_ := by_) h1
    by_cases h2 : 97 ≤ by_ q9 ∧ by_ q9 ≤ 122
    · have hk := sortN_1i.mpr h2
      have he : advE by_ len q9 = rn by_ 1 (len - q9) q9 := by
        unfold advE
        rw [hk, if_pos (Or.inl rfl), rn_go h1 hk]
      rw [stp_l hs h1 h2 he.symm]
      refine ⟨rfl, rfl, hin.2.1, by show q9 ≤ len; omega, ?_⟩
      show (svK (sortN (by_ q9)) (by_ q9) (advE by_ len q9 - q9) = 0 ∧ _) ∨ _
      rw [show (advW by_ len q9 va).2.1 = svK (sortN (by_ q9)) (by_ q9) (advE by_ len q9 - q9) from rfl, show (advW by_ len q9 va).2.2.2 = svV (sortN (by_ q9)) (by_ q9) (by_ (advE by_ len q9 - 1)) (advE by_ len q9 - q9) va from rfl, hk]
      have e1 : svK 1 (by_ q9) (advE by_ len q9 - q9) = 1 := if_neg (fun h => absurd h.1 (by decide))
      rw [e1]
      by_cases hw : advE by_ len q9 - q9 = 1
      · refine Or.inr (Or.inl ⟨rfl, ?_⟩)
        show 97 ≤ (if advE by_ len q9 - q9 = 1 then by_ q9 else 4) ∧ (if advE by_ len q9 - q9 = 1 then by_ q9 else 4) ≤ 122 ∧ svV 1 (by_ q9) _ _ va = nI (if advE by_ len q9 - q9 = 1 then by_ q9 else 4)
        rw [if_pos hw]
        refine ⟨h2.1, h2.2, ?_⟩
        unfold svV
        rw [if_neg (by decide), if_pos hw]
      · refine Or.inr (Or.inr (Or.inl ⟨rfl, ?_, ?_⟩))
        · show (if advE by_ len q9 - q9 = 1 then by_ q9 else 4) = 4
          exact if_neg hw
        · unfold svV
          rw [if_neg (by decide), if_neg hw]
    · by_cases h3 : 48 ≤ by_ q9 ∧ by_ q9 ≤ 57
      · have hk := sortN_2i.mpr h3
        have he : advE by_ len q9 = rn by_ 2 (len - q9) q9 := by
          unfold advE
          rw [hk, if_pos (Or.inr rfl), rn_go h1 hk]
        have hdg : ∀ i, q9 ≤ i → i < advE by_ len q9 → 48 ≤ by_ i ∧ by_ i ≤ 57 := fun i a b => by
          rw [he] at b
          exact sortN_2 ((rn_in (by_ := by_) (s := 2) (len - q9) q9).2.2 i a b)
        rw [stp_d hs h1 h2 h3 he.symm rfl]
        refine ⟨rfl, rfl, hin.2.1, by show q9 ≤ len; omega, ?_⟩
        rw [show (advW by_ len q9 va).2.1 = svK (sortN (by_ q9)) (by_ q9) (advE by_ len q9 - q9) from rfl, show (advW by_ len q9 va).2.2.2 = svV (sortN (by_ q9)) (by_ q9) (by_ (advE by_ len q9 - 1)) (advE by_ len q9 - q9) va from rfl, hk]
        generalize hE : advE by_ len q9 = E9 at *
        by_cases w1 : E9 - q9 = 1
        · have e1 : svK 2 (by_ q9) (E9 - q9) = 2 := if_neg (fun h => h.2.1 w1)
          rw [e1, w1, dgv_1]
          refine Or.inr (Or.inr (Or.inr (Or.inl ⟨rfl, ?_, ?_, ?_⟩)))
          · show (if 99 < by_ q9 - 48 ∨ (by_ q9 = 48 ∧ 1 < 1) then 4 else 1) = 1
            exact if_neg (fun h => by omega)
          · unfold svV
            rw [if_pos rfl, if_pos rfl]
          · show by_ q9 - 48 < 100
            omega
        · by_cases w2 : E9 - q9 = 2 ∧ by_ q9 ≠ 48
          · have e1 : svK 2 (by_ q9) (E9 - q9) = 2 := if_neg (fun h => h.2.2 w2)
            have h5 := hdg (q9 + 1) (by omega) (by omega)
            rw [e1, w2.1, dgv_2 h3.2]
            refine Or.inr (Or.inr (Or.inr (Or.inl ⟨rfl, ?_, ?_, ?_⟩)))
            · show (if 99 < 10 * (by_ q9 - 48) + by_ (q9 + 1) - 48 ∨ (by_ q9 = 48 ∧ 1 < 2) then 4 else 1) = 1
              exact if_neg (fun h => by omega)
            · unfold svV
              rw [if_pos rfl, if_neg (by decide), if_pos ⟨rfl, w2.2⟩, show E9 - 1 = q9 + 1 by omega]
            · show 10 * (by_ q9 - 48) + by_ (q9 + 1) - 48 < 100
              omega
          · have e1 : svK 2 (by_ q9) (E9 - q9) = 4 := if_pos ⟨rfl, w1, w2⟩
            rw [e1]
            refine Or.inr (Or.inr (Or.inr (Or.inr (Or.inr ⟨rfl, ?_⟩))))
            show (if 99 < dgv by_ q9 (E9 - q9) ∨ (by_ q9 = 48 ∧ 1 < E9 - q9) then 4 else 1) = 4
            by_cases hz : by_ q9 = 48
            · exact if_pos (Or.inr ⟨hz, by omega⟩)
            · have h6 := dgv_3 (by_ := by_) (p := q9) ⟨by omega, h3.2⟩ (E9 - q9 - 3) (fun i hi => hdg _ (by omega) (by omega))
              rw [show E9 - q9 - 3 + 3 = E9 - q9 by omega] at h6
              exact if_pos (Or.inl h6)
      · have hk1 : sortN (by_ q9) ≠ 1 := fun h => h2 (sortN_1i.mp h)
        have hk2 : sortN (by_ q9) ≠ 2 := fun h => h3 (sortN_2i.mp h)
        have he : advE by_ len q9 = q9 + 1 := by
          unfold advE
          exact if_neg (fun h => by rcases h with h | h; exact hk1 h; exact hk2 h)
        rw [stp_o hs h1 h2 h3]
        refine ⟨he, rfl, hin.2.1, by show q9 ≤ len; omega, ?_⟩
        rw [show (advW by_ len q9 va).2.1 = svK (sortN (by_ q9)) (by_ q9) (advE by_ len q9 - q9) from rfl]
        have e1 : svK (sortN (by_ q9)) (by_ q9) (advE by_ len q9 - q9) = sortN (by_ q9) := if_neg (fun h => hk2 h.1)
        rw [e1]
        by_cases hz : by_ q9 = 59
        · refine Or.inr (Or.inr (Or.inr (Or.inr (Or.inl ⟨sortN_3i.mpr hz, ?_⟩))))
          show (if by_ q9 = 59 then 2 else 4) = 2
          exact if_pos hz
        · refine Or.inr (Or.inr (Or.inr (Or.inr (Or.inr ⟨?_, ?_⟩))))
          · have h7 := sortN_le (by_ q9)
            have h8 : sortN (by_ q9) ≠ 3 := fun h => hz (sortN_3i.mp h)
            omega
          · show (if by_ q9 = 59 then 2 else 4) = 4
            exact if_neg hz
  · have h2 : q9 = len := by omega
    rw [adv_end hs h2, stp_e hs (by omega)]
    exact ⟨rfl, rfl, by show q9 ≤ len; omega, by show q9 ≤ len; omega, Or.inl ⟨rfl, rfl⟩⟩
/-- ahead by one: the reference has read what the class reads next -/
def AL (by_ : Nat → Nat) (len : Nat) (u : Cu) (v : Mp) : Prop := TK len (adv by_ len u) v ∧ v.2.2.2.2 = -9
theorem nI_ne9 {x : Nat} (h : x ≤ 150) : nI x ≠ -9 := fun q => by
  have h2 : (nI x).toInt = (-9 : Int32).toInt := congrArg Int32.toInt q
  rw [nI_toInt (by omega)] at h2
  have h3 : (-9 : Int32).toInt = -9 := rfl
  omega
theorem due_on {by_ : Nat → Nat} {len : Nat} {u : Cu} {v : Mp} (h : TK len u v) (hf : v.2.2.2.2 = -9) : AL by_ len u (dueF by_ len true v) := by
  rw [dueF_t hf, ← h.1]
  exact ⟨adv_stp h.2.2.1, rfl⟩
theorem due_off {by_ : Nat → Nat} {len : Nat} {u : Cu} {v : Mp} (h : TK len u v) (hf : v.2.2.2.2 = -9) : (dueF by_ len false v).2.2.2.2 = nI u.2.2.1 := by
  rw [dueF_f hf, h.2.1]
theorem tk_num {len : Nat} {u : Cu} {v : Mp} (h : TK len u v) : (u.2.1 = 2 ↔ v.2.2.1 = 1) ∧ (u.2.1 = 2 → u.2.2.2 = nI v.2.2.2.1 ∧ v.2.2.2.1 < 100 ∧ vN u = v.2.2.2.1) ∧ (u.2.1 = 3 ↔ v.2.2.1 = 2) ∧ (u.2.1 = 0 ↔ v.2.2.1 = 3) := by
  obtain ⟨-, -, -, -, h⟩ := h
  have key : u.2.1 = 2 → u.2.2.2 = nI v.2.2.2.1 → v.2.2.2.1 < 100 → vN u = v.2.2.2.1 := fun _ e l => by
    unfold vN
    rw [e]
    exact nI_clamp (by omega)
  rcases h with h | h | h | h | h | h
  · exact ⟨by omega, fun q => by omega, by omega, by omega⟩
  · exact ⟨by omega, fun q => by omega, by omega, by omega⟩
  · exact ⟨by omega, fun q => by omega, by omega, by omega⟩
  · exact ⟨by omega, fun q => ⟨h.2.2.1, h.2.2.2, key q h.2.2.1 h.2.2.2⟩, by omega, by omega⟩
  · exact ⟨by omega, fun q => by omega, by omega, by omega⟩
  · exact ⟨by omega, fun q => by omega, by omega, by omega⟩
theorem num_dec {by_ : Nat → Nat} {len : Nat} {u : Cu} {v : Mp} {m9 : Int32} (h : AL by_ len u v) : numOk by_ len u m9 = decide (v.2.2.1 = 1 ∧ nI v.2.2.2.1 ≤ m9) := by
  obtain ⟨k1, k2, -, -⟩ := tk_num h.1
  unfold numOk
  apply decide_eq_decide.mpr
  constructor
  · rintro ⟨a, b⟩
    exact ⟨k1.mp a, by rw [← (k2 a).1]; exact b⟩
  · rintro ⟨a, b⟩
    exact ⟨k1.mpr a, by rw [(k2 (k1.mpr a)).1]; exact b⟩
theorem num_on {by_ : Nat → Nat} {len : Nat} {u : Cu} {v : Mp} {m9 : Int32} (h : AL by_ len u v) (hn : numOk by_ len u m9 = true) : AL by_ len (adv by_ len u) (numF by_ len m9 v) ∧ vN (adv by_ len u) = v.2.2.2.1 ∧ nI v.2.2.2.1 ≤ m9 ∧ v.2.2.2.1 < 100 := by
  have h1 := num_dec (m9 := m9) h
  rw [hn] at h1
  have h2 := of_decide_eq_true h1.symm
  obtain ⟨k1, k2, -, -⟩ := tk_num h.1
  refine ⟨?_, (k2 (k1.mpr h2.1)).2.2, h2.2, (k2 (k1.mpr h2.1)).2.1⟩
  unfold numF
  rw [← h1]
  exact due_on h.1 h.2
theorem num_off {by_ : Nat → Nat} {len : Nat} {u : Cu} {v : Mp} {m9 : Int32} (h : AL by_ len u v) (hn : numOk by_ len u m9 = false) : (numF by_ len m9 v).2.2.2.2 = nI (adv by_ len u).2.2.1 := by
  have h1 := num_dec (m9 := m9) h
  rw [hn] at h1
  unfold numF
  rw [← h1]
  exact due_off h.1 h.2
theorem AL.le {by_ : Nat → Nat} {len : Nat} {u : Cu} {v : Mp} (hl : len ≤ 150) (h : AL by_ len u v) : nI (adv by_ len u).2.2.1 ≠ -9 := nI_ne9 (by have := h.1.2.2.2.1; omega)
theorem num_no {by_ : Nat → Nat} {len : Nat} {v : Mp} {m9 : Int32} (h : v.2.2.2.2 ≠ -9) : numF by_ len m9 v = v := dueF_no h
/-! the numbers behind an act -/
theorem act_sim {by_ : Nat → Nat} {len n a off : Nat} (hl : len ≤ 150) (hn : n ≤ 6) : ∀ (k : Nat) (u : Cu) (v : Mp) (nd : Nat → Nat) (dr : Nat → Nat → Nat), TK len u v → v.2.2.2.2 = -9 → (∀ q, q < 6 → nd (off + q) = dr a q) → (∀ i j, dr i j ≤ 9) → (∀ i, nd i ≤ 9) →
    ((actL by_ len n a k u dr).1 = true → TK len (actL by_ len n a k u dr).2.1 (raL by_ len n off k v nd).1 ∧ (raL by_ len n off k v nd).1.2.2.2.2 = -9 ∧ (raL by_ len n off k v nd).1.2.2.1 = 2 ∧ ∀ q, q < 6 → (raL by_ len n off k v nd).2 (off + q) = (actL by_ len n a k u dr).2.2 a q) ∧
    ((actL by_ len n a k u dr).1 = false → (actL by_ len n a k u dr).2.1.2.2.1 ≤ len ∧ ((raL by_ len n off k v nd).1.2.2.2.2 = nI (actL by_ len n a k u dr).2.1.2.2.1 ∨ ((raL by_ len n off k v nd).1.2.2.2.2 = -9 ∧ (raL by_ len n off k v nd).1.2.2.1 ≠ 2 ∧ TK len (actL by_ len n a k u dr).2.1 (raL by_ len n off k v nd).1))) ∧
    (∀ i, i ≠ a → (actL by_ len n a k u dr).2.2 i = dr i) ∧ (∀ x, ¬ (off ≤ x ∧ x < off + 6) → (raL by_ len n off k v nd).2 x = nd x) ∧ (∀ i j, (actL by_ len n a k u dr).2.2 i j ≤ 9) ∧ (∀ i, (raL by_ len n off k v nd).2 i ≤ 9)
  | 0, u, v, nd, dr, h, hf, hq, hd9, hn9 => by
    obtain ⟨k1, k2, k3, k4⟩ := tk_num h
    rw [actL_0, raL_0 rfl]
    refine ⟨fun e => ⟨h, hf, k3.mp (of_decide_eq_true e), hq⟩, fun e => ⟨h.2.2.2.1, Or.inr ⟨hf, fun q => of_decide_eq_false e (k3.mpr q), h⟩⟩, fun _ _ => rfl, fun _ _ => rfl, hd9, hn9⟩
  | k + 1, u, v, nd, dr, h, hf, hq, hd9, hn9 => by
    obtain ⟨k1, k2, k3, k4⟩ := tk_num h
    rw [actL_s]
    by_cases c1 : u.2.1 = 2
    · obtain ⟨e1, e2, e3⟩ := k2 c1
      rw [if_pos c1, raL_s (Nat.succ_pos k) ⟨k1.mp c1, hf⟩, Nat.succ_sub_one]
      by_cases c2 : vN u < n
      · rw [if_pos c2]
        have d1 : decide (v.2.2.1 = 1 ∧ nI v.2.2.2.1 ≤ nI n - nI 1) = true := decide_eq_true ⟨k1.mp c1, by
          rw [pk_sub (show 1 ≤ n by omega)]
          exact (nI_leI (by omega) (by omega)).mpr (by omega)⟩
        have a1 : AL by_ len u (numF by_ len (nI n - nI 1) v) := by
          unfold numF
          rw [d1]
          exact due_on h hf
        by_cases c3 : numOk by_ len u (nI 9) = true
        · obtain ⟨b1, b2, b3, b4⟩ := num_on a1 c3
          have b5 : (numF by_ len (nI n - nI 1) v).2.2.2.1 ≤ 9 := (nI_leI (by omega) (by omega)).mp b3
          have hw := adv_stp (by_ := by_) (f9 := -9) h.2.2.1
          have a2 : TK len (adv by_ len (adv by_ len u)) (numF by_ len (nI 9) (numF by_ len (nI n - nI 1) v)) := b1.1
          have e4 : (numF by_ len (nI 9) (numF by_ len (nI n - nI 1) v)).2.2.2.2 = -9 := b1.2
          rw [if_pos c3, if_pos e4, e3, b2]
          have ih := act_sim hl hn (by_ := by_) (off := off) (a := a) k (adv by_ len (adv by_ len u)) (numF by_ len (nI 9) (numF by_ len (nI n - nI 1) v)) (updN nd (off + v.2.2.2.1) (numF by_ len (nI n - nI 1) v).2.2.2.1) (updF dr a (updN (dr a) v.2.2.2.1 (numF by_ len (nI n - nI 1) v).2.2.2.1)) a2 e4 (fun q hq6 => by
            rw [updF_s]
            by_cases e : q = v.2.2.2.1
            · rw [e, updN_s, updN_s]
            · rw [updN_n e, updN_n (by omega)]
              exact hq q hq6) (fun i j => by
            by_cases e : i = a
            · subst e
              rw [updF_s]
              unfold updN
              split
              · exact b5
              · exact hd9 _ _
            · rw [updF_n e]; exact hd9 i j) (fun i => by
            unfold updN
            split
            · exact b5
            · exact hn9 i)
          obtain ⟨i1, i2, i3, i4, i5, i6⟩ := ih
          refine ⟨i1, i2, fun i hi => by rw [i3 i hi, updF_n hi], fun x hx => by rw [i4 x hx, updN_n (by omega)], i5, i6⟩
        · have c4 : numOk by_ len u (nI 9) = false := by simpa using c3
          have e4 := num_off a1 c4
          have e5 : (numF by_ len (nI 9) (numF by_ len (nI n - nI 1) v)).2.2.2.2 ≠ -9 := by rw [e4]; exact a1.le hl
          rw [if_neg c3, if_neg e5, raL_n (fun q => e5 q.2)]
          exact ⟨fun e => (by cases e), fun _ => ⟨a1.1.2.2.2.1, Or.inl e4⟩, fun _ _ => rfl, fun _ _ => rfl, hd9, hn9⟩
      · have d1 : decide (v.2.2.1 = 1 ∧ nI v.2.2.2.1 ≤ nI n - nI 1) = false := decide_eq_false (fun q => c2 (by rw [e3]; exact le_pred (by omega) hn q.2))
        have e4 : (numF by_ len (nI n - nI 1) v).2.2.2.2 = nI u.2.2.1 := by
          unfold numF
          rw [d1]
          exact due_off h hf
        have e6 : nI u.2.2.1 ≠ -9 := nI_ne9 (by have := h.2.2.2.1; omega)
        have e5 : (numF by_ len (nI n - nI 1) v).2.2.2.2 ≠ -9 := by rw [e4]; exact e6
        rw [if_neg c2, num_no e5, if_neg e5, raL_n (fun q => e5 q.2)]
        exact ⟨fun e => (by cases e), fun _ => ⟨h.2.2.2.1, Or.inl e4⟩, fun _ _ => rfl, fun _ _ => rfl, hd9, hn9⟩
    · rw [if_neg c1, raL_n (fun q => c1 (k1.mpr q.1))]
      refine ⟨fun e => ⟨h, hf, k3.mp (of_decide_eq_true e), hq⟩, fun e => ⟨h.2.2.2.1, Or.inr ⟨hf, fun q => of_decide_eq_false e (k3.mpr q), h⟩⟩, fun _ _ => rfl, fun _ _ => rfl, hd9, hn9⟩
