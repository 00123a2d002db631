theorem dgv_le {by_ : Nat → Nat} {p : Nat} : ∀ {k : Nat}, (∀ i, i < k → by_ (p + i) ≤ 57) → dgv by_ p k ≤ 999
  | 0, _ => Nat.zero_le _
  | k + 1, h => by
    have h1 := dgv_le (by_ := by_) (p := p) (k := k) (fun i hi => h i (by omega))
    have h2 := h k (by omega)
    rw [dgv_s]
    split <;> omega
def wfP (len : Nat) (u : Mp) : Prop := u.1 ≤ len ∧ u.2.1 ≤ len ∧ u.2.2.1 ≤ 122 ∧ u.2.2.2.1 ≤ 999
theorem stp_wf {by_ : Nat → Nat} {len at_ : Nat} (h : at_ ≤ len) : (stp by_ len at_).1 ≤ len ∧ (stp by_ len at_).2.1 ≤ len ∧ (stp by_ len at_).2.2.1 ≤ 122 ∧ (stp by_ len at_).2.2.2 ≤ 999 := by
  have hq := skp_le (by_ := by_) (len - at_) at_
  generalize hs : skp by_ (len - at_) at_ = q at hq
  by_cases h1 : q < len
  · by_cases h2 : 97 ≤ by_ q ∧ by_ q ≤ 122
    · obtain ⟨r1, r2, -⟩ := rn_in (by_ := by_) (s := 1) (len - q) q
      rw [stp_l hs h1 h2 rfl]
      refine ⟨?_, ?_, ?_, ?_⟩
      · show rn by_ 1 (len - q) q ≤ len; omega
      · show q ≤ len; omega
      · show (if _ then by_ q else 4) ≤ 122; split <;> omega
      · show 0 ≤ 999; omega
    · by_cases h3 : 48 ≤ by_ q ∧ by_ q ≤ 57
      · obtain ⟨r1, r2, r3⟩ := rn_in (by_ := by_) (s := 2) (len - q) q
        rw [stp_d hs h1 h2 h3 rfl rfl]
        refine ⟨?_, ?_, ?_, ?_⟩
        · show rn by_ 2 (len - q) q ≤ len; omega
        · show q ≤ len; omega
        · show (if _ then 4 else 1) ≤ 122; split <;> omega
        · exact dgv_le (fun i hi => (sortN_2 (r3 (q + i) (by omega) (by omega))).2)
      · rw [stp_o hs h1 h2 h3]
        refine ⟨?_, ?_, ?_, ?_⟩
        · show q + 1 ≤ len; omega
        · show q ≤ len; omega
        · show (if _ then 2 else 4) ≤ 122; split <;> omega
        · show 0 ≤ 999; omega
  · rw [stp_e hs (Nat.not_lt.mp h1)]
    refine ⟨?_, ?_, ?_, ?_⟩
    · show q ≤ len; omega
    · show q ≤ len; omega
    · show 3 ≤ 122; omega
    · show 0 ≤ 999; omega
theorem dueF_no {by_ : Nat → Nat} {len : Nat} {ok : Bool} {u : Mp} (h : u.2.2.2.2 ≠ -9) : dueF by_ len ok u = u := if_neg h
theorem dueF_t {by_ : Nat → Nat} {len : Nat} {u : Mp} (h : u.2.2.2.2 = -9) : dueF by_ len true u = ((stp by_ len u.1).1, (stp by_ len u.1).2.1, (stp by_ len u.1).2.2.1, (stp by_ len u.1).2.2.2, -9) := (if_pos h).trans (if_pos rfl)
theorem dueF_f {by_ : Nat → Nat} {len : Nat} {u : Mp} (h : u.2.2.2.2 = -9) : dueF by_ len false u = (u.1, u.2.1, u.2.2.1, u.2.2.2.1, nI u.2.1) := (if_pos h).trans (if_neg (by decide))
theorem dueF_wf {by_ : Nat → Nat} {len : Nat} {ok : Bool} {u : Mp} (h : wfP len u) : wfP len (dueF by_ len ok u) := by
  by_cases h1 : u.2.2.2.2 = -9
  · cases ok with
    | true => rw [dueF_t h1]; exact stp_wf h.1
    | false => rw [dueF_f h1]; exact h
  · rw [dueF_no h1]; exact h
theorem numF_wf {by_ : Nat → Nat} {len : Nat} {hi : Int32} {u : Mp} (h : wfP len u) : wfP len (numF by_ len hi u) := dueF_wf h
theorem dueF_ok {by_ : Nat → Nat} {len : Nat} {ok : Bool} {u : Mp} (hl : len ≤ 150) (h : wfP len u) (q : (dueF by_ len ok u).2.2.2.2 = -9) : ok = true ∧ u.2.2.2.2 = -9 := by
  by_cases h1 : u.2.2.2.2 = -9
  · refine ⟨?_, h1⟩
    cases ok with
    | true => rfl
    | false =>
      rw [dueF_f h1] at q
      have h2 : (nI u.2.1).toInt = (-9 : Int32).toInt := congrArg Int32.toInt q
      rw [nI_toInt (by have := h.2.1; omega)] at h2
      have h3 : (-9 : Int32).toInt = -9 := rfl
      omega
  · rw [dueF_no h1] at q; exact absurd q h1
theorem numF_ok {by_ : Nat → Nat} {len : Nat} {hi : Int32} {u : Mp} (hl : len ≤ 150) (h : wfP len u) (q : (numF by_ len hi u).2.2.2.2 = -9) : u.2.2.1 = 1 ∧ nI u.2.2.2.1 ≤ hi ∧ u.2.2.2.2 = -9 := by
  obtain ⟨h1, h2⟩ := dueF_ok hl h q
  have h3 := of_decide_eq_true h1
  exact ⟨h3.1, h3.2, h2⟩
theorem le_pred {v n : Nat} (hv : v < 2 ^ 30) (hn : n ≤ 6) (h : nI v ≤ nI n - nI 1) : v < n := by
  have h4 := Int32.le_iff_toInt_le.mp h
  rw [pk_sub_toInt (by omega) (by omega), nI_toInt (by omega)] at h4
  omega
def mbF (n a sor : Nat) : Bool := if sor = 97 then decide (a < 5) else if sor = 100 then decide (n < 6) else decide (sor = 120)
set_option maxHeartbeats 1000000 in
set_option maxRecDepth 100000 in
theorem c_X4_due {l : Launch} {D : va_G} {cI cZ cB cR : ClassId} {q xtx ty xdc xdl xdb xar xac xwm xnd xnw xkp xta xtw td xhg : Nat} {tr : Int64} {u : Mp} {tx : Nat → Int32} {by_ : Nat → Nat} {ok9 : Bool} (hlen : ty ≤ 150) (htx : ∀ i, i < ty → tx i &&& nI 255 = nI (by_ i)) (hby : ∀ i, by_ i < 256) (hu : wfP ty u)  : mW l yX4_due cX4_due 3 (some .int) 2 43 D cI cZ cB cR [oM q tr xtx ty xdc xdl xdb xar xac xwm xnd u.1 u.2.1 u.2.2.1 u.2.2.2.1 u.2.2.2.2 xnw xkp xta xtw td xhg, aB cB xtx 150 tx] [oM q tr xtx ty xdc xdl xdb xar xac xwm xnd ((dueF by_ ty ok9 u).1) ((dueF by_ ty ok9 u).2.1) ((dueF by_ ty ok9 u).2.2.1) ((dueF by_ ty ok9 u).2.2.2.1) ((dueF by_ ty ok9 u).2.2.2.2) xnw xkp xta xtw td xhg, aB cB xtx 150 tx] [.ref q, .int (bI ok9)] (some (.int (nI u.2.2.2.1))) := by
  refine mW_of rfl (Nat.le_of_ble_eq_true rfl) ?_
  intro p e s m args below meth c hC hr hlk hK A hA hD H0 h0 hP hS ls hl
  have hP : va_P D vwCl [oM q tr xtx ty xdc xdl xdb xar xac xwm xnd u.1 u.2.1 u.2.2.1 u.2.2.2.1 u.2.2.2.2 xnw xkp xta xtw td xhg, aB cB xtx 150 tx] H0 := hP
  have hl : lv_has ls 3 [(0, .ref q), (1, .int (bI ok9))] := hl
  obtain ⟨hx, hb, hml, hown, hts⟩ := id hC
  refine lv_aload_n hx hb dX4_due_0 rfl (lv_at hl 0 rfl) ?_
  refine z_get (k := 13) zcX4 hC hK hP 0 rfl (by decide) lF_X4_75 rfl dX4_due_1 ?_
  refine lv_istore_n (lv' := [(2, .int (nI u.2.2.2.1)), (0, .ref q), (1, .int (bI ok9))]) hx hb dX4_due_4 rfl hl (by decide) rfl (fun ls hl => ?_)
  refine lv_aload_n hx hb dX4_due_5 rfl (lv_at hl 1 rfl) ?_
  refine z_get (k := 14) zcX4 hC hK hP 0 rfl (by decide) lF_X4_81 rfl dX4_due_6 ?_
  refine lv_bipush (v := (-9)) hx hb dX4_due_9 (by decide) ?_
  refine lv_icmp_ne (tgt := 33) hx hb dX4_due_11 (by decide) (fun c11 => ?_) (fun c11 => ?_)
  · skip
    refine lv_iload_n hx hb dX4_due_33 rfl (lv_at hl 0 rfl) ?_
    exact zw_i hC hr hlk hA h0 (by rw [dueF_no c11]; exact hP) hS (by first | rfl | omega) dX4_due_34
  · skip
    refine lv_iload_n hx hb dX4_due_14 rfl (lv_at hl 2 rfl) ?_
    refine zb_eq (tgt := 25) hC dX4_due_15 (by decide) (fun c15 => ?_) (fun c15 => ?_)
    · skip
      refine lv_aload_n hx hb dX4_due_25 rfl (lv_at hl 1 rfl) ?_
      refine lv_aload_n hx hb dX4_due_26 rfl (lv_at hl 1 rfl) ?_
      refine z_get (k := 11) zcX4 hC hK hP 0 rfl (by decide) lF_X4_72 rfl dX4_due_27 ?_
      refine z_put (k := 14) zcX4 hC hK hP hD hS 0 rfl (by decide) lF_X4_81 rfl rfl rfl (Nat.le_of_ble_eq_true rfl) dX4_due_30 (fun H locs hP hD hS => ?_)
      have hP : va_P D vwCl [oM q tr xtx ty xdc xdl xdb xar xac xwm xnd u.1 u.2.1 u.2.2.1 u.2.2.2.1 (nI u.2.1) xnw xkp xta xtw td xhg, aB cB xtx 150 tx] H := hP
      have hD : va_D A [oM q tr xtx ty xdc xdl xdb xar xac xwm xnd u.1 u.2.1 u.2.2.1 u.2.2.2.1 (nI u.2.1) xnw xkp xta xtw td xhg, aB cB xtx 150 tx] := hD
      refine lv_iload_n hx hb dX4_due_33 rfl (lv_at hl 0 rfl) ?_
      exact zw_i hC hr hlk hA h0 (by rw [c15, dueF_f c11]; exact hP) hS (by first | rfl | omega) dX4_due_34
    · skip
      refine lv_aload_n hx hb dX4_due_18 rfl (lv_at hl 1 rfl) ?_
      refine zXV (As := []) (b := q) (rest := []) hC (c_X4_step (l := l) (hlen := hlen) (htx := htx) (hby := hby) (hat := hu.1)) lM_X4_84 vM_X4_step (by decide) hK hP hD hS [0, 1] [q, xtx] rfl (by decide) rfl rfl ⟨rfl, rfl, rfl⟩ rfl hl.1 rfl (Nat.le_of_ble_eq_true rfl) dX4_due_19 (by decide) (fun H locs hP hD hS => ?_)
      have hP : va_P D vwCl [oM q tr xtx ty xdc xdl xdb xar xac xwm xnd ((stp by_ ty u.1).1) ((stp by_ ty u.1).2.1) ((stp by_ ty u.1).2.2.1) ((stp by_ ty u.1).2.2.2) u.2.2.2.2 xnw xkp xta xtw td xhg, aB cB xtx 150 tx] H := hP
      have hD : va_D A [oM q tr xtx ty xdc xdl xdb xar xac xwm xnd ((stp by_ ty u.1).1) ((stp by_ ty u.1).2.1) ((stp by_ ty u.1).2.2.1) ((stp by_ ty u.1).2.2.2) u.2.2.2.2 xnw xkp xta xtw td xhg, aB cB xtx 150 tx] := hD
      show W _ _ _ _ _ _ _ _ _ _ _ _ _ _ _ (F0 m 22 ls [])
      refine lv_goto (tgt := 33) hx hb dX4_due_22 (by decide) ?_
      refine lv_iload_n hx hb dX4_due_33 rfl (lv_at hl 0 rfl) ?_
      exact zw_i hC hr hlk hA h0 (by rw [c15, dueF_t c11]; rw [c11] at hP; exact hP) hS (by first | rfl | omega) dX4_due_34
set_option maxHeartbeats 1000000 in
set_option maxRecDepth 100000 in
theorem c_X4_number {l : Launch} {D : va_G} {cI cZ cB cR : ClassId} {q xtx ty xdc xdl xdb xar xac xwm xnd xnw xkp xta xtw td xhg : Nat} {tr : Int64} {u : Mp} {tx : Nat → Int32} {by_ : Nat → Nat} {h9 : Int32} (hlen : ty ≤ 150) (htx : ∀ i, i < ty → tx i &&& nI 255 = nI (by_ i)) (hby : ∀ i, by_ i < 256) (hu : wfP ty u)  : mW l yX4_number cX4_number 3 (some .int) 3 65 D cI cZ cB cR [oM q tr xtx ty xdc xdl xdb xar xac xwm xnd u.1 u.2.1 u.2.2.1 u.2.2.2.1 u.2.2.2.2 xnw xkp xta xtw td xhg, aB cB xtx 150 tx] [oM q tr xtx ty xdc xdl xdb xar xac xwm xnd ((numF by_ ty h9 u).1) ((numF by_ ty h9 u).2.1) ((numF by_ ty h9 u).2.2.1) ((numF by_ ty h9 u).2.2.2.1) ((numF by_ ty h9 u).2.2.2.2) xnw xkp xta xtw td xhg, aB cB xtx 150 tx] [.ref q, .int (nI 0), .int h9] (some (.int (nI u.2.2.2.1))) := by
  refine mW_of rfl (Nat.le_of_ble_eq_true rfl) ?_
  intro p e s m args below meth c hC hr hlk hK A hA hD H0 h0 hP hS ls hl
  have hP : va_P D vwCl [oM q tr xtx ty xdc xdl xdb xar xac xwm xnd u.1 u.2.1 u.2.2.1 u.2.2.2.1 u.2.2.2.2 xnw xkp xta xtw td xhg, aB cB xtx 150 tx] H0 := hP
  have hl : lv_has ls 3 [(0, .ref q), (1, .int (nI 0)), (2, .int h9)] := hl
  obtain ⟨hx, hb, hml, hown, hts⟩ := id hC
  have hu3 := hu.2.2.1
  have hu4 := hu.2.2.2
  refine lv_aload_n hx hb dX4_number_0 rfl (lv_at hl 0 rfl) ?_
  refine lv_aload_n hx hb dX4_number_1 rfl (lv_at hl 0 rfl) ?_
  refine z_get (k := 12) zcX4 hC hK hP 0 rfl (by decide) lF_X4_78 rfl dX4_number_2 ?_
  refine lv_iconst (v := nI 1) hx hb dX4_number_5 (by decide) ?_
  have hJ26 : ∀ (b9 : Bool), True → (b9 = decide (u.2.2.1 = 1 ∧ nI u.2.2.2.1 ≤ h9)) → ∀ ls : Array Slot, lv_has ls 3 [(0, .ref q)] → W p l e { frames := 3, cells := 0, slots := 0, locals := 65 } s m args below meth c H0 [] 0 0 (MQ below (qW D [oM q tr xtx ty xdc xdl xdb xar xac xwm xnd u.1 u.2.1 u.2.2.1 u.2.2.2.1 u.2.2.2.2 xnw xkp xta xtw td xhg, aB cB xtx 150 tx] [oM q tr xtx ty xdc xdl xdb xar xac xwm xnd ((numF by_ ty h9 u).1) ((numF by_ ty h9 u).2.1) ((numF by_ ty h9 u).2.2.1) ((numF by_ ty h9 u).2.2.2.1) ((numF by_ ty h9 u).2.2.2.2) xnw xkp xta xtw td xhg, aB cB xtx 150 tx] (some (.int (nI u.2.2.2.1)))) args s 0 0 (zA [oM q tr xtx ty xdc xdl xdb xar xac xwm xnd u.1 u.2.1 u.2.2.1 u.2.2.2.1 u.2.2.2.2 xnw xkp xta xtw td xhg, aB cB xtx 150 tx])) (F0 m 26 ls [.int (bI b9), .ref q]) := by
    intro b9 _ hb9 ls hl
    refine zXV (As := [.int (bI b9)]) (b := q) (rest := []) hC (c_X4_due (l := l) (u := u) (ok9 := b9) (hlen := hlen) (htx := htx) (hby := hby) (hu := hu)) lM_X4_87 vM_X4_due (by decide) hK hP hD hS [0, 1] [q, xtx] rfl (by decide) rfl rfl ⟨rfl, rfl, rfl⟩ rfl hl.1 rfl (Nat.le_of_ble_eq_true rfl) dX4_number_26 (by decide) (fun H locs hP hD hS => ?_)
    have hP : va_P D vwCl [oM q tr xtx ty xdc xdl xdb xar xac xwm xnd ((dueF by_ ty b9 u).1) ((dueF by_ ty b9 u).2.1) ((dueF by_ ty b9 u).2.2.1) ((dueF by_ ty b9 u).2.2.2.1) ((dueF by_ ty b9 u).2.2.2.2) xnw xkp xta xtw td xhg, aB cB xtx 150 tx] H := hP
    have hD : va_D A [oM q tr xtx ty xdc xdl xdb xar xac xwm xnd ((dueF by_ ty b9 u).1) ((dueF by_ ty b9 u).2.1) ((dueF by_ ty b9 u).2.2.1) ((dueF by_ ty b9 u).2.2.2.1) ((dueF by_ ty b9 u).2.2.2.2) xnw xkp xta xtw td xhg, aB cB xtx 150 tx] := hD
    show W _ _ _ _ _ _ _ _ _ _ _ _ _ _ _ (F0 m 29 ls [.int (nI u.2.2.2.1)])
    exact zw_i hC hr hlk hA h0 (by rw [hb9] at hP; exact hP) hS (by first | rfl | omega) dX4_number_29
  refine zc_ne (tgt := 25) hC dX4_number_6 (by decide) (by omega) (by omega) (fun c6 => ?_) (fun c6 => ?_)
  · skip
    refine lv_iconst (v := nI 0) hx hb dX4_number_25 (by decide) ?_
    exact hJ26 false trivial (by exact (decide_eq_false (fun h => c6 h.1)).symm) ls (lv_sub hl [0] rfl)
  · skip
    refine lv_aload_n hx hb dX4_number_9 rfl (lv_at hl 0 rfl) ?_
    refine z_get (k := 13) zcX4 hC hK hP 0 rfl (by decide) lF_X4_75 rfl dX4_number_10 ?_
    refine lv_iload_n hx hb dX4_number_13 rfl (lv_at hl 1 rfl) ?_
    refine lv_iload_n hx hb dX4_number_14 rfl (lv_at hl 2 rfl) ?_
    refine zRS (As := [.int (nI u.2.2.2.1), .int (nI 0), .int h9]) (rest := [.ref q]) hC (c_X4_in (l := l) (g := decide (nI u.2.2.2.1 ≤ h9)) (hg := ⟨fun h => ⟨(nI_leI (by omega) (by omega)).mpr (Nat.zero_le _), of_decide_eq_true h⟩, fun h => decide_eq_true h.2⟩)) lM_X4_57 sM_X4_in (by decide) hK rfl hl.1 rfl (Nat.le_of_ble_eq_true rfl) dX4_number_15 (by decide) ?_
    show W _ _ _ _ _ _ _ _ _ _ _ _ _ _ _ (F0 m 18 ls [.int (bI (decide (nI u.2.2.2.1 ≤ h9))), .ref q])
    refine zb_eq (tgt := 25) hC dX4_number_18 (by decide) (fun c18 => ?_) (fun c18 => ?_)
    · skip
      refine lv_iconst (v := nI 0) hx hb dX4_number_25 (by decide) ?_
      exact hJ26 false trivial (by exact (decide_eq_false (fun h => of_decide_eq_false c18 h.2)).symm) ls (lv_sub hl [0] rfl)
    · skip
      refine lv_iconst (v := nI 1) hx hb dX4_number_21 (by decide) ?_
      refine lv_goto (tgt := 26) hx hb dX4_number_22 (by decide) ?_
      exact hJ26 true trivial (by exact (decide_eq_true ⟨c6, of_decide_eq_true c18⟩).symm) ls (lv_sub hl [0] rfl)
set_option maxHeartbeats 1000000 in
set_option maxRecDepth 100000 in
theorem c_X4_mayBe {l : Launch} {D : va_G} {cI cZ cB cR : ClassId} {q xtx ty xdc xdl xdb xar xac xwm xnd at9 sta sor val xnw xkp xta xtw td xhg : Nat} {tr : Int64} {fau : Int32} {dc acn : Nat → Nat} {x9 : Nat} (hx9 : x9 ≤ 122) (hn1 : dc 1 ≤ 6) (ha1 : acn 1 ≤ 5) : mR l yX4_mayBe cX4_mayBe 2 (some .boolean) 0 0 D cI cZ cB cR [oM q tr xtx ty xdc xdl xdb xar xac xwm xnd at9 sta sor val fau xnw xkp xta xtw td xhg, aI cI xdc 2 dc, aI cI xac 2 acn] [.ref q, .int (nI x9)] (some (.int (bI (mbF (dc 1) (acn 1) x9)))) := by
  refine mR_of rfl (Nat.le_of_ble_eq_true rfl) ?_
  intro p e s m args below meth c hC hr hlk hK hP ls hl
  have hl : lv_has ls 2 [(0, .ref q), (1, .int (nI x9))] := hl
  obtain ⟨hx, hb, hml, hown, hts⟩ := id hC
  refine lv_iload_n hx hb dX4_mayBe_0 rfl (lv_at hl 1 rfl) ?_
  by_cases k97 : nI x9 = nI 97
  · refine lv_lookup (off := 52) (tgt := 53) hx hb dX4_mayBe_1 (by decide) (by rw [k97]; decide) (by decide) ?_
    refine lv_aload_n hx hb dX4_mayBe_53 rfl (lv_at hl 0 rfl) ?_
    refine z_get (k := 7) zcX4 hC hK hP 0 rfl (by decide) lF_X4_26 rfl dX4_mayBe_54 ?_
    refine lv_iconst (v := nI 1) hx hb dX4_mayBe_57 (by decide) ?_
    refine z_ald hC hK hP 2 rfl (by omega) (by decide) dX4_mayBe_58 ?_
    refine lv_iconst (v := nI 5) hx hb dX4_mayBe_59 (by decide) ?_
    refine zc_ge (tgt := 67) hC dX4_mayBe_60 (by decide) (by omega) (by omega) (fun c60 => ?_) (fun c60 => ?_)
    · skip
      refine lv_iconst (v := nI 0) hx hb dX4_mayBe_67 (by decide) ?_
      refine z_top (y := bI false) rfl ?_
      exact zr_z hC hr hlk (by unfold mbF; rw [if_pos (show x9 = 97 from (nI_eq (by omega) (by omega)).mp k97)]; exact (decide_eq_false (show ¬ acn 1 < 5 by omega)).symm) dX4_mayBe_68
    · skip
      refine lv_iconst (v := nI 1) hx hb dX4_mayBe_63 (by decide) ?_
      refine lv_goto (tgt := 68) hx hb dX4_mayBe_64 (by decide) ?_
      refine z_top (y := bI true) rfl ?_
      exact zr_z hC hr hlk (by unfold mbF; rw [if_pos (show x9 = 97 from (nI_eq (by omega) (by omega)).mp k97)]; exact (decide_eq_true c60).symm) dX4_mayBe_68
  · skip
    by_cases k100 : nI x9 = nI 100
    · refine lv_lookup (off := 35) (tgt := 36) hx hb dX4_mayBe_1 (by decide) (by rw [k100]; decide) (by decide) ?_
      refine lv_aload_n hx hb dX4_mayBe_36 rfl (lv_at hl 0 rfl) ?_
      refine z_get (k := 3) zcX4 hC hK hP 0 rfl (by decide) lF_X4_13 rfl dX4_mayBe_37 ?_
      refine lv_iconst (v := nI 1) hx hb dX4_mayBe_40 (by decide) ?_
      refine z_ald hC hK hP 1 rfl (by omega) (by decide) dX4_mayBe_41 ?_
      refine lv_bipush (v := nI 6) hx hb dX4_mayBe_42 (by decide) ?_
      refine zc_ge (tgt := 51) hC dX4_mayBe_44 (by decide) (by omega) (by omega) (fun c44 => ?_) (fun c44 => ?_)
      · skip
        refine lv_iconst (v := nI 0) hx hb dX4_mayBe_51 (by decide) ?_
        refine z_top (y := bI false) rfl ?_
        exact zr_z hC hr hlk (by have k98 : x9 = 100 := (nI_eq (by omega) (by omega)).mp k100; unfold mbF; rw [if_neg (by omega), if_pos k98]; exact (decide_eq_false (show ¬ dc 1 < 6 by omega)).symm) dX4_mayBe_52
      · skip
        refine lv_iconst (v := nI 1) hx hb dX4_mayBe_47 (by decide) ?_
        refine lv_goto (tgt := 52) hx hb dX4_mayBe_48 (by decide) ?_
        refine z_top (y := bI true) rfl ?_
        exact zr_z hC hr hlk (by have k98 : x9 = 100 := (nI_eq (by omega) (by omega)).mp k100; unfold mbF; rw [if_neg (by omega), if_pos k98]; exact (decide_eq_true c44).symm) dX4_mayBe_52
    · skip
      by_cases k120 : nI x9 = nI 120
      · refine lv_lookup (off := 68) (tgt := 69) hx hb dX4_mayBe_1 (by decide) (by rw [k120]; decide) (by decide) ?_
        refine lv_iconst (v := nI 1) hx hb dX4_mayBe_69 (by decide) ?_
        refine z_top (y := bI true) rfl ?_
        exact zr_z hC hr hlk (by have k98 : x9 = 120 := (nI_eq (by omega) (by omega)).mp k120; unfold mbF; rw [if_neg (by omega), if_neg (by omega)]; exact (decide_eq_true k98).symm) dX4_mayBe_70
      · skip
        refine lv_lookup (off := 70) (tgt := 71) hx hb dX4_mayBe_1 (by decide) (by show Op.lookupswitch.offset [(97, 52), (100, 35), (120, 68)] 70 _ = 70; rw [lv_osw k97 (by decide), lv_osw k100 (by decide), lv_osw k120 (by decide)]; rfl) (by decide) ?_
        refine lv_iconst (v := nI 0) hx hb dX4_mayBe_71 (by decide) ?_
        refine z_top (y := bI false) rfl ?_
        exact zr_z hC hr hlk (by unfold mbF; rw [if_neg (show ¬ x9 = 97 from fun h => k97 (by rw [h])), if_neg (show ¬ x9 = 100 from fun h => k100 (by rw [h]))]; exact (decide_eq_false (show ¬ x9 = 120 from fun h => k120 (by rw [h]))).symm) dX4_mayBe_72
