/-- the value of the digits from p on, held at the first above 99 -/
def dgv (by_ : Nat → Nat) (p : Nat) : Nat → Nat
  | 0 => 0
  | k + 1 => if 99 < dgv by_ p k then dgv by_ p k else 10 * dgv by_ p k + by_ (p + k) - 48
theorem dgv_s (by_ : Nat → Nat) (p k : Nat) : dgv by_ p (k + 1) = if 99 < dgv by_ p k then dgv by_ p k else 10 * dgv by_ p k + by_ (p + k) - 48 := rfl
/-- the model's step: the place, the start, the sort, the value -/
def stp (by_ : Nat → Nat) (len at_ : Nat) : Nat × Nat × Nat × Nat :=
  if skp by_ (len - at_) at_ < len then
    if 97 ≤ by_ (skp by_ (len - at_) at_) ∧ by_ (skp by_ (len - at_) at_) ≤ 122 then
      (rn by_ 1 (len - skp by_ (len - at_) at_) (skp by_ (len - at_) at_), skp by_ (len - at_) at_, if rn by_ 1 (len - skp by_ (len - at_) at_) (skp by_ (len - at_) at_) - skp by_ (len - at_) at_ = 1 then by_ (skp by_ (len - at_) at_) else 4, 0)
    else if 48 ≤ by_ (skp by_ (len - at_) at_) ∧ by_ (skp by_ (len - at_) at_) ≤ 57 then
      (rn by_ 2 (len - skp by_ (len - at_) at_) (skp by_ (len - at_) at_), skp by_ (len - at_) at_, if 99 < dgv by_ (skp by_ (len - at_) at_) (rn by_ 2 (len - skp by_ (len - at_) at_) (skp by_ (len - at_) at_) - skp by_ (len - at_) at_) ∨ (by_ (skp by_ (len - at_) at_) = 48 ∧ 1 < rn by_ 2 (len - skp by_ (len - at_) at_) (skp by_ (len - at_) at_) - skp by_ (len - at_) at_) then 4 else 1, dgv by_ (skp by_ (len - at_) at_) (rn by_ 2 (len - skp by_ (len - at_) at_) (skp by_ (len - at_) at_) - skp by_ (len - at_) at_))
    else (skp by_ (len - at_) at_ + 1, skp by_ (len - at_) at_, if by_ (skp by_ (len - at_) at_) = 59 then 2 else 4, 0)
  else (skp by_ (len - at_) at_, skp by_ (len - at_) at_, 3, 0)
theorem stp_e {by_ : Nat → Nat} {len at_ q : Nat} (h : skp by_ (len - at_) at_ = q) (hq : len ≤ q) : stp by_ len at_ = (q, q, 3, 0) := by
  unfold stp
  rw [h, if_neg (Nat.not_lt.mpr hq)]
theorem stp_l {by_ : Nat → Nat} {len at_ q e : Nat} (h : skp by_ (len - at_) at_ = q) (hq : q < len) (hc : 97 ≤ by_ q ∧ by_ q ≤ 122) (he : rn by_ 1 (len - q) q = e) : stp by_ len at_ = (e, q, if e - q = 1 then by_ q else 4, 0) := by
  unfold stp
  rw [h, if_pos hq, if_pos hc, he]
theorem stp_d {by_ : Nat → Nat} {len at_ q e v : Nat} (h : skp by_ (len - at_) at_ = q) (hq : q < len) (hc : ¬ (97 ≤ by_ q ∧ by_ q ≤ 122)) (hc2 : 48 ≤ by_ q ∧ by_ q ≤ 57) (he : rn by_ 2 (len - q) q = e) (hv : v = dgv by_ q (e - q)) : stp by_ len at_ = (e, q, if 99 < v ∨ (by_ q = 48 ∧ 1 < e - q) then 4 else 1, v) := by
  unfold stp
  rw [h, if_pos hq, if_neg hc, if_pos hc2, he, hv]
theorem stp_o {by_ : Nat → Nat} {len at_ q : Nat} (h : skp by_ (len - at_) at_ = q) (hq : q < len) (hc : ¬ (97 ≤ by_ q ∧ by_ q ≤ 122)) (hc2 : ¬ (48 ≤ by_ q ∧ by_ q ≤ 57)) : stp by_ len at_ = (q + 1, q, if by_ q = 59 then 2 else 4, 0) := by
  unfold stp
  rw [h, if_pos hq, if_neg hc, if_neg hc2]
theorem sortN_1i {x : Nat} : sortN x = 1 ↔ 97 ≤ x ∧ x ≤ 122 := by
  unfold sortN
  repeat' split
  all_goals omega
theorem sortN_2i {x : Nat} : sortN x = 2 ↔ 48 ≤ x ∧ x ≤ 57 := by
  unfold sortN
  repeat' split
  all_goals omega
/-- the model's place in the text: the place, the start, the sort, the value, the fault -/
abbrev Mp : Type := Nat × Nat × Nat × Nat × Int32
def dueF (by_ : Nat → Nat) (len : Nat) (ok : Bool) (u : Mp) : Mp :=
  if u.2.2.2.2 = -9 then (if ok = true then ((stp by_ len u.1).1, (stp by_ len u.1).2.1, (stp by_ len u.1).2.2.1, (stp by_ len u.1).2.2.2, -9) else (u.1, u.2.1, u.2.2.1, u.2.2.2.1, nI u.2.1)) else u
def numF (by_ : Nat → Nat) (len : Nat) (hi : Int32) (u : Mp) : Mp := dueF by_ len (decide (u.2.2.1 = 1 ∧ nI u.2.2.2.1 ≤ hi)) u
set_option maxHeartbeats 1000000 in
set_option maxRecDepth 100000 in
theorem c_X4_here_in {l : Launch} {D : va_G} {cI cZ cB cR : ClassId} {q xtx ty xdc xdl xdb xar xac xwm xnd at9 sta sor val xnw xkp xta xtw td xhg : Nat} {tr : Int64} {fau : Int32} {tx : Nat → Int32} {by_ : Nat → Nat}  (hlen : ty ≤ 150) (htx : ∀ i, i < ty → tx i &&& nI 255 = nI (by_ i)) (hat : at9 < ty) : mR l yX4_here cX4_here 1 (some .int) 0 0 D cI cZ cB cR [oM q tr xtx ty xdc xdl xdb xar xac xwm xnd at9 sta sor val fau xnw xkp xta xtw td xhg, aB cB xtx 150 tx] [.ref q] (some (.int (nI (by_ at9)))) := by
  refine mR_of rfl (Nat.le_of_ble_eq_true rfl) ?_
  intro p e s m args below meth c hC hr hlk hK hP ls hl
  have hl : lv_has ls 1 [(0, .ref q)] := hl
  obtain ⟨hx, hb, hml, hown, hts⟩ := id hC
  refine lv_aload_n hx hb dX4_here_0 rfl (lv_at hl 0 rfl) ?_
  refine z_get (k := 10) zcX4 hC hK hP 0 rfl (by decide) lF_X4_65 rfl dX4_here_1 ?_
  refine lv_aload_n hx hb dX4_here_4 rfl (lv_at hl 0 rfl) ?_
  refine z_get (k := 2) zcX4 hC hK hP 0 rfl (by decide) lF_X4_61 rfl dX4_here_5 ?_
  refine zc_ge (tgt := 27) hC dX4_here_8 (by decide) (by omega) (by omega) (fun c8 => by exfalso; omega) (fun c8 => ?_)
  refine lv_aload_n hx hb dX4_here_11 rfl (lv_at hl 0 rfl) ?_
  refine z_get (k := 1) zcX4 hC hK hP 0 rfl (by decide) lF_X4_7 rfl dX4_here_12 ?_
  refine lv_aload_n hx hb dX4_here_15 rfl (lv_at hl 0 rfl) ?_
  refine z_get (k := 10) zcX4 hC hK hP 0 rfl (by decide) lF_X4_65 rfl dX4_here_16 ?_
  refine z_bld hC hK hP 1 rfl (by omega) (by decide) dX4_here_19 ?_
  refine lv_sipush (v := nI 255) hx hb dX4_here_20 (by decide) ?_
  refine lv_iand hx hb dX4_here_23 ?_
  refine z_top (show ((tx at9) &&& (nI 255)) = nI (by_ at9) from by exact htx at9 hat) ?_
  refine lv_goto (tgt := 28) hx hb dX4_here_24 (by decide) ?_
  exact zr_i hC hr hlk (by first | rfl | omega) dX4_here_28
set_option maxHeartbeats 1000000 in
set_option maxRecDepth 100000 in
theorem c_X4_here_e {l : Launch} {D : va_G} {cI cZ cB cR : ClassId} {q xtx ty xdc xdl xdb xar xac xwm xnd at9 sta sor val xnw xkp xta xtw td xhg : Nat} {tr : Int64} {fau : Int32} {tx : Nat → Int32}  (hlen : ty ≤ 150) (hat : ty ≤ at9) (ha9 : at9 < 1000) : mR l yX4_here cX4_here 1 (some .int) 0 0 D cI cZ cB cR [oM q tr xtx ty xdc xdl xdb xar xac xwm xnd at9 sta sor val fau xnw xkp xta xtw td xhg, aB cB xtx 150 tx] [.ref q] (some (.int (-1))) := by
  refine mR_of rfl (Nat.le_of_ble_eq_true rfl) ?_
  intro p e s m args below meth c hC hr hlk hK hP ls hl
  have hl : lv_has ls 1 [(0, .ref q)] := hl
  obtain ⟨hx, hb, hml, hown, hts⟩ := id hC
  refine lv_aload_n hx hb dX4_here_0 rfl (lv_at hl 0 rfl) ?_
  refine z_get (k := 10) zcX4 hC hK hP 0 rfl (by decide) lF_X4_65 rfl dX4_here_1 ?_
  refine lv_aload_n hx hb dX4_here_4 rfl (lv_at hl 0 rfl) ?_
  refine z_get (k := 2) zcX4 hC hK hP 0 rfl (by decide) lF_X4_61 rfl dX4_here_5 ?_
  refine zc_ge (tgt := 27) hC dX4_here_8 (by decide) (by omega) (by omega) (fun c8 => ?_) (fun c8 => by exfalso; omega)
  refine lv_iconst (v := (-1)) hx hb dX4_here_27 (by decide) ?_
  exact zr_i hC hr hlk (by first | rfl | omega) dX4_here_28
set_option maxHeartbeats 1000000 in
set_option maxRecDepth 100000 in
theorem c_X4_step {l : Launch} {D : va_G} {cI cZ cB cR : ClassId} {q xtx ty xdc xdl xdb xar xac xwm xnd at9 sta sor val xnw xkp xta xtw td xhg : Nat} {tr : Int64} {fau : Int32} {tx : Nat → Int32} {by_ : Nat → Nat}  (hlen : ty ≤ 150) (htx : ∀ i, i < ty → tx i &&& nI 255 = nI (by_ i)) (hby : ∀ i, by_ i < 256) (hat : at9 ≤ ty)  : mW l yX4_step cX4_step 2 none 1 22 D cI cZ cB cR [oM q tr xtx ty xdc xdl xdb xar xac xwm xnd at9 sta sor val fau xnw xkp xta xtw td xhg, aB cB xtx 150 tx] [oM q tr xtx ty xdc xdl xdb xar xac xwm xnd ((stp by_ ty at9).1) ((stp by_ ty at9).2.1) ((stp by_ ty at9).2.2.1) ((stp by_ ty at9).2.2.2) fau xnw xkp xta xtw td xhg, aB cB xtx 150 tx] [.ref q] (none) := by
  refine mW_of rfl (Nat.le_of_ble_eq_true rfl) ?_
  intro p e s m args below meth c hC hr hlk hK A hA hD H0 h0 hP hS ls hl
  have hP : va_P D vwCl [oM q tr xtx ty xdc xdl xdb xar xac xwm xnd at9 sta sor val fau xnw xkp xta xtw td xhg, aB cB xtx 150 tx] H0 := hP
  have hl : lv_has ls 2 [(0, .ref q)] := hl
  obtain ⟨hx, hb, hml, hown, hts⟩ := id hC
  have hL0 : ∀ (z0 : Nat) (p9 : Nat), ty - p9 = z0 → (p9 ≤ ty) → (skp by_ (ty - p9) p9 = skp by_ (ty - at9) at9) → ∀ (H : Heap) (locs : List Loc), va_P D vwCl [oM q tr xtx ty xdc xdl xdb xar xac xwm xnd p9 sta sor val fau xnw xkp xta xtw td xhg, aB cB xtx 150 tx] H → va_D A [oM q tr xtx ty xdc xdl xdb xar xac xwm xnd p9 sta sor val fau xnw xkp xta xtw td xhg, aB cB xtx 150 tx] → va_S A H0 H locs → ∀ ls : Array Slot, lv_has ls 2 [(0, .ref q)] → W p l e { frames := 1, cells := 0, slots := 0, locals := 22 } s m args below meth c H locs 0 0 (MQ below (qW D [oM q tr xtx ty xdc xdl xdb xar xac xwm xnd at9 sta sor val fau xnw xkp xta xtw td xhg, aB cB xtx 150 tx] [oM q tr xtx ty xdc xdl xdb xar xac xwm xnd ((stp by_ ty at9).1) ((stp by_ ty at9).2.1) ((stp by_ ty at9).2.2.1) ((stp by_ ty at9).2.2.2) fau xnw xkp xta xtw td xhg, aB cB xtx 150 tx] (none)) args s 0 0 (zA [oM q tr xtx ty xdc xdl xdb xar xac xwm xnd at9 sta sor val fau xnw xkp xta xtw td xhg, aB cB xtx 150 tx])) (F0 m 0 ls []) := by
    intro z0
    induction z0 using Nat.strongRecOn with
    | _ z0 ih0 =>
    intro p9 hz0 hp9 hs9 H locs hP hD hS ls hl
    refine lv_aload_n hx hb dX4_step_0 rfl (lv_at hl 0 rfl) ?_
    by_cases h1 : p9 < ty
    · skip
      refine zRV (As := []) (b := q) (rest := []) hC (c_X4_here_in (l := l) (hlen := hlen) (htx := htx) (hat := h1)) lM_X4_68 vM_X4_here (by decide) hK hP [0, 1] rfl ⟨rfl, rfl, rfl⟩ rfl hl.1 rfl (Nat.le_of_ble_eq_true rfl) dX4_step_1 (by decide) ?_
      show W _ _ _ _ _ _ _ _ _ _ _ _ _ _ _ (F0 m 4 ls [.int (nI (by_ p9))])
      refine lv_bipush (v := nI 32) hx hb dX4_step_4 (by decide) ?_
      have b6 := hby p9
      refine zc_ne (tgt := 22) hC dX4_step_6 (by decide) (by omega) (by omega) (fun c6 => ?_) (fun c6 => ?_)
      · skip
        have e6 : skp by_ (ty - at9) at9 = p9 := hs9.symm.trans (skp_stop h1 c6)
        refine lv_aload_n hx hb dX4_step_22 rfl (lv_at hl 0 rfl) ?_
        refine lv_aload_n hx hb dX4_step_23 rfl (lv_at hl 0 rfl) ?_
        refine z_get (k := 10) zcX4 hC hK hP 0 rfl (by decide) lF_X4_65 rfl dX4_step_24 ?_
        refine z_put (k := 11) zcX4 hC hK hP hD hS 0 rfl (by decide) lF_X4_72 rfl rfl rfl (Nat.le_of_ble_eq_true rfl) dX4_step_27 (fun H locs hP hD hS => ?_)
        have hP : va_P D vwCl [oM q tr xtx ty xdc xdl xdb xar xac xwm xnd p9 p9 sor val fau xnw xkp xta xtw td xhg, aB cB xtx 150 tx] H := hP
        have hD : va_D A [oM q tr xtx ty xdc xdl xdb xar xac xwm xnd p9 p9 sor val fau xnw xkp xta xtw td xhg, aB cB xtx 150 tx] := hD
        refine lv_aload_n hx hb dX4_step_30 rfl (lv_at hl 0 rfl) ?_
        refine lv_iconst (v := nI 0) hx hb dX4_step_31 (by decide) ?_
        refine z_put (k := 13) zcX4 hC hK hP hD hS 0 rfl (by decide) lF_X4_75 rfl rfl rfl (Nat.le_of_ble_eq_true rfl) dX4_step_32 (fun H locs hP hD hS => ?_)
        have hP : va_P D vwCl [oM q tr xtx ty xdc xdl xdb xar xac xwm xnd p9 p9 sor 0 fau xnw xkp xta xtw td xhg, aB cB xtx 150 tx] H := hP
        have hD : va_D A [oM q tr xtx ty xdc xdl xdb xar xac xwm xnd p9 p9 sor 0 fau xnw xkp xta xtw td xhg, aB cB xtx 150 tx] := hD
        refine lv_aload_n hx hb dX4_step_35 rfl (lv_at hl 0 rfl) ?_
        refine zRV (As := []) (b := q) (rest := []) hC (c_X4_here_in (l := l) (hlen := hlen) (htx := htx) (hat := h1)) lM_X4_68 vM_X4_here (by decide) hK hP [0, 1] rfl ⟨rfl, rfl, rfl⟩ rfl hl.1 rfl (Nat.le_of_ble_eq_true rfl) dX4_step_36 (by decide) ?_
        show W _ _ _ _ _ _ _ _ _ _ _ _ _ _ _ (F0 m 39 ls [.int (nI (by_ p9))])
        refine lv_istore_n (lv' := [(1, .int (nI (by_ p9))), (0, .ref q)]) hx hb dX4_step_39 rfl hl (by decide) rfl (fun ls hl => ?_)
        refine lv_iload_n hx hb dX4_step_40 rfl (lv_at hl 0 rfl) ?_
        refine z0_ge (tgt := 52) hC dX4_step_41 (by decide) (by omega) ?_
        refine lv_iload_n hx hb dX4_step_52 rfl (lv_at hl 0 rfl) ?_
        refine lv_bipush (v := nI 97) hx hb dX4_step_53 (by decide) ?_
        refine lv_bipush (v := nI 122) hx hb dX4_step_55 (by decide) ?_
        refine zRS (As := [.int (nI (by_ p9)), .int (nI 97), .int (nI 122)]) (rest := []) hC (c_X4_in (l := l) (g := decide (97 ≤ by_ p9 ∧ by_ p9 ≤ 122)) (hg := z_inN (by have := hby p9; omega) (by omega) (by omega))) lM_X4_57 sM_X4_in (by decide) hK rfl hl.1 rfl (Nat.le_of_ble_eq_true rfl) dX4_step_57 (by decide) ?_
        show W _ _ _ _ _ _ _ _ _ _ _ _ _ _ _ (F0 m 60 ls [.int (bI (decide (97 ≤ by_ p9 ∧ by_ p9 ≤ 122)))])
        refine zb_eq (tgt := 115) hC dX4_step_60 (by decide) (fun c60 => ?_) (fun c60 => ?_)
        · skip
          refine lv_iload_n hx hb dX4_step_115 rfl (lv_at hl 0 rfl) ?_
          refine lv_bipush (v := nI 48) hx hb dX4_step_116 (by decide) ?_
          refine lv_bipush (v := nI 57) hx hb dX4_step_118 (by decide) ?_
          refine zRS (As := [.int (nI (by_ p9)), .int (nI 48), .int (nI 57)]) (rest := []) hC (c_X4_in (l := l) (g := decide (48 ≤ by_ p9 ∧ by_ p9 ≤ 57)) (hg := z_inN (by have := hby p9; omega) (by omega) (by omega))) lM_X4_57 sM_X4_in (by decide) hK rfl hl.1 rfl (Nat.le_of_ble_eq_true rfl) dX4_step_120 (by decide) ?_
          show W _ _ _ _ _ _ _ _ _ _ _ _ _ _ _ (F0 m 123 ls [.int (bI (decide (48 ≤ by_ p9 ∧ by_ p9 ≤ 57)))])
          refine zb_eq (tgt := 228) hC dX4_step_123 (by decide) (fun c123 => ?_) (fun c123 => ?_)
          · skip
            refine lv_aload_n hx hb dX4_step_228 rfl (lv_at hl 1 rfl) ?_
            refine lv_dup hx hb dX4_step_229 rfl ?_
            refine z_get (k := 10) zcX4 hC hK hP 0 rfl (by decide) lF_X4_65 rfl dX4_step_230 ?_
            refine lv_iconst (v := nI 1) hx hb dX4_step_233 (by decide) ?_
            refine zi_add hC dX4_step_234 ?_
            refine z_put (k := 10) zcX4 hC hK hP hD hS 0 rfl (by decide) lF_X4_65 rfl rfl rfl (Nat.le_of_ble_eq_true rfl) dX4_step_235 (fun H locs hP hD hS => ?_)
            have hP : va_P D vwCl [oM q tr xtx ty xdc xdl xdb xar xac xwm xnd (p9 + 1) p9 sor 0 fau xnw xkp xta xtw td xhg, aB cB xtx 150 tx] H := hP
            have hD : va_D A [oM q tr xtx ty xdc xdl xdb xar xac xwm xnd (p9 + 1) p9 sor 0 fau xnw xkp xta xtw td xhg, aB cB xtx 150 tx] := hD
            refine lv_aload_n hx hb dX4_step_238 rfl (lv_at hl 1 rfl) ?_
            refine lv_iload_n hx hb dX4_step_239 rfl (lv_at hl 0 rfl) ?_
            refine lv_bipush (v := nI 59) hx hb dX4_step_240 (by decide) ?_
            have b242 := hby p9
            refine zc_ne (tgt := 249) hC dX4_step_242 (by decide) (by omega) (by omega) (fun c242 => ?_) (fun c242 => ?_)
            · skip
              refine lv_iconst (v := nI 4) hx hb dX4_step_249 (by decide) ?_
              refine z_put (k := 12) zcX4 hC hK hP hD hS 0 rfl (by decide) lF_X4_78 rfl rfl rfl (Nat.le_of_ble_eq_true rfl) dX4_step_250 (fun H locs hP hD hS => ?_)
              have hP : va_P D vwCl [oM q tr xtx ty xdc xdl xdb xar xac xwm xnd (p9 + 1) p9 4 0 fau xnw xkp xta xtw td xhg, aB cB xtx 150 tx] H := hP
              have hD : va_D A [oM q tr xtx ty xdc xdl xdb xar xac xwm xnd (p9 + 1) p9 4 0 fau xnw xkp xta xtw td xhg, aB cB xtx 150 tx] := hD
              exact zw_v hC hr hlk hA h0 (by rw [stp_o e6 h1 (of_decide_eq_false c60) (of_decide_eq_false c123)]; rw [if_neg c242]; exact hP) hS dX4_step_253
            · skip
              refine lv_iconst (v := nI 2) hx hb dX4_step_245 (by decide) ?_
              refine lv_goto (tgt := 250) hx hb dX4_step_246 (by decide) ?_
              refine z_put (k := 12) zcX4 hC hK hP hD hS 0 rfl (by decide) lF_X4_78 rfl rfl rfl (Nat.le_of_ble_eq_true rfl) dX4_step_250 (fun H locs hP hD hS => ?_)
              have hP : va_P D vwCl [oM q tr xtx ty xdc xdl xdb xar xac xwm xnd (p9 + 1) p9 2 0 fau xnw xkp xta xtw td xhg, aB cB xtx 150 tx] H := hP
              have hD : va_D A [oM q tr xtx ty xdc xdl xdb xar xac xwm xnd (p9 + 1) p9 2 0 fau xnw xkp xta xtw td xhg, aB cB xtx 150 tx] := hD
              exact zw_v hC hr hlk hA h0 (by rw [stp_o e6 h1 (of_decide_eq_false c60) (of_decide_eq_false c123)]; rw [if_pos c242]; exact hP) hS dX4_step_253
          · skip
            have hL126 : ∀ (z126 : Nat) (e9 : Nat) (v9 : Nat), ty - e9 = z126 → (p9 ≤ e9 ∧ e9 ≤ ty) → (rn by_ 2 (ty - e9) e9 = rn by_ 2 (ty - p9) p9) → (v9 = dgv by_ p9 (e9 - p9)) → (v9 ≤ 999) → ∀ (H : Heap) (locs : List Loc), va_P D vwCl [oM q tr xtx ty xdc xdl xdb xar xac xwm xnd e9 p9 sor v9 fau xnw xkp xta xtw td xhg, aB cB xtx 150 tx] H → va_D A [oM q tr xtx ty xdc xdl xdb xar xac xwm xnd e9 p9 sor v9 fau xnw xkp xta xtw td xhg, aB cB xtx 150 tx] → va_S A H0 H locs → ∀ ls : Array Slot, lv_has ls 2 [(0, .ref q), (1, .int (nI (by_ p9)))] → W p l e { frames := 1, cells := 0, slots := 0, locals := 22 } s m args below meth c H locs 0 0 (MQ below (qW D [oM q tr xtx ty xdc xdl xdb xar xac xwm xnd at9 sta sor val fau xnw xkp xta xtw td xhg, aB cB xtx 150 tx] [oM q tr xtx ty xdc xdl xdb xar xac xwm xnd ((stp by_ ty at9).1) ((stp by_ ty at9).2.1) ((stp by_ ty at9).2.2.1) ((stp by_ ty at9).2.2.2) fau xnw xkp xta xtw td xhg, aB cB xtx 150 tx] (none)) args s 0 0 (zA [oM q tr xtx ty xdc xdl xdb xar xac xwm xnd at9 sta sor val fau xnw xkp xta xtw td xhg, aB cB xtx 150 tx])) (F0 m 126 ls []) := by
              intro z126
              induction z126 using Nat.strongRecOn with
              | _ z126 ih126 =>
              intro e9 v9 hz126 he9 hr9 hv9 hv8 H locs hP hD hS ls hl
              refine lv_aload_n hx hb dX4_step_126 rfl (lv_at hl 0 rfl) ?_
              by_cases h127 : e9 < ty
              · skip
                refine zRV (As := []) (b := q) (rest := []) hC (c_X4_here_in (l := l) (hlen := hlen) (htx := htx) (hat := h127)) lM_X4_68 vM_X4_here (by decide) hK hP [0, 1] rfl ⟨rfl, rfl, rfl⟩ rfl hl.1 rfl (Nat.le_of_ble_eq_true rfl) dX4_step_127 (by decide) ?_
                show W _ _ _ _ _ _ _ _ _ _ _ _ _ _ _ (F0 m 130 ls [.int (nI (by_ e9))])
                refine lv_bipush (v := nI 48) hx hb dX4_step_130 (by decide) ?_
                refine lv_bipush (v := nI 57) hx hb dX4_step_132 (by decide) ?_
                refine zRS (As := [.int (nI (by_ e9)), .int (nI 48), .int (nI 57)]) (rest := []) hC (c_X4_in (l := l) (g := decide (48 ≤ by_ e9 ∧ by_ e9 ≤ 57)) (hg := z_inN (by have := hby e9; omega) (by omega) (by omega))) lM_X4_57 sM_X4_in (by decide) hK rfl hl.1 rfl (Nat.le_of_ble_eq_true rfl) dX4_step_134 (by decide) ?_
                show W _ _ _ _ _ _ _ _ _ _ _ _ _ _ _ (F0 m 137 ls [.int (bI (decide (48 ≤ by_ e9 ∧ by_ e9 ≤ 57)))])
                refine zb_eq (tgt := 188) hC dX4_step_137 (by decide) (fun c137 => ?_) (fun c137 => ?_)
                · skip
                  have b90 : rn by_ 2 (ty - p9) p9 = e9 := hr9.symm.trans (rn_stop h127 (fun h => of_decide_eq_false c137 (sortN_2i.mp h)))
                  refine lv_aload_n hx hb dX4_step_188 rfl (lv_at hl 0 rfl) ?_
                  refine lv_aload_n hx hb dX4_step_189 rfl (lv_at hl 0 rfl) ?_
                  refine z_get (k := 13) zcX4 hC hK hP 0 rfl (by decide) lF_X4_75 rfl dX4_step_190 ?_
                  refine lv_bipush (v := nI 99) hx hb dX4_step_193 (by decide) ?_
                  refine zc_gt (tgt := 217) hC dX4_step_195 (by decide) (by omega) (by omega) (fun c195 => ?_) (fun c195 => ?_)
                  · skip
                    refine lv_iconst (v := nI 4) hx hb dX4_step_217 (by decide) ?_
                    refine lv_goto (tgt := 222) hx hb dX4_step_218 (by decide) ?_
                    refine z_put (k := 12) zcX4 hC hK hP hD hS 0 rfl (by decide) lF_X4_78 rfl rfl rfl (Nat.le_of_ble_eq_true rfl) dX4_step_222 (fun H locs hP hD hS => ?_)
                    have hP : va_P D vwCl [oM q tr xtx ty xdc xdl xdb xar xac xwm xnd e9 p9 4 v9 fau xnw xkp xta xtw td xhg, aB cB xtx 150 tx] H := hP
                    have hD : va_D A [oM q tr xtx ty xdc xdl xdb xar xac xwm xnd e9 p9 4 v9 fau xnw xkp xta xtw td xhg, aB cB xtx 150 tx] := hD
                    refine lv_goto (tgt := 253) hx hb dX4_step_225 (by decide) ?_
                    exact zw_v hC hr hlk hA h0 (by rw [stp_d e6 h1 (of_decide_eq_false c60) (of_decide_eq_true c123) b90 hv9]; rw [if_pos (Or.inl c195)]; exact hP) hS dX4_step_253
                  · skip
                    refine lv_iload_n hx hb dX4_step_198 rfl (lv_at hl 1 rfl) ?_
                    refine lv_bipush (v := nI 48) hx hb dX4_step_199 (by decide) ?_
                    have b201 := hby p9
                    refine zc_ne (tgt := 221) hC dX4_step_201 (by decide) (by omega) (by omega) (fun c201 => ?_) (fun c201 => ?_)
                    · skip
                      refine lv_iconst (v := nI 1) hx hb dX4_step_221 (by decide) ?_
                      refine z_put (k := 12) zcX4 hC hK hP hD hS 0 rfl (by decide) lF_X4_78 rfl rfl rfl (Nat.le_of_ble_eq_true rfl) dX4_step_222 (fun H locs hP hD hS => ?_)
                      have hP : va_P D vwCl [oM q tr xtx ty xdc xdl xdb xar xac xwm xnd e9 p9 1 v9 fau xnw xkp xta xtw td xhg, aB cB xtx 150 tx] H := hP
                      have hD : va_D A [oM q tr xtx ty xdc xdl xdb xar xac xwm xnd e9 p9 1 v9 fau xnw xkp xta xtw td xhg, aB cB xtx 150 tx] := hD
                      refine lv_goto (tgt := 253) hx hb dX4_step_225 (by decide) ?_
                      exact zw_v hC hr hlk hA h0 (by rw [stp_d e6 h1 (of_decide_eq_false c60) (of_decide_eq_true c123) b90 hv9]; rw [if_neg (by omega)]; exact hP) hS dX4_step_253
                    · skip
                      refine lv_aload_n hx hb dX4_step_204 rfl (lv_at hl 0 rfl) ?_
                      refine z_get (k := 10) zcX4 hC hK hP 0 rfl (by decide) lF_X4_65 rfl dX4_step_205 ?_
                      refine lv_aload_n hx hb dX4_step_208 rfl (lv_at hl 0 rfl) ?_
                      refine z_get (k := 11) zcX4 hC hK hP 0 rfl (by decide) lF_X4_72 rfl dX4_step_209 ?_
                      refine zi_sub hC dX4_step_212 (by omega) ?_
                      refine lv_iconst (v := nI 1) hx hb dX4_step_213 (by decide) ?_
                      refine zc_le (tgt := 221) hC dX4_step_214 (by decide) (by omega) (by omega) (fun c214 => ?_) (fun c214 => ?_)
                      · skip
                        refine lv_iconst (v := nI 1) hx hb dX4_step_221 (by decide) ?_
                        refine z_put (k := 12) zcX4 hC hK hP hD hS 0 rfl (by decide) lF_X4_78 rfl rfl rfl (Nat.le_of_ble_eq_true rfl) dX4_step_222 (fun H locs hP hD hS => ?_)
                        have hP : va_P D vwCl [oM q tr xtx ty xdc xdl xdb xar xac xwm xnd e9 p9 1 v9 fau xnw xkp xta xtw td xhg, aB cB xtx 150 tx] H := hP
                        have hD : va_D A [oM q tr xtx ty xdc xdl xdb xar xac xwm xnd e9 p9 1 v9 fau xnw xkp xta xtw td xhg, aB cB xtx 150 tx] := hD
                        refine lv_goto (tgt := 253) hx hb dX4_step_225 (by decide) ?_
                        exact zw_v hC hr hlk hA h0 (by rw [stp_d e6 h1 (of_decide_eq_false c60) (of_decide_eq_true c123) b90 hv9]; rw [if_neg (by omega)]; exact hP) hS dX4_step_253
                      · skip
                        refine lv_iconst (v := nI 4) hx hb dX4_step_217 (by decide) ?_
                        refine lv_goto (tgt := 222) hx hb dX4_step_218 (by decide) ?_
                        refine z_put (k := 12) zcX4 hC hK hP hD hS 0 rfl (by decide) lF_X4_78 rfl rfl rfl (Nat.le_of_ble_eq_true rfl) dX4_step_222 (fun H locs hP hD hS => ?_)
                        have hP : va_P D vwCl [oM q tr xtx ty xdc xdl xdb xar xac xwm xnd e9 p9 4 v9 fau xnw xkp xta xtw td xhg, aB cB xtx 150 tx] H := hP
                        have hD : va_D A [oM q tr xtx ty xdc xdl xdb xar xac xwm xnd e9 p9 4 v9 fau xnw xkp xta xtw td xhg, aB cB xtx 150 tx] := hD
                        refine lv_goto (tgt := 253) hx hb dX4_step_225 (by decide) ?_
                        exact zw_v hC hr hlk hA h0 (by rw [stp_d e6 h1 (of_decide_eq_false c60) (of_decide_eq_true c123) b90 hv9]; rw [if_pos (Or.inr ⟨c201, by omega⟩)]; exact hP) hS dX4_step_253
                · skip
                  have b138 := of_decide_eq_true c137
                  refine lv_aload_n hx hb dX4_step_140 rfl (lv_at hl 0 rfl) ?_
                  refine lv_aload_n hx hb dX4_step_141 rfl (lv_at hl 0 rfl) ?_
                  refine z_get (k := 13) zcX4 hC hK hP 0 rfl (by decide) lF_X4_75 rfl dX4_step_142 ?_
                  refine lv_bipush (v := nI 99) hx hb dX4_step_145 (by decide) ?_
                  refine zc_le (tgt := 157) hC dX4_step_147 (by decide) (by omega) (by omega) (fun c147 => ?_) (fun c147 => ?_)
                  · skip
                    refine lv_bipush (v := nI 10) hx hb dX4_step_157 (by decide) ?_
                    refine lv_aload_n hx hb dX4_step_159 rfl (lv_at hl 0 rfl) ?_
                    refine z_get (k := 13) zcX4 hC hK hP 0 rfl (by decide) lF_X4_75 rfl dX4_step_160 ?_
                    refine zi_mul hC dX4_step_163 ?_
                    refine lv_aload_n hx hb dX4_step_164 rfl (lv_at hl 0 rfl) ?_
                    refine zRV (As := []) (b := q) (rest := [.int (nI (10 * v9)), .ref q]) hC (c_X4_here_in (l := l) (hlen := hlen) (htx := htx) (hat := h127)) lM_X4_68 vM_X4_here (by decide) hK hP [0, 1] rfl ⟨rfl, rfl, rfl⟩ rfl hl.1 rfl (Nat.le_of_ble_eq_true rfl) dX4_step_165 (by decide) ?_
                    show W _ _ _ _ _ _ _ _ _ _ _ _ _ _ _ (F0 m 168 ls [.int (nI (by_ e9)), .int (nI (10 * v9)), .ref q])
                    refine zi_add hC dX4_step_168 ?_
                    refine lv_bipush (v := nI 48) hx hb dX4_step_169 (by decide) ?_
                    refine zi_sub hC dX4_step_171 (by omega) ?_
                    refine z_put (k := 13) zcX4 hC hK hP hD hS 0 rfl (by decide) lF_X4_75 rfl rfl rfl (Nat.le_of_ble_eq_true rfl) dX4_step_172 (fun H locs hP hD hS => ?_)
                    have hP : va_P D vwCl [oM q tr xtx ty xdc xdl xdb xar xac xwm xnd e9 p9 sor (((10 * v9) + (by_ e9)) - 48) fau xnw xkp xta xtw td xhg, aB cB xtx 150 tx] H := hP
                    have hD : va_D A [oM q tr xtx ty xdc xdl xdb xar xac xwm xnd e9 p9 sor (((10 * v9) + (by_ e9)) - 48) fau xnw xkp xta xtw td xhg, aB cB xtx 150 tx] := hD
                    refine lv_aload_n hx hb dX4_step_175 rfl (lv_at hl 0 rfl) ?_
                    refine lv_dup hx hb dX4_step_176 rfl ?_
                    refine z_get (k := 10) zcX4 hC hK hP 0 rfl (by decide) lF_X4_65 rfl dX4_step_177 ?_
                    refine lv_iconst (v := nI 1) hx hb dX4_step_180 (by decide) ?_
                    refine zi_add hC dX4_step_181 ?_
                    refine z_put (k := 10) zcX4 hC hK hP hD hS 0 rfl (by decide) lF_X4_65 rfl rfl rfl (Nat.le_of_ble_eq_true rfl) dX4_step_182 (fun H locs hP hD hS => ?_)
                    have hP : va_P D vwCl [oM q tr xtx ty xdc xdl xdb xar xac xwm xnd (e9 + 1) p9 sor (((10 * v9) + (by_ e9)) - 48) fau xnw xkp xta xtw td xhg, aB cB xtx 150 tx] H := hP
                    have hD : va_D A [oM q tr xtx ty xdc xdl xdb xar xac xwm xnd (e9 + 1) p9 sor (((10 * v9) + (by_ e9)) - 48) fau xnw xkp xta xtw td xhg, aB cB xtx 150 tx] := hD
                    refine lv_goto (tgt := 126) hx hb dX4_step_185 (by decide) ?_
                    exact ih126 (ty - (e9 + 1)) (by omega) (e9 + 1) (((10 * v9) + (by_ e9)) - 48) rfl (by omega) (by exact (rn_go h127 (sortN_2i.mpr (of_decide_eq_true c137))).symm.trans hr9) (by rw [show e9 + 1 - p9 = (e9 - p9) + 1 by omega, dgv_s, ← hv9]; rw [if_neg (by omega), show p9 + (e9 - p9) = e9 by omega]) (by omega) _ _ hP hD hS ls (lv_sub hl [0, 1] rfl)
                  · skip
                    refine lv_aload_n hx hb dX4_step_150 rfl (lv_at hl 0 rfl) ?_
                    refine z_get (k := 13) zcX4 hC hK hP 0 rfl (by decide) lF_X4_75 rfl dX4_step_151 ?_
                    refine lv_goto (tgt := 172) hx hb dX4_step_154 (by decide) ?_
                    refine z_put (k := 13) zcX4 hC hK hP hD hS 0 rfl (by decide) lF_X4_75 rfl rfl rfl (Nat.le_of_ble_eq_true rfl) dX4_step_172 (fun H locs hP hD hS => ?_)
                    have hP : va_P D vwCl [oM q tr xtx ty xdc xdl xdb xar xac xwm xnd e9 p9 sor v9 fau xnw xkp xta xtw td xhg, aB cB xtx 150 tx] H := hP
                    have hD : va_D A [oM q tr xtx ty xdc xdl xdb xar xac xwm xnd e9 p9 sor v9 fau xnw xkp xta xtw td xhg, aB cB xtx 150 tx] := hD
                    refine lv_aload_n hx hb dX4_step_175 rfl (lv_at hl 0 rfl) ?_
                    refine lv_dup hx hb dX4_step_176 rfl ?_
                    refine z_get (k := 10) zcX4 hC hK hP 0 rfl (by decide) lF_X4_65 rfl dX4_step_177 ?_
                    refine lv_iconst (v := nI 1) hx hb dX4_step_180 (by decide) ?_
                    refine zi_add hC dX4_step_181 ?_
                    refine z_put (k := 10) zcX4 hC hK hP hD hS 0 rfl (by decide) lF_X4_65 rfl rfl rfl (Nat.le_of_ble_eq_true rfl) dX4_step_182 (fun H locs hP hD hS => ?_)
                    have hP : va_P D vwCl [oM q tr xtx ty xdc xdl xdb xar xac xwm xnd (e9 + 1) p9 sor v9 fau xnw xkp xta xtw td xhg, aB cB xtx 150 tx] H := hP
                    have hD : va_D A [oM q tr xtx ty xdc xdl xdb xar xac xwm xnd (e9 + 1) p9 sor v9 fau xnw xkp xta xtw td xhg, aB cB xtx 150 tx] := hD
                    refine lv_goto (tgt := 126) hx hb dX4_step_185 (by decide) ?_
                    exact ih126 (ty - (e9 + 1)) (by omega) (e9 + 1) v9 rfl (by omega) (by exact (rn_go h127 (sortN_2i.mpr (of_decide_eq_true c137))).symm.trans hr9) (by rw [show e9 + 1 - p9 = (e9 - p9) + 1 by omega, dgv_s, ← hv9]; rw [if_pos c147]) (by omega) _ _ hP hD hS ls (lv_sub hl [0, 1] rfl)
              · skip
                refine zRV (As := []) (b := q) (rest := []) hC (c_X4_here_e (l := l) (hlen := hlen) (hat := Nat.not_lt.mp h127) (ha9 := by omega)) lM_X4_68 vM_X4_here (by decide) hK hP [0, 1] rfl ⟨rfl, rfl, rfl⟩ rfl hl.1 rfl (Nat.le_of_ble_eq_true rfl) dX4_step_127 (by decide) ?_
                show W _ _ _ _ _ _ _ _ _ _ _ _ _ _ _ (F0 m 130 ls [.int (-1)])
                refine lv_bipush (v := nI 48) hx hb dX4_step_130 (by decide) ?_
                refine lv_bipush (v := nI 57) hx hb dX4_step_132 (by decide) ?_
                refine zRS (As := [.int (-1), .int (nI 48), .int (nI 57)]) (rest := []) hC (c_X4_in (l := l) (g := false) (hg := ⟨fun h => (by cases h), fun h => absurd h.1 (by decide)⟩)) lM_X4_57 sM_X4_in (by decide) hK rfl hl.1 rfl (Nat.le_of_ble_eq_true rfl) dX4_step_134 (by decide) ?_
                show W _ _ _ _ _ _ _ _ _ _ _ _ _ _ _ (F0 m 137 ls [.int (bI false)])
                refine zb_eq (tgt := 188) hC dX4_step_137 (by decide) (fun c137 => ?_) (fun c137 => by exfalso; cases c137)
                have b90 : rn by_ 2 (ty - p9) p9 = e9 := hr9.symm.trans (rn_end (Nat.not_lt.mp h127))
                refine lv_aload_n hx hb dX4_step_188 rfl (lv_at hl 0 rfl) ?_
                refine lv_aload_n hx hb dX4_step_189 rfl (lv_at hl 0 rfl) ?_
                refine z_get (k := 13) zcX4 hC hK hP 0 rfl (by decide) lF_X4_75 rfl dX4_step_190 ?_
                refine lv_bipush (v := nI 99) hx hb dX4_step_193 (by decide) ?_
                refine zc_gt (tgt := 217) hC dX4_step_195 (by decide) (by omega) (by omega) (fun c195 => ?_) (fun c195 => ?_)
                · skip
                  refine lv_iconst (v := nI 4) hx hb dX4_step_217 (by decide) ?_
                  refine lv_goto (tgt := 222) hx hb dX4_step_218 (by decide) ?_
                  refine z_put (k := 12) zcX4 hC hK hP hD hS 0 rfl (by decide) lF_X4_78 rfl rfl rfl (Nat.le_of_ble_eq_true rfl) dX4_step_222 (fun H locs hP hD hS => ?_)
                  have hP : va_P D vwCl [oM q tr xtx ty xdc xdl xdb xar xac xwm xnd e9 p9 4 v9 fau xnw xkp xta xtw td xhg, aB cB xtx 150 tx] H := hP
                  have hD : va_D A [oM q tr xtx ty xdc xdl xdb xar xac xwm xnd e9 p9 4 v9 fau xnw xkp xta xtw td xhg, aB cB xtx 150 tx] := hD
                  refine lv_goto (tgt := 253) hx hb dX4_step_225 (by decide) ?_
                  exact zw_v hC hr hlk hA h0 (by rw [stp_d e6 h1 (of_decide_eq_false c60) (of_decide_eq_true c123) b90 hv9]; rw [if_pos (Or.inl c195)]; exact hP) hS dX4_step_253
                · skip
                  refine lv_iload_n hx hb dX4_step_198 rfl (lv_at hl 1 rfl) ?_
                  refine lv_bipush (v := nI 48) hx hb dX4_step_199 (by decide) ?_
                  have b201 := hby p9
                  refine zc_ne (tgt := 221) hC dX4_step_201 (by decide) (by omega) (by omega) (fun c201 => ?_) (fun c201 => ?_)
                  · skip
                    refine lv_iconst (v := nI 1) hx hb dX4_step_221 (by decide) ?_
                    refine z_put (k := 12) zcX4 hC hK hP hD hS 0 rfl (by decide) lF_X4_78 rfl rfl rfl (Nat.le_of_ble_eq_true rfl) dX4_step_222 (fun H locs hP hD hS => ?_)
                    have hP : va_P D vwCl [oM q tr xtx ty xdc xdl xdb xar xac xwm xnd e9 p9 1 v9 fau xnw xkp xta xtw td xhg, aB cB xtx 150 tx] H := hP
                    have hD : va_D A [oM q tr xtx ty xdc xdl xdb xar xac xwm xnd e9 p9 1 v9 fau xnw xkp xta xtw td xhg, aB cB xtx 150 tx] := hD
                    refine lv_goto (tgt := 253) hx hb dX4_step_225 (by decide) ?_
                    exact zw_v hC hr hlk hA h0 (by rw [stp_d e6 h1 (of_decide_eq_false c60) (of_decide_eq_true c123) b90 hv9]; rw [if_neg (by omega)]; exact hP) hS dX4_step_253
                  · skip
                    refine lv_aload_n hx hb dX4_step_204 rfl (lv_at hl 0 rfl) ?_
                    refine z_get (k := 10) zcX4 hC hK hP 0 rfl (by decide) lF_X4_65 rfl dX4_step_205 ?_
                    refine lv_aload_n hx hb dX4_step_208 rfl (lv_at hl 0 rfl) ?_
                    refine z_get (k := 11) zcX4 hC hK hP 0 rfl (by decide) lF_X4_72 rfl dX4_step_209 ?_
                    refine zi_sub hC dX4_step_212 (by omega) ?_
                    refine lv_iconst (v := nI 1) hx hb dX4_step_213 (by decide) ?_
                    refine zc_le (tgt := 221) hC dX4_step_214 (by decide) (by omega) (by omega) (fun c214 => ?_) (fun c214 => ?_)
                    · skip
                      refine lv_iconst (v := nI 1) hx hb dX4_step_221 (by decide) ?_
                      refine z_put (k := 12) zcX4 hC hK hP hD hS 0 rfl (by decide) lF_X4_78 rfl rfl rfl (Nat.le_of_ble_eq_true rfl) dX4_step_222 (fun H locs hP hD hS => ?_)
                      have hP : va_P D vwCl [oM q tr xtx ty xdc xdl xdb xar xac xwm xnd e9 p9 1 v9 fau xnw xkp xta xtw td xhg, aB cB xtx 150 tx] H := hP
                      have hD : va_D A [oM q tr xtx ty xdc xdl xdb xar xac xwm xnd e9 p9 1 v9 fau xnw xkp xta xtw td xhg, aB cB xtx 150 tx] := hD
                      refine lv_goto (tgt := 253) hx hb dX4_step_225 (by decide) ?_
                      exact zw_v hC hr hlk hA h0 (by rw [stp_d e6 h1 (of_decide_eq_false c60) (of_decide_eq_true c123) b90 hv9]; rw [if_neg (by omega)]; exact hP) hS dX4_step_253
                    · skip
                      refine lv_iconst (v := nI 4) hx hb dX4_step_217 (by decide) ?_
                      refine lv_goto (tgt := 222) hx hb dX4_step_218 (by decide) ?_
                      refine z_put (k := 12) zcX4 hC hK hP hD hS 0 rfl (by decide) lF_X4_78 rfl rfl rfl (Nat.le_of_ble_eq_true rfl) dX4_step_222 (fun H locs hP hD hS => ?_)
                      have hP : va_P D vwCl [oM q tr xtx ty xdc xdl xdb xar xac xwm xnd e9 p9 4 v9 fau xnw xkp xta xtw td xhg, aB cB xtx 150 tx] H := hP
                      have hD : va_D A [oM q tr xtx ty xdc xdl xdb xar xac xwm xnd e9 p9 4 v9 fau xnw xkp xta xtw td xhg, aB cB xtx 150 tx] := hD
                      refine lv_goto (tgt := 253) hx hb dX4_step_225 (by decide) ?_
                      exact zw_v hC hr hlk hA h0 (by rw [stp_d e6 h1 (of_decide_eq_false c60) (of_decide_eq_true c123) b90 hv9]; rw [if_pos (Or.inr ⟨c201, by omega⟩)]; exact hP) hS dX4_step_253
            exact hL126 _ p9 0 rfl (by omega) (by rfl) (by rw [Nat.sub_self]; rfl) (by omega) _ _ hP hD hS ls (lv_sub hl [1, 0] rfl)
        · skip
          have hL63 : ∀ (z63 : Nat) (e9 : Nat), ty - e9 = z63 → (p9 ≤ e9 ∧ e9 ≤ ty) → (rn by_ 1 (ty - e9) e9 = rn by_ 1 (ty - p9) p9) → ∀ (H : Heap) (locs : List Loc), va_P D vwCl [oM q tr xtx ty xdc xdl xdb xar xac xwm xnd e9 p9 sor 0 fau xnw xkp xta xtw td xhg, aB cB xtx 150 tx] H → va_D A [oM q tr xtx ty xdc xdl xdb xar xac xwm xnd e9 p9 sor 0 fau xnw xkp xta xtw td xhg, aB cB xtx 150 tx] → va_S A H0 H locs → ∀ ls : Array Slot, lv_has ls 2 [(0, .ref q), (1, .int (nI (by_ p9)))] → W p l e { frames := 1, cells := 0, slots := 0, locals := 22 } s m args below meth c H locs 0 0 (MQ below (qW D [oM q tr xtx ty xdc xdl xdb xar xac xwm xnd at9 sta sor val fau xnw xkp xta xtw td xhg, aB cB xtx 150 tx] [oM q tr xtx ty xdc xdl xdb xar xac xwm xnd ((stp by_ ty at9).1) ((stp by_ ty at9).2.1) ((stp by_ ty at9).2.2.1) ((stp by_ ty at9).2.2.2) fau xnw xkp xta xtw td xhg, aB cB xtx 150 tx] (none)) args s 0 0 (zA [oM q tr xtx ty xdc xdl xdb xar xac xwm xnd at9 sta sor val fau xnw xkp xta xtw td xhg, aB cB xtx 150 tx])) (F0 m 63 ls []) := by
            intro z63
            induction z63 using Nat.strongRecOn with
            | _ z63 ih63 =>
            intro e9 hz63 he9 hr9 H locs hP hD hS ls hl
            refine lv_aload_n hx hb dX4_step_63 rfl (lv_at hl 0 rfl) ?_
            by_cases h64 : e9 < ty
            · skip
              refine zRV (As := []) (b := q) (rest := []) hC (c_X4_here_in (l := l) (hlen := hlen) (htx := htx) (hat := h64)) lM_X4_68 vM_X4_here (by decide) hK hP [0, 1] rfl ⟨rfl, rfl, rfl⟩ rfl hl.1 rfl (Nat.le_of_ble_eq_true rfl) dX4_step_64 (by decide) ?_
              show W _ _ _ _ _ _ _ _ _ _ _ _ _ _ _ (F0 m 67 ls [.int (nI (by_ e9))])
              refine lv_bipush (v := nI 97) hx hb dX4_step_67 (by decide) ?_
              refine lv_bipush (v := nI 122) hx hb dX4_step_69 (by decide) ?_
              refine zRS (As := [.int (nI (by_ e9)), .int (nI 97), .int (nI 122)]) (rest := []) hC (c_X4_in (l := l) (g := decide (97 ≤ by_ e9 ∧ by_ e9 ≤ 122)) (hg := z_inN (by have := hby e9; omega) (by omega) (by omega))) lM_X4_57 sM_X4_in (by decide) hK rfl hl.1 rfl (Nat.le_of_ble_eq_true rfl) dX4_step_71 (by decide) ?_
              show W _ _ _ _ _ _ _ _ _ _ _ _ _ _ _ (F0 m 74 ls [.int (bI (decide (97 ≤ by_ e9 ∧ by_ e9 ≤ 122)))])
              refine zb_eq (tgt := 90) hC dX4_step_74 (by decide) (fun c74 => ?_) (fun c74 => ?_)
              · skip
                have b90 : rn by_ 1 (ty - p9) p9 = e9 := hr9.symm.trans (rn_stop h64 (fun h => of_decide_eq_false c74 (sortN_1i.mp h)))
                refine lv_aload_n hx hb dX4_step_90 rfl (lv_at hl 0 rfl) ?_
                refine lv_aload_n hx hb dX4_step_91 rfl (lv_at hl 0 rfl) ?_
                refine z_get (k := 10) zcX4 hC hK hP 0 rfl (by decide) lF_X4_65 rfl dX4_step_92 ?_
                refine lv_aload_n hx hb dX4_step_95 rfl (lv_at hl 0 rfl) ?_
                refine z_get (k := 11) zcX4 hC hK hP 0 rfl (by decide) lF_X4_72 rfl dX4_step_96 ?_
                refine zi_sub hC dX4_step_99 (by omega) ?_
                refine lv_iconst (v := nI 1) hx hb dX4_step_100 (by decide) ?_
                refine zc_ne (tgt := 108) hC dX4_step_101 (by decide) (by omega) (by omega) (fun c101 => ?_) (fun c101 => ?_)
                · skip
                  refine lv_iconst (v := nI 4) hx hb dX4_step_108 (by decide) ?_
                  refine z_put (k := 12) zcX4 hC hK hP hD hS 0 rfl (by decide) lF_X4_78 rfl rfl rfl (Nat.le_of_ble_eq_true rfl) dX4_step_109 (fun H locs hP hD hS => ?_)
                  have hP : va_P D vwCl [oM q tr xtx ty xdc xdl xdb xar xac xwm xnd e9 p9 4 0 fau xnw xkp xta xtw td xhg, aB cB xtx 150 tx] H := hP
                  have hD : va_D A [oM q tr xtx ty xdc xdl xdb xar xac xwm xnd e9 p9 4 0 fau xnw xkp xta xtw td xhg, aB cB xtx 150 tx] := hD
                  refine lv_goto (tgt := 253) hx hb dX4_step_112 (by decide) ?_
                  exact zw_v hC hr hlk hA h0 (by rw [stp_l e6 h1 (of_decide_eq_true c60) b90]; rw [if_neg c101]; exact hP) hS dX4_step_253
                · skip
                  refine lv_iload_n hx hb dX4_step_104 rfl (lv_at hl 1 rfl) ?_
                  refine lv_goto (tgt := 109) hx hb dX4_step_105 (by decide) ?_
                  refine z_put (k := 12) zcX4 hC hK hP hD hS 0 rfl (by decide) lF_X4_78 rfl rfl rfl (Nat.le_of_ble_eq_true rfl) dX4_step_109 (fun H locs hP hD hS => ?_)
                  have hP : va_P D vwCl [oM q tr xtx ty xdc xdl xdb xar xac xwm xnd e9 p9 (by_ p9) 0 fau xnw xkp xta xtw td xhg, aB cB xtx 150 tx] H := hP
                  have hD : va_D A [oM q tr xtx ty xdc xdl xdb xar xac xwm xnd e9 p9 (by_ p9) 0 fau xnw xkp xta xtw td xhg, aB cB xtx 150 tx] := hD
                  refine lv_goto (tgt := 253) hx hb dX4_step_112 (by decide) ?_
                  exact zw_v hC hr hlk hA h0 (by rw [stp_l e6 h1 (of_decide_eq_true c60) b90]; rw [if_pos c101]; exact hP) hS dX4_step_253
              · skip
                refine lv_aload_n hx hb dX4_step_77 rfl (lv_at hl 0 rfl) ?_
                refine lv_dup hx hb dX4_step_78 rfl ?_
                refine z_get (k := 10) zcX4 hC hK hP 0 rfl (by decide) lF_X4_65 rfl dX4_step_79 ?_
                refine lv_iconst (v := nI 1) hx hb dX4_step_82 (by decide) ?_
                refine zi_add hC dX4_step_83 ?_
                refine z_put (k := 10) zcX4 hC hK hP hD hS 0 rfl (by decide) lF_X4_65 rfl rfl rfl (Nat.le_of_ble_eq_true rfl) dX4_step_84 (fun H locs hP hD hS => ?_)
                have hP : va_P D vwCl [oM q tr xtx ty xdc xdl xdb xar xac xwm xnd (e9 + 1) p9 sor 0 fau xnw xkp xta xtw td xhg, aB cB xtx 150 tx] H := hP
                have hD : va_D A [oM q tr xtx ty xdc xdl xdb xar xac xwm xnd (e9 + 1) p9 sor 0 fau xnw xkp xta xtw td xhg, aB cB xtx 150 tx] := hD
                refine lv_goto (tgt := 63) hx hb dX4_step_87 (by decide) ?_
                exact ih63 (ty - (e9 + 1)) (by omega) (e9 + 1) rfl (by omega) (by exact (rn_go h64 (sortN_1i.mpr (of_decide_eq_true c74))).symm.trans hr9) _ _ hP hD hS ls (lv_sub hl [0, 1] rfl)
            · skip
              refine zRV (As := []) (b := q) (rest := []) hC (c_X4_here_e (l := l) (hlen := hlen) (hat := Nat.not_lt.mp h64) (ha9 := by omega)) lM_X4_68 vM_X4_here (by decide) hK hP [0, 1] rfl ⟨rfl, rfl, rfl⟩ rfl hl.1 rfl (Nat.le_of_ble_eq_true rfl) dX4_step_64 (by decide) ?_
              show W _ _ _ _ _ _ _ _ _ _ _ _ _ _ _ (F0 m 67 ls [.int (-1)])
              refine lv_bipush (v := nI 97) hx hb dX4_step_67 (by decide) ?_
              refine lv_bipush (v := nI 122) hx hb dX4_step_69 (by decide) ?_
              refine zRS (As := [.int (-1), .int (nI 97), .int (nI 122)]) (rest := []) hC (c_X4_in (l := l) (g := false) (hg := ⟨fun h => (by cases h), fun h => absurd h.1 (by decide)⟩)) lM_X4_57 sM_X4_in (by decide) hK rfl hl.1 rfl (Nat.le_of_ble_eq_true rfl) dX4_step_71 (by decide) ?_
              show W _ _ _ _ _ _ _ _ _ _ _ _ _ _ _ (F0 m 74 ls [.int (bI false)])
              refine zb_eq (tgt := 90) hC dX4_step_74 (by decide) (fun c74 => ?_) (fun c74 => by exfalso; cases c74)
              have b90 : rn by_ 1 (ty - p9) p9 = e9 := hr9.symm.trans (rn_end (Nat.not_lt.mp h64))
              refine lv_aload_n hx hb dX4_step_90 rfl (lv_at hl 0 rfl) ?_
              refine lv_aload_n hx hb dX4_step_91 rfl (lv_at hl 0 rfl) ?_
              refine z_get (k := 10) zcX4 hC hK hP 0 rfl (by decide) lF_X4_65 rfl dX4_step_92 ?_
              refine lv_aload_n hx hb dX4_step_95 rfl (lv_at hl 0 rfl) ?_
              refine z_get (k := 11) zcX4 hC hK hP 0 rfl (by decide) lF_X4_72 rfl dX4_step_96 ?_
              refine zi_sub hC dX4_step_99 (by omega) ?_
              refine lv_iconst (v := nI 1) hx hb dX4_step_100 (by decide) ?_
              refine zc_ne (tgt := 108) hC dX4_step_101 (by decide) (by omega) (by omega) (fun c101 => ?_) (fun c101 => ?_)
              · skip
                refine lv_iconst (v := nI 4) hx hb dX4_step_108 (by decide) ?_
                refine z_put (k := 12) zcX4 hC hK hP hD hS 0 rfl (by decide) lF_X4_78 rfl rfl rfl (Nat.le_of_ble_eq_true rfl) dX4_step_109 (fun H locs hP hD hS => ?_)
                have hP : va_P D vwCl [oM q tr xtx ty xdc xdl xdb xar xac xwm xnd e9 p9 4 0 fau xnw xkp xta xtw td xhg, aB cB xtx 150 tx] H := hP
                have hD : va_D A [oM q tr xtx ty xdc xdl xdb xar xac xwm xnd e9 p9 4 0 fau xnw xkp xta xtw td xhg, aB cB xtx 150 tx] := hD
                refine lv_goto (tgt := 253) hx hb dX4_step_112 (by decide) ?_
                exact zw_v hC hr hlk hA h0 (by rw [stp_l e6 h1 (of_decide_eq_true c60) b90]; rw [if_neg c101]; exact hP) hS dX4_step_253
              · skip
                refine lv_iload_n hx hb dX4_step_104 rfl (lv_at hl 1 rfl) ?_
                refine lv_goto (tgt := 109) hx hb dX4_step_105 (by decide) ?_
                refine z_put (k := 12) zcX4 hC hK hP hD hS 0 rfl (by decide) lF_X4_78 rfl rfl rfl (Nat.le_of_ble_eq_true rfl) dX4_step_109 (fun H locs hP hD hS => ?_)
                have hP : va_P D vwCl [oM q tr xtx ty xdc xdl xdb xar xac xwm xnd e9 p9 (by_ p9) 0 fau xnw xkp xta xtw td xhg, aB cB xtx 150 tx] H := hP
                have hD : va_D A [oM q tr xtx ty xdc xdl xdb xar xac xwm xnd e9 p9 (by_ p9) 0 fau xnw xkp xta xtw td xhg, aB cB xtx 150 tx] := hD
                refine lv_goto (tgt := 253) hx hb dX4_step_112 (by decide) ?_
                exact zw_v hC hr hlk hA h0 (by rw [stp_l e6 h1 (of_decide_eq_true c60) b90]; rw [if_pos c101]; exact hP) hS dX4_step_253
          exact hL63 _ p9 rfl (by omega) (by rfl) _ _ hP hD hS ls (lv_sub hl [1, 0] rfl)
      · skip
        refine lv_aload_n hx hb dX4_step_9 rfl (lv_at hl 0 rfl) ?_
        refine lv_dup hx hb dX4_step_10 rfl ?_
        refine z_get (k := 10) zcX4 hC hK hP 0 rfl (by decide) lF_X4_65 rfl dX4_step_11 ?_
        refine lv_iconst (v := nI 1) hx hb dX4_step_14 (by decide) ?_
        refine zi_add hC dX4_step_15 ?_
        refine z_put (k := 10) zcX4 hC hK hP hD hS 0 rfl (by decide) lF_X4_65 rfl rfl rfl (Nat.le_of_ble_eq_true rfl) dX4_step_16 (fun H locs hP hD hS => ?_)
        have hP : va_P D vwCl [oM q tr xtx ty xdc xdl xdb xar xac xwm xnd (p9 + 1) sta sor val fau xnw xkp xta xtw td xhg, aB cB xtx 150 tx] H := hP
        have hD : va_D A [oM q tr xtx ty xdc xdl xdb xar xac xwm xnd (p9 + 1) sta sor val fau xnw xkp xta xtw td xhg, aB cB xtx 150 tx] := hD
        refine lv_goto (tgt := 0) hx hb dX4_step_19 (by decide) ?_
        exact ih0 (ty - (p9 + 1)) (by omega) (p9 + 1) rfl (by omega) (by exact (skp_go h1 c6).symm.trans hs9) _ _ hP hD hS ls (lv_sub hl [0] rfl)
    · skip
      refine zRV (As := []) (b := q) (rest := []) hC (c_X4_here_e (l := l) (hlen := hlen) (hat := Nat.not_lt.mp h1) (ha9 := by omega)) lM_X4_68 vM_X4_here (by decide) hK hP [0, 1] rfl ⟨rfl, rfl, rfl⟩ rfl hl.1 rfl (Nat.le_of_ble_eq_true rfl) dX4_step_1 (by decide) ?_
      show W _ _ _ _ _ _ _ _ _ _ _ _ _ _ _ (F0 m 4 ls [.int (-1)])
      refine lv_bipush (v := nI 32) hx hb dX4_step_4 (by decide) ?_
      refine lv_icmp_ne (tgt := 22) hx hb dX4_step_6 (by decide) (fun c6 => ?_) (fun c6 => by exfalso; exact absurd c6 (by decide))
      have e6 : skp by_ (ty - at9) at9 = p9 := hs9.symm.trans (skp_end (Nat.not_lt.mp h1))
      refine lv_aload_n hx hb dX4_step_22 rfl (lv_at hl 0 rfl) ?_
      refine lv_aload_n hx hb dX4_step_23 rfl (lv_at hl 0 rfl) ?_
      refine z_get (k := 10) zcX4 hC hK hP 0 rfl (by decide) lF_X4_65 rfl dX4_step_24 ?_
      refine z_put (k := 11) zcX4 hC hK hP hD hS 0 rfl (by decide) lF_X4_72 rfl rfl rfl (Nat.le_of_ble_eq_true rfl) dX4_step_27 (fun H locs hP hD hS => ?_)
      have hP : va_P D vwCl [oM q tr xtx ty xdc xdl xdb xar xac xwm xnd p9 p9 sor val fau xnw xkp xta xtw td xhg, aB cB xtx 150 tx] H := hP
      have hD : va_D A [oM q tr xtx ty xdc xdl xdb xar xac xwm xnd p9 p9 sor val fau xnw xkp xta xtw td xhg, aB cB xtx 150 tx] := hD
      refine lv_aload_n hx hb dX4_step_30 rfl (lv_at hl 0 rfl) ?_
      refine lv_iconst (v := nI 0) hx hb dX4_step_31 (by decide) ?_
      refine z_put (k := 13) zcX4 hC hK hP hD hS 0 rfl (by decide) lF_X4_75 rfl rfl rfl (Nat.le_of_ble_eq_true rfl) dX4_step_32 (fun H locs hP hD hS => ?_)
      have hP : va_P D vwCl [oM q tr xtx ty xdc xdl xdb xar xac xwm xnd p9 p9 sor 0 fau xnw xkp xta xtw td xhg, aB cB xtx 150 tx] H := hP
      have hD : va_D A [oM q tr xtx ty xdc xdl xdb xar xac xwm xnd p9 p9 sor 0 fau xnw xkp xta xtw td xhg, aB cB xtx 150 tx] := hD
      refine lv_aload_n hx hb dX4_step_35 rfl (lv_at hl 0 rfl) ?_
      refine zRV (As := []) (b := q) (rest := []) hC (c_X4_here_e (l := l) (hlen := hlen) (hat := Nat.not_lt.mp h1) (ha9 := by omega)) lM_X4_68 vM_X4_here (by decide) hK hP [0, 1] rfl ⟨rfl, rfl, rfl⟩ rfl hl.1 rfl (Nat.le_of_ble_eq_true rfl) dX4_step_36 (by decide) ?_
      show W _ _ _ _ _ _ _ _ _ _ _ _ _ _ _ (F0 m 39 ls [.int (-1)])
      refine lv_istore_n (lv' := [(1, .int (-1)), (0, .ref q)]) hx hb dX4_step_39 rfl hl (by decide) rfl (fun ls hl => ?_)
      refine lv_iload_n hx hb dX4_step_40 rfl (lv_at hl 0 rfl) ?_
      refine lv_if_ge (tgt := 52) hx hb dX4_step_41 (by decide) (fun c41 => by exfalso; exact absurd c41 (by decide)) (fun c41 => ?_)
      refine lv_aload_n hx hb dX4_step_44 rfl (lv_at hl 1 rfl) ?_
      refine lv_iconst (v := nI 3) hx hb dX4_step_45 (by decide) ?_
      refine z_put (k := 12) zcX4 hC hK hP hD hS 0 rfl (by decide) lF_X4_78 rfl rfl rfl (Nat.le_of_ble_eq_true rfl) dX4_step_46 (fun H locs hP hD hS => ?_)
      have hP : va_P D vwCl [oM q tr xtx ty xdc xdl xdb xar xac xwm xnd p9 p9 3 0 fau xnw xkp xta xtw td xhg, aB cB xtx 150 tx] H := hP
      have hD : va_D A [oM q tr xtx ty xdc xdl xdb xar xac xwm xnd p9 p9 3 0 fau xnw xkp xta xtw td xhg, aB cB xtx 150 tx] := hD
      refine lv_goto (tgt := 253) hx hb dX4_step_49 (by decide) ?_
      exact zw_v hC hr hlk hA h0 (by rw [stp_e e6 (Nat.not_lt.mp h1)]; exact hP) hS dX4_step_253
  exact hL0 _ at9 rfl (by exact hat) (by rfl) _ _ hP hD hS ls (lv_sub hl [0] rfl)
