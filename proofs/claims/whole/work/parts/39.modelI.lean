/-- a and b change places -/
def swp (g : Nat → Nat) (a b : Nat) : Nat → Nat := updN (updN g a (g b)) b (g a)
/-- t changes of the row from lo to hi, from without inwards -/
def rvS (g : Nat → Nat) (lo hi : Nat) : Nat → Nat → Nat
  | 0 => g
  | t + 1 => swp (rvS g lo hi t) (lo + t) (hi - t)
theorem rvS_s (g : Nat → Nat) (lo hi t : Nat) : rvS g lo hi (t + 1) = swp (rvS g lo hi t) (lo + t) (hi - t) := rfl
/-- where the next way of hanging is made -/
def pvO (n : Nat) (h : Nat → Nat) (i0 j0 : Nat) : Prop := i0 + 1 < n ∧ h i0 ≤ h (i0 + 1) ∧ (∀ i, i0 < i → i + 1 < n → h (i + 1) < h i) ∧ i0 < j0 ∧ j0 < n ∧ h i0 ≤ h j0 ∧ ∀ j, j0 < j → j < n → h j < h i0
def nxt (n : Nat) (h : Nat → Nat) (i0 j0 : Nat) : Nat → Nat := rvS (swp h i0 j0) (i0 + 1) (n - 1) ((n - 1 - i0) / 2)
theorem z_sub2 {n : Nat} (h : 1 ≤ n) : nI n - nI 2 = nI (n - 1) - nI 1 := by
  rw [← pk_sub h]
  have e : ∀ x : Int32, x - 2 = x - 1 - 1 := by intro x; grind
  exact e _
/-- how many ways are as told, which label, whether always the same -/
def ftS (U : Nat → Bool) (lab : Nat → Nat) : Nat → Nat × Int32 × Bool
  | 0 => (0, -9, true)
  | i + 1 => if U i = true then ((ftS U lab i).1 + 1, nI (lab i), (ftS U lab i).2.2 && (decide ((ftS U lab i).1 = 0) || decide (nI (lab i) = (ftS U lab i).2.1))) else ftS U lab i
theorem ftS_t {U : Nat → Bool} {lab : Nat → Nat} {i : Nat} (h : U i = true) : ftS U lab (i + 1) = ((ftS U lab i).1 + 1, nI (lab i), (ftS U lab i).2.2 && (decide ((ftS U lab i).1 = 0) || decide (nI (lab i) = (ftS U lab i).2.1))) := if_pos h
theorem ftS_f {U : Nat → Bool} {lab : Nat → Nat} {i : Nat} (h : U i = false) : ftS U lab (i + 1) = ftS U lab i := if_neg (by rw [h]; decide)
theorem ftS_le {U : Nat → Bool} {lab : Nat → Nat} : ∀ i, (ftS U lab i).1 ≤ i
  | 0 => Nat.le_refl _
  | i + 1 => by
    have h := ftS_le (U := U) (lab := lab) i
    cases q : U i with
    | true => rw [ftS_t q]; exact Nat.succ_le_succ h
    | false => rw [ftS_f q]; omega
theorem blk_id (g : Nat → Nat) (i : Nat) : updN (blk g 0 i (fun k => k)) i i = blk g 0 (i + 1) (fun k => k) := by
  have h := blk_s g 0 i (fun k => k)
  rw [Nat.zero_add] at h
  exact h
set_option maxHeartbeats 1000000 in
set_option maxRecDepth 100000 in
theorem c_X4_goOn_0 {l : Launch} {D : va_G} {cI cZ cB cR : ClassId} {q xtx ty xdc xdl xdb xar xac xwm xnd at9 sta sor val xnw xkp xta xtw td xhg : Nat} {tr : Int64} {fau : Int32} {dc hg : Nat → Nat}  (hn0 : dc 0 = 0) : mR l yX4_goOn cX4_goOn 6 (some .boolean) 0 0 D cI cZ cB cR [oM q tr xtx ty xdc xdl xdb xar xac xwm xnd at9 sta sor val fau xnw xkp xta xtw td xhg, aI cI xdc 2 dc, aI cI xhg 6 hg] [.ref q] (some (.int (bI false))) := by
  refine mR_of rfl (Nat.le_of_ble_eq_true rfl) ?_
  intro p e s m args below meth c hC hr hlk hK hP ls hl
  have hl : lv_has ls 6 [(0, .ref q)] := hl
  obtain ⟨hx, hb, hml, hown, hts⟩ := id hC
  refine lv_aload_n hx hb dX4_goOn_0 rfl (lv_at hl 0 rfl) ?_
  refine z_get (k := 3) zcX4 hC hK hP 0 rfl (by decide) lF_X4_13 rfl dX4_goOn_1 ?_
  refine lv_iconst (v := nI 0) hx hb dX4_goOn_4 (by decide) ?_
  refine z_ald hC hK hP 1 rfl (by omega) (by decide) dX4_goOn_5 ?_
  refine lv_iconst (v := nI 2) hx hb dX4_goOn_6 (by decide) ?_
  refine lv_isub hx hb dX4_goOn_7 ?_
  refine lv_istore_n (lv' := [(1, .int ((nI (dc 0)) - (nI 2))), (0, .ref q)]) hx hb dX4_goOn_8 rfl hl (by decide) rfl (fun ls hl => ?_)
  refine lv_iload_n hx hb dX4_goOn_9 rfl (lv_at hl 0 rfl) ?_
  have b10 : nI (dc 0) - nI 2 < 0 := pk_sneg (by decide) (by omega)
  refine lv_if_lt (tgt := 36) hx hb dX4_goOn_10 (by decide) (fun c10 => ?_) (fun c10 => by exfalso; exact c10 b10)
  refine lv_iload_n hx hb dX4_goOn_36 rfl (lv_at hl 0 rfl) ?_
  refine lv_if_ge (tgt := 42) hx hb dX4_goOn_37 (by decide) (fun c37 => by exfalso; exact Int32.not_lt.mpr c37 b10) (fun c37 => ?_)
  refine lv_iconst (v := nI 0) hx hb dX4_goOn_40 (by decide) ?_
  refine z_top (y := bI false) rfl ?_
  exact zr_z hC hr hlk (by rfl) dX4_goOn_41
set_option maxHeartbeats 1000000 in
set_option maxRecDepth 100000 in
theorem c_X4_goOn_f {l : Launch} {D : va_G} {cI cZ cB cR : ClassId} {q xtx ty xdc xdl xdb xar xac xwm xnd at9 sta sor val xnw xkp xta xtw td xhg : Nat} {tr : Int64} {fau : Int32} {dc hg : Nat → Nat}  (hn : dc 0 ≤ 6) (h1 : 1 ≤ dc 0) (hb6 : ∀ i, i < 6 → hg i < 6) (hdec : ∀ i, i + 1 < dc 0 → hg (i + 1) < hg i) : mR l yX4_goOn cX4_goOn 6 (some .boolean) 0 0 D cI cZ cB cR [oM q tr xtx ty xdc xdl xdb xar xac xwm xnd at9 sta sor val fau xnw xkp xta xtw td xhg, aI cI xdc 2 dc, aI cI xhg 6 hg] [.ref q] (some (.int (bI false))) := by
  refine mR_of rfl (Nat.le_of_ble_eq_true rfl) ?_
  intro p e s m args below meth c hC hr hlk hK hP ls hl
  have hl : lv_has ls 6 [(0, .ref q)] := hl
  obtain ⟨hx, hb, hml, hown, hts⟩ := id hC
  refine lv_aload_n hx hb dX4_goOn_0 rfl (lv_at hl 0 rfl) ?_
  refine z_get (k := 3) zcX4 hC hK hP 0 rfl (by decide) lF_X4_13 rfl dX4_goOn_1 ?_
  refine lv_iconst (v := nI 0) hx hb dX4_goOn_4 (by decide) ?_
  refine z_ald hC hK hP 1 rfl (by omega) (by decide) dX4_goOn_5 ?_
  refine lv_iconst (v := nI 2) hx hb dX4_goOn_6 (by decide) ?_
  refine lv_isub hx hb dX4_goOn_7 ?_
  refine z_top (show ((nI (dc 0)) - (nI 2)) = nI (dc 0 - 1) - nI 1 from by exact z_sub2 (by omega)) ?_
  refine lv_istore_n (lv' := [(1, .int (nI (dc 0 - 1) - nI 1)), (0, .ref q)]) hx hb dX4_goOn_8 rfl hl (by decide) rfl (fun ls hl => ?_)
  have hL9 : ∀ (z9 : Nat) (j9 : Nat), j9 = z9 → (j9 ≤ dc 0 - 1) → ∀ ls : Array Slot, lv_has ls 6 [(0, .ref q), (1, .int (nI j9 - nI 1))] → W p l e { frames := 0, cells := 0, slots := 0, locals := 0 } s m args below meth c s.heap [] 0 0 (MQ below (qR (some (.int (bI false)))) args s 0 0 (fun _ => False)) (F0 m 9 ls []) := by
    intro z9
    induction z9 using Nat.strongRecOn with
    | _ z9 ih9 =>
    intro j9 hz9 hj ls hl
    refine lv_iload_n hx hb dX4_goOn_9 rfl (lv_at hl 1 rfl) ?_
    refine lv_if_lt (tgt := 36) hx hb dX4_goOn_10 (by decide) (fun c10 => ?_) (fun c10 => ?_)
    · skip
      refine lv_iload_n hx hb dX4_goOn_36 rfl (lv_at hl 1 rfl) ?_
      refine lv_if_ge (tgt := 42) hx hb dX4_goOn_37 (by decide) (fun c37 => by exfalso; exact Int32.not_lt.mpr c37 c10) (fun c37 => ?_)
      refine lv_iconst (v := nI 0) hx hb dX4_goOn_40 (by decide) ?_
      refine z_top (y := bI false) rfl ?_
      exact zr_z hC hr hlk (by rfl) dX4_goOn_41
    · skip
      have e10 : 0 < j9 := Nat.pos_of_ne_zero (fun h => c10 ((z_pred (by omega)).mpr h))
      rw [show nI j9 - nI 1 = nI (j9 - 1) from pk_sub e10] at hl
      refine lv_aload_n hx hb dX4_goOn_13 rfl (lv_at hl 0 rfl) ?_
      refine z_get (k := 20) zcX4 hC hK hP 0 rfl (by decide) lF_X4_48 rfl dX4_goOn_14 ?_
      refine lv_iload_n hx hb dX4_goOn_17 rfl (lv_at hl 1 rfl) ?_
      refine z_ald hC hK hP 2 rfl (by omega) (by decide) dX4_goOn_18 ?_
      refine lv_aload_n hx hb dX4_goOn_19 rfl (lv_at hl 0 rfl) ?_
      refine z_get (k := 20) zcX4 hC hK hP 0 rfl (by decide) lF_X4_48 rfl dX4_goOn_20 ?_
      refine lv_iload_n hx hb dX4_goOn_23 rfl (lv_at hl 1 rfl) ?_
      refine lv_iconst (v := nI 1) hx hb dX4_goOn_24 (by decide) ?_
      refine zi_add hC dX4_goOn_25 ?_
      refine z_ald hC hK hP 2 rfl (by omega) (by decide) dX4_goOn_26 ?_
      have b27 := hdec (j9 - 1) (by omega)
      have b28 := hb6 (j9 - 1) (by omega)
      refine zc_le (tgt := 36) hC dX4_goOn_27 (by decide) (by omega) (by omega) (fun c27 => by exfalso; omega) (fun c27 => ?_)
      refine lv_iinc (v := nI (j9 - 1) - nI 1) (lv' := [(1, .int (nI (j9 - 1) - nI 1)), (0, .ref q)]) hx hb dX4_goOn_30 hl (k := 1) rfl (z_mI1 _) (by decide) rfl (fun ls hl => ?_)
      refine lv_goto (tgt := 9) hx hb dX4_goOn_33 (by decide) ?_
      exact ih9 (j9 - 1) (by omega) (j9 - 1) rfl (by omega) ls (lv_sub hl [1, 0] rfl)
  exact hL9 _ (dc 0 - 1) rfl (by omega) ls (lv_sub hl [1, 0] rfl)
set_option maxHeartbeats 1000000 in
set_option maxRecDepth 100000 in
theorem c_X4_goOn_t {l : Launch} {D : va_G} {cI cZ cB cR : ClassId} {q xtx ty xdc xdl xdb xar xac xwm xnd at9 sta sor val xnw xkp xta xtw td xhg : Nat} {tr : Int64} {fau : Int32} {dc hg : Nat → Nat} {i0 j0 : Nat}  (hn : dc 0 ≤ 6) (hb6 : ∀ i, i < 6 → hg i < 6) (hpv : pvO (dc 0) hg i0 j0) : mW l yX4_goOn cX4_goOn 6 (some .boolean) 0 0 D cI cZ cB cR [oM q tr xtx ty xdc xdl xdb xar xac xwm xnd at9 sta sor val fau xnw xkp xta xtw td xhg, aI cI xdc 2 dc, aI cI xhg 6 hg] [oM q tr xtx ty xdc xdl xdb xar xac xwm xnd at9 sta sor val fau xnw xkp xta xtw td xhg, aI cI xdc 2 dc, aI cI xhg 6 (nxt (dc 0) hg i0 j0)] [.ref q] (some (.int (bI true))) := by
  refine mW_of rfl (Nat.le_of_ble_eq_true rfl) ?_
  intro p e s m args below meth c hC hr hlk hK A hA hD H0 h0 hP hS ls hl
  have hP : va_P D vwCl [oM q tr xtx ty xdc xdl xdb xar xac xwm xnd at9 sta sor val fau xnw xkp xta xtw td xhg, aI cI xdc 2 dc, aI cI xhg 6 hg] H0 := hP
  have hl : lv_has ls 6 [(0, .ref q)] := hl
  obtain ⟨hx, hb, hml, hown, hts⟩ := id hC
  obtain ⟨hi0, hup, hdec, hij, hj0, hju, hjd⟩ := id hpv
  have q0 := hb6 i0 (by omega)
  refine lv_aload_n hx hb dX4_goOn_0 rfl (lv_at hl 0 rfl) ?_
  refine z_get (k := 3) zcX4 hC hK hP 0 rfl (by decide) lF_X4_13 rfl dX4_goOn_1 ?_
  refine lv_iconst (v := nI 0) hx hb dX4_goOn_4 (by decide) ?_
  refine z_ald hC hK hP 1 rfl (by omega) (by decide) dX4_goOn_5 ?_
  refine lv_iconst (v := nI 2) hx hb dX4_goOn_6 (by decide) ?_
  refine lv_isub hx hb dX4_goOn_7 ?_
  refine z_top (show ((nI (dc 0)) - (nI 2)) = nI (dc 0 - 1) - nI 1 from by exact z_sub2 (by omega)) ?_
  refine lv_istore_n (lv' := [(1, .int (nI (dc 0 - 1) - nI 1)), (0, .ref q)]) hx hb dX4_goOn_8 rfl hl (by decide) rfl (fun ls hl => ?_)
  have hL9 : ∀ (z9 : Nat) (j9 : Nat), j9 = z9 → (i0 + 1 ≤ j9 ∧ j9 ≤ dc 0 - 1) → ∀ ls : Array Slot, lv_has ls 6 [(0, .ref q), (1, .int (nI j9 - nI 1))] → W p l e { frames := 0, cells := 0, slots := 0, locals := 0 } s m args below meth c H0 [] 0 0 (MQ below (qW D [oM q tr xtx ty xdc xdl xdb xar xac xwm xnd at9 sta sor val fau xnw xkp xta xtw td xhg, aI cI xdc 2 dc, aI cI xhg 6 hg] [oM q tr xtx ty xdc xdl xdb xar xac xwm xnd at9 sta sor val fau xnw xkp xta xtw td xhg, aI cI xdc 2 dc, aI cI xhg 6 (nxt (dc 0) hg i0 j0)] (some (.int (bI true)))) args s 0 0 (zA [oM q tr xtx ty xdc xdl xdb xar xac xwm xnd at9 sta sor val fau xnw xkp xta xtw td xhg, aI cI xdc 2 dc, aI cI xhg 6 hg])) (F0 m 9 ls []) := by
    intro z9
    induction z9 using Nat.strongRecOn with
    | _ z9 ih9 =>
    intro j9 hz9 hj ls hl
    refine lv_iload_n hx hb dX4_goOn_9 rfl (lv_at hl 1 rfl) ?_
    refine lv_if_lt (tgt := 36) hx hb dX4_goOn_10 (by decide) (fun c10 => by exfalso; have := (z_pred (by omega)).mp c10; omega) (fun c10 => ?_)
    have e10 : 0 < j9 := Nat.pos_of_ne_zero (fun h => c10 ((z_pred (by omega)).mpr h))
    rw [show nI j9 - nI 1 = nI (j9 - 1) from pk_sub e10] at hl
    refine lv_aload_n hx hb dX4_goOn_13 rfl (lv_at hl 0 rfl) ?_
    refine z_get (k := 20) zcX4 hC hK hP 0 rfl (by decide) lF_X4_48 rfl dX4_goOn_14 ?_
    refine lv_iload_n hx hb dX4_goOn_17 rfl (lv_at hl 1 rfl) ?_
    refine z_ald hC hK hP 2 rfl (by omega) (by decide) dX4_goOn_18 ?_
    refine lv_aload_n hx hb dX4_goOn_19 rfl (lv_at hl 0 rfl) ?_
    refine z_get (k := 20) zcX4 hC hK hP 0 rfl (by decide) lF_X4_48 rfl dX4_goOn_20 ?_
    refine lv_iload_n hx hb dX4_goOn_23 rfl (lv_at hl 1 rfl) ?_
    refine lv_iconst (v := nI 1) hx hb dX4_goOn_24 (by decide) ?_
    refine zi_add hC dX4_goOn_25 ?_
    refine z_ald hC hK hP 2 rfl (by omega) (by decide) dX4_goOn_26 ?_
    have b27 := hb6 (j9 - 1) (by omega)
    have b28 := hb6 (j9 - 1 + 1) (by omega)
    refine zc_le (tgt := 36) hC dX4_goOn_27 (by decide) (by omega) (by omega) (fun c27 => ?_) (fun c27 => ?_)
    · skip
      have e27 : j9 - 1 = i0 := by
        rcases Nat.lt_or_ge i0 (j9 - 1) with h | h
        · have := hdec (j9 - 1) h (by omega)
          omega
        · omega
      rw [e27] at hl
      refine lv_iload_n hx hb dX4_goOn_36 rfl (lv_at hl 1 rfl) ?_
      refine z0_ge (tgt := 42) hC dX4_goOn_37 (by decide) (by omega) ?_
      refine lv_aload_n hx hb dX4_goOn_42 rfl (lv_at hl 0 rfl) ?_
      refine z_get (k := 3) zcX4 hC hK hP 0 rfl (by decide) lF_X4_13 rfl dX4_goOn_43 ?_
      refine lv_iconst (v := nI 0) hx hb dX4_goOn_46 (by decide) ?_
      refine z_ald hC hK hP 1 rfl (by omega) (by decide) dX4_goOn_47 ?_
      refine lv_iconst (v := nI 1) hx hb dX4_goOn_48 (by decide) ?_
      refine zi_sub hC dX4_goOn_49 (by omega) ?_
      refine lv_istore_n (lv' := [(2, .int (nI ((dc 0) - 1))), (0, .ref q), (1, .int (nI i0))]) hx hb dX4_goOn_50 rfl hl (by decide) rfl (fun ls hl => ?_)
      have hL51 : ∀ (z51 : Nat) (k9 : Nat), k9 = z51 → (j0 ≤ k9 ∧ k9 < dc 0) → ∀ ls : Array Slot, lv_has ls 6 [(0, .ref q), (1, .int (nI i0)), (2, .int (nI k9))] → W p l e { frames := 0, cells := 0, slots := 0, locals := 0 } s m args below meth c H0 [] 0 0 (MQ below (qW D [oM q tr xtx ty xdc xdl xdb xar xac xwm xnd at9 sta sor val fau xnw xkp xta xtw td xhg, aI cI xdc 2 dc, aI cI xhg 6 hg] [oM q tr xtx ty xdc xdl xdb xar xac xwm xnd at9 sta sor val fau xnw xkp xta xtw td xhg, aI cI xdc 2 dc, aI cI xhg 6 (nxt (dc 0) hg i0 j0)] (some (.int (bI true)))) args s 0 0 (zA [oM q tr xtx ty xdc xdl xdb xar xac xwm xnd at9 sta sor val fau xnw xkp xta xtw td xhg, aI cI xdc 2 dc, aI cI xhg 6 hg])) (F0 m 51 ls []) := by
        intro z51
        induction z51 using Nat.strongRecOn with
        | _ z51 ih51 =>
        intro k9 hz51 hk ls hl
        refine lv_aload_n hx hb dX4_goOn_51 rfl (lv_at hl 0 rfl) ?_
        refine z_get (k := 20) zcX4 hC hK hP 0 rfl (by decide) lF_X4_48 rfl dX4_goOn_52 ?_
        refine lv_iload_n hx hb dX4_goOn_55 rfl (lv_at hl 2 rfl) ?_
        refine z_ald hC hK hP 2 rfl (by omega) (by decide) dX4_goOn_56 ?_
        refine lv_aload_n hx hb dX4_goOn_57 rfl (lv_at hl 0 rfl) ?_
        refine z_get (k := 20) zcX4 hC hK hP 0 rfl (by decide) lF_X4_48 rfl dX4_goOn_58 ?_
        refine lv_iload_n hx hb dX4_goOn_61 rfl (lv_at hl 1 rfl) ?_
        refine z_ald hC hK hP 2 rfl (by omega) (by decide) dX4_goOn_62 ?_
        have b63 := hb6 k9 (by omega)
        refine zc_ge (tgt := 72) hC dX4_goOn_63 (by decide) (by omega) (by omega) (fun c63 => ?_) (fun c63 => ?_)
        · skip
          have e63 : k9 = j0 := by
            rcases Nat.lt_or_ge j0 k9 with h | h
            · have := hjd k9 h (by omega)
              omega
            · omega
          rw [e63] at hl
          refine lv_aload_n hx hb dX4_goOn_72 rfl (lv_at hl 0 rfl) ?_
          refine z_get (k := 20) zcX4 hC hK hP 0 rfl (by decide) lF_X4_48 rfl dX4_goOn_73 ?_
          refine lv_iload_n hx hb dX4_goOn_76 rfl (lv_at hl 1 rfl) ?_
          refine z_ald hC hK hP 2 rfl (by omega) (by decide) dX4_goOn_77 ?_
          refine lv_istore_n (lv' := [(3, .int (nI (hg i0))), (0, .ref q), (1, .int (nI i0)), (2, .int (nI j0))]) hx hb dX4_goOn_78 rfl hl (by decide) rfl (fun ls hl => ?_)
          refine lv_aload_n hx hb dX4_goOn_79 rfl (lv_at hl 1 rfl) ?_
          refine z_get (k := 20) zcX4 hC hK hP 0 rfl (by decide) lF_X4_48 rfl dX4_goOn_80 ?_
          refine lv_iload_n hx hb dX4_goOn_83 rfl (lv_at hl 2 rfl) ?_
          refine lv_aload_n hx hb dX4_goOn_84 rfl (lv_at hl 1 rfl) ?_
          refine z_get (k := 20) zcX4 hC hK hP 0 rfl (by decide) lF_X4_48 rfl dX4_goOn_85 ?_
          refine lv_iload_n hx hb dX4_goOn_88 rfl (lv_at hl 3 rfl) ?_
          refine z_ald hC hK hP 2 rfl (by omega) (by decide) dX4_goOn_89 ?_
          refine z_ast hC hK hP hD hS 2 rfl (by omega) (by decide) dX4_goOn_90 (fun H locs hP hD hS => ?_)
          have hP : va_P D vwCl [oM q tr xtx ty xdc xdl xdb xar xac xwm xnd at9 sta sor val fau xnw xkp xta xtw td xhg, aI cI xdc 2 dc, aI cI xhg 6 (updN hg i0 (hg j0))] H := hP
          have hD : va_D A [oM q tr xtx ty xdc xdl xdb xar xac xwm xnd at9 sta sor val fau xnw xkp xta xtw td xhg, aI cI xdc 2 dc, aI cI xhg 6 (updN hg i0 (hg j0))] := hD
          refine lv_aload_n hx hb dX4_goOn_91 rfl (lv_at hl 1 rfl) ?_
          refine z_get (k := 20) zcX4 hC hK hP 0 rfl (by decide) lF_X4_48 rfl dX4_goOn_92 ?_
          refine lv_iload_n hx hb dX4_goOn_95 rfl (lv_at hl 3 rfl) ?_
          refine lv_iload_n hx hb dX4_goOn_96 rfl (lv_at hl 0 rfl) ?_
          refine z_ast hC hK hP hD hS 2 rfl (by omega) (by decide) dX4_goOn_97 (fun H locs hP hD hS => ?_)
          have hP : va_P D vwCl [oM q tr xtx ty xdc xdl xdb xar xac xwm xnd at9 sta sor val fau xnw xkp xta xtw td xhg, aI cI xdc 2 dc, aI cI xhg 6 (updN (updN hg i0 (hg j0)) j0 (hg i0))] H := hP
          have hD : va_D A [oM q tr xtx ty xdc xdl xdb xar xac xwm xnd at9 sta sor val fau xnw xkp xta xtw td xhg, aI cI xdc 2 dc, aI cI xhg 6 (updN (updN hg i0 (hg j0)) j0 (hg i0))] := hD
          refine lv_iload_n hx hb dX4_goOn_98 rfl (lv_at hl 2 rfl) ?_
          refine lv_iconst (v := nI 1) hx hb dX4_goOn_99 (by decide) ?_
          refine zi_add hC dX4_goOn_100 ?_
          refine lv_istore (lv' := [(4, .int (nI (i0 + 1))), (3, .int (nI (hg i0))), (0, .ref q), (1, .int (nI i0)), (2, .int (nI j0))]) hx hb dX4_goOn_101 hl (by decide) rfl (fun ls hl => ?_)
          refine lv_aload_n hx hb dX4_goOn_103 rfl (lv_at hl 2 rfl) ?_
          refine z_get (k := 3) zcX4 hC hK hP 0 rfl (by decide) lF_X4_13 rfl dX4_goOn_104 ?_
          refine lv_iconst (v := nI 0) hx hb dX4_goOn_107 (by decide) ?_
          refine z_ald hC hK hP 1 rfl (by omega) (by decide) dX4_goOn_108 ?_
          refine lv_iconst (v := nI 1) hx hb dX4_goOn_109 (by decide) ?_
          refine zi_sub hC dX4_goOn_110 (by omega) ?_
          refine lv_istore (lv' := [(5, .int (nI ((dc 0) - 1))), (4, .int (nI (i0 + 1))), (3, .int (nI (hg i0))), (0, .ref q), (1, .int (nI i0)), (2, .int (nI j0))]) hx hb dX4_goOn_111 hl (by decide) rfl (fun ls hl => ?_)
          have hL113 : ∀ (z113 : Nat) (a9 : Nat) (b9 : Nat) (h9 : Nat → Nat), 6 - a9 = z113 → (a9 + b9 = i0 + dc 0 ∧ i0 + 1 ≤ a9 ∧ a9 ≤ b9 + 1 ∧ b9 < dc 0) → (h9 = rvS (swp hg i0 j0) (i0 + 1) (dc 0 - 1) (a9 - (i0 + 1))) → ∀ (H : Heap) (locs : List Loc), va_P D vwCl [oM q tr xtx ty xdc xdl xdb xar xac xwm xnd at9 sta sor val fau xnw xkp xta xtw td xhg, aI cI xdc 2 dc, aI cI xhg 6 h9] H → va_D A [oM q tr xtx ty xdc xdl xdb xar xac xwm xnd at9 sta sor val fau xnw xkp xta xtw td xhg, aI cI xdc 2 dc, aI cI xhg 6 h9] → va_S A H0 H locs → ∀ ls : Array Slot, lv_has ls 6 [(0, .ref q), (4, .int (nI a9)), (5, .int (nI b9))] → W p l e { frames := 0, cells := 0, slots := 0, locals := 0 } s m args below meth c H locs 0 0 (MQ below (qW D [oM q tr xtx ty xdc xdl xdb xar xac xwm xnd at9 sta sor val fau xnw xkp xta xtw td xhg, aI cI xdc 2 dc, aI cI xhg 6 hg] [oM q tr xtx ty xdc xdl xdb xar xac xwm xnd at9 sta sor val fau xnw xkp xta xtw td xhg, aI cI xdc 2 dc, aI cI xhg 6 (nxt (dc 0) hg i0 j0)] (some (.int (bI true)))) args s 0 0 (zA [oM q tr xtx ty xdc xdl xdb xar xac xwm xnd at9 sta sor val fau xnw xkp xta xtw td xhg, aI cI xdc 2 dc, aI cI xhg 6 hg])) (F0 m 113 ls []) := by
            intro z113
            induction z113 using Nat.strongRecOn with
            | _ z113 ih113 =>
            intro a9 b9 h9 hz113 hab hh9 H locs hP hD hS ls hl
            refine lv_iload hx hb dX4_goOn_113 (lv_at hl 1 rfl) ?_
            refine lv_iload hx hb dX4_goOn_115 (lv_at hl 2 rfl) ?_
            refine zc_ge (tgt := 159) hC dX4_goOn_117 (by decide) (by omega) (by omega) (fun c117 => ?_) (fun c117 => ?_)
            · skip
              refine lv_iconst (v := nI 1) hx hb dX4_goOn_159 (by decide) ?_
              refine z_top (y := bI true) rfl ?_
              exact zw_z hC hr hlk hA h0 (by unfold nxt; rw [← show a9 - (i0 + 1) = (dc 0 - 1 - i0) / 2 by omega, ← hh9]; exact hP) hS (by rfl) dX4_goOn_160
            · skip
              refine lv_aload_n hx hb dX4_goOn_120 rfl (lv_at hl 0 rfl) ?_
              refine z_get (k := 20) zcX4 hC hK hP 0 rfl (by decide) lF_X4_48 rfl dX4_goOn_121 ?_
              refine lv_iload hx hb dX4_goOn_124 (lv_at hl 1 rfl) ?_
              refine z_ald hC hK hP 2 rfl (by omega) (by decide) dX4_goOn_126 ?_
              refine lv_istore_n (lv' := [(3, .int (nI (h9 a9))), (0, .ref q), (4, .int (nI a9)), (5, .int (nI b9))]) hx hb dX4_goOn_127 rfl hl (by decide) rfl (fun ls hl => ?_)
              refine lv_aload_n hx hb dX4_goOn_128 rfl (lv_at hl 1 rfl) ?_
              refine z_get (k := 20) zcX4 hC hK hP 0 rfl (by decide) lF_X4_48 rfl dX4_goOn_129 ?_
              refine lv_iload hx hb dX4_goOn_132 (lv_at hl 2 rfl) ?_
              refine lv_aload_n hx hb dX4_goOn_134 rfl (lv_at hl 1 rfl) ?_
              refine z_get (k := 20) zcX4 hC hK hP 0 rfl (by decide) lF_X4_48 rfl dX4_goOn_135 ?_
              refine lv_iload hx hb dX4_goOn_138 (lv_at hl 3 rfl) ?_
              refine z_ald hC hK hP 2 rfl (by omega) (by decide) dX4_goOn_140 ?_
              refine z_ast hC hK hP hD hS 2 rfl (by omega) (by decide) dX4_goOn_141 (fun H locs hP hD hS => ?_)
              have hP : va_P D vwCl [oM q tr xtx ty xdc xdl xdb xar xac xwm xnd at9 sta sor val fau xnw xkp xta xtw td xhg, aI cI xdc 2 dc, aI cI xhg 6 (updN h9 a9 (h9 b9))] H := hP
              have hD : va_D A [oM q tr xtx ty xdc xdl xdb xar xac xwm xnd at9 sta sor val fau xnw xkp xta xtw td xhg, aI cI xdc 2 dc, aI cI xhg 6 (updN h9 a9 (h9 b9))] := hD
              refine lv_aload_n hx hb dX4_goOn_142 rfl (lv_at hl 1 rfl) ?_
              refine z_get (k := 20) zcX4 hC hK hP 0 rfl (by decide) lF_X4_48 rfl dX4_goOn_143 ?_
              refine lv_iload hx hb dX4_goOn_146 (lv_at hl 3 rfl) ?_
              refine lv_iload_n hx hb dX4_goOn_148 rfl (lv_at hl 0 rfl) ?_
              refine z_ast hC hK hP hD hS 2 rfl (by omega) (by decide) dX4_goOn_149 (fun H locs hP hD hS => ?_)
              have hP : va_P D vwCl [oM q tr xtx ty xdc xdl xdb xar xac xwm xnd at9 sta sor val fau xnw xkp xta xtw td xhg, aI cI xdc 2 dc, aI cI xhg 6 (updN (updN h9 a9 (h9 b9)) b9 (h9 a9))] H := hP
              have hD : va_D A [oM q tr xtx ty xdc xdl xdb xar xac xwm xnd at9 sta sor val fau xnw xkp xta xtw td xhg, aI cI xdc 2 dc, aI cI xhg 6 (updN (updN h9 a9 (h9 b9)) b9 (h9 a9))] := hD
              refine lv_iinc (v := nI (a9 + 1)) (lv' := [(4, .int (nI (a9 + 1))), (3, .int (nI (h9 a9))), (0, .ref q), (5, .int (nI b9))]) hx hb dX4_goOn_150 hl (k := 2) rfl (z_inc a9 1) (by decide) rfl (fun ls hl => ?_)
              refine lv_iinc (v := nI (b9 - 1)) (lv' := [(5, .int (nI (b9 - 1))), (4, .int (nI (a9 + 1))), (3, .int (nI (h9 a9))), (0, .ref q)]) hx hb dX4_goOn_153 hl (k := 3) rfl (z_dec1 (by omega)) (by decide) rfl (fun ls hl => ?_)
              refine lv_goto (tgt := 113) hx hb dX4_goOn_156 (by decide) ?_
              exact ih113 (6 - (a9 + 1)) (by omega) (a9 + 1) (b9 - 1) (updN (updN h9 a9 (h9 b9)) b9 (h9 a9)) rfl (by omega) (by rw [show a9 + 1 - (i0 + 1) = a9 - (i0 + 1) + 1 by omega, rvS_s, ← hh9, show i0 + 1 + (a9 - (i0 + 1)) = a9 by omega, show dc 0 - 1 - (a9 - (i0 + 1)) = b9 by omega]; rfl) _ _ hP hD hS ls (lv_sub hl [3, 1, 0] rfl)
          exact hL113 _ (i0 + 1) ((dc 0) - 1) (updN (updN hg i0 (hg j0)) j0 (hg i0)) rfl (by omega) (by rw [Nat.sub_self]; rfl) _ _ hP hD hS ls (lv_sub hl [3, 1, 0] rfl)
        · skip
          have e63 : k9 ≠ j0 := fun h => by rw [h] at c63; omega
          refine lv_iinc (v := nI (k9 - 1)) (lv' := [(2, .int (nI (k9 - 1))), (0, .ref q), (1, .int (nI i0))]) hx hb dX4_goOn_66 hl (k := 2) rfl (z_dec1 (by omega)) (by decide) rfl (fun ls hl => ?_)
          refine lv_goto (tgt := 51) hx hb dX4_goOn_69 (by decide) ?_
          exact ih51 (k9 - 1) (by omega) (k9 - 1) rfl (by omega) ls (lv_sub hl [1, 2, 0] rfl)
      exact hL51 _ ((dc 0) - 1) rfl (by omega) ls (lv_sub hl [1, 2, 0] rfl)
    · skip
      have e27 : j9 - 1 ≠ i0 := fun h => by rw [h] at c27; omega
      refine lv_iinc (v := nI (j9 - 1) - nI 1) (lv' := [(1, .int (nI (j9 - 1) - nI 1)), (0, .ref q)]) hx hb dX4_goOn_30 hl (k := 1) rfl (z_mI1 _) (by decide) rfl (fun ls hl => ?_)
      refine lv_goto (tgt := 9) hx hb dX4_goOn_33 (by decide) ?_
      exact ih9 (j9 - 1) (by omega) (j9 - 1) rfl (by omega) ls (lv_sub hl [1, 0] rfl)
  exact hL9 _ (dc 0 - 1) rfl (by omega) ls (lv_sub hl [1, 0] rfl)
set_option maxHeartbeats 1000000 in
set_option maxRecDepth 100000 in
theorem c_X4_isAsTold {l : Launch} {D : va_G} {cI cZ cB cR : ClassId} {q xtx ty xdc xdl xdb xar xac xwm xnd at9 sta sor val xnw xkp xta xtw td xhg : Nat} {tr : Int64} {fau : Int32} {dc nd ta tw hg : Nat → Nat} {T9 : Nat → Bool} {g : Bool}  (hn : dc 0 ≤ 6) (hnd : ∀ i, nd i ≤ 9) (htd : td ≤ 6) (hta : ∀ i, ta i < 5) (htw : ∀ i, tw i < 2) (hb6 : ∀ i, i < 6 → hg i < 6) (hT : ∀ k, k < td → (T9 k = true ↔ ∀ d, d < dc 0 → nd (6 * ta k + d) = 0 ∨ hg d = d)) (hg9 : g = true ↔ ∀ k, k < td → T9 k = decide (tw k = 1)) : mR l yX4_isAsTold cX4_isAsTold 5 (some .boolean) 1 22 D cI cZ cB cR [oM q tr xtx ty xdc xdl xdb xar xac xwm xnd at9 sta sor val fau xnw xkp xta xtw td xhg, aI cI xdc 2 dc, aI cI xnd 60 nd, aI cI xta 6 ta, aI cI xtw 6 tw, aI cI xhg 6 hg] [.ref q] (some (.int (bI g))) := by
  refine mR_of rfl (Nat.le_of_ble_eq_true rfl) ?_
  intro p e s m args below meth c hC hr hlk hK hP ls hl
  have hl : lv_has ls 5 [(0, .ref q)] := hl
  obtain ⟨hx, hb, hml, hown, hts⟩ := id hC
  refine lv_iconst (v := nI 1) hx hb dX4_isAsTold_0 (by decide) ?_
  refine lv_istore_n (lv' := [(1, .int (nI 1)), (0, .ref q)]) hx hb dX4_isAsTold_1 rfl hl (by decide) rfl (fun ls hl => ?_)
  refine lv_iconst (v := nI 0) hx hb dX4_isAsTold_2 (by decide) ?_
  refine lv_istore_n (lv' := [(2, .int (nI 0)), (1, .int (nI 1)), (0, .ref q)]) hx hb dX4_isAsTold_3 rfl hl (by decide) rfl (fun ls hl => ?_)
  have hL4 : ∀ (z4 : Nat) (k8 : Nat) (b8 : Bool), td - k8 = z4 → (k8 ≤ td) → (b8 = true ↔ ∀ i, i < k8 → T9 i = decide (tw i = 1)) → ∀ ls : Array Slot, lv_has ls 5 [(0, .ref q), (1, .int (bI b8)), (2, .int (nI k8))] → W p l e { frames := 1, cells := 0, slots := 0, locals := 22 } s m args below meth c s.heap [] 0 0 (MQ below (qR (some (.int (bI g)))) args s 0 0 (fun _ => False)) (F0 m 4 ls []) := by
    intro z4
    induction z4 using Nat.strongRecOn with
    | _ z4 ih4 =>
    intro k8 b8 hz4 hk hb8 ls hl
    refine lv_iload_n hx hb dX4_isAsTold_4 rfl (lv_at hl 2 rfl) ?_
    refine lv_aload_n hx hb dX4_isAsTold_5 rfl (lv_at hl 0 rfl) ?_
    refine z_get (k := 19) zcX4 hC hK hP 0 rfl (by decide) lF_X4_98 rfl dX4_isAsTold_6 ?_
    refine zc_ge (tgt := 106) hC dX4_isAsTold_9 (by decide) (by omega) (by omega) (fun c9 => ?_) (fun c9 => ?_)
    · skip
      refine lv_iload_n hx hb dX4_isAsTold_106 rfl (lv_at hl 1 rfl) ?_
      exact zr_z hC hr hlk (by have e : k8 = td := (by omega); rw [e] at hb8; cases b8 <;> cases g <;> first | rfl | exact absurd (hg9.mpr (hb8.mp rfl)) (by decide) | exact absurd (hb8.mpr (hg9.mp rfl)) (by decide)) dX4_isAsTold_107
    · skip
      refine lv_iconst (v := nI 1) hx hb dX4_isAsTold_12 (by decide) ?_
      refine lv_istore_n (lv' := [(3, .int (nI 1)), (0, .ref q), (1, .int (bI b8)), (2, .int (nI k8))]) hx hb dX4_isAsTold_13 rfl hl (by decide) rfl (fun ls hl => ?_)
      refine lv_iconst (v := nI 0) hx hb dX4_isAsTold_14 (by decide) ?_
      refine lv_istore (lv' := [(4, .int (nI 0)), (3, .int (nI 1)), (0, .ref q), (1, .int (bI b8)), (2, .int (nI k8))]) hx hb dX4_isAsTold_15 hl (by decide) rfl (fun ls hl => ?_)
      have hL17 : ∀ (z17 : Nat) (q8 : Nat) (b9 : Bool), dc 0 - q8 = z17 → (q8 ≤ dc 0) → (b9 = true ↔ ∀ i, i < q8 → nd (6 * ta k8 + i) = 0 ∨ hg i = i) → ∀ ls : Array Slot, lv_has ls 5 [(0, .ref q), (1, .int (bI b8)), (2, .int (nI k8)), (3, .int (bI b9)), (4, .int (nI q8))] → W p l e { frames := 1, cells := 0, slots := 0, locals := 22 } s m args below meth c s.heap [] 0 0 (MQ below (qR (some (.int (bI g)))) args s 0 0 (fun _ => False)) (F0 m 17 ls []) := by
        intro z17
        induction z17 using Nat.strongRecOn with
        | _ z17 ih17 =>
        intro q8 b9 hz17 hq hb9 ls hl
        refine lv_iload hx hb dX4_isAsTold_17 (lv_at hl 4 rfl) ?_
        refine lv_aload_n hx hb dX4_isAsTold_19 rfl (lv_at hl 0 rfl) ?_
        refine z_get (k := 3) zcX4 hC hK hP 0 rfl (by decide) lF_X4_13 rfl dX4_isAsTold_20 ?_
        refine lv_iconst (v := nI 0) hx hb dX4_isAsTold_23 (by decide) ?_
        refine z_ald hC hK hP 1 rfl (by omega) (by decide) dX4_isAsTold_24 ?_
        refine zc_ge (tgt := 71) hC dX4_isAsTold_25 (by decide) (by omega) (by omega) (fun c25 => ?_) (fun c25 => ?_)
        · skip
          have e25 : q8 = dc 0 := by omega
          rw [e25] at hb9
          have eT : b9 = T9 k8 := Bool.eq_iff_iff.mpr (hb9.trans (hT k8 (by omega)).symm)
          have hJ99 : ∀ (i9 : Bool), True → (i9 = true ↔ ∀ i, i < k8 + 1 → T9 i = decide (tw i = 1)) → ∀ ls : Array Slot, lv_has ls 5 [(0, .ref q), (2, .int (nI k8))] → W p l e { frames := 1, cells := 0, slots := 0, locals := 22 } s m args below meth c s.heap [] 0 0 (MQ below (qR (some (.int (bI g)))) args s 0 0 (fun _ => False)) (F0 m 99 ls [.int (bI i9)]) := by
            intro i9 _ hi9 ls hl
            refine lv_istore_n (lv' := [(1, .int (bI i9)), (0, .ref q), (2, .int (nI k8))]) hx hb dX4_isAsTold_99 rfl hl (by decide) rfl (fun ls hl => ?_)
            refine lv_iinc (v := nI (k8 + 1)) (lv' := [(2, .int (nI (k8 + 1))), (1, .int (bI i9)), (0, .ref q)]) hx hb dX4_isAsTold_100 hl (k := 2) rfl (z_inc k8 1) (by decide) rfl (fun ls hl => ?_)
            refine lv_goto (tgt := 4) hx hb dX4_isAsTold_103 (by decide) ?_
            exact ih4 (td - (k8 + 1)) (by omega) (k8 + 1) i9 rfl (by omega) (by exact hi9) ls (lv_sub hl [2, 1, 0] rfl)
          refine lv_iload_n hx hb dX4_isAsTold_71 rfl (lv_at hl 1 rfl) ?_
          refine zb_eq (tgt := 98) hC dX4_isAsTold_72 (by decide) (fun c72 => ?_) (fun c72 => ?_)
          · skip
            refine lv_iconst (v := nI 0) hx hb dX4_isAsTold_98 (by decide) ?_
            exact hJ99 false trivial (by exact all_f1 (P := (fun k => T9 k = decide (tw k = 1))) hb8 c72) ls (lv_sub hl [0, 2] rfl)
          · skip
            refine lv_iload_n hx hb dX4_isAsTold_75 rfl (lv_at hl 3 rfl) ?_
            refine lv_aload_n hx hb dX4_isAsTold_76 rfl (lv_at hl 0 rfl) ?_
            refine z_get (k := 18) zcX4 hC hK hP 0 rfl (by decide) lF_X4_45 rfl dX4_isAsTold_77 ?_
            refine lv_iload_n hx hb dX4_isAsTold_80 rfl (lv_at hl 2 rfl) ?_
            refine z_ald hC hK hP 4 rfl (by omega) (by decide) dX4_isAsTold_81 ?_
            have b81 := htw k8
            refine lv_iconst (v := nI 1) hx hb dX4_isAsTold_82 (by decide) ?_
            refine zc_ne (tgt := 90) hC dX4_isAsTold_83 (by decide) (by omega) (by omega) (fun c83 => ?_) (fun c83 => ?_)
            · skip
              refine lv_iconst (v := nI 0) hx hb dX4_isAsTold_90 (by decide) ?_
              refine lv_icmp_ne (tgt := 98) hx hb dX4_isAsTold_91 (by decide) (fun c91 => ?_) (fun c91 => ?_)
              · skip
                refine lv_iconst (v := nI 0) hx hb dX4_isAsTold_98 (by decide) ?_
                exact hJ99 false trivial (by exact all_f2 (P := (fun k => T9 k = decide (tw k = 1))) (fun h => by have h2 : T9 k8 = decide (tw k8 = 1) := h; rw [decide_eq_false c83, ← eT] at h2; exact c91 (by rw [h2]; rfl))) ls (lv_sub hl [0, 2] rfl)
              · skip
                refine lv_iconst (v := nI 1) hx hb dX4_isAsTold_94 (by decide) ?_
                refine lv_goto (tgt := 99) hx hb dX4_isAsTold_95 (by decide) ?_
                exact hJ99 true trivial (by exact all_t (P := (fun k => T9 k = decide (tw k = 1))) hb8 c72 (by show T9 k8 = decide (tw k8 = 1); rw [decide_eq_false c83, ← eT]; cases b9 <;> first | rfl | exact absurd c91 (by decide))) ls (lv_sub hl [0, 2] rfl)
            · skip
              refine lv_iconst (v := nI 1) hx hb dX4_isAsTold_86 (by decide) ?_
              refine lv_goto (tgt := 91) hx hb dX4_isAsTold_87 (by decide) ?_
              refine lv_icmp_ne (tgt := 98) hx hb dX4_isAsTold_91 (by decide) (fun c91 => ?_) (fun c91 => ?_)
              · skip
                refine lv_iconst (v := nI 0) hx hb dX4_isAsTold_98 (by decide) ?_
                exact hJ99 false trivial (by exact all_f2 (P := (fun k => T9 k = decide (tw k = 1))) (fun h => by have h2 : T9 k8 = decide (tw k8 = 1) := h; rw [decide_eq_true c83, ← eT] at h2; exact c91 (by rw [h2]; rfl))) ls (lv_sub hl [0, 2] rfl)
              · skip
                refine lv_iconst (v := nI 1) hx hb dX4_isAsTold_94 (by decide) ?_
                refine lv_goto (tgt := 99) hx hb dX4_isAsTold_95 (by decide) ?_
                exact hJ99 true trivial (by exact all_t (P := (fun k => T9 k = decide (tw k = 1))) hb8 c72 (by show T9 k8 = decide (tw k8 = 1); rw [decide_eq_true c83, ← eT]; cases b9 <;> first | rfl | exact absurd c91 (by decide))) ls (lv_sub hl [0, 2] rfl)
        · skip
          have hJ64 : ∀ (j9 : Bool), True → (j9 = true ↔ ∀ i, i < q8 + 1 → nd (6 * ta k8 + i) = 0 ∨ hg i = i) → ∀ ls : Array Slot, lv_has ls 5 [(0, .ref q), (1, .int (bI b8)), (2, .int (nI k8)), (4, .int (nI q8))] → W p l e { frames := 1, cells := 0, slots := 0, locals := 22 } s m args below meth c s.heap [] 0 0 (MQ below (qR (some (.int (bI g)))) args s 0 0 (fun _ => False)) (F0 m 64 ls [.int (bI j9)]) := by
            intro j9 _ hj9 ls hl
            refine lv_istore_n (lv' := [(3, .int (bI j9)), (0, .ref q), (1, .int (bI b8)), (2, .int (nI k8)), (4, .int (nI q8))]) hx hb dX4_isAsTold_64 rfl hl (by decide) rfl (fun ls hl => ?_)
            refine lv_iinc (v := nI (q8 + 1)) (lv' := [(4, .int (nI (q8 + 1))), (3, .int (bI j9)), (0, .ref q), (1, .int (bI b8)), (2, .int (nI k8))]) hx hb dX4_isAsTold_65 hl (k := 4) rfl (z_inc q8 1) (by decide) rfl (fun ls hl => ?_)
            refine lv_goto (tgt := 17) hx hb dX4_isAsTold_68 (by decide) ?_
            exact ih17 (dc 0 - (q8 + 1)) (by omega) (q8 + 1) j9 rfl (by omega) (by exact hj9) ls (lv_sub hl [2, 3, 4, 1, 0] rfl)
          refine lv_iload_n hx hb dX4_isAsTold_28 rfl (lv_at hl 3 rfl) ?_
          refine zb_eq (tgt := 63) hC dX4_isAsTold_29 (by decide) (fun c29 => ?_) (fun c29 => ?_)
          · skip
            refine lv_iconst (v := nI 0) hx hb dX4_isAsTold_63 (by decide) ?_
            exact hJ64 false trivial (by exact all_f1 (P := (fun d => nd (6 * ta k8 + d) = 0 ∨ hg d = d)) hb9 c29) ls (lv_sub hl [0, 1, 2, 4] rfl)
          · skip
            refine lv_aload_n hx hb dX4_isAsTold_32 rfl (lv_at hl 0 rfl) ?_
            refine lv_aload_n hx hb dX4_isAsTold_33 rfl (lv_at hl 0 rfl) ?_
            refine z_get (k := 17) zcX4 hC hK hP 0 rfl (by decide) lF_X4_42 rfl dX4_isAsTold_34 ?_
            refine lv_iload_n hx hb dX4_isAsTold_37 rfl (lv_at hl 2 rfl) ?_
            refine z_ald hC hK hP 3 rfl (by omega) (by decide) dX4_isAsTold_38 ?_
            refine lv_iload hx hb dX4_isAsTold_39 (lv_at hl 4 rfl) ?_
            refine zRV (As := [.int (nI (ta k8)), .int (nI q8)]) (b := q) (rest := []) hC (c_X4_needOf (l := l) (ha := hta k8) (hd := by omega)) lM_X4_116 vM_X4_needOf (by decide) hK hP [0, 2] rfl ⟨rfl, rfl, rfl⟩ rfl hl.1 rfl (Nat.le_of_ble_eq_true rfl) dX4_isAsTold_41 (by decide) ?_
            show W _ _ _ _ _ _ _ _ _ _ _ _ _ _ _ (F0 m 44 ls [.int (nI (nd (6 * ta k8 + q8)))])
            have b44 := hnd (6 * ta k8 + q8)
            refine z0_eq (tgt := 59) hC dX4_isAsTold_44 (by decide) (by omega) (fun c44 => ?_) (fun c44 => ?_)
            · skip
              refine lv_iconst (v := nI 1) hx hb dX4_isAsTold_59 (by decide) ?_
              refine lv_goto (tgt := 64) hx hb dX4_isAsTold_60 (by decide) ?_
              exact hJ64 true trivial (by exact all_t (P := (fun d => nd (6 * ta k8 + d) = 0 ∨ hg d = d)) hb9 c29 (Or.inl c44)) ls (lv_sub hl [0, 1, 2, 4] rfl)
            · skip
              refine lv_aload_n hx hb dX4_isAsTold_47 rfl (lv_at hl 0 rfl) ?_
              refine z_get (k := 20) zcX4 hC hK hP 0 rfl (by decide) lF_X4_48 rfl dX4_isAsTold_48 ?_
              refine lv_iload hx hb dX4_isAsTold_51 (lv_at hl 4 rfl) ?_
              refine z_ald hC hK hP 5 rfl (by omega) (by decide) dX4_isAsTold_53 ?_
              refine lv_iload hx hb dX4_isAsTold_54 (lv_at hl 4 rfl) ?_
              have b56 := hb6 q8 (by omega)
              refine zc_ne (tgt := 63) hC dX4_isAsTold_56 (by decide) (by omega) (by omega) (fun c56 => ?_) (fun c56 => ?_)
              · skip
                refine lv_iconst (v := nI 0) hx hb dX4_isAsTold_63 (by decide) ?_
                exact hJ64 false trivial (by exact all_f2 (P := (fun d => nd (6 * ta k8 + d) = 0 ∨ hg d = d)) (fun h => by rcases h with h | h; omega; exact c56 h)) ls (lv_sub hl [0, 1, 2, 4] rfl)
              · skip
                refine lv_iconst (v := nI 1) hx hb dX4_isAsTold_59 (by decide) ?_
                refine lv_goto (tgt := 64) hx hb dX4_isAsTold_60 (by decide) ?_
                exact hJ64 true trivial (by exact all_t (P := (fun d => nd (6 * ta k8 + d) = 0 ∨ hg d = d)) hb9 c29 (Or.inr c56)) ls (lv_sub hl [0, 1, 2, 4] rfl)
      exact hL17 _ 0 true rfl (by omega) (by exact all_0) ls (lv_sub hl [2, 3, 4, 1, 0] rfl)
  exact hL4 _ 0 true rfl (by omega) (by exact all_0) ls (lv_sub hl [2, 1, 0] rfl)
set_option maxHeartbeats 1000000 in
set_option maxRecDepth 100000 in
theorem c_X4_fits_all {l : Launch} {D : va_G} {cI cZ cB cR : ClassId} {q xtx ty xdc xdl xdb xar xac xwm xnd at9 sta sor val xnw xkp xta xtw td xhg : Nat} {tr : Int64} {fau : Int32} {dc nd ta tw hg : Nat → Nat} {N9 : Nat} {L9 : Nat → Nat → Nat} {T9 : Nat → Nat → Bool} {U9 : Nat → Bool}  (hn : dc 0 ≤ 6) (hnd : ∀ i, nd i ≤ 9) (htd : td ≤ 6) (hta : ∀ i, ta i < 5) (htw : ∀ i, tw i < 2) (hN : 1 ≤ N9 ∧ N9 ≤ 720) (hL0 : L9 0 = blk hg 0 6 (fun k => k)) (hLb : ∀ i, i < N9 → ∀ j, j < 6 → L9 i j < 6) (hLs : ∀ i, i + 1 < N9 → ∃ i0 j0, pvO (dc 0) (L9 i) i0 j0 ∧ L9 (i + 1) = nxt (dc 0) (L9 i) i0 j0) (hLe : dc 0 = 0 ∨ (1 ≤ dc 0 ∧ ∀ i, i + 1 < dc 0 → L9 (N9 - 1) (i + 1) < L9 (N9 - 1) i)) (hT : ∀ i k, i < N9 → k < td → (T9 i k = true ↔ ∀ d, d < dc 0 → nd (6 * ta k + d) = 0 ∨ L9 i d = d)) (hU : ∀ i, i < N9 → (U9 i = true ↔ ∀ k, k < td → T9 i k = decide (tw k = 1)))  : mW l yX4_fits cX4_fits 7 (some .int) 2 46 D cI cZ cB cR [oM q tr xtx ty xdc xdl xdb xar xac xwm xnd at9 sta sor val fau xnw xkp xta xtw td xhg, aI cI xdc 2 dc, aI cI xnd 60 nd, aI cI xta 6 ta, aI cI xtw 6 tw, aI cI xhg 6 hg] [oM q tr xtx ty xdc xdl xdb xar xac xwm xnd at9 sta sor val fau xnw xkp xta xtw td xhg, aI cI xdc 2 dc, aI cI xnd 60 nd, aI cI xta 6 ta, aI cI xtw 6 tw, aI cI xhg 6 (L9 (N9 - 1))] [.ref q, .int (-1)] (some (.int (nI (ftS U9 (fun _ => 0) N9).1))) := by
  refine mW_of rfl (Nat.le_of_ble_eq_true rfl) ?_
  intro p e s m args below meth c hC hr hlk hK A hA hD H0 h0 hP hS ls hl
  have hP : va_P D vwCl [oM q tr xtx ty xdc xdl xdb xar xac xwm xnd at9 sta sor val fau xnw xkp xta xtw td xhg, aI cI xdc 2 dc, aI cI xnd 60 nd, aI cI xta 6 ta, aI cI xtw 6 tw, aI cI xhg 6 hg] H0 := hP
  have hl : lv_has ls 7 [(0, .ref q), (1, .int (-1))] := hl
  obtain ⟨hx, hb, hml, hown, hts⟩ := id hC
  refine lv_iload_n hx hb dX4_fits_0 rfl (lv_at hl 1 rfl) ?_
  refine lv_iconst (v := (-1)) hx hb dX4_fits_1 (by decide) ?_
  refine lv_icmp_eq (tgt := 15) hx hb dX4_fits_2 (by decide) (fun c2 => ?_) (fun c2 => by exfalso; exact c2 rfl)
  refine lv_iconst (v := nI 0) hx hb dX4_fits_15 (by decide) ?_
  refine lv_istore_n (lv' := [(2, .int (nI 0)), (0, .ref q), (1, .int (-1))]) hx hb dX4_fits_16 rfl hl (by decide) rfl (fun ls hl => ?_)
  have hL17 : ∀ (z17 : Nat) (i8 : Nat) (n8 : Nat → Nat), 6 - i8 = z17 → (i8 ≤ 6) → (n8 = blk hg 0 i8 (fun k => k)) → ∀ (H : Heap) (locs : List Loc), va_P D vwCl [oM q tr xtx ty xdc xdl xdb xar xac xwm xnd at9 sta sor val fau xnw xkp xta xtw td xhg, aI cI xdc 2 dc, aI cI xnd 60 nd, aI cI xta 6 ta, aI cI xtw 6 tw, aI cI xhg 6 n8] H → va_D A [oM q tr xtx ty xdc xdl xdb xar xac xwm xnd at9 sta sor val fau xnw xkp xta xtw td xhg, aI cI xdc 2 dc, aI cI xnd 60 nd, aI cI xta 6 ta, aI cI xtw 6 tw, aI cI xhg 6 n8] → va_S A H0 H locs → ∀ ls : Array Slot, lv_has ls 7 [(0, .ref q), (1, .int (-1)), (2, .int (nI i8))] → W p l e { frames := 2, cells := 0, slots := 0, locals := 46 } s m args below meth c H locs 0 0 (MQ below (qW D [oM q tr xtx ty xdc xdl xdb xar xac xwm xnd at9 sta sor val fau xnw xkp xta xtw td xhg, aI cI xdc 2 dc, aI cI xnd 60 nd, aI cI xta 6 ta, aI cI xtw 6 tw, aI cI xhg 6 hg] [oM q tr xtx ty xdc xdl xdb xar xac xwm xnd at9 sta sor val fau xnw xkp xta xtw td xhg, aI cI xdc 2 dc, aI cI xnd 60 nd, aI cI xta 6 ta, aI cI xtw 6 tw, aI cI xhg 6 (L9 (N9 - 1))] (some (.int (nI (ftS U9 (fun _ => 0) N9).1)))) args s 0 0 (zA [oM q tr xtx ty xdc xdl xdb xar xac xwm xnd at9 sta sor val fau xnw xkp xta xtw td xhg, aI cI xdc 2 dc, aI cI xnd 60 nd, aI cI xta 6 ta, aI cI xtw 6 tw, aI cI xhg 6 hg])) (F0 m 17 ls []) := by
    intro z17
    induction z17 using Nat.strongRecOn with
    | _ z17 ih17 =>
    intro i8 n8 hz17 hi hn8 H locs hP hD hS ls hl
    refine lv_iload_n hx hb dX4_fits_17 rfl (lv_at hl 2 rfl) ?_
    refine lv_bipush (v := nI 6) hx hb dX4_fits_18 (by decide) ?_
    refine zc_ge (tgt := 36) hC dX4_fits_20 (by decide) (by omega) (by omega) (fun c20 => ?_) (fun c20 => ?_)
    · skip
      refine lv_iconst (v := nI 0) hx hb dX4_fits_36 (by decide) ?_
      refine lv_istore_n (lv' := [(2, .int (nI 0)), (0, .ref q), (1, .int (-1))]) hx hb dX4_fits_37 rfl hl (by decide) rfl (fun ls hl => ?_)
      refine lv_bipush (v := (-9)) hx hb dX4_fits_38 (by decide) ?_
      refine lv_istore_n (lv' := [(3, .int (-9)), (2, .int (nI 0)), (0, .ref q), (1, .int (-1))]) hx hb dX4_fits_40 rfl hl (by decide) rfl (fun ls hl => ?_)
      refine lv_iconst (v := nI 1) hx hb dX4_fits_41 (by decide) ?_
      refine lv_istore (lv' := [(4, .int (nI 1)), (3, .int (-9)), (2, .int (nI 0)), (0, .ref q), (1, .int (-1))]) hx hb dX4_fits_42 hl (by decide) rfl (fun ls hl => ?_)
      refine lv_iconst (v := nI 1) hx hb dX4_fits_44 (by decide) ?_
      refine lv_istore (lv' := [(5, .int (nI 1)), (4, .int (nI 1)), (3, .int (-9)), (2, .int (nI 0)), (0, .ref q), (1, .int (-1))]) hx hb dX4_fits_45 hl (by decide) rfl (fun ls hl => ?_)
      have hL47 : ∀ (z47 : Nat) (i9 : Nat) (n9 : Nat) (s9 : Int32) (a9 : Bool) (m9 : Bool) (h9 : Nat → Nat), N9 - i9 = z47 → (m9 = true → i9 < N9 ∧ h9 = L9 i9) → (m9 = false → i9 = N9 ∧ h9 = L9 (N9 - 1)) → (n9 = (ftS U9 (fun i => 0) i9).1) → (s9 = (ftS U9 (fun i => 0) i9).2.1) → (a9 = (ftS U9 (fun i => 0) i9).2.2) → ∀ (H : Heap) (locs : List Loc), va_P D vwCl [oM q tr xtx ty xdc xdl xdb xar xac xwm xnd at9 sta sor val fau xnw xkp xta xtw td xhg, aI cI xdc 2 dc, aI cI xnd 60 nd, aI cI xta 6 ta, aI cI xtw 6 tw, aI cI xhg 6 h9] H → va_D A [oM q tr xtx ty xdc xdl xdb xar xac xwm xnd at9 sta sor val fau xnw xkp xta xtw td xhg, aI cI xdc 2 dc, aI cI xnd 60 nd, aI cI xta 6 ta, aI cI xtw 6 tw, aI cI xhg 6 h9] → va_S A H0 H locs → ∀ ls : Array Slot, lv_has ls 7 [(0, .ref q), (1, .int (-1)), (2, .int (nI n9)), (3, .int s9), (4, .int (bI a9)), (5, .int (bI m9))] → W p l e { frames := 2, cells := 0, slots := 0, locals := 46 } s m args below meth c H locs 0 0 (MQ below (qW D [oM q tr xtx ty xdc xdl xdb xar xac xwm xnd at9 sta sor val fau xnw xkp xta xtw td xhg, aI cI xdc 2 dc, aI cI xnd 60 nd, aI cI xta 6 ta, aI cI xtw 6 tw, aI cI xhg 6 hg] [oM q tr xtx ty xdc xdl xdb xar xac xwm xnd at9 sta sor val fau xnw xkp xta xtw td xhg, aI cI xdc 2 dc, aI cI xnd 60 nd, aI cI xta 6 ta, aI cI xtw 6 tw, aI cI xhg 6 (L9 (N9 - 1))] (some (.int (nI (ftS U9 (fun _ => 0) N9).1)))) args s 0 0 (zA [oM q tr xtx ty xdc xdl xdb xar xac xwm xnd at9 sta sor val fau xnw xkp xta xtw td xhg, aI cI xdc 2 dc, aI cI xnd 60 nd, aI cI xta 6 ta, aI cI xtw 6 tw, aI cI xhg 6 hg])) (F0 m 47 ls []) := by
        intro z47
        induction z47 using Nat.strongRecOn with
        | _ z47 ih47 =>
        intro i9 n9 s9 a9 m9 h9 hz47 hm hm2 hn9 hs9 ha9 H locs hP hD hS ls hl
        refine lv_iload hx hb dX4_fits_47 (lv_at hl 5 rfl) ?_
        refine zb_eq (tgt := 113) hC dX4_fits_49 (by decide) (fun c49 => ?_) (fun c49 => ?_)
        · skip
          have e48 := (hm2 c49).1
          have e49 := (hm2 c49).2
          have b49 := ftS_le (U := U9) (lab := fun i => 0) i9
          refine lv_iload_n hx hb dX4_fits_113 rfl (lv_at hl 1 rfl) ?_
          refine lv_iconst (v := (-1)) hx hb dX4_fits_114 (by decide) ?_
          refine lv_icmp_ne (tgt := 122) hx hb dX4_fits_115 (by decide) (fun c115 => by exfalso; exact c115 rfl) (fun c115 => ?_)
          refine lv_iload_n hx hb dX4_fits_118 rfl (lv_at hl 2 rfl) ?_
          refine lv_goto (tgt := 133) hx hb dX4_fits_119 (by decide) ?_
          exact zw_i hC hr hlk hA h0 (by rw [e49] at hP; exact hP) hS (by rw [hn9, e48]) dX4_fits_133
        · skip
          have c48 := (hm c49).1
          have e49 := (hm c49).2
          have b49 := ftS_le (U := U9) (lab := fun i => 0) i9
          refine lv_aload_n hx hb dX4_fits_52 rfl (lv_at hl 0 rfl) ?_
          refine zRV (As := []) (b := q) (rest := []) hC (c_X4_isAsTold (l := l) (T9 := T9 i9) (g := U9 i9) (hn := hn) (hnd := hnd) (htd := htd) (hta := hta) (htw := htw) (hb6 := by rw [e49]; exact hLb i9 c48) (hT := by rw [e49]; exact fun k hk => hT i9 k c48 hk) (hg9 := hU i9 c48)) lM_X4_153 vM_X4_isAsTold (by decide) hK hP [0, 1, 2, 3, 4, 5] rfl ⟨rfl, rfl, rfl⟩ rfl hl.1 rfl (Nat.le_of_ble_eq_true rfl) dX4_fits_53 (by decide) ?_
          show W _ _ _ _ _ _ _ _ _ _ _ _ _ _ _ (F0 m 56 ls [.int (bI (U9 i9))])
          refine zb_eq (tgt := 104) hC dX4_fits_56 (by decide) (fun c56 => ?_) (fun c56 => ?_)
          · skip
            refine lv_aload_n hx hb dX4_fits_104 rfl (lv_at hl 0 rfl) ?_
            have h105 : (∃ i0 j0, i9 + 1 < N9 ∧ pvO (dc 0) (L9 i9) i0 j0 ∧ L9 (i9 + 1) = nxt (dc 0) (L9 i9) i0 j0) ∨ (i9 + 1 = N9 ∧ dc 0 = 0) ∨ (i9 + 1 = N9 ∧ 1 ≤ dc 0 ∧ ∀ i, i + 1 < dc 0 → L9 (N9 - 1) (i + 1) < L9 (N9 - 1) i) := by
              by_cases hx : i9 + 1 < N9
              · obtain ⟨i0, j0, h1, h2⟩ := hLs i9 hx
                exact Or.inl ⟨i0, j0, hx, h1, h2⟩
              · rcases hLe with h | h
                · exact Or.inr (Or.inl ⟨by omega, h⟩)
                · exact Or.inr (Or.inr ⟨by omega, h.1, h.2⟩)
            rcases h105 with ⟨i0, j0, e105, pv, hlh⟩ | ⟨e105, z105⟩ | ⟨e105, f105, g105⟩
            · skip
              refine zXV (As := []) (b := q) (rest := []) hC (c_X4_goOn_t (l := l) (hn := hn) (hb6 := by rw [e49]; exact hLb i9 c48) (hpv := by rw [e49]; exact pv)) lM_X4_157 vM_X4_goOn (by decide) hK hP hD hS [0, 1, 5] [q, xdc, xhg] rfl (by decide) rfl rfl ⟨rfl, rfl, rfl⟩ rfl hl.1 rfl (Nat.le_of_ble_eq_true rfl) dX4_fits_105 (by decide) (fun H locs hP hD hS => ?_)
              have hP : va_P D vwCl [oM q tr xtx ty xdc xdl xdb xar xac xwm xnd at9 sta sor val fau xnw xkp xta xtw td xhg, aI cI xdc 2 dc, aI cI xnd 60 nd, aI cI xta 6 ta, aI cI xtw 6 tw, aI cI xhg 6 (nxt (dc 0) h9 i0 j0)] H := hP
              have hD : va_D A [oM q tr xtx ty xdc xdl xdb xar xac xwm xnd at9 sta sor val fau xnw xkp xta xtw td xhg, aI cI xdc 2 dc, aI cI xnd 60 nd, aI cI xta 6 ta, aI cI xtw 6 tw, aI cI xhg 6 (nxt (dc 0) h9 i0 j0)] := hD
              show W _ _ _ _ _ _ _ _ _ _ _ _ _ _ _ (F0 m 108 ls [.int (bI true)])
              refine lv_istore (lv' := [(5, .int (bI true)), (0, .ref q), (1, .int (-1)), (2, .int (nI n9)), (3, .int s9), (4, .int (bI a9))]) hx hb dX4_fits_108 hl (by decide) rfl (fun ls hl => ?_)
              refine lv_goto (tgt := 47) hx hb dX4_fits_110 (by decide) ?_
              exact ih47 (N9 - (i9 + 1)) (by omega) (i9 + 1) n9 s9 a9 true (nxt (dc 0) h9 i0 j0) rfl (by intro _; exact ⟨e105, by rw [hlh, e49]⟩) (by intro h; cases h) (by rw [ftS_f c56]; exact hn9) (by rw [ftS_f c56]; exact hs9) (by rw [ftS_f c56]; exact ha9) _ _ hP hD hS ls (lv_sub hl [1, 2, 3, 4, 5, 0] rfl)
            · skip
              refine zRV (As := []) (b := q) (rest := []) hC (c_X4_goOn_0 (l := l) (hn0 := z105)) lM_X4_157 vM_X4_goOn (by decide) hK hP [0, 1, 5] rfl ⟨rfl, rfl, rfl⟩ rfl hl.1 rfl (Nat.le_of_ble_eq_true rfl) dX4_fits_105 (by decide) ?_
              show W _ _ _ _ _ _ _ _ _ _ _ _ _ _ _ (F0 m 108 ls [.int (bI false)])
              refine lv_istore (lv' := [(5, .int (bI false)), (0, .ref q), (1, .int (-1)), (2, .int (nI n9)), (3, .int s9), (4, .int (bI a9))]) hx hb dX4_fits_108 hl (by decide) rfl (fun ls hl => ?_)
              refine lv_goto (tgt := 47) hx hb dX4_fits_110 (by decide) ?_
              exact ih47 (N9 - (i9 + 1)) (by omega) (i9 + 1) n9 s9 a9 false h9 rfl (by intro h; cases h) (by intro _; exact ⟨by omega, by rw [e49, show i9 = N9 - 1 by omega]⟩) (by rw [ftS_f c56]; exact hn9) (by rw [ftS_f c56]; exact hs9) (by rw [ftS_f c56]; exact ha9) _ _ hP hD hS ls (lv_sub hl [1, 2, 3, 4, 5, 0] rfl)
            · skip
              refine zRV (As := []) (b := q) (rest := []) hC (c_X4_goOn_f (l := l) (hn := hn) (h1 := f105) (hb6 := by rw [e49]; exact hLb i9 c48) (hdec := by rw [e49, show i9 = N9 - 1 by omega]; exact g105)) lM_X4_157 vM_X4_goOn (by decide) hK hP [0, 1, 5] rfl ⟨rfl, rfl, rfl⟩ rfl hl.1 rfl (Nat.le_of_ble_eq_true rfl) dX4_fits_105 (by decide) ?_
              show W _ _ _ _ _ _ _ _ _ _ _ _ _ _ _ (F0 m 108 ls [.int (bI false)])
              refine lv_istore (lv' := [(5, .int (bI false)), (0, .ref q), (1, .int (-1)), (2, .int (nI n9)), (3, .int s9), (4, .int (bI a9))]) hx hb dX4_fits_108 hl (by decide) rfl (fun ls hl => ?_)
              refine lv_goto (tgt := 47) hx hb dX4_fits_110 (by decide) ?_
              exact ih47 (N9 - (i9 + 1)) (by omega) (i9 + 1) n9 s9 a9 false h9 rfl (by intro h; cases h) (by intro _; exact ⟨by omega, by rw [e49, show i9 = N9 - 1 by omega]⟩) (by rw [ftS_f c56]; exact hn9) (by rw [ftS_f c56]; exact hs9) (by rw [ftS_f c56]; exact ha9) _ _ hP hD hS ls (lv_sub hl [1, 2, 3, 4, 5, 0] rfl)
          · skip
            refine lv_iload_n hx hb dX4_fits_59 rfl (lv_at hl 1 rfl) ?_
            refine lv_iconst (v := (-1)) hx hb dX4_fits_60 (by decide) ?_
            refine lv_icmp_ne (tgt := 68) hx hb dX4_fits_61 (by decide) (fun c61 => by exfalso; exact c61 rfl) (fun c61 => ?_)
            refine lv_iconst (v := nI 0) hx hb dX4_fits_64 (by decide) ?_
            refine lv_goto (tgt := 74) hx hb dX4_fits_65 (by decide) ?_
            refine lv_istore (lv' := [(6, .int (nI 0)), (0, .ref q), (1, .int (-1)), (2, .int (nI n9)), (3, .int s9), (4, .int (bI a9)), (5, .int (bI m9))]) hx hb dX4_fits_74 hl (by decide) rfl (fun ls hl => ?_)
            have hJ96 : ∀ (j9 : Bool), True → (j9 = (a9 && (decide (n9 = 0) || decide (nI 0 = s9)))) → ∀ ls : Array Slot, lv_has ls 7 [(0, .ref q), (1, .int (-1)), (2, .int (nI n9)), (3, .int s9), (5, .int (bI m9)), (6, .int (nI 0))] → W p l e { frames := 2, cells := 0, slots := 0, locals := 46 } s m args below meth c H locs 0 0 (MQ below (qW D [oM q tr xtx ty xdc xdl xdb xar xac xwm xnd at9 sta sor val fau xnw xkp xta xtw td xhg, aI cI xdc 2 dc, aI cI xnd 60 nd, aI cI xta 6 ta, aI cI xtw 6 tw, aI cI xhg 6 hg] [oM q tr xtx ty xdc xdl xdb xar xac xwm xnd at9 sta sor val fau xnw xkp xta xtw td xhg, aI cI xdc 2 dc, aI cI xnd 60 nd, aI cI xta 6 ta, aI cI xtw 6 tw, aI cI xhg 6 (L9 (N9 - 1))] (some (.int (nI (ftS U9 (fun _ => 0) N9).1)))) args s 0 0 (zA [oM q tr xtx ty xdc xdl xdb xar xac xwm xnd at9 sta sor val fau xnw xkp xta xtw td xhg, aI cI xdc 2 dc, aI cI xnd 60 nd, aI cI xta 6 ta, aI cI xtw 6 tw, aI cI xhg 6 hg])) (F0 m 96 ls [.int (bI j9)]) := by
              intro j9 _ hj9 ls hl
              refine lv_istore (lv' := [(4, .int (bI j9)), (0, .ref q), (1, .int (-1)), (2, .int (nI n9)), (3, .int s9), (5, .int (bI m9)), (6, .int (nI 0))]) hx hb dX4_fits_96 hl (by decide) rfl (fun ls hl => ?_)
              refine lv_iload hx hb dX4_fits_98 (lv_at hl 6 rfl) ?_
              refine lv_istore_n (lv' := [(3, .int (nI 0)), (4, .int (bI j9)), (0, .ref q), (1, .int (-1)), (2, .int (nI n9)), (5, .int (bI m9)), (6, .int (nI 0))]) hx hb dX4_fits_100 rfl hl (by decide) rfl (fun ls hl => ?_)
              refine lv_iinc (v := nI (n9 + 1)) (lv' := [(2, .int (nI (n9 + 1))), (3, .int (nI 0)), (4, .int (bI j9)), (0, .ref q), (1, .int (-1)), (5, .int (bI m9)), (6, .int (nI 0))]) hx hb dX4_fits_101 hl (k := 4) rfl (z_inc n9 1) (by decide) rfl (fun ls hl => ?_)
              refine lv_aload_n hx hb dX4_fits_104 rfl (lv_at hl 3 rfl) ?_
              have h105 : (∃ i0 j0, i9 + 1 < N9 ∧ pvO (dc 0) (L9 i9) i0 j0 ∧ L9 (i9 + 1) = nxt (dc 0) (L9 i9) i0 j0) ∨ (i9 + 1 = N9 ∧ dc 0 = 0) ∨ (i9 + 1 = N9 ∧ 1 ≤ dc 0 ∧ ∀ i, i + 1 < dc 0 → L9 (N9 - 1) (i + 1) < L9 (N9 - 1) i) := by
                by_cases hx : i9 + 1 < N9
                · obtain ⟨i0, j0, h1, h2⟩ := hLs i9 hx
                  exact Or.inl ⟨i0, j0, hx, h1, h2⟩
                · rcases hLe with h | h
                  · exact Or.inr (Or.inl ⟨by omega, h⟩)
                  · exact Or.inr (Or.inr ⟨by omega, h.1, h.2⟩)
              rcases h105 with ⟨i0, j0, e105, pv, hlh⟩ | ⟨e105, z105⟩ | ⟨e105, f105, g105⟩
              · skip
                refine zXV (As := []) (b := q) (rest := []) hC (c_X4_goOn_t (l := l) (hn := hn) (hb6 := by rw [e49]; exact hLb i9 c48) (hpv := by rw [e49]; exact pv)) lM_X4_157 vM_X4_goOn (by decide) hK hP hD hS [0, 1, 5] [q, xdc, xhg] rfl (by decide) rfl rfl ⟨rfl, rfl, rfl⟩ rfl hl.1 rfl (Nat.le_of_ble_eq_true rfl) dX4_fits_105 (by decide) (fun H locs hP hD hS => ?_)
                have hP : va_P D vwCl [oM q tr xtx ty xdc xdl xdb xar xac xwm xnd at9 sta sor val fau xnw xkp xta xtw td xhg, aI cI xdc 2 dc, aI cI xnd 60 nd, aI cI xta 6 ta, aI cI xtw 6 tw, aI cI xhg 6 (nxt (dc 0) h9 i0 j0)] H := hP
                have hD : va_D A [oM q tr xtx ty xdc xdl xdb xar xac xwm xnd at9 sta sor val fau xnw xkp xta xtw td xhg, aI cI xdc 2 dc, aI cI xnd 60 nd, aI cI xta 6 ta, aI cI xtw 6 tw, aI cI xhg 6 (nxt (dc 0) h9 i0 j0)] := hD
                show W _ _ _ _ _ _ _ _ _ _ _ _ _ _ _ (F0 m 108 ls [.int (bI true)])
                refine lv_istore (lv' := [(5, .int (bI true)), (2, .int (nI (n9 + 1))), (3, .int (nI 0)), (4, .int (bI j9)), (0, .ref q), (1, .int (-1)), (6, .int (nI 0))]) hx hb dX4_fits_108 hl (by decide) rfl (fun ls hl => ?_)
                refine lv_goto (tgt := 47) hx hb dX4_fits_110 (by decide) ?_
                exact ih47 (N9 - (i9 + 1)) (by omega) (i9 + 1) (n9 + 1) (nI 0) j9 true (nxt (dc 0) h9 i0 j0) rfl (by intro _; exact ⟨e105, by rw [hlh, e49]⟩) (by intro h; cases h) (by simp only [ftS_t c56, hn9]) (by simp only [ftS_t c56]) (by rw [hj9]; simp only [ftS_t c56, hn9, hs9, ha9]) _ _ hP hD hS ls (lv_sub hl [4, 5, 1, 2, 3, 0] rfl)
              · skip
                refine zRV (As := []) (b := q) (rest := []) hC (c_X4_goOn_0 (l := l) (hn0 := z105)) lM_X4_157 vM_X4_goOn (by decide) hK hP [0, 1, 5] rfl ⟨rfl, rfl, rfl⟩ rfl hl.1 rfl (Nat.le_of_ble_eq_true rfl) dX4_fits_105 (by decide) ?_
                show W _ _ _ _ _ _ _ _ _ _ _ _ _ _ _ (F0 m 108 ls [.int (bI false)])
                refine lv_istore (lv' := [(5, .int (bI false)), (2, .int (nI (n9 + 1))), (3, .int (nI 0)), (4, .int (bI j9)), (0, .ref q), (1, .int (-1)), (6, .int (nI 0))]) hx hb dX4_fits_108 hl (by decide) rfl (fun ls hl => ?_)
                refine lv_goto (tgt := 47) hx hb dX4_fits_110 (by decide) ?_
                exact ih47 (N9 - (i9 + 1)) (by omega) (i9 + 1) (n9 + 1) (nI 0) j9 false h9 rfl (by intro h; cases h) (by intro _; exact ⟨by omega, by rw [e49, show i9 = N9 - 1 by omega]⟩) (by simp only [ftS_t c56, hn9]) (by simp only [ftS_t c56]) (by rw [hj9]; simp only [ftS_t c56, hn9, hs9, ha9]) _ _ hP hD hS ls (lv_sub hl [4, 5, 1, 2, 3, 0] rfl)
              · skip
                refine zRV (As := []) (b := q) (rest := []) hC (c_X4_goOn_f (l := l) (hn := hn) (h1 := f105) (hb6 := by rw [e49]; exact hLb i9 c48) (hdec := by rw [e49, show i9 = N9 - 1 by omega]; exact g105)) lM_X4_157 vM_X4_goOn (by decide) hK hP [0, 1, 5] rfl ⟨rfl, rfl, rfl⟩ rfl hl.1 rfl (Nat.le_of_ble_eq_true rfl) dX4_fits_105 (by decide) ?_
                show W _ _ _ _ _ _ _ _ _ _ _ _ _ _ _ (F0 m 108 ls [.int (bI false)])
                refine lv_istore (lv' := [(5, .int (bI false)), (2, .int (nI (n9 + 1))), (3, .int (nI 0)), (4, .int (bI j9)), (0, .ref q), (1, .int (-1)), (6, .int (nI 0))]) hx hb dX4_fits_108 hl (by decide) rfl (fun ls hl => ?_)
                refine lv_goto (tgt := 47) hx hb dX4_fits_110 (by decide) ?_
                exact ih47 (N9 - (i9 + 1)) (by omega) (i9 + 1) (n9 + 1) (nI 0) j9 false h9 rfl (by intro h; cases h) (by intro _; exact ⟨by omega, by rw [e49, show i9 = N9 - 1 by omega]⟩) (by simp only [ftS_t c56, hn9]) (by simp only [ftS_t c56]) (by rw [hj9]; simp only [ftS_t c56, hn9, hs9, ha9]) _ _ hP hD hS ls (lv_sub hl [4, 5, 1, 2, 3, 0] rfl)
            refine lv_iload hx hb dX4_fits_76 (lv_at hl 5 rfl) ?_
            refine zb_eq (tgt := 95) hC dX4_fits_78 (by decide) (fun c78 => ?_) (fun c78 => ?_)
            · skip
              refine lv_iconst (v := nI 0) hx hb dX4_fits_95 (by decide) ?_
              exact hJ96 false trivial (by rw [c78]; rfl) ls (lv_sub hl [1, 2, 3, 4, 6, 0] rfl)
            · skip
              refine lv_iload_n hx hb dX4_fits_81 rfl (lv_at hl 3 rfl) ?_
              refine z0_eq (tgt := 91) hC dX4_fits_82 (by decide) (by omega) (fun c82 => ?_) (fun c82 => ?_)
              · skip
                refine lv_iconst (v := nI 1) hx hb dX4_fits_91 (by decide) ?_
                refine lv_goto (tgt := 96) hx hb dX4_fits_92 (by decide) ?_
                exact hJ96 true trivial (by rw [c78, decide_eq_true c82]; rfl) ls (lv_sub hl [1, 2, 3, 4, 6, 0] rfl)
              · skip
                refine lv_iload hx hb dX4_fits_85 (lv_at hl 0 rfl) ?_
                refine lv_iload_n hx hb dX4_fits_87 rfl (lv_at hl 4 rfl) ?_
                refine lv_icmp_ne (tgt := 95) hx hb dX4_fits_88 (by decide) (fun c88 => ?_) (fun c88 => ?_)
                · skip
                  refine lv_iconst (v := nI 0) hx hb dX4_fits_95 (by decide) ?_
                  exact hJ96 false trivial (by rw [c78, decide_eq_false (show ¬ n9 = 0 by omega), decide_eq_false c88]; rfl) ls (lv_sub hl [1, 2, 3, 4, 6, 0] rfl)
                · skip
                  refine lv_iconst (v := nI 1) hx hb dX4_fits_91 (by decide) ?_
                  refine lv_goto (tgt := 96) hx hb dX4_fits_92 (by decide) ?_
                  exact hJ96 true trivial (by rw [c78, decide_eq_true c88, Bool.or_true]; rfl) ls (lv_sub hl [1, 2, 3, 4, 6, 0] rfl)
      exact hL47 _ 0 0 (-9) true true n8 rfl (by intro _; exact ⟨by omega, by rw [hn8, show i8 = 6 by omega]; exact hL0.symm⟩) (by intro h; cases h) (by rfl) (by rfl) (by rfl) _ _ hP hD hS ls (lv_sub hl [4, 5, 3, 2, 1, 0] rfl)
    · skip
      refine lv_aload_n hx hb dX4_fits_23 rfl (lv_at hl 0 rfl) ?_
      refine z_get (k := 20) zcX4 hC hK hP 0 rfl (by decide) lF_X4_48 rfl dX4_fits_24 ?_
      refine lv_iload_n hx hb dX4_fits_27 rfl (lv_at hl 2 rfl) ?_
      refine lv_iload_n hx hb dX4_fits_28 rfl (lv_at hl 2 rfl) ?_
      refine z_ast hC hK hP hD hS 5 rfl (by omega) (by decide) dX4_fits_29 (fun H locs hP hD hS => ?_)
      have hP : va_P D vwCl [oM q tr xtx ty xdc xdl xdb xar xac xwm xnd at9 sta sor val fau xnw xkp xta xtw td xhg, aI cI xdc 2 dc, aI cI xnd 60 nd, aI cI xta 6 ta, aI cI xtw 6 tw, aI cI xhg 6 (updN n8 i8 i8)] H := hP
      have hD : va_D A [oM q tr xtx ty xdc xdl xdb xar xac xwm xnd at9 sta sor val fau xnw xkp xta xtw td xhg, aI cI xdc 2 dc, aI cI xnd 60 nd, aI cI xta 6 ta, aI cI xtw 6 tw, aI cI xhg 6 (updN n8 i8 i8)] := hD
      refine lv_iinc (v := nI (i8 + 1)) (lv' := [(2, .int (nI (i8 + 1))), (0, .ref q), (1, .int (-1))]) hx hb dX4_fits_30 hl (k := 2) rfl (z_inc i8 1) (by decide) rfl (fun ls hl => ?_)
      refine lv_goto (tgt := 17) hx hb dX4_fits_33 (by decide) ?_
      exact ih17 (6 - (i8 + 1)) (by omega) (i8 + 1) (updN n8 i8 i8) rfl (by omega) (by rw [hn8]; exact blk_id hg i8) _ _ hP hD hS ls (lv_sub hl [1, 2, 0] rfl)
  exact hL17 _ 0 hg rfl (by omega) (by exact (blk_0 _ _ _).symm) _ _ hP hD hS ls (lv_sub hl [1, 2, 0] rfl)
set_option maxHeartbeats 1000000 in
set_option maxRecDepth 100000 in
theorem c_X4_fits_d {l : Launch} {D : va_G} {cI cZ cB cR : ClassId} {q xtx ty xdc xdl xdb xar xac xwm xnd at9 sta sor val xnw xkp xta xtw td xhg : Nat} {tr : Int64} {fau : Int32} {dc nd ta tw hg : Nat → Nat} {N9 : Nat} {L9 : Nat → Nat → Nat} {T9 : Nat → Nat → Bool} {U9 : Nat → Bool} {d : Nat}  (hn : dc 0 ≤ 6) (hnd : ∀ i, nd i ≤ 9) (htd : td ≤ 6) (hta : ∀ i, ta i < 5) (htw : ∀ i, tw i < 2) (hN : 1 ≤ N9 ∧ N9 ≤ 720) (hL0 : L9 0 = blk hg 0 6 (fun k => k)) (hLb : ∀ i, i < N9 → ∀ j, j < 6 → L9 i j < 6) (hLs : ∀ i, i + 1 < N9 → ∃ i0 j0, pvO (dc 0) (L9 i) i0 j0 ∧ L9 (i + 1) = nxt (dc 0) (L9 i) i0 j0) (hLe : dc 0 = 0 ∨ (1 ≤ dc 0 ∧ ∀ i, i + 1 < dc 0 → L9 (N9 - 1) (i + 1) < L9 (N9 - 1) i)) (hT : ∀ i k, i < N9 → k < td → (T9 i k = true ↔ ∀ d, d < dc 0 → nd (6 * ta k + d) = 0 ∨ L9 i d = d)) (hU : ∀ i, i < N9 → (U9 i = true ↔ ∀ k, k < td → T9 i k = decide (tw k = 1))) (hd : d < dc 0) : mW l yX4_fits cX4_fits 7 (some .int) 2 46 D cI cZ cB cR [oM q tr xtx ty xdc xdl xdb xar xac xwm xnd at9 sta sor val fau xnw xkp xta xtw td xhg, aI cI xdc 2 dc, aI cI xnd 60 nd, aI cI xta 6 ta, aI cI xtw 6 tw, aI cI xhg 6 hg] [oM q tr xtx ty xdc xdl xdb xar xac xwm xnd at9 sta sor val fau xnw xkp xta xtw td xhg, aI cI xdc 2 dc, aI cI xnd 60 nd, aI cI xta 6 ta, aI cI xtw 6 tw, aI cI xhg 6 (L9 (N9 - 1))] [.ref q, .int (nI d)] (some (.int (if (ftS U9 (fun i => L9 i d) N9).2.2 = true then (ftS U9 (fun i => L9 i d) N9).2.1 else -9))) := by
  refine mW_of rfl (Nat.le_of_ble_eq_true rfl) ?_
  intro p e s m args below meth c hC hr hlk hK A hA hD H0 h0 hP hS ls hl
  have hP : va_P D vwCl [oM q tr xtx ty xdc xdl xdb xar xac xwm xnd at9 sta sor val fau xnw xkp xta xtw td xhg, aI cI xdc 2 dc, aI cI xnd 60 nd, aI cI xta 6 ta, aI cI xtw 6 tw, aI cI xhg 6 hg] H0 := hP
  have hl : lv_has ls 7 [(0, .ref q), (1, .int (nI d))] := hl
  obtain ⟨hx, hb, hml, hown, hts⟩ := id hC
  refine lv_iload_n hx hb dX4_fits_0 rfl (lv_at hl 1 rfl) ?_
  refine lv_iconst (v := (-1)) hx hb dX4_fits_1 (by decide) ?_
  refine lv_icmp_eq (tgt := 15) hx hb dX4_fits_2 (by decide) (fun c2 => by exfalso; exact z_m1 (by omega) c2) (fun c2 => ?_)
  refine lv_aload_n hx hb dX4_fits_5 rfl (lv_at hl 0 rfl) ?_
  refine lv_iload_n hx hb dX4_fits_6 rfl (lv_at hl 1 rfl) ?_
  refine zRV (As := [.int (nI d)]) (b := q) (rest := []) hC (c_X4_isDecanter (l := l) (g := true) (hn := by omega) (hg := ⟨fun _ => vp_in_nI (by omega) (by omega), fun _ => rfl⟩)) lM_X4_126 vM_X4_isDecanter (by decide) hK hP [0, 1] rfl ⟨rfl, rfl, rfl⟩ rfl hl.1 rfl (Nat.le_of_ble_eq_true rfl) dX4_fits_7 (by decide) ?_
  show W _ _ _ _ _ _ _ _ _ _ _ _ _ _ _ (F0 m 10 ls [.int (bI true)])
  refine zb_ne (tgt := 15) hC dX4_fits_10 (by decide) (fun c10 => ?_) (fun c10 => by exfalso; cases c10)
  refine lv_iconst (v := nI 0) hx hb dX4_fits_15 (by decide) ?_
  refine lv_istore_n (lv' := [(2, .int (nI 0)), (0, .ref q), (1, .int (nI d))]) hx hb dX4_fits_16 rfl hl (by decide) rfl (fun ls hl => ?_)
  have hL17 : ∀ (z17 : Nat) (i8 : Nat) (n8 : Nat → Nat), 6 - i8 = z17 → (i8 ≤ 6) → (n8 = blk hg 0 i8 (fun k => k)) → ∀ (H : Heap) (locs : List Loc), va_P D vwCl [oM q tr xtx ty xdc xdl xdb xar xac xwm xnd at9 sta sor val fau xnw xkp xta xtw td xhg, aI cI xdc 2 dc, aI cI xnd 60 nd, aI cI xta 6 ta, aI cI xtw 6 tw, aI cI xhg 6 n8] H → va_D A [oM q tr xtx ty xdc xdl xdb xar xac xwm xnd at9 sta sor val fau xnw xkp xta xtw td xhg, aI cI xdc 2 dc, aI cI xnd 60 nd, aI cI xta 6 ta, aI cI xtw 6 tw, aI cI xhg 6 n8] → va_S A H0 H locs → ∀ ls : Array Slot, lv_has ls 7 [(0, .ref q), (1, .int (nI d)), (2, .int (nI i8))] → W p l e { frames := 2, cells := 0, slots := 0, locals := 46 } s m args below meth c H locs 0 0 (MQ below (qW D [oM q tr xtx ty xdc xdl xdb xar xac xwm xnd at9 sta sor val fau xnw xkp xta xtw td xhg, aI cI xdc 2 dc, aI cI xnd 60 nd, aI cI xta 6 ta, aI cI xtw 6 tw, aI cI xhg 6 hg] [oM q tr xtx ty xdc xdl xdb xar xac xwm xnd at9 sta sor val fau xnw xkp xta xtw td xhg, aI cI xdc 2 dc, aI cI xnd 60 nd, aI cI xta 6 ta, aI cI xtw 6 tw, aI cI xhg 6 (L9 (N9 - 1))] (some (.int (if (ftS U9 (fun i => L9 i d) N9).2.2 = true then (ftS U9 (fun i => L9 i d) N9).2.1 else -9)))) args s 0 0 (zA [oM q tr xtx ty xdc xdl xdb xar xac xwm xnd at9 sta sor val fau xnw xkp xta xtw td xhg, aI cI xdc 2 dc, aI cI xnd 60 nd, aI cI xta 6 ta, aI cI xtw 6 tw, aI cI xhg 6 hg])) (F0 m 17 ls []) := by
    intro z17
    induction z17 using Nat.strongRecOn with
    | _ z17 ih17 =>
    intro i8 n8 hz17 hi hn8 H locs hP hD hS ls hl
    refine lv_iload_n hx hb dX4_fits_17 rfl (lv_at hl 2 rfl) ?_
    refine lv_bipush (v := nI 6) hx hb dX4_fits_18 (by decide) ?_
    refine zc_ge (tgt := 36) hC dX4_fits_20 (by decide) (by omega) (by omega) (fun c20 => ?_) (fun c20 => ?_)
    · skip
      refine lv_iconst (v := nI 0) hx hb dX4_fits_36 (by decide) ?_
      refine lv_istore_n (lv' := [(2, .int (nI 0)), (0, .ref q), (1, .int (nI d))]) hx hb dX4_fits_37 rfl hl (by decide) rfl (fun ls hl => ?_)
      refine lv_bipush (v := (-9)) hx hb dX4_fits_38 (by decide) ?_
      refine lv_istore_n (lv' := [(3, .int (-9)), (2, .int (nI 0)), (0, .ref q), (1, .int (nI d))]) hx hb dX4_fits_40 rfl hl (by decide) rfl (fun ls hl => ?_)
      refine lv_iconst (v := nI 1) hx hb dX4_fits_41 (by decide) ?_
      refine lv_istore (lv' := [(4, .int (nI 1)), (3, .int (-9)), (2, .int (nI 0)), (0, .ref q), (1, .int (nI d))]) hx hb dX4_fits_42 hl (by decide) rfl (fun ls hl => ?_)
      refine lv_iconst (v := nI 1) hx hb dX4_fits_44 (by decide) ?_
      refine lv_istore (lv' := [(5, .int (nI 1)), (4, .int (nI 1)), (3, .int (-9)), (2, .int (nI 0)), (0, .ref q), (1, .int (nI d))]) hx hb dX4_fits_45 hl (by decide) rfl (fun ls hl => ?_)
      have hL47 : ∀ (z47 : Nat) (i9 : Nat) (n9 : Nat) (s9 : Int32) (a9 : Bool) (m9 : Bool) (h9 : Nat → Nat), N9 - i9 = z47 → (m9 = true → i9 < N9 ∧ h9 = L9 i9) → (m9 = false → i9 = N9 ∧ h9 = L9 (N9 - 1)) → (n9 = (ftS U9 (fun i => L9 i d) i9).1) → (s9 = (ftS U9 (fun i => L9 i d) i9).2.1) → (a9 = (ftS U9 (fun i => L9 i d) i9).2.2) → ∀ (H : Heap) (locs : List Loc), va_P D vwCl [oM q tr xtx ty xdc xdl xdb xar xac xwm xnd at9 sta sor val fau xnw xkp xta xtw td xhg, aI cI xdc 2 dc, aI cI xnd 60 nd, aI cI xta 6 ta, aI cI xtw 6 tw, aI cI xhg 6 h9] H → va_D A [oM q tr xtx ty xdc xdl xdb xar xac xwm xnd at9 sta sor val fau xnw xkp xta xtw td xhg, aI cI xdc 2 dc, aI cI xnd 60 nd, aI cI xta 6 ta, aI cI xtw 6 tw, aI cI xhg 6 h9] → va_S A H0 H locs → ∀ ls : Array Slot, lv_has ls 7 [(0, .ref q), (1, .int (nI d)), (2, .int (nI n9)), (3, .int s9), (4, .int (bI a9)), (5, .int (bI m9))] → W p l e { frames := 2, cells := 0, slots := 0, locals := 46 } s m args below meth c H locs 0 0 (MQ below (qW D [oM q tr xtx ty xdc xdl xdb xar xac xwm xnd at9 sta sor val fau xnw xkp xta xtw td xhg, aI cI xdc 2 dc, aI cI xnd 60 nd, aI cI xta 6 ta, aI cI xtw 6 tw, aI cI xhg 6 hg] [oM q tr xtx ty xdc xdl xdb xar xac xwm xnd at9 sta sor val fau xnw xkp xta xtw td xhg, aI cI xdc 2 dc, aI cI xnd 60 nd, aI cI xta 6 ta, aI cI xtw 6 tw, aI cI xhg 6 (L9 (N9 - 1))] (some (.int (if (ftS U9 (fun i => L9 i d) N9).2.2 = true then (ftS U9 (fun i => L9 i d) N9).2.1 else -9)))) args s 0 0 (zA [oM q tr xtx ty xdc xdl xdb xar xac xwm xnd at9 sta sor val fau xnw xkp xta xtw td xhg, aI cI xdc 2 dc, aI cI xnd 60 nd, aI cI xta 6 ta, aI cI xtw 6 tw, aI cI xhg 6 hg])) (F0 m 47 ls []) := by
        intro z47
        induction z47 using Nat.strongRecOn with
        | _ z47 ih47 =>
        intro i9 n9 s9 a9 m9 h9 hz47 hm hm2 hn9 hs9 ha9 H locs hP hD hS ls hl
        refine lv_iload hx hb dX4_fits_47 (lv_at hl 5 rfl) ?_
        refine zb_eq (tgt := 113) hC dX4_fits_49 (by decide) (fun c49 => ?_) (fun c49 => ?_)
        · skip
          have e48 := (hm2 c49).1
          have e49 := (hm2 c49).2
          have b49 := ftS_le (U := U9) (lab := fun i => L9 i d) i9
          refine lv_iload_n hx hb dX4_fits_113 rfl (lv_at hl 1 rfl) ?_
          refine lv_iconst (v := (-1)) hx hb dX4_fits_114 (by decide) ?_
          refine lv_icmp_ne (tgt := 122) hx hb dX4_fits_115 (by decide) (fun c115 => ?_) (fun c115 => by exfalso; exact z_m1 (by omega) c115)
          refine lv_iload hx hb dX4_fits_122 (lv_at hl 4 rfl) ?_
          refine zb_eq (tgt := 131) hC dX4_fits_124 (by decide) (fun c124 => ?_) (fun c124 => ?_)
          · skip
            refine lv_bipush (v := (-9)) hx hb dX4_fits_131 (by decide) ?_
            exact zw_i hC hr hlk hA h0 (by rw [e49] at hP; exact hP) hS (by rw [← e48, ← ha9, if_neg (by rw [c124]; decide)]) dX4_fits_133
          · skip
            refine lv_iload_n hx hb dX4_fits_127 rfl (lv_at hl 3 rfl) ?_
            refine lv_goto (tgt := 133) hx hb dX4_fits_128 (by decide) ?_
            exact zw_i hC hr hlk hA h0 (by rw [e49] at hP; exact hP) hS (by rw [← e48, ← ha9, ← hs9, if_pos c124]) dX4_fits_133
        · skip
          have c48 := (hm c49).1
          have e49 := (hm c49).2
          have b49 := ftS_le (U := U9) (lab := fun i => L9 i d) i9
          refine lv_aload_n hx hb dX4_fits_52 rfl (lv_at hl 0 rfl) ?_
          refine zRV (As := []) (b := q) (rest := []) hC (c_X4_isAsTold (l := l) (T9 := T9 i9) (g := U9 i9) (hn := hn) (hnd := hnd) (htd := htd) (hta := hta) (htw := htw) (hb6 := by rw [e49]; exact hLb i9 c48) (hT := by rw [e49]; exact fun k hk => hT i9 k c48 hk) (hg9 := hU i9 c48)) lM_X4_153 vM_X4_isAsTold (by decide) hK hP [0, 1, 2, 3, 4, 5] rfl ⟨rfl, rfl, rfl⟩ rfl hl.1 rfl (Nat.le_of_ble_eq_true rfl) dX4_fits_53 (by decide) ?_
          show W _ _ _ _ _ _ _ _ _ _ _ _ _ _ _ (F0 m 56 ls [.int (bI (U9 i9))])
          refine zb_eq (tgt := 104) hC dX4_fits_56 (by decide) (fun c56 => ?_) (fun c56 => ?_)
          · skip
            refine lv_aload_n hx hb dX4_fits_104 rfl (lv_at hl 0 rfl) ?_
            have h105 : (∃ i0 j0, i9 + 1 < N9 ∧ pvO (dc 0) (L9 i9) i0 j0 ∧ L9 (i9 + 1) = nxt (dc 0) (L9 i9) i0 j0) ∨ (i9 + 1 = N9 ∧ dc 0 = 0) ∨ (i9 + 1 = N9 ∧ 1 ≤ dc 0 ∧ ∀ i, i + 1 < dc 0 → L9 (N9 - 1) (i + 1) < L9 (N9 - 1) i) := by
              by_cases hx : i9 + 1 < N9
              · obtain ⟨i0, j0, h1, h2⟩ := hLs i9 hx
                exact Or.inl ⟨i0, j0, hx, h1, h2⟩
              · rcases hLe with h | h
                · exact Or.inr (Or.inl ⟨by omega, h⟩)
                · exact Or.inr (Or.inr ⟨by omega, h.1, h.2⟩)
            rcases h105 with ⟨i0, j0, e105, pv, hlh⟩ | ⟨e105, z105⟩ | ⟨e105, f105, g105⟩
            · skip
              refine zXV (As := []) (b := q) (rest := []) hC (c_X4_goOn_t (l := l) (hn := hn) (hb6 := by rw [e49]; exact hLb i9 c48) (hpv := by rw [e49]; exact pv)) lM_X4_157 vM_X4_goOn (by decide) hK hP hD hS [0, 1, 5] [q, xdc, xhg] rfl (by decide) rfl rfl ⟨rfl, rfl, rfl⟩ rfl hl.1 rfl (Nat.le_of_ble_eq_true rfl) dX4_fits_105 (by decide) (fun H locs hP hD hS => ?_)
              have hP : va_P D vwCl [oM q tr xtx ty xdc xdl xdb xar xac xwm xnd at9 sta sor val fau xnw xkp xta xtw td xhg, aI cI xdc 2 dc, aI cI xnd 60 nd, aI cI xta 6 ta, aI cI xtw 6 tw, aI cI xhg 6 (nxt (dc 0) h9 i0 j0)] H := hP
              have hD : va_D A [oM q tr xtx ty xdc xdl xdb xar xac xwm xnd at9 sta sor val fau xnw xkp xta xtw td xhg, aI cI xdc 2 dc, aI cI xnd 60 nd, aI cI xta 6 ta, aI cI xtw 6 tw, aI cI xhg 6 (nxt (dc 0) h9 i0 j0)] := hD
              show W _ _ _ _ _ _ _ _ _ _ _ _ _ _ _ (F0 m 108 ls [.int (bI true)])
              refine lv_istore (lv' := [(5, .int (bI true)), (0, .ref q), (1, .int (nI d)), (2, .int (nI n9)), (3, .int s9), (4, .int (bI a9))]) hx hb dX4_fits_108 hl (by decide) rfl (fun ls hl => ?_)
              refine lv_goto (tgt := 47) hx hb dX4_fits_110 (by decide) ?_
              exact ih47 (N9 - (i9 + 1)) (by omega) (i9 + 1) n9 s9 a9 true (nxt (dc 0) h9 i0 j0) rfl (by intro _; exact ⟨e105, by rw [hlh, e49]⟩) (by intro h; cases h) (by rw [ftS_f c56]; exact hn9) (by rw [ftS_f c56]; exact hs9) (by rw [ftS_f c56]; exact ha9) _ _ hP hD hS ls (lv_sub hl [1, 2, 3, 4, 5, 0] rfl)
            · skip
              refine zRV (As := []) (b := q) (rest := []) hC (c_X4_goOn_0 (l := l) (hn0 := z105)) lM_X4_157 vM_X4_goOn (by decide) hK hP [0, 1, 5] rfl ⟨rfl, rfl, rfl⟩ rfl hl.1 rfl (Nat.le_of_ble_eq_true rfl) dX4_fits_105 (by decide) ?_
              show W _ _ _ _ _ _ _ _ _ _ _ _ _ _ _ (F0 m 108 ls [.int (bI false)])
              refine lv_istore (lv' := [(5, .int (bI false)), (0, .ref q), (1, .int (nI d)), (2, .int (nI n9)), (3, .int s9), (4, .int (bI a9))]) hx hb dX4_fits_108 hl (by decide) rfl (fun ls hl => ?_)
              refine lv_goto (tgt := 47) hx hb dX4_fits_110 (by decide) ?_
              exact ih47 (N9 - (i9 + 1)) (by omega) (i9 + 1) n9 s9 a9 false h9 rfl (by intro h; cases h) (by intro _; exact ⟨by omega, by rw [e49, show i9 = N9 - 1 by omega]⟩) (by rw [ftS_f c56]; exact hn9) (by rw [ftS_f c56]; exact hs9) (by rw [ftS_f c56]; exact ha9) _ _ hP hD hS ls (lv_sub hl [1, 2, 3, 4, 5, 0] rfl)
            · skip
              refine zRV (As := []) (b := q) (rest := []) hC (c_X4_goOn_f (l := l) (hn := hn) (h1 := f105) (hb6 := by rw [e49]; exact hLb i9 c48) (hdec := by rw [e49, show i9 = N9 - 1 by omega]; exact g105)) lM_X4_157 vM_X4_goOn (by decide) hK hP [0, 1, 5] rfl ⟨rfl, rfl, rfl⟩ rfl hl.1 rfl (Nat.le_of_ble_eq_true rfl) dX4_fits_105 (by decide) ?_
              show W _ _ _ _ _ _ _ _ _ _ _ _ _ _ _ (F0 m 108 ls [.int (bI false)])
              refine lv_istore (lv' := [(5, .int (bI false)), (0, .ref q), (1, .int (nI d)), (2, .int (nI n9)), (3, .int s9), (4, .int (bI a9))]) hx hb dX4_fits_108 hl (by decide) rfl (fun ls hl => ?_)
              refine lv_goto (tgt := 47) hx hb dX4_fits_110 (by decide) ?_
              exact ih47 (N9 - (i9 + 1)) (by omega) (i9 + 1) n9 s9 a9 false h9 rfl (by intro h; cases h) (by intro _; exact ⟨by omega, by rw [e49, show i9 = N9 - 1 by omega]⟩) (by rw [ftS_f c56]; exact hn9) (by rw [ftS_f c56]; exact hs9) (by rw [ftS_f c56]; exact ha9) _ _ hP hD hS ls (lv_sub hl [1, 2, 3, 4, 5, 0] rfl)
          · skip
            refine lv_iload_n hx hb dX4_fits_59 rfl (lv_at hl 1 rfl) ?_
            refine lv_iconst (v := (-1)) hx hb dX4_fits_60 (by decide) ?_
            refine lv_icmp_ne (tgt := 68) hx hb dX4_fits_61 (by decide) (fun c61 => ?_) (fun c61 => by exfalso; exact z_m1 (by omega) c61)
            refine lv_aload_n hx hb dX4_fits_68 rfl (lv_at hl 0 rfl) ?_
            refine z_get (k := 20) zcX4 hC hK hP 0 rfl (by decide) lF_X4_48 rfl dX4_fits_69 ?_
            refine lv_iload_n hx hb dX4_fits_72 rfl (lv_at hl 1 rfl) ?_
            refine z_ald hC hK hP 5 rfl (by omega) (by decide) dX4_fits_73 ?_
            refine lv_istore (lv' := [(6, .int (nI (h9 d))), (0, .ref q), (1, .int (nI d)), (2, .int (nI n9)), (3, .int s9), (4, .int (bI a9)), (5, .int (bI m9))]) hx hb dX4_fits_74 hl (by decide) rfl (fun ls hl => ?_)
            have hJ96 : ∀ (j9 : Bool), True → (j9 = (a9 && (decide (n9 = 0) || decide (nI (h9 d) = s9)))) → ∀ ls : Array Slot, lv_has ls 7 [(0, .ref q), (1, .int (nI d)), (2, .int (nI n9)), (3, .int s9), (5, .int (bI m9)), (6, .int (nI (h9 d)))] → W p l e { frames := 2, cells := 0, slots := 0, locals := 46 } s m args below meth c H locs 0 0 (MQ below (qW D [oM q tr xtx ty xdc xdl xdb xar xac xwm xnd at9 sta sor val fau xnw xkp xta xtw td xhg, aI cI xdc 2 dc, aI cI xnd 60 nd, aI cI xta 6 ta, aI cI xtw 6 tw, aI cI xhg 6 hg] [oM q tr xtx ty xdc xdl xdb xar xac xwm xnd at9 sta sor val fau xnw xkp xta xtw td xhg, aI cI xdc 2 dc, aI cI xnd 60 nd, aI cI xta 6 ta, aI cI xtw 6 tw, aI cI xhg 6 (L9 (N9 - 1))] (some (.int (if (ftS U9 (fun i => L9 i d) N9).2.2 = true then (ftS U9 (fun i => L9 i d) N9).2.1 else -9)))) args s 0 0 (zA [oM q tr xtx ty xdc xdl xdb xar xac xwm xnd at9 sta sor val fau xnw xkp xta xtw td xhg, aI cI xdc 2 dc, aI cI xnd 60 nd, aI cI xta 6 ta, aI cI xtw 6 tw, aI cI xhg 6 hg])) (F0 m 96 ls [.int (bI j9)]) := by
              intro j9 _ hj9 ls hl
              refine lv_istore (lv' := [(4, .int (bI j9)), (0, .ref q), (1, .int (nI d)), (2, .int (nI n9)), (3, .int s9), (5, .int (bI m9)), (6, .int (nI (h9 d)))]) hx hb dX4_fits_96 hl (by decide) rfl (fun ls hl => ?_)
              refine lv_iload hx hb dX4_fits_98 (lv_at hl 6 rfl) ?_
              refine lv_istore_n (lv' := [(3, .int (nI (h9 d))), (4, .int (bI j9)), (0, .ref q), (1, .int (nI d)), (2, .int (nI n9)), (5, .int (bI m9)), (6, .int (nI (h9 d)))]) hx hb dX4_fits_100 rfl hl (by decide) rfl (fun ls hl => ?_)
              refine lv_iinc (v := nI (n9 + 1)) (lv' := [(2, .int (nI (n9 + 1))), (3, .int (nI (h9 d))), (4, .int (bI j9)), (0, .ref q), (1, .int (nI d)), (5, .int (bI m9)), (6, .int (nI (h9 d)))]) hx hb dX4_fits_101 hl (k := 4) rfl (z_inc n9 1) (by decide) rfl (fun ls hl => ?_)
              refine lv_aload_n hx hb dX4_fits_104 rfl (lv_at hl 3 rfl) ?_
              have h105 : (∃ i0 j0, i9 + 1 < N9 ∧ pvO (dc 0) (L9 i9) i0 j0 ∧ L9 (i9 + 1) = nxt (dc 0) (L9 i9) i0 j0) ∨ (i9 + 1 = N9 ∧ dc 0 = 0) ∨ (i9 + 1 = N9 ∧ 1 ≤ dc 0 ∧ ∀ i, i + 1 < dc 0 → L9 (N9 - 1) (i + 1) < L9 (N9 - 1) i) := by
                by_cases hx : i9 + 1 < N9
                · obtain ⟨i0, j0, h1, h2⟩ := hLs i9 hx
                  exact Or.inl ⟨i0, j0, hx, h1, h2⟩
                · rcases hLe with h | h
                  · exact Or.inr (Or.inl ⟨by omega, h⟩)
                  · exact Or.inr (Or.inr ⟨by omega, h.1, h.2⟩)
              rcases h105 with ⟨i0, j0, e105, pv, hlh⟩ | ⟨e105, z105⟩ | ⟨e105, f105, g105⟩
              · skip
                refine zXV (As := []) (b := q) (rest := []) hC (c_X4_goOn_t (l := l) (hn := hn) (hb6 := by rw [e49]; exact hLb i9 c48) (hpv := by rw [e49]; exact pv)) lM_X4_157 vM_X4_goOn (by decide) hK hP hD hS [0, 1, 5] [q, xdc, xhg] rfl (by decide) rfl rfl ⟨rfl, rfl, rfl⟩ rfl hl.1 rfl (Nat.le_of_ble_eq_true rfl) dX4_fits_105 (by decide) (fun H locs hP hD hS => ?_)
                have hP : va_P D vwCl [oM q tr xtx ty xdc xdl xdb xar xac xwm xnd at9 sta sor val fau xnw xkp xta xtw td xhg, aI cI xdc 2 dc, aI cI xnd 60 nd, aI cI xta 6 ta, aI cI xtw 6 tw, aI cI xhg 6 (nxt (dc 0) h9 i0 j0)] H := hP
                have hD : va_D A [oM q tr xtx ty xdc xdl xdb xar xac xwm xnd at9 sta sor val fau xnw xkp xta xtw td xhg, aI cI xdc 2 dc, aI cI xnd 60 nd, aI cI xta 6 ta, aI cI xtw 6 tw, aI cI xhg 6 (nxt (dc 0) h9 i0 j0)] := hD
                show W _ _ _ _ _ _ _ _ _ _ _ _ _ _ _ (F0 m 108 ls [.int (bI true)])
                refine lv_istore (lv' := [(5, .int (bI true)), (2, .int (nI (n9 + 1))), (3, .int (nI (h9 d))), (4, .int (bI j9)), (0, .ref q), (1, .int (nI d)), (6, .int (nI (h9 d)))]) hx hb dX4_fits_108 hl (by decide) rfl (fun ls hl => ?_)
                refine lv_goto (tgt := 47) hx hb dX4_fits_110 (by decide) ?_
                exact ih47 (N9 - (i9 + 1)) (by omega) (i9 + 1) (n9 + 1) (nI (h9 d)) j9 true (nxt (dc 0) h9 i0 j0) rfl (by intro _; exact ⟨e105, by rw [hlh, e49]⟩) (by intro h; cases h) (by simp only [ftS_t c56, hn9]) (by simp only [ftS_t c56, e49]) (by rw [hj9]; simp only [ftS_t c56, hn9, hs9, ha9, e49]) _ _ hP hD hS ls (lv_sub hl [4, 5, 1, 2, 3, 0] rfl)
              · skip
                refine zRV (As := []) (b := q) (rest := []) hC (c_X4_goOn_0 (l := l) (hn0 := z105)) lM_X4_157 vM_X4_goOn (by decide) hK hP [0, 1, 5] rfl ⟨rfl, rfl, rfl⟩ rfl hl.1 rfl (Nat.le_of_ble_eq_true rfl) dX4_fits_105 (by decide) ?_
                show W _ _ _ _ _ _ _ _ _ _ _ _ _ _ _ (F0 m 108 ls [.int (bI false)])
                refine lv_istore (lv' := [(5, .int (bI false)), (2, .int (nI (n9 + 1))), (3, .int (nI (h9 d))), (4, .int (bI j9)), (0, .ref q), (1, .int (nI d)), (6, .int (nI (h9 d)))]) hx hb dX4_fits_108 hl (by decide) rfl (fun ls hl => ?_)
                refine lv_goto (tgt := 47) hx hb dX4_fits_110 (by decide) ?_
                exact ih47 (N9 - (i9 + 1)) (by omega) (i9 + 1) (n9 + 1) (nI (h9 d)) j9 false h9 rfl (by intro h; cases h) (by intro _; exact ⟨by omega, by rw [e49, show i9 = N9 - 1 by omega]⟩) (by simp only [ftS_t c56, hn9]) (by simp only [ftS_t c56, e49]) (by rw [hj9]; simp only [ftS_t c56, hn9, hs9, ha9, e49]) _ _ hP hD hS ls (lv_sub hl [4, 5, 1, 2, 3, 0] rfl)
              · skip
                refine zRV (As := []) (b := q) (rest := []) hC (c_X4_goOn_f (l := l) (hn := hn) (h1 := f105) (hb6 := by rw [e49]; exact hLb i9 c48) (hdec := by rw [e49, show i9 = N9 - 1 by omega]; exact g105)) lM_X4_157 vM_X4_goOn (by decide) hK hP [0, 1, 5] rfl ⟨rfl, rfl, rfl⟩ rfl hl.1 rfl (Nat.le_of_ble_eq_true rfl) dX4_fits_105 (by decide) ?_
                show W _ _ _ _ _ _ _ _ _ _ _ _ _ _ _ (F0 m 108 ls [.int (bI false)])
                refine lv_istore (lv' := [(5, .int (bI false)), (2, .int (nI (n9 + 1))), (3, .int (nI (h9 d))), (4, .int (bI j9)), (0, .ref q), (1, .int (nI d)), (6, .int (nI (h9 d)))]) hx hb dX4_fits_108 hl (by decide) rfl (fun ls hl => ?_)
                refine lv_goto (tgt := 47) hx hb dX4_fits_110 (by decide) ?_
                exact ih47 (N9 - (i9 + 1)) (by omega) (i9 + 1) (n9 + 1) (nI (h9 d)) j9 false h9 rfl (by intro h; cases h) (by intro _; exact ⟨by omega, by rw [e49, show i9 = N9 - 1 by omega]⟩) (by simp only [ftS_t c56, hn9]) (by simp only [ftS_t c56, e49]) (by rw [hj9]; simp only [ftS_t c56, hn9, hs9, ha9, e49]) _ _ hP hD hS ls (lv_sub hl [4, 5, 1, 2, 3, 0] rfl)
            refine lv_iload hx hb dX4_fits_76 (lv_at hl 5 rfl) ?_
            refine zb_eq (tgt := 95) hC dX4_fits_78 (by decide) (fun c78 => ?_) (fun c78 => ?_)
            · skip
              refine lv_iconst (v := nI 0) hx hb dX4_fits_95 (by decide) ?_
              exact hJ96 false trivial (by rw [c78]; rfl) ls (lv_sub hl [1, 2, 3, 4, 6, 0] rfl)
            · skip
              refine lv_iload_n hx hb dX4_fits_81 rfl (lv_at hl 3 rfl) ?_
              refine z0_eq (tgt := 91) hC dX4_fits_82 (by decide) (by omega) (fun c82 => ?_) (fun c82 => ?_)
              · skip
                refine lv_iconst (v := nI 1) hx hb dX4_fits_91 (by decide) ?_
                refine lv_goto (tgt := 96) hx hb dX4_fits_92 (by decide) ?_
                exact hJ96 true trivial (by rw [c78, decide_eq_true c82]; rfl) ls (lv_sub hl [1, 2, 3, 4, 6, 0] rfl)
              · skip
                refine lv_iload hx hb dX4_fits_85 (lv_at hl 0 rfl) ?_
                refine lv_iload_n hx hb dX4_fits_87 rfl (lv_at hl 4 rfl) ?_
                refine lv_icmp_ne (tgt := 95) hx hb dX4_fits_88 (by decide) (fun c88 => ?_) (fun c88 => ?_)
                · skip
                  refine lv_iconst (v := nI 0) hx hb dX4_fits_95 (by decide) ?_
                  exact hJ96 false trivial (by rw [c78, decide_eq_false (show ¬ n9 = 0 by omega), decide_eq_false c88]; rfl) ls (lv_sub hl [1, 2, 3, 4, 6, 0] rfl)
                · skip
                  refine lv_iconst (v := nI 1) hx hb dX4_fits_91 (by decide) ?_
                  refine lv_goto (tgt := 96) hx hb dX4_fits_92 (by decide) ?_
                  exact hJ96 true trivial (by rw [c78, decide_eq_true c88, Bool.or_true]; rfl) ls (lv_sub hl [1, 2, 3, 4, 6, 0] rfl)
      exact hL47 _ 0 0 (-9) true true n8 rfl (by intro _; exact ⟨by omega, by rw [hn8, show i8 = 6 by omega]; exact hL0.symm⟩) (by intro h; cases h) (by rfl) (by rfl) (by rfl) _ _ hP hD hS ls (lv_sub hl [4, 5, 3, 2, 1, 0] rfl)
    · skip
      refine lv_aload_n hx hb dX4_fits_23 rfl (lv_at hl 0 rfl) ?_
      refine z_get (k := 20) zcX4 hC hK hP 0 rfl (by decide) lF_X4_48 rfl dX4_fits_24 ?_
      refine lv_iload_n hx hb dX4_fits_27 rfl (lv_at hl 2 rfl) ?_
      refine lv_iload_n hx hb dX4_fits_28 rfl (lv_at hl 2 rfl) ?_
      refine z_ast hC hK hP hD hS 5 rfl (by omega) (by decide) dX4_fits_29 (fun H locs hP hD hS => ?_)
      have hP : va_P D vwCl [oM q tr xtx ty xdc xdl xdb xar xac xwm xnd at9 sta sor val fau xnw xkp xta xtw td xhg, aI cI xdc 2 dc, aI cI xnd 60 nd, aI cI xta 6 ta, aI cI xtw 6 tw, aI cI xhg 6 (updN n8 i8 i8)] H := hP
      have hD : va_D A [oM q tr xtx ty xdc xdl xdb xar xac xwm xnd at9 sta sor val fau xnw xkp xta xtw td xhg, aI cI xdc 2 dc, aI cI xnd 60 nd, aI cI xta 6 ta, aI cI xtw 6 tw, aI cI xhg 6 (updN n8 i8 i8)] := hD
      refine lv_iinc (v := nI (i8 + 1)) (lv' := [(2, .int (nI (i8 + 1))), (0, .ref q), (1, .int (nI d))]) hx hb dX4_fits_30 hl (k := 2) rfl (z_inc i8 1) (by decide) rfl (fun ls hl => ?_)
      refine lv_goto (tgt := 17) hx hb dX4_fits_33 (by decide) ?_
      exact ih17 (6 - (i8 + 1)) (by omega) (i8 + 1) (updN n8 i8 i8) rfl (by omega) (by rw [hn8]; exact blk_id hg i8) _ _ hP hD hS ls (lv_sub hl [1, 2, 0] rfl)
  exact hL17 _ 0 hg rfl (by omega) (by exact (blk_0 _ _ _).symm) _ _ hP hD hS ls (lv_sub hl [1, 2, 0] rfl)
set_option maxHeartbeats 1000000 in
set_option maxRecDepth 100000 in
theorem c_X4_fits_bad {l : Launch} {D : va_G} {cI cZ cB cR : ClassId} {q xtx ty xdc xdl xdb xar xac xwm xnd at9 sta sor val xnw xkp xta xtw td xhg : Nat} {tr : Int64} {fau : Int32} {dc : Nat → Nat} {x : Int32}  (hn : dc 0 ≤ 6) (hm1 : x ≠ (-1)) (hbad : ¬ vp_in x (dc 0)) : mR l yX4_fits cX4_fits 7 (some .int) 2 43 D cI cZ cB cR [oM q tr xtx ty xdc xdl xdb xar xac xwm xnd at9 sta sor val fau xnw xkp xta xtw td xhg, aI cI xdc 2 dc] [.ref q, .int x] (some (.int (-1))) := by
  refine mR_of rfl (Nat.le_of_ble_eq_true rfl) ?_
  intro p e s m args below meth c hC hr hlk hK hP ls hl
  have hl : lv_has ls 7 [(0, .ref q), (1, .int x)] := hl
  obtain ⟨hx, hb, hml, hown, hts⟩ := id hC
  refine lv_iload_n hx hb dX4_fits_0 rfl (lv_at hl 1 rfl) ?_
  refine lv_iconst (v := (-1)) hx hb dX4_fits_1 (by decide) ?_
  refine lv_icmp_eq (tgt := 15) hx hb dX4_fits_2 (by decide) (fun c2 => by exfalso; exact hm1 c2) (fun c2 => ?_)
  refine lv_aload_n hx hb dX4_fits_5 rfl (lv_at hl 0 rfl) ?_
  refine lv_iload_n hx hb dX4_fits_6 rfl (lv_at hl 1 rfl) ?_
  refine zRV (As := [.int x]) (b := q) (rest := []) hC (c_X4_isDecanter (l := l) (g := false) (hn := by omega) (hg := ⟨fun h => (by cases h), fun h => absurd h hbad⟩)) lM_X4_126 vM_X4_isDecanter (by decide) hK hP [0, 1] rfl ⟨rfl, rfl, rfl⟩ rfl hl.1 rfl (Nat.le_of_ble_eq_true rfl) dX4_fits_7 (by decide) ?_
  show W _ _ _ _ _ _ _ _ _ _ _ _ _ _ _ (F0 m 10 ls [.int (bI false)])
  refine zb_ne (tgt := 15) hC dX4_fits_10 (by decide) (fun c10 => by exfalso; cases c10) (fun c10 => ?_)
  refine lv_iconst (v := (-1)) hx hb dX4_fits_13 (by decide) ?_
  exact zr_i hC hr hlk (by first | rfl | omega) dX4_fits_14
