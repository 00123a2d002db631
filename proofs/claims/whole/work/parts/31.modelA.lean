/-- base, but from off on i places of val -/
def blk (base : Nat → Nat) (off i : Nat) (val : Nat → Nat) : Nat → Nat := fun j => if off ≤ j ∧ j < off + i then val (j - off) else base j
theorem blk_0 (base : Nat → Nat) (off : Nat) (val : Nat → Nat) : blk base off 0 val = base := by
  funext j; unfold blk; rw [if_neg (by omega)]
theorem blk_s (base : Nat → Nat) (off i : Nat) (val : Nat → Nat) : updN (blk base off i val) (off + i) (val i) = blk base off (i + 1) val := by
  funext j
  unfold updN blk
  by_cases h : j = off + i
  · subst h; rw [if_pos rfl, if_pos (by omega), Nat.add_sub_cancel_left]
  · by_cases h2 : off ≤ j ∧ j < off + i
    · rw [if_neg h, if_pos h2, if_pos (by omega)]
    · rw [if_neg h, if_neg h2, if_neg (by omega)]
theorem blk_lo {base : Nat → Nat} {off i : Nat} {val : Nat → Nat} {j : Nat} (h : j < off) : blk base off i val j = base j := if_neg (by omega)
theorem blk_hi {base : Nat → Nat} {off i : Nat} {val : Nat → Nat} {j : Nat} (h : off + i ≤ j) : blk base off i val j = base j := if_neg (by omega)
theorem blk_in {base : Nat → Nat} {off i : Nat} {val : Nat → Nat} {m : Nat} (h : m < i) : blk base off i val (off + m) = val m := by
  unfold blk; rw [if_pos (by omega), Nat.add_sub_cancel_left]
/-- where the step is kept: the steps moved down if there were ten -/
def knB (nw : Nat → Nat) : Nat → Nat := if nw 22 = 10 then updN (blk nw 23 198 (fun m => nw (45 + m))) 22 9 else nw
def knK (nw : Nat → Nat) : Nat := if nw 22 = 10 then 9 else nw 22
def knF (nw : Nat → Nat) : Nat → Nat := updN (blk (knB nw) (23 + 22 * knK nw) 22 (knB nw)) 22 (knK nw + 1)
theorem knB_22 (nw : Nat → Nat) : knB nw 22 = knK nw := by
  unfold knB knK
  by_cases h : nw 22 = 10
  · rw [if_pos h, if_pos h, updN_s]
  · rw [if_neg h, if_neg h]
theorem knK_le {nw : Nat → Nat} (h : nw 22 ≤ 10) : knK nw ≤ 9 := by
  unfold knK; split <;> omega
theorem knB_lo (nw : Nat → Nat) {j : Nat} (h : j < 22) : knB nw j = nw j := by
  unfold knB
  by_cases h2 : nw 22 = 10
  · rw [if_pos h2, updN_n (by omega), blk_lo (by omega)]
  · rw [if_neg h2]
theorem knF_lo (nw : Nat → Nat) {j : Nat} (h : j < 22) : knF nw j = nw j := by
  unfold knF
  rw [updN_n (by omega), blk_lo (by omega), knB_lo nw h]
set_option maxHeartbeats 1000000 in
set_option maxRecDepth 100000 in
theorem c_X4_know {l : Launch} {D : va_G} {cI cZ cB cR : ClassId} {q xtx ty xdc xdl xdb xar xac xwm xnd at9 sta sor val xnw xkp xta xtw td xhg : Nat} {tr : Int64} {fau : Int32} {nw : Nat → Nat}  (hk : nw 22 ≤ 10) : mW l yX4_know cX4_know 2 none 0 0 D cI cZ cB cR [oM q tr xtx ty xdc xdl xdb xar xac xwm xnd at9 sta sor val fau xnw xkp xta xtw td xhg, aI cI xnw 729 nw] [oM q tr xtx ty xdc xdl xdb xar xac xwm xnd at9 sta sor val fau xnw xkp xta xtw td xhg, aI cI xnw 729 (knF nw)] [.ref q] (none) := by
  refine mW_of rfl (Nat.le_of_ble_eq_true rfl) ?_
  intro p e s m args below meth c hC hr hlk hK A hA hD H0 h0 hP hS ls hl
  have hP : va_P D vwCl [oM q tr xtx ty xdc xdl xdb xar xac xwm xnd at9 sta sor val fau xnw xkp xta xtw td xhg, aI cI xnw 729 nw] H0 := hP
  have hl : lv_has ls 2 [(0, .ref q)] := hl
  obtain ⟨hx, hb, hml, hown, hts⟩ := id hC
  refine lv_aload_n hx hb dX4_know_0 rfl (lv_at hl 0 rfl) ?_
  refine z_get (k := 15) zcX4 hC hK hP 0 rfl (by decide) lF_X4_35 rfl dX4_know_1 ?_
  refine lv_bipush (v := nI 22) hx hb dX4_know_4 (by decide) ?_
  refine z_ald hC hK hP 1 rfl (by omega) (by decide) dX4_know_6 ?_
  refine lv_bipush (v := nI 10) hx hb dX4_know_7 (by decide) ?_
  refine zc_ne (tgt := 56) hC dX4_know_9 (by decide) (by omega) (by omega) (fun c9 => ?_) (fun c9 => ?_)
  · skip
    refine lv_iconst (v := nI 0) hx hb dX4_know_56 (by decide) ?_
    refine lv_istore_n (lv' := [(1, .int (nI 0)), (0, .ref q)]) hx hb dX4_know_57 rfl hl (by decide) rfl (fun ls hl => ?_)
    have hL58 : ∀ (z58 : Nat) (j9 : Nat) (n9 : Nat → Nat), 22 - j9 = z58 → (j9 ≤ 22) → (n9 = blk (knB nw) (23 + 22 * knK nw) j9 (knB nw)) → ∀ (H : Heap) (locs : List Loc), va_P D vwCl [oM q tr xtx ty xdc xdl xdb xar xac xwm xnd at9 sta sor val fau xnw xkp xta xtw td xhg, aI cI xnw 729 n9] H → va_D A [oM q tr xtx ty xdc xdl xdb xar xac xwm xnd at9 sta sor val fau xnw xkp xta xtw td xhg, aI cI xnw 729 n9] → va_S A H0 H locs → ∀ ls : Array Slot, lv_has ls 2 [(0, .ref q), (1, .int (nI j9))] → W p l e { frames := 0, cells := 0, slots := 0, locals := 0 } s m args below meth c H locs 0 0 (MQ below (qW D [oM q tr xtx ty xdc xdl xdb xar xac xwm xnd at9 sta sor val fau xnw xkp xta xtw td xhg, aI cI xnw 729 nw] [oM q tr xtx ty xdc xdl xdb xar xac xwm xnd at9 sta sor val fau xnw xkp xta xtw td xhg, aI cI xnw 729 (knF nw)] (none)) args s 0 0 (zA [oM q tr xtx ty xdc xdl xdb xar xac xwm xnd at9 sta sor val fau xnw xkp xta xtw td xhg, aI cI xnw 729 nw])) (F0 m 58 ls []) := by
      intro z58
      induction z58 using Nat.strongRecOn with
      | _ z58 ih58 =>
      intro j9 n9 hz58 hj hn9 H locs hP hD hS ls hl
      refine lv_iload_n hx hb dX4_know_58 rfl (lv_at hl 1 rfl) ?_
      refine lv_bipush (v := nI 22) hx hb dX4_know_59 (by decide) ?_
      refine zc_ge (tgt := 96) hC dX4_know_61 (by decide) (by omega) (by omega) (fun c61 => ?_) (fun c61 => ?_)
      · skip
        refine lv_aload_n hx hb dX4_know_96 rfl (lv_at hl 0 rfl) ?_
        refine z_get (k := 15) zcX4 hC hK hP 0 rfl (by decide) lF_X4_35 rfl dX4_know_97 ?_
        refine lv_bipush (v := nI 22) hx hb dX4_know_100 (by decide) ?_
        refine lv_dup2_11 hx hb dX4_know_102 rfl rfl ?_
        refine z_ald hC hK hP 1 rfl (by omega) (by decide) dX4_know_103 ?_
        refine lv_iconst (v := nI 1) hx hb dX4_know_104 (by decide) ?_
        refine zi_add hC dX4_know_105 ?_
        refine z_ast hC hK hP hD hS 1 rfl (by omega) (by decide) dX4_know_106 (fun H locs hP hD hS => ?_)
        have hP : va_P D vwCl [oM q tr xtx ty xdc xdl xdb xar xac xwm xnd at9 sta sor val fau xnw xkp xta xtw td xhg, aI cI xnw 729 (updN n9 22 ((n9 22) + 1))] H := hP
        have hD : va_D A [oM q tr xtx ty xdc xdl xdb xar xac xwm xnd at9 sta sor val fau xnw xkp xta xtw td xhg, aI cI xnw 729 (updN n9 22 ((n9 22) + 1))] := hD
        exact zw_v hC hr hlk hA h0 (by rw [hn9, show j9 = 22 by omega, show blk (knB nw) (23 + 22 * knK nw) 22 (knB nw) 22 = knK nw by rw [blk_lo (by omega), knB_22]] at hP; exact hP) hS dX4_know_107
      · skip
        refine lv_aload_n hx hb dX4_know_64 rfl (lv_at hl 0 rfl) ?_
        refine z_get (k := 15) zcX4 hC hK hP 0 rfl (by decide) lF_X4_35 rfl dX4_know_65 ?_
        refine lv_bipush (v := nI 23) hx hb dX4_know_68 (by decide) ?_
        refine lv_bipush (v := nI 22) hx hb dX4_know_70 (by decide) ?_
        refine lv_aload_n hx hb dX4_know_72 rfl (lv_at hl 0 rfl) ?_
        refine z_get (k := 15) zcX4 hC hK hP 0 rfl (by decide) lF_X4_35 rfl dX4_know_73 ?_
        refine lv_bipush (v := nI 22) hx hb dX4_know_76 (by decide) ?_
        refine z_ald hC hK hP 1 rfl (by omega) (by decide) dX4_know_78 ?_
        have b79 := knK_le hk
        refine z_top (show (nI (n9 22)) = nI (knK nw) from by rw [hn9, blk_lo (by omega), knB_22]) ?_
        refine zi_mul hC dX4_know_79 ?_
        refine zi_add hC dX4_know_80 ?_
        refine lv_iload_n hx hb dX4_know_81 rfl (lv_at hl 1 rfl) ?_
        refine zi_add hC dX4_know_82 ?_
        refine lv_aload_n hx hb dX4_know_83 rfl (lv_at hl 0 rfl) ?_
        refine z_get (k := 15) zcX4 hC hK hP 0 rfl (by decide) lF_X4_35 rfl dX4_know_84 ?_
        refine lv_iload_n hx hb dX4_know_87 rfl (lv_at hl 1 rfl) ?_
        refine z_ald hC hK hP 1 rfl (by omega) (by decide) dX4_know_88 ?_
        refine z_ast hC hK hP hD hS 1 rfl (by omega) (by decide) dX4_know_89 (fun H locs hP hD hS => ?_)
        have hP : va_P D vwCl [oM q tr xtx ty xdc xdl xdb xar xac xwm xnd at9 sta sor val fau xnw xkp xta xtw td xhg, aI cI xnw 729 (updN n9 ((23 + (22 * (knK nw))) + j9) (n9 j9))] H := hP
        have hD : va_D A [oM q tr xtx ty xdc xdl xdb xar xac xwm xnd at9 sta sor val fau xnw xkp xta xtw td xhg, aI cI xnw 729 (updN n9 ((23 + (22 * (knK nw))) + j9) (n9 j9))] := hD
        refine lv_iinc (v := nI (j9 + 1)) (lv' := [(1, .int (nI (j9 + 1))), (0, .ref q)]) hx hb dX4_know_90 hl (k := 1) rfl (z_inc j9 1) (by decide) rfl (fun ls hl => ?_)
        refine lv_goto (tgt := 58) hx hb dX4_know_93 (by decide) ?_
        exact ih58 (22 - (j9 + 1)) (by omega) (j9 + 1) (updN n9 ((23 + (22 * (knK nw))) + j9) (n9 j9)) rfl (by omega) (by rw [show n9 j9 = knB nw j9 by rw [hn9]; exact blk_lo (by omega), hn9]; exact blk_s (knB nw) (23 + 22 * knK nw) j9 (knB nw)) _ _ hP hD hS ls (lv_sub hl [1, 0] rfl)
    exact hL58 _ 0 nw rfl (by omega) (by rw [blk_0]; unfold knB; exact (if_neg c9).symm) _ _ hP hD hS ls (lv_sub hl [1, 0] rfl)
  · skip
    refine lv_iconst (v := nI 0) hx hb dX4_know_12 (by decide) ?_
    refine lv_istore_n (lv' := [(1, .int (nI 0)), (0, .ref q)]) hx hb dX4_know_13 rfl hl (by decide) rfl (fun ls hl => ?_)
    have hL14 : ∀ (z14 : Nat) (i9 : Nat) (n8 : Nat → Nat), 198 - i9 = z14 → (i9 ≤ 198) → (n8 = blk nw 23 i9 (fun m => nw (45 + m))) → ∀ (H : Heap) (locs : List Loc), va_P D vwCl [oM q tr xtx ty xdc xdl xdb xar xac xwm xnd at9 sta sor val fau xnw xkp xta xtw td xhg, aI cI xnw 729 n8] H → va_D A [oM q tr xtx ty xdc xdl xdb xar xac xwm xnd at9 sta sor val fau xnw xkp xta xtw td xhg, aI cI xnw 729 n8] → va_S A H0 H locs → ∀ ls : Array Slot, lv_has ls 2 [(0, .ref q), (1, .int (nI i9))] → W p l e { frames := 0, cells := 0, slots := 0, locals := 0 } s m args below meth c H locs 0 0 (MQ below (qW D [oM q tr xtx ty xdc xdl xdb xar xac xwm xnd at9 sta sor val fau xnw xkp xta xtw td xhg, aI cI xnw 729 nw] [oM q tr xtx ty xdc xdl xdb xar xac xwm xnd at9 sta sor val fau xnw xkp xta xtw td xhg, aI cI xnw 729 (knF nw)] (none)) args s 0 0 (zA [oM q tr xtx ty xdc xdl xdb xar xac xwm xnd at9 sta sor val fau xnw xkp xta xtw td xhg, aI cI xnw 729 nw])) (F0 m 14 ls []) := by
      intro z14
      induction z14 using Nat.strongRecOn with
      | _ z14 ih14 =>
      intro i9 n8 hz14 hi hn8 H locs hP hD hS ls hl
      refine lv_iload_n hx hb dX4_know_14 rfl (lv_at hl 1 rfl) ?_
      refine lv_sipush (v := nI 198) hx hb dX4_know_15 (by decide) ?_
      refine zc_ge (tgt := 45) hC dX4_know_18 (by decide) (by omega) (by omega) (fun c18 => ?_) (fun c18 => ?_)
      · skip
        refine lv_aload_n hx hb dX4_know_45 rfl (lv_at hl 0 rfl) ?_
        refine z_get (k := 15) zcX4 hC hK hP 0 rfl (by decide) lF_X4_35 rfl dX4_know_46 ?_
        refine lv_bipush (v := nI 22) hx hb dX4_know_49 (by decide) ?_
        refine lv_dup2_11 hx hb dX4_know_51 rfl rfl ?_
        refine z_ald hC hK hP 1 rfl (by omega) (by decide) dX4_know_52 ?_
        refine lv_iconst (v := nI 1) hx hb dX4_know_53 (by decide) ?_
        have b54 : n8 22 = 10 := by rw [hn8, blk_lo (by omega), c9]
        refine zi_sub hC dX4_know_54 (by omega) ?_
        refine z_ast hC hK hP hD hS 1 rfl (by omega) (by decide) dX4_know_55 (fun H locs hP hD hS => ?_)
        have hP : va_P D vwCl [oM q tr xtx ty xdc xdl xdb xar xac xwm xnd at9 sta sor val fau xnw xkp xta xtw td xhg, aI cI xnw 729 (updN n8 22 ((n8 22) - 1))] H := hP
        have hD : va_D A [oM q tr xtx ty xdc xdl xdb xar xac xwm xnd at9 sta sor val fau xnw xkp xta xtw td xhg, aI cI xnw 729 (updN n8 22 ((n8 22) - 1))] := hD
        refine lv_iconst (v := nI 0) hx hb dX4_know_56 (by decide) ?_
        refine lv_istore_n (lv' := [(1, .int (nI 0)), (0, .ref q)]) hx hb dX4_know_57 rfl hl (by decide) rfl (fun ls hl => ?_)
        have hL58 : ∀ (z58 : Nat) (j9 : Nat) (n9 : Nat → Nat), 22 - j9 = z58 → (j9 ≤ 22) → (n9 = blk (knB nw) (23 + 22 * knK nw) j9 (knB nw)) → ∀ (H : Heap) (locs : List Loc), va_P D vwCl [oM q tr xtx ty xdc xdl xdb xar xac xwm xnd at9 sta sor val fau xnw xkp xta xtw td xhg, aI cI xnw 729 n9] H → va_D A [oM q tr xtx ty xdc xdl xdb xar xac xwm xnd at9 sta sor val fau xnw xkp xta xtw td xhg, aI cI xnw 729 n9] → va_S A H0 H locs → ∀ ls : Array Slot, lv_has ls 2 [(0, .ref q), (1, .int (nI j9))] → W p l e { frames := 0, cells := 0, slots := 0, locals := 0 } s m args below meth c H locs 0 0 (MQ below (qW D [oM q tr xtx ty xdc xdl xdb xar xac xwm xnd at9 sta sor val fau xnw xkp xta xtw td xhg, aI cI xnw 729 nw] [oM q tr xtx ty xdc xdl xdb xar xac xwm xnd at9 sta sor val fau xnw xkp xta xtw td xhg, aI cI xnw 729 (knF nw)] (none)) args s 0 0 (zA [oM q tr xtx ty xdc xdl xdb xar xac xwm xnd at9 sta sor val fau xnw xkp xta xtw td xhg, aI cI xnw 729 nw])) (F0 m 58 ls []) := by
          intro z58
          induction z58 using Nat.strongRecOn with
          | _ z58 ih58 =>
          intro j9 n9 hz58 hj hn9 H locs hP hD hS ls hl
          refine lv_iload_n hx hb dX4_know_58 rfl (lv_at hl 1 rfl) ?_
          refine lv_bipush (v := nI 22) hx hb dX4_know_59 (by decide) ?_
          refine zc_ge (tgt := 96) hC dX4_know_61 (by decide) (by omega) (by omega) (fun c61 => ?_) (fun c61 => ?_)
          · skip
            refine lv_aload_n hx hb dX4_know_96 rfl (lv_at hl 0 rfl) ?_
            refine z_get (k := 15) zcX4 hC hK hP 0 rfl (by decide) lF_X4_35 rfl dX4_know_97 ?_
            refine lv_bipush (v := nI 22) hx hb dX4_know_100 (by decide) ?_
            refine lv_dup2_11 hx hb dX4_know_102 rfl rfl ?_
            refine z_ald hC hK hP 1 rfl (by omega) (by decide) dX4_know_103 ?_
            refine lv_iconst (v := nI 1) hx hb dX4_know_104 (by decide) ?_
            refine zi_add hC dX4_know_105 ?_
            refine z_ast hC hK hP hD hS 1 rfl (by omega) (by decide) dX4_know_106 (fun H locs hP hD hS => ?_)
            have hP : va_P D vwCl [oM q tr xtx ty xdc xdl xdb xar xac xwm xnd at9 sta sor val fau xnw xkp xta xtw td xhg, aI cI xnw 729 (updN n9 22 ((n9 22) + 1))] H := hP
            have hD : va_D A [oM q tr xtx ty xdc xdl xdb xar xac xwm xnd at9 sta sor val fau xnw xkp xta xtw td xhg, aI cI xnw 729 (updN n9 22 ((n9 22) + 1))] := hD
            exact zw_v hC hr hlk hA h0 (by rw [hn9, show j9 = 22 by omega, show blk (knB nw) (23 + 22 * knK nw) 22 (knB nw) 22 = knK nw by rw [blk_lo (by omega), knB_22]] at hP; exact hP) hS dX4_know_107
          · skip
            refine lv_aload_n hx hb dX4_know_64 rfl (lv_at hl 0 rfl) ?_
            refine z_get (k := 15) zcX4 hC hK hP 0 rfl (by decide) lF_X4_35 rfl dX4_know_65 ?_
            refine lv_bipush (v := nI 23) hx hb dX4_know_68 (by decide) ?_
            refine lv_bipush (v := nI 22) hx hb dX4_know_70 (by decide) ?_
            refine lv_aload_n hx hb dX4_know_72 rfl (lv_at hl 0 rfl) ?_
            refine z_get (k := 15) zcX4 hC hK hP 0 rfl (by decide) lF_X4_35 rfl dX4_know_73 ?_
            refine lv_bipush (v := nI 22) hx hb dX4_know_76 (by decide) ?_
            refine z_ald hC hK hP 1 rfl (by omega) (by decide) dX4_know_78 ?_
            have b79 := knK_le hk
            refine z_top (show (nI (n9 22)) = nI (knK nw) from by rw [hn9, blk_lo (by omega), knB_22]) ?_
            refine zi_mul hC dX4_know_79 ?_
            refine zi_add hC dX4_know_80 ?_
            refine lv_iload_n hx hb dX4_know_81 rfl (lv_at hl 1 rfl) ?_
            refine zi_add hC dX4_know_82 ?_
            refine lv_aload_n hx hb dX4_know_83 rfl (lv_at hl 0 rfl) ?_
            refine z_get (k := 15) zcX4 hC hK hP 0 rfl (by decide) lF_X4_35 rfl dX4_know_84 ?_
            refine lv_iload_n hx hb dX4_know_87 rfl (lv_at hl 1 rfl) ?_
            refine z_ald hC hK hP 1 rfl (by omega) (by decide) dX4_know_88 ?_
            refine z_ast hC hK hP hD hS 1 rfl (by omega) (by decide) dX4_know_89 (fun H locs hP hD hS => ?_)
            have hP : va_P D vwCl [oM q tr xtx ty xdc xdl xdb xar xac xwm xnd at9 sta sor val fau xnw xkp xta xtw td xhg, aI cI xnw 729 (updN n9 ((23 + (22 * (knK nw))) + j9) (n9 j9))] H := hP
            have hD : va_D A [oM q tr xtx ty xdc xdl xdb xar xac xwm xnd at9 sta sor val fau xnw xkp xta xtw td xhg, aI cI xnw 729 (updN n9 ((23 + (22 * (knK nw))) + j9) (n9 j9))] := hD
            refine lv_iinc (v := nI (j9 + 1)) (lv' := [(1, .int (nI (j9 + 1))), (0, .ref q)]) hx hb dX4_know_90 hl (k := 1) rfl (z_inc j9 1) (by decide) rfl (fun ls hl => ?_)
            refine lv_goto (tgt := 58) hx hb dX4_know_93 (by decide) ?_
            exact ih58 (22 - (j9 + 1)) (by omega) (j9 + 1) (updN n9 ((23 + (22 * (knK nw))) + j9) (n9 j9)) rfl (by omega) (by rw [show n9 j9 = knB nw j9 by rw [hn9]; exact blk_lo (by omega), hn9]; exact blk_s (knB nw) (23 + 22 * knK nw) j9 (knB nw)) _ _ hP hD hS ls (lv_sub hl [1, 0] rfl)
        exact hL58 _ 0 (updN n8 22 ((n8 22) - 1)) rfl (by omega) (by rw [blk_0]; unfold knB; rw [if_pos c9, hn8, show i9 = 198 by omega, show blk nw 23 198 (fun m => nw (45 + m)) 22 - 1 = 9 by rw [blk_lo (by omega), c9]]) _ _ hP hD hS ls (lv_sub hl [1, 0] rfl)
      · skip
        refine lv_aload_n hx hb dX4_know_21 rfl (lv_at hl 0 rfl) ?_
        refine z_get (k := 15) zcX4 hC hK hP 0 rfl (by decide) lF_X4_35 rfl dX4_know_22 ?_
        refine lv_bipush (v := nI 23) hx hb dX4_know_25 (by decide) ?_
        refine lv_iload_n hx hb dX4_know_27 rfl (lv_at hl 1 rfl) ?_
        refine zi_add hC dX4_know_28 ?_
        refine lv_aload_n hx hb dX4_know_29 rfl (lv_at hl 0 rfl) ?_
        refine z_get (k := 15) zcX4 hC hK hP 0 rfl (by decide) lF_X4_35 rfl dX4_know_30 ?_
        refine lv_bipush (v := nI 45) hx hb dX4_know_33 (by decide) ?_
        refine lv_iload_n hx hb dX4_know_35 rfl (lv_at hl 1 rfl) ?_
        refine zi_add hC dX4_know_36 ?_
        refine z_ald hC hK hP 1 rfl (by omega) (by decide) dX4_know_37 ?_
        refine z_ast hC hK hP hD hS 1 rfl (by omega) (by decide) dX4_know_38 (fun H locs hP hD hS => ?_)
        have hP : va_P D vwCl [oM q tr xtx ty xdc xdl xdb xar xac xwm xnd at9 sta sor val fau xnw xkp xta xtw td xhg, aI cI xnw 729 (updN n8 (23 + i9) (n8 (45 + i9)))] H := hP
        have hD : va_D A [oM q tr xtx ty xdc xdl xdb xar xac xwm xnd at9 sta sor val fau xnw xkp xta xtw td xhg, aI cI xnw 729 (updN n8 (23 + i9) (n8 (45 + i9)))] := hD
        refine lv_iinc (v := nI (i9 + 1)) (lv' := [(1, .int (nI (i9 + 1))), (0, .ref q)]) hx hb dX4_know_39 hl (k := 1) rfl (z_inc i9 1) (by decide) rfl (fun ls hl => ?_)
        refine lv_goto (tgt := 14) hx hb dX4_know_42 (by decide) ?_
        exact ih14 (198 - (i9 + 1)) (by omega) (i9 + 1) (updN n8 (23 + i9) (n8 (45 + i9))) rfl (by omega) (by rw [show n8 (45 + i9) = nw (45 + i9) by rw [hn8]; exact blk_hi (by omega), hn8]; exact blk_s nw 23 i9 (fun m => nw (45 + m))) _ _ hP hD hS ls (lv_sub hl [1, 0] rfl)
    exact hL14 _ 0 nw rfl (by omega) (by exact (blk_0 _ _ _).symm) _ _ hP hD hS ls (lv_sub hl [1, 0] rfl)
set_option maxHeartbeats 1000000 in
set_option maxRecDepth 100000 in
theorem c_X4_settle {l : Launch} {D : va_G} {cI cZ cB cR : ClassId} {q xtx ty xdc xdl xdb xar xac xwm xnd at9 sta sor val xnw xkp xta xtw td xhg : Nat} {tr : Int64} {fau : Int32} {dc nw : Nat → Nat}  (hn : dc 0 ≤ 6) (hlv : ∀ j, j < 6 → nw j ≤ 40) (hte : ∀ j, j < 6 → nw (6 + j) ≤ 40) : mW l yX4_settle cX4_settle 2 none 0 0 D cI cZ cB cR [oM q tr xtx ty xdc xdl xdb xar xac xwm xnd at9 sta sor val fau xnw xkp xta xtw td xhg, aI cI xdc 2 dc, aI cI xnw 729 nw] [oM q tr xtx ty xdc xdl xdb xar xac xwm xnd at9 sta sor val fau xnw xkp xta xtw td xhg, aI cI xdc 2 dc, aI cI xnw 729 (blk nw 6 (dc 0) (fun m => min (nw (6 + m)) (nw m)))] [.ref q] (none) := by
  refine mW_of rfl (Nat.le_of_ble_eq_true rfl) ?_
  intro p e s m args below meth c hC hr hlk hK A hA hD H0 h0 hP hS ls hl
  have hP : va_P D vwCl [oM q tr xtx ty xdc xdl xdb xar xac xwm xnd at9 sta sor val fau xnw xkp xta xtw td xhg, aI cI xdc 2 dc, aI cI xnw 729 nw] H0 := hP
  have hl : lv_has ls 2 [(0, .ref q)] := hl
  obtain ⟨hx, hb, hml, hown, hts⟩ := id hC
  refine lv_iconst (v := nI 0) hx hb dX4_settle_0 (by decide) ?_
  refine lv_istore_n (lv' := [(1, .int (nI 0)), (0, .ref q)]) hx hb dX4_settle_1 rfl hl (by decide) rfl (fun ls hl => ?_)
  have hL2 : ∀ (z2 : Nat) (i9 : Nat) (n8 : Nat → Nat), dc 0 - i9 = z2 → (i9 ≤ dc 0) → (n8 = blk nw 6 i9 (fun m => min (nw (6 + m)) (nw m))) → ∀ (H : Heap) (locs : List Loc), va_P D vwCl [oM q tr xtx ty xdc xdl xdb xar xac xwm xnd at9 sta sor val fau xnw xkp xta xtw td xhg, aI cI xdc 2 dc, aI cI xnw 729 n8] H → va_D A [oM q tr xtx ty xdc xdl xdb xar xac xwm xnd at9 sta sor val fau xnw xkp xta xtw td xhg, aI cI xdc 2 dc, aI cI xnw 729 n8] → va_S A H0 H locs → ∀ ls : Array Slot, lv_has ls 2 [(0, .ref q), (1, .int (nI i9))] → W p l e { frames := 0, cells := 0, slots := 0, locals := 0 } s m args below meth c H locs 0 0 (MQ below (qW D [oM q tr xtx ty xdc xdl xdb xar xac xwm xnd at9 sta sor val fau xnw xkp xta xtw td xhg, aI cI xdc 2 dc, aI cI xnw 729 nw] [oM q tr xtx ty xdc xdl xdb xar xac xwm xnd at9 sta sor val fau xnw xkp xta xtw td xhg, aI cI xdc 2 dc, aI cI xnw 729 (blk nw 6 (dc 0) (fun m => min (nw (6 + m)) (nw m)))] (none)) args s 0 0 (zA [oM q tr xtx ty xdc xdl xdb xar xac xwm xnd at9 sta sor val fau xnw xkp xta xtw td xhg, aI cI xdc 2 dc, aI cI xnw 729 nw])) (F0 m 2 ls []) := by
    intro z2
    induction z2 using Nat.strongRecOn with
    | _ z2 ih2 =>
    intro i9 n8 hz2 hi hn8 H locs hP hD hS ls hl
    refine lv_iload_n hx hb dX4_settle_2 rfl (lv_at hl 1 rfl) ?_
    refine lv_aload_n hx hb dX4_settle_3 rfl (lv_at hl 0 rfl) ?_
    refine z_get (k := 3) zcX4 hC hK hP 0 rfl (by decide) lF_X4_13 rfl dX4_settle_4 ?_
    refine lv_iconst (v := nI 0) hx hb dX4_settle_7 (by decide) ?_
    refine z_ald hC hK hP 1 rfl (by omega) (by decide) dX4_settle_8 ?_
    refine zc_ge (tgt := 63) hC dX4_settle_9 (by decide) (by omega) (by omega) (fun c9 => ?_) (fun c9 => ?_)
    · skip
      exact zw_v hC hr hlk hA h0 (by rw [hn8, show i9 = dc 0 by omega] at hP; exact hP) hS dX4_settle_63
    · skip
      refine lv_aload_n hx hb dX4_settle_12 rfl (lv_at hl 0 rfl) ?_
      refine z_get (k := 15) zcX4 hC hK hP 0 rfl (by decide) lF_X4_35 rfl dX4_settle_13 ?_
      refine lv_bipush (v := nI 6) hx hb dX4_settle_16 (by decide) ?_
      refine lv_iload_n hx hb dX4_settle_18 rfl (lv_at hl 1 rfl) ?_
      refine zi_add hC dX4_settle_19 ?_
      refine lv_aload_n hx hb dX4_settle_20 rfl (lv_at hl 0 rfl) ?_
      refine z_get (k := 15) zcX4 hC hK hP 0 rfl (by decide) lF_X4_35 rfl dX4_settle_21 ?_
      refine lv_bipush (v := nI 6) hx hb dX4_settle_24 (by decide) ?_
      refine lv_iload_n hx hb dX4_settle_26 rfl (lv_at hl 1 rfl) ?_
      refine zi_add hC dX4_settle_27 ?_
      have b35a : n8 (6 + i9) = nw (6 + i9) := by rw [hn8]; exact blk_hi (by omega)
      have b35b : n8 i9 = nw i9 := by rw [hn8]; exact blk_lo (by omega)
      have b35c := hlv i9 (by omega)
      have b35d := hte i9 (by omega)
      refine z_ald hC hK hP 2 rfl (by omega) (by decide) dX4_settle_28 ?_
      refine lv_aload_n hx hb dX4_settle_29 rfl (lv_at hl 0 rfl) ?_
      refine z_get (k := 15) zcX4 hC hK hP 0 rfl (by decide) lF_X4_35 rfl dX4_settle_30 ?_
      refine lv_iload_n hx hb dX4_settle_33 rfl (lv_at hl 1 rfl) ?_
      refine z_ald hC hK hP 2 rfl (by omega) (by decide) dX4_settle_34 ?_
      refine zc_le (tgt := 47) hC dX4_settle_35 (by decide) (by omega) (by omega) (fun c35 => ?_) (fun c35 => ?_)
      · skip
        refine lv_aload_n hx hb dX4_settle_47 rfl (lv_at hl 0 rfl) ?_
        refine z_get (k := 15) zcX4 hC hK hP 0 rfl (by decide) lF_X4_35 rfl dX4_settle_48 ?_
        refine lv_bipush (v := nI 6) hx hb dX4_settle_51 (by decide) ?_
        refine lv_iload_n hx hb dX4_settle_53 rfl (lv_at hl 1 rfl) ?_
        refine zi_add hC dX4_settle_54 ?_
        refine z_ald hC hK hP 2 rfl (by omega) (by decide) dX4_settle_55 ?_
        refine z_ast hC hK hP hD hS 2 rfl (by omega) (by decide) dX4_settle_56 (fun H locs hP hD hS => ?_)
        have hP : va_P D vwCl [oM q tr xtx ty xdc xdl xdb xar xac xwm xnd at9 sta sor val fau xnw xkp xta xtw td xhg, aI cI xdc 2 dc, aI cI xnw 729 (updN n8 (6 + i9) (n8 (6 + i9)))] H := hP
        have hD : va_D A [oM q tr xtx ty xdc xdl xdb xar xac xwm xnd at9 sta sor val fau xnw xkp xta xtw td xhg, aI cI xdc 2 dc, aI cI xnw 729 (updN n8 (6 + i9) (n8 (6 + i9)))] := hD
        refine lv_iinc (v := nI (i9 + 1)) (lv' := [(1, .int (nI (i9 + 1))), (0, .ref q)]) hx hb dX4_settle_57 hl (k := 1) rfl (z_inc i9 1) (by decide) rfl (fun ls hl => ?_)
        refine lv_goto (tgt := 2) hx hb dX4_settle_60 (by decide) ?_
        exact ih2 (dc 0 - (i9 + 1)) (by omega) (i9 + 1) (updN n8 (6 + i9) (n8 (6 + i9))) rfl (by omega) (by rw [b35a, hn8, ← blk_s]; congr 1; show _ = min (nw (6 + i9)) (nw i9); rw [b35a, b35b] at c35; omega) _ _ hP hD hS ls (lv_sub hl [1, 0] rfl)
      · skip
        refine lv_aload_n hx hb dX4_settle_38 rfl (lv_at hl 0 rfl) ?_
        refine z_get (k := 15) zcX4 hC hK hP 0 rfl (by decide) lF_X4_35 rfl dX4_settle_39 ?_
        refine lv_iload_n hx hb dX4_settle_42 rfl (lv_at hl 1 rfl) ?_
        refine z_ald hC hK hP 2 rfl (by omega) (by decide) dX4_settle_43 ?_
        refine lv_goto (tgt := 56) hx hb dX4_settle_44 (by decide) ?_
        refine z_ast hC hK hP hD hS 2 rfl (by omega) (by decide) dX4_settle_56 (fun H locs hP hD hS => ?_)
        have hP : va_P D vwCl [oM q tr xtx ty xdc xdl xdb xar xac xwm xnd at9 sta sor val fau xnw xkp xta xtw td xhg, aI cI xdc 2 dc, aI cI xnw 729 (updN n8 (6 + i9) (n8 i9))] H := hP
        have hD : va_D A [oM q tr xtx ty xdc xdl xdb xar xac xwm xnd at9 sta sor val fau xnw xkp xta xtw td xhg, aI cI xdc 2 dc, aI cI xnw 729 (updN n8 (6 + i9) (n8 i9))] := hD
        refine lv_iinc (v := nI (i9 + 1)) (lv' := [(1, .int (nI (i9 + 1))), (0, .ref q)]) hx hb dX4_settle_57 hl (k := 1) rfl (z_inc i9 1) (by decide) rfl (fun ls hl => ?_)
        refine lv_goto (tgt := 2) hx hb dX4_settle_60 (by decide) ?_
        exact ih2 (dc 0 - (i9 + 1)) (by omega) (i9 + 1) (updN n8 (6 + i9) (n8 i9)) rfl (by omega) (by rw [b35b, hn8, ← blk_s]; congr 1; show _ = min (nw (6 + i9)) (nw i9); rw [b35a, b35b] at c35; omega) _ _ hP hD hS ls (lv_sub hl [1, 0] rfl)
  exact hL2 _ 0 nw rfl (by omega) (by exact (blk_0 _ _ _).symm) _ _ hP hD hS ls (lv_sub hl [1, 0] rfl)
set_option maxHeartbeats 1000000 in
set_option maxRecDepth 100000 in
theorem c_X4_month_state {l : Launch} {D : va_G} {cI cZ cB cR : ClassId} {q xtx ty xdc xdl xdb xar xac xwm xnd at9 sta sor val xnw xkp xta xtw td xhg : Nat} {tr : Int64} {fau : Int32} {nw : Nat → Nat}  (hmo : nw 18 = 999) : mR l yX4_month cX4_month 2 (some .int) 0 0 D cI cZ cB cR [oM q tr xtx ty xdc xdl xdb xar xac xwm xnd at9 sta sor val fau xnw xkp xta xtw td xhg, aI cI xnw 729 nw] [.ref q] (some (.int (-2))) := by
  refine mR_of rfl (Nat.le_of_ble_eq_true rfl) ?_
  intro p e s m args below meth c hC hr hlk hK hP ls hl
  have hl : lv_has ls 2 [(0, .ref q)] := hl
  obtain ⟨hx, hb, hml, hown, hts⟩ := id hC
  refine lv_aload_n hx hb dX4_month_0 rfl (lv_at hl 0 rfl) ?_
  refine z_get (k := 15) zcX4 hC hK hP 0 rfl (by decide) lF_X4_35 rfl dX4_month_1 ?_
  refine lv_bipush (v := nI 18) hx hb dX4_month_4 (by decide) ?_
  refine z_ald hC hK hP 1 rfl (by omega) (by decide) dX4_month_6 ?_
  refine lv_sipush (v := nI 999) hx hb dX4_month_7 (by decide) ?_
  refine zc_ne (tgt := 16) hC dX4_month_10 (by decide) (by omega) (by omega) (fun c10 => by exfalso; omega) (fun c10 => ?_)
  refine lv_bipush (v := (-2)) hx hb dX4_month_13 (by decide) ?_
  exact zr_i hC hr hlk (by first | rfl | omega) dX4_month_15
set_option maxHeartbeats 1000000 in
set_option maxRecDepth 100000 in
theorem c_X4_month {l : Launch} {D : va_G} {cI cZ cB cR : ClassId} {q xtx ty xdc xdl xdb xar xac xwm xnd at9 sta sor val xnw xkp xta xtw td xhg : Nat} {tr : Int64} {fau : Int32} {dc nw ar : Nat → Nat}  (hn : dc 0 ≤ 6) (hlv : ∀ j, j < 6 → nw j ≤ 40) (har : ∀ i, i < 6 → ar i ≤ 5) (hte : ∀ j, j < 6 → nw (6 + j) ≤ 40) (hk : nw 22 ≤ 10) (hmo : nw 18 < 999) : mW l yX4_month cX4_month 2 (some .int) 1 23 D cI cZ cB cR [oM q tr xtx ty xdc xdl xdb xar xac xwm xnd at9 sta sor val fau xnw xkp xta xtw td xhg, aI cI xdc 2 dc, aI cI xnw 729 nw, aI cI xar 12 ar] [oM q tr xtx ty xdc xdl xdb xar xac xwm xnd at9 sta sor val fau xnw xkp xta xtw td xhg, aI cI xdc 2 dc, aI cI xnw 729 (updN (blk (blk (knF nw) 0 (dc 0) (fun m => nw m - 1 * ar m)) 6 (dc 0) (fun m => min ((blk (knF nw) 0 (dc 0) (fun m => nw m - 1 * ar m)) (6 + m)) ((blk (knF nw) 0 (dc 0) (fun m => nw m - 1 * ar m)) m))) 18 (nw 18 + 1)), aI cI xar 12 ar] [.ref q] (some (.int (nI (nw 18 + 1)))) := by
  refine mW_of rfl (Nat.le_of_ble_eq_true rfl) ?_
  intro p e s m args below meth c hC hr hlk hK A hA hD H0 h0 hP hS ls hl
  have hP : va_P D vwCl [oM q tr xtx ty xdc xdl xdb xar xac xwm xnd at9 sta sor val fau xnw xkp xta xtw td xhg, aI cI xdc 2 dc, aI cI xnw 729 nw, aI cI xar 12 ar] H0 := hP
  have hl : lv_has ls 2 [(0, .ref q)] := hl
  obtain ⟨hx, hb, hml, hown, hts⟩ := id hC
  refine lv_aload_n hx hb dX4_month_0 rfl (lv_at hl 0 rfl) ?_
  refine z_get (k := 15) zcX4 hC hK hP 0 rfl (by decide) lF_X4_35 rfl dX4_month_1 ?_
  refine lv_bipush (v := nI 18) hx hb dX4_month_4 (by decide) ?_
  refine z_ald hC hK hP 2 rfl (by omega) (by decide) dX4_month_6 ?_
  refine lv_sipush (v := nI 999) hx hb dX4_month_7 (by decide) ?_
  refine zc_ne (tgt := 16) hC dX4_month_10 (by decide) (by omega) (by omega) (fun c10 => ?_) (fun c10 => by exfalso; omega)
  refine lv_aload_n hx hb dX4_month_16 rfl (lv_at hl 0 rfl) ?_
  refine zXV (As := []) (b := q) (rest := []) hC (c_X4_know (l := l) (hk := hk)) lM_X4_141 vM_X4_know (by decide) hK hP hD hS [0, 2] [q, xnw] rfl (by decide) rfl rfl ⟨rfl, rfl, rfl⟩ rfl hl.1 rfl (Nat.le_of_ble_eq_true rfl) dX4_month_17 (by decide) (fun H locs hP hD hS => ?_)
  have hP : va_P D vwCl [oM q tr xtx ty xdc xdl xdb xar xac xwm xnd at9 sta sor val fau xnw xkp xta xtw td xhg, aI cI xdc 2 dc, aI cI xnw 729 (knF nw), aI cI xar 12 ar] H := hP
  have hD : va_D A [oM q tr xtx ty xdc xdl xdb xar xac xwm xnd at9 sta sor val fau xnw xkp xta xtw td xhg, aI cI xdc 2 dc, aI cI xnw 729 (knF nw), aI cI xar 12 ar] := hD
  show W _ _ _ _ _ _ _ _ _ _ _ _ _ _ _ (F0 m 20 ls [])
  refine lv_iconst (v := nI 0) hx hb dX4_month_20 (by decide) ?_
  refine lv_istore_n (lv' := [(1, .int (nI 0)), (0, .ref q)]) hx hb dX4_month_21 rfl hl (by decide) rfl (fun ls hl => ?_)
  have hL22 : ∀ (z22 : Nat) (i9 : Nat) (n8 : Nat → Nat), dc 0 - i9 = z22 → (i9 ≤ dc 0) → (n8 = blk (knF nw) 0 i9 (fun m => nw m - 1 * ar m)) → ∀ (H : Heap) (locs : List Loc), va_P D vwCl [oM q tr xtx ty xdc xdl xdb xar xac xwm xnd at9 sta sor val fau xnw xkp xta xtw td xhg, aI cI xdc 2 dc, aI cI xnw 729 n8, aI cI xar 12 ar] H → va_D A [oM q tr xtx ty xdc xdl xdb xar xac xwm xnd at9 sta sor val fau xnw xkp xta xtw td xhg, aI cI xdc 2 dc, aI cI xnw 729 n8, aI cI xar 12 ar] → va_S A H0 H locs → ∀ ls : Array Slot, lv_has ls 2 [(0, .ref q), (1, .int (nI i9))] → W p l e { frames := 1, cells := 0, slots := 0, locals := 23 } s m args below meth c H locs 0 0 (MQ below (qW D [oM q tr xtx ty xdc xdl xdb xar xac xwm xnd at9 sta sor val fau xnw xkp xta xtw td xhg, aI cI xdc 2 dc, aI cI xnw 729 nw, aI cI xar 12 ar] [oM q tr xtx ty xdc xdl xdb xar xac xwm xnd at9 sta sor val fau xnw xkp xta xtw td xhg, aI cI xdc 2 dc, aI cI xnw 729 (updN (blk (blk (knF nw) 0 (dc 0) (fun m => nw m - 1 * ar m)) 6 (dc 0) (fun m => min ((blk (knF nw) 0 (dc 0) (fun m => nw m - 1 * ar m)) (6 + m)) ((blk (knF nw) 0 (dc 0) (fun m => nw m - 1 * ar m)) m))) 18 (nw 18 + 1)), aI cI xar 12 ar] (some (.int (nI (nw 18 + 1))))) args s 0 0 (zA [oM q tr xtx ty xdc xdl xdb xar xac xwm xnd at9 sta sor val fau xnw xkp xta xtw td xhg, aI cI xdc 2 dc, aI cI xnw 729 nw, aI cI xar 12 ar])) (F0 m 22 ls []) := by
    intro z22
    induction z22 using Nat.strongRecOn with
    | _ z22 ih22 =>
    intro i9 n8 hz22 hi hn8 H locs hP hD hS ls hl
    refine lv_iload_n hx hb dX4_month_22 rfl (lv_at hl 1 rfl) ?_
    refine lv_aload_n hx hb dX4_month_23 rfl (lv_at hl 0 rfl) ?_
    refine z_get (k := 3) zcX4 hC hK hP 0 rfl (by decide) lF_X4_13 rfl dX4_month_24 ?_
    refine lv_iconst (v := nI 0) hx hb dX4_month_27 (by decide) ?_
    refine z_ald hC hK hP 1 rfl (by omega) (by decide) dX4_month_28 ?_
    refine zc_ge (tgt := 50) hC dX4_month_29 (by decide) (by omega) (by omega) (fun c29 => ?_) (fun c29 => ?_)
    · skip
      have e29 : i9 = dc 0 := by omega
      rw [e29] at hn8
      refine lv_aload_n hx hb dX4_month_50 rfl (lv_at hl 0 rfl) ?_
      refine zXV (As := []) (b := q) (rest := []) hC (c_X4_settle (l := l) (hn := hn) (hlv := fun j hj => by rw [hn8]; unfold blk; split; (show nw (j - 0) - 1 * ar (j - 0) ≤ 40; have := hlv (j - 0) (by omega); omega); rw [knF_lo nw (by omega)]; exact hlv j hj) (hte := fun j hj => by rw [hn8, blk_hi (by omega), knF_lo nw (by omega)]; exact hte j hj)) lM_X4_144 vM_X4_settle (by decide) hK hP hD hS [0, 1, 2] [q, xdc, xnw] rfl (by decide) rfl rfl ⟨rfl, rfl, rfl⟩ rfl hl.1 rfl (Nat.le_of_ble_eq_true rfl) dX4_month_51 (by decide) (fun H locs hP hD hS => ?_)
      have hP : va_P D vwCl [oM q tr xtx ty xdc xdl xdb xar xac xwm xnd at9 sta sor val fau xnw xkp xta xtw td xhg, aI cI xdc 2 dc, aI cI xnw 729 (blk n8 6 (dc 0) (fun m => min (n8 (6 + m)) (n8 m))), aI cI xar 12 ar] H := hP
      have hD : va_D A [oM q tr xtx ty xdc xdl xdb xar xac xwm xnd at9 sta sor val fau xnw xkp xta xtw td xhg, aI cI xdc 2 dc, aI cI xnw 729 (blk n8 6 (dc 0) (fun m => min (n8 (6 + m)) (n8 m))), aI cI xar 12 ar] := hD
      show W _ _ _ _ _ _ _ _ _ _ _ _ _ _ _ (F0 m 54 ls [])
      refine lv_aload_n hx hb dX4_month_54 rfl (lv_at hl 0 rfl) ?_
      refine z_get (k := 15) zcX4 hC hK hP 0 rfl (by decide) lF_X4_35 rfl dX4_month_55 ?_
      refine lv_bipush (v := nI 18) hx hb dX4_month_58 (by decide) ?_
      refine lv_dup2_11 hx hb dX4_month_60 rfl rfl ?_
      refine z_ald hC hK hP 2 rfl (by omega) (by decide) dX4_month_61 ?_
      refine lv_iconst (v := nI 1) hx hb dX4_month_62 (by decide) ?_
      refine zi_add hC dX4_month_63 ?_
      refine z_ast hC hK hP hD hS 2 rfl (by omega) (by decide) dX4_month_64 (fun H locs hP hD hS => ?_)
      have hP : va_P D vwCl [oM q tr xtx ty xdc xdl xdb xar xac xwm xnd at9 sta sor val fau xnw xkp xta xtw td xhg, aI cI xdc 2 dc, aI cI xnw 729 (updN (blk n8 6 (dc 0) (fun m => min (n8 (6 + m)) (n8 m))) 18 (((blk n8 6 (dc 0) (fun m => min (n8 (6 + m)) (n8 m))) 18) + 1)), aI cI xar 12 ar] H := hP
      have hD : va_D A [oM q tr xtx ty xdc xdl xdb xar xac xwm xnd at9 sta sor val fau xnw xkp xta xtw td xhg, aI cI xdc 2 dc, aI cI xnw 729 (updN (blk n8 6 (dc 0) (fun m => min (n8 (6 + m)) (n8 m))) 18 (((blk n8 6 (dc 0) (fun m => min (n8 (6 + m)) (n8 m))) 18) + 1)), aI cI xar 12 ar] := hD
      refine lv_aload_n hx hb dX4_month_65 rfl (lv_at hl 0 rfl) ?_
      refine z_get (k := 15) zcX4 hC hK hP 0 rfl (by decide) lF_X4_35 rfl dX4_month_66 ?_
      refine lv_bipush (v := nI 18) hx hb dX4_month_69 (by decide) ?_
      refine z_ald hC hK hP 2 rfl (by omega) (by decide) dX4_month_71 ?_
      have b72 : blk n8 6 (dc 0) (fun m => min (n8 (6 + m)) (n8 m)) 18 = nw 18 := by rw [blk_hi (by omega), hn8, blk_hi (by omega)]; exact knF_lo nw (by omega)
      exact zw_i hC hr hlk hA h0 (by rw [b72, hn8] at hP; exact hP) hS (by rw [updN_s, b72]) dX4_month_72
    · skip
      refine lv_aload_n hx hb dX4_month_32 rfl (lv_at hl 0 rfl) ?_
      refine z_get (k := 15) zcX4 hC hK hP 0 rfl (by decide) lF_X4_35 rfl dX4_month_33 ?_
      refine lv_iload_n hx hb dX4_month_36 rfl (lv_at hl 1 rfl) ?_
      refine lv_aload_n hx hb dX4_month_37 rfl (lv_at hl 0 rfl) ?_
      refine lv_iload_n hx hb dX4_month_38 rfl (lv_at hl 1 rfl) ?_
      refine lv_iconst (v := nI 1) hx hb dX4_month_39 (by decide) ?_
      refine zRV (As := [.int (nI i9), .int (nI 1)]) (b := q) (rest := [.int (nI i9), .ref xnw]) hC (c_X4_levelIn (l := l) (hlv := fun j hj => by rw [hn8]; unfold blk; split; (show nw (j - 0) - 1 * ar (j - 0) ≤ 40; have := hlv (j - 0) (by omega); omega); rw [knF_lo nw (by omega)]; exact hlv j hj) (har := har) (hd := by omega) (hm := by decide)) lM_X4_113 vM_X4_levelIn (by decide) hK hP [0, 2, 3] rfl ⟨rfl, rfl, rfl⟩ rfl hl.1 rfl (Nat.le_of_ble_eq_true rfl) dX4_month_40 (by decide) ?_
      show W _ _ _ _ _ _ _ _ _ _ _ _ _ _ _ (F0 m 43 ls [.int (nI (n8 i9 - 1 * ar i9)), .int (nI i9), .ref xnw])
      refine z_ast hC hK hP hD hS 2 rfl (by omega) (by decide) dX4_month_43 (fun H locs hP hD hS => ?_)
      have hP : va_P D vwCl [oM q tr xtx ty xdc xdl xdb xar xac xwm xnd at9 sta sor val fau xnw xkp xta xtw td xhg, aI cI xdc 2 dc, aI cI xnw 729 (updN n8 i9 (n8 i9 - 1 * ar i9)), aI cI xar 12 ar] H := hP
      have hD : va_D A [oM q tr xtx ty xdc xdl xdb xar xac xwm xnd at9 sta sor val fau xnw xkp xta xtw td xhg, aI cI xdc 2 dc, aI cI xnw 729 (updN n8 i9 (n8 i9 - 1 * ar i9)), aI cI xar 12 ar] := hD
      refine lv_iinc (v := nI (i9 + 1)) (lv' := [(1, .int (nI (i9 + 1))), (0, .ref q)]) hx hb dX4_month_44 hl (k := 1) rfl (z_inc i9 1) (by decide) rfl (fun ls hl => ?_)
      refine lv_goto (tgt := 22) hx hb dX4_month_47 (by decide) ?_
      exact ih22 (dc 0 - (i9 + 1)) (by omega) (i9 + 1) (updN n8 i9 (n8 i9 - 1 * ar i9)) rfl (by omega) (by rw [show n8 i9 = nw i9 by rw [hn8, blk_hi (by omega)]; exact knF_lo nw (by omega), hn8, ← blk_s, Nat.zero_add]) _ _ hP hD hS ls (lv_sub hl [1, 0] rfl)
  exact hL22 _ 0 (knF nw) rfl (by omega) (by exact (blk_0 _ _ _).symm) _ _ hP hD hS ls (lv_sub hl [1, 0] rfl)
set_option maxHeartbeats 1000000 in
set_option maxRecDepth 100000 in
theorem c_X4_tops_badD {l : Launch} {D : va_G} {cI cZ cB cR : ClassId} {q xtx ty xdc xdl xdb xar xac xwm xnd at9 sta sor val xnw xkp xta xtw td xhg : Nat} {tr : Int64} {fau : Int32} {dc : Nat → Nat} {x w : Int32} (hn : dc 0 ≤ 6) (hbad : ¬ vp_in x (dc 0)) : mR l yX4_tops cX4_tops 3 (some .int) 2 43 D cI cZ cB cR [oM q tr xtx ty xdc xdl xdb xar xac xwm xnd at9 sta sor val fau xnw xkp xta xtw td xhg, aI cI xdc 2 dc] [.ref q, .int x, .int w] (some (.int (-1))) := by
  refine mR_of rfl (Nat.le_of_ble_eq_true rfl) ?_
  intro p e s m args below meth c hC hr hlk hK hP ls hl
  have hl : lv_has ls 3 [(0, .ref q), (1, .int x), (2, .int w)] := hl
  obtain ⟨hx, hb, hml, hown, hts⟩ := id hC
  refine lv_aload_n hx hb dX4_tops_0 rfl (lv_at hl 0 rfl) ?_
  refine lv_iload_n hx hb dX4_tops_1 rfl (lv_at hl 1 rfl) ?_
  refine zRV (As := [.int x]) (b := q) (rest := []) hC (c_X4_isDecanter (l := l) (g := false) (hn := by omega) (hg := ⟨fun h => (by cases h), fun h => absurd h hbad⟩)) lM_X4_126 vM_X4_isDecanter (by decide) hK hP [0, 1] rfl ⟨rfl, rfl, rfl⟩ rfl hl.1 rfl (Nat.le_of_ble_eq_true rfl) dX4_tops_2 (by decide) ?_
  show W _ _ _ _ _ _ _ _ _ _ _ _ _ _ _ (F0 m 5 ls [.int (bI false)])
  refine zb_eq (tgt := 18) hC dX4_tops_5 (by decide) (fun c5 => ?_) (fun c5 => by exfalso; cases c5)
  refine lv_iconst (v := (-1)) hx hb dX4_tops_18 (by decide) ?_
  exact zr_i hC hr hlk (by first | rfl | omega) dX4_tops_19
set_option maxHeartbeats 1000000 in
set_option maxRecDepth 100000 in
theorem c_X4_tops_badN {l : Launch} {D : va_G} {cI cZ cB cR : ClassId} {q xtx ty xdc xdl xdb xar xac xwm xnd at9 sta sor val xnw xkp xta xtw td xhg : Nat} {tr : Int64} {fau : Int32} {dc : Nat → Nat} {d : Nat} {w : Int32} (hn : dc 0 ≤ 6) (hd : d < dc 0) (hbw : w < nI 1 ∨ nI 40 < w) : mR l yX4_tops cX4_tops 3 (some .int) 2 43 D cI cZ cB cR [oM q tr xtx ty xdc xdl xdb xar xac xwm xnd at9 sta sor val fau xnw xkp xta xtw td xhg, aI cI xdc 2 dc] [.ref q, .int (nI d), .int w] (some (.int (-1))) := by
  refine mR_of rfl (Nat.le_of_ble_eq_true rfl) ?_
  intro p e s m args below meth c hC hr hlk hK hP ls hl
  have hl : lv_has ls 3 [(0, .ref q), (1, .int (nI d)), (2, .int w)] := hl
  obtain ⟨hx, hb, hml, hown, hts⟩ := id hC
  refine lv_aload_n hx hb dX4_tops_0 rfl (lv_at hl 0 rfl) ?_
  refine lv_iload_n hx hb dX4_tops_1 rfl (lv_at hl 1 rfl) ?_
  refine zRV (As := [.int (nI d)]) (b := q) (rest := []) hC (c_X4_isDecanter (l := l) (g := true) (hn := by omega) (hg := ⟨fun _ => vp_in_nI (by omega) (by omega), fun _ => rfl⟩)) lM_X4_126 vM_X4_isDecanter (by decide) hK hP [0, 1] rfl ⟨rfl, rfl, rfl⟩ rfl hl.1 rfl (Nat.le_of_ble_eq_true rfl) dX4_tops_2 (by decide) ?_
  show W _ _ _ _ _ _ _ _ _ _ _ _ _ _ _ (F0 m 5 ls [.int (bI true)])
  refine zb_eq (tgt := 18) hC dX4_tops_5 (by decide) (fun c5 => by exfalso; cases c5) (fun c5 => ?_)
  refine lv_iload_n hx hb dX4_tops_8 rfl (lv_at hl 2 rfl) ?_
  refine lv_iconst (v := nI 1) hx hb dX4_tops_9 (by decide) ?_
  refine lv_bipush (v := nI 40) hx hb dX4_tops_10 (by decide) ?_
  refine zRS (As := [.int w, .int (nI 1), .int (nI 40)]) (rest := []) hC (c_X4_in (l := l) (g := false) (hg := ⟨fun h => (by cases h), fun h => (by rcases hbw with h2 | h2; exact absurd h2 (Int32.not_lt.mpr h.1); exact absurd h2 (Int32.not_lt.mpr h.2))⟩)) lM_X4_57 sM_X4_in (by decide) hK rfl hl.1 rfl (Nat.le_of_ble_eq_true rfl) dX4_tops_12 (by decide) ?_
  show W _ _ _ _ _ _ _ _ _ _ _ _ _ _ _ (F0 m 15 ls [.int (bI false)])
  refine zb_ne (tgt := 20) hC dX4_tops_15 (by decide) (fun c15 => by exfalso; cases c15) (fun c15 => ?_)
  refine lv_iconst (v := (-1)) hx hb dX4_tops_18 (by decide) ?_
  exact zr_i hC hr hlk (by first | rfl | omega) dX4_tops_19
set_option maxHeartbeats 1000000 in
set_option maxRecDepth 100000 in
theorem c_X4_tops_state {l : Launch} {D : va_G} {cI cZ cB cR : ClassId} {q xtx ty xdc xdl xdb xar xac xwm xnd at9 sta sor val xnw xkp xta xtw td xhg : Nat} {tr : Int64} {fau : Int32} {dc nw : Nat → Nat} {d m9 : Nat} (hn : dc 0 ≤ 6) (hd : d < dc 0) (hlv : ∀ j, j < 6 → nw j ≤ 40) (hm : 1 ≤ m9 ∧ m9 ≤ 40) (hs : 40 < nw d + m9) : mR l yX4_tops cX4_tops 3 (some .int) 2 43 D cI cZ cB cR [oM q tr xtx ty xdc xdl xdb xar xac xwm xnd at9 sta sor val fau xnw xkp xta xtw td xhg, aI cI xdc 2 dc, aI cI xnw 729 nw] [.ref q, .int (nI d), .int (nI m9)] (some (.int (-2))) := by
  refine mR_of rfl (Nat.le_of_ble_eq_true rfl) ?_
  intro p e s m args below meth c hC hr hlk hK hP ls hl
  have hl : lv_has ls 3 [(0, .ref q), (1, .int (nI d)), (2, .int (nI m9))] := hl
  obtain ⟨hx, hb, hml, hown, hts⟩ := id hC
  refine lv_aload_n hx hb dX4_tops_0 rfl (lv_at hl 0 rfl) ?_
  refine lv_iload_n hx hb dX4_tops_1 rfl (lv_at hl 1 rfl) ?_
  refine zRV (As := [.int (nI d)]) (b := q) (rest := []) hC (c_X4_isDecanter (l := l) (g := true) (hn := by omega) (hg := ⟨fun _ => vp_in_nI (by omega) (by omega), fun _ => rfl⟩)) lM_X4_126 vM_X4_isDecanter (by decide) hK hP [0, 1] rfl ⟨rfl, rfl, rfl⟩ rfl hl.1 rfl (Nat.le_of_ble_eq_true rfl) dX4_tops_2 (by decide) ?_
  show W _ _ _ _ _ _ _ _ _ _ _ _ _ _ _ (F0 m 5 ls [.int (bI true)])
  refine zb_eq (tgt := 18) hC dX4_tops_5 (by decide) (fun c5 => by exfalso; cases c5) (fun c5 => ?_)
  refine lv_iload_n hx hb dX4_tops_8 rfl (lv_at hl 2 rfl) ?_
  refine lv_iconst (v := nI 1) hx hb dX4_tops_9 (by decide) ?_
  refine lv_bipush (v := nI 40) hx hb dX4_tops_10 (by decide) ?_
  refine zRS (As := [.int (nI m9), .int (nI 1), .int (nI 40)]) (rest := []) hC (c_X4_in (l := l) (g := true) (hg := ⟨fun _ => ⟨(nI_leI (by omega) (by omega)).mpr (by omega), (nI_leI (by omega) (by omega)).mpr (by omega)⟩, fun _ => rfl⟩)) lM_X4_57 sM_X4_in (by decide) hK rfl hl.1 rfl (Nat.le_of_ble_eq_true rfl) dX4_tops_12 (by decide) ?_
  show W _ _ _ _ _ _ _ _ _ _ _ _ _ _ _ (F0 m 15 ls [.int (bI true)])
  refine zb_ne (tgt := 20) hC dX4_tops_15 (by decide) (fun c15 => ?_) (fun c15 => by exfalso; cases c15)
  refine lv_aload_n hx hb dX4_tops_20 rfl (lv_at hl 0 rfl) ?_
  refine z_get (k := 15) zcX4 hC hK hP 0 rfl (by decide) lF_X4_35 rfl dX4_tops_21 ?_
  refine lv_iload_n hx hb dX4_tops_24 rfl (lv_at hl 1 rfl) ?_
  refine z_ald hC hK hP 2 rfl (by omega) (by decide) dX4_tops_25 ?_
  have b26 := hlv d (by omega)
  refine lv_iload_n hx hb dX4_tops_26 rfl (lv_at hl 2 rfl) ?_
  refine zi_add hC dX4_tops_27 ?_
  refine lv_bipush (v := nI 40) hx hb dX4_tops_28 (by decide) ?_
  refine zc_le (tgt := 36) hC dX4_tops_30 (by decide) (by omega) (by omega) (fun c30 => by exfalso; omega) (fun c30 => ?_)
  refine lv_bipush (v := (-2)) hx hb dX4_tops_33 (by decide) ?_
  exact zr_i hC hr hlk (by first | rfl | omega) dX4_tops_35
set_option maxHeartbeats 1000000 in
set_option maxRecDepth 100000 in
theorem c_X4_tops {l : Launch} {D : va_G} {cI cZ cB cR : ClassId} {q xtx ty xdc xdl xdb xar xac xwm xnd at9 sta sor val xnw xkp xta xtw td xhg : Nat} {tr : Int64} {fau : Int32} {dc nw : Nat → Nat} {d m9 : Nat} (hn : dc 0 ≤ 6) (hd : d < dc 0) (hlv : ∀ j, j < 6 → nw j ≤ 40) (hm : 1 ≤ m9 ∧ m9 ≤ 40) (hs : nw d + m9 ≤ 40) (hk : nw 22 ≤ 10) : mW l yX4_tops cX4_tops 3 (some .int) 2 43 D cI cZ cB cR [oM q tr xtx ty xdc xdl xdb xar xac xwm xnd at9 sta sor val fau xnw xkp xta xtw td xhg, aI cI xdc 2 dc, aI cI xnw 729 nw] [oM q tr xtx ty xdc xdl xdb xar xac xwm xnd at9 sta sor val fau xnw xkp xta xtw td xhg, aI cI xdc 2 dc, aI cI xnw 729 (updN (updN (knF nw) d (nw d + m9)) (6 + d) (nw (6 + d) + m9))] [.ref q, .int (nI d), .int (nI m9)] (some (.int (nI (nw d + m9)))) := by
  refine mW_of rfl (Nat.le_of_ble_eq_true rfl) ?_
  intro p e s m args below meth c hC hr hlk hK A hA hD H0 h0 hP hS ls hl
  have hP : va_P D vwCl [oM q tr xtx ty xdc xdl xdb xar xac xwm xnd at9 sta sor val fau xnw xkp xta xtw td xhg, aI cI xdc 2 dc, aI cI xnw 729 nw] H0 := hP
  have hl : lv_has ls 3 [(0, .ref q), (1, .int (nI d)), (2, .int (nI m9))] := hl
  obtain ⟨hx, hb, hml, hown, hts⟩ := id hC
  refine lv_aload_n hx hb dX4_tops_0 rfl (lv_at hl 0 rfl) ?_
  refine lv_iload_n hx hb dX4_tops_1 rfl (lv_at hl 1 rfl) ?_
  refine zRV (As := [.int (nI d)]) (b := q) (rest := []) hC (c_X4_isDecanter (l := l) (g := true) (hn := by omega) (hg := ⟨fun _ => vp_in_nI (by omega) (by omega), fun _ => rfl⟩)) lM_X4_126 vM_X4_isDecanter (by decide) hK hP [0, 1] rfl ⟨rfl, rfl, rfl⟩ rfl hl.1 rfl (Nat.le_of_ble_eq_true rfl) dX4_tops_2 (by decide) ?_
  show W _ _ _ _ _ _ _ _ _ _ _ _ _ _ _ (F0 m 5 ls [.int (bI true)])
  refine zb_eq (tgt := 18) hC dX4_tops_5 (by decide) (fun c5 => by exfalso; cases c5) (fun c5 => ?_)
  refine lv_iload_n hx hb dX4_tops_8 rfl (lv_at hl 2 rfl) ?_
  refine lv_iconst (v := nI 1) hx hb dX4_tops_9 (by decide) ?_
  refine lv_bipush (v := nI 40) hx hb dX4_tops_10 (by decide) ?_
  refine zRS (As := [.int (nI m9), .int (nI 1), .int (nI 40)]) (rest := []) hC (c_X4_in (l := l) (g := true) (hg := ⟨fun _ => ⟨(nI_leI (by omega) (by omega)).mpr (by omega), (nI_leI (by omega) (by omega)).mpr (by omega)⟩, fun _ => rfl⟩)) lM_X4_57 sM_X4_in (by decide) hK rfl hl.1 rfl (Nat.le_of_ble_eq_true rfl) dX4_tops_12 (by decide) ?_
  show W _ _ _ _ _ _ _ _ _ _ _ _ _ _ _ (F0 m 15 ls [.int (bI true)])
  refine zb_ne (tgt := 20) hC dX4_tops_15 (by decide) (fun c15 => ?_) (fun c15 => by exfalso; cases c15)
  refine lv_aload_n hx hb dX4_tops_20 rfl (lv_at hl 0 rfl) ?_
  refine z_get (k := 15) zcX4 hC hK hP 0 rfl (by decide) lF_X4_35 rfl dX4_tops_21 ?_
  refine lv_iload_n hx hb dX4_tops_24 rfl (lv_at hl 1 rfl) ?_
  refine z_ald hC hK hP 2 rfl (by omega) (by decide) dX4_tops_25 ?_
  have b26 := hlv d (by omega)
  refine lv_iload_n hx hb dX4_tops_26 rfl (lv_at hl 2 rfl) ?_
  refine zi_add hC dX4_tops_27 ?_
  refine lv_bipush (v := nI 40) hx hb dX4_tops_28 (by decide) ?_
  refine zc_le (tgt := 36) hC dX4_tops_30 (by decide) (by omega) (by omega) (fun c30 => ?_) (fun c30 => by exfalso; omega)
  refine lv_aload_n hx hb dX4_tops_36 rfl (lv_at hl 0 rfl) ?_
  refine zXV (As := []) (b := q) (rest := []) hC (c_X4_know (l := l) (hk := hk)) lM_X4_141 vM_X4_know (by decide) hK hP hD hS [0, 2] [q, xnw] rfl (by decide) rfl rfl ⟨rfl, rfl, rfl⟩ rfl hl.1 rfl (Nat.le_of_ble_eq_true rfl) dX4_tops_37 (by decide) (fun H locs hP hD hS => ?_)
  have hP : va_P D vwCl [oM q tr xtx ty xdc xdl xdb xar xac xwm xnd at9 sta sor val fau xnw xkp xta xtw td xhg, aI cI xdc 2 dc, aI cI xnw 729 (knF nw)] H := hP
  have hD : va_D A [oM q tr xtx ty xdc xdl xdb xar xac xwm xnd at9 sta sor val fau xnw xkp xta xtw td xhg, aI cI xdc 2 dc, aI cI xnw 729 (knF nw)] := hD
  show W _ _ _ _ _ _ _ _ _ _ _ _ _ _ _ (F0 m 40 ls [])
  refine lv_aload_n hx hb dX4_tops_40 rfl (lv_at hl 0 rfl) ?_
  refine z_get (k := 15) zcX4 hC hK hP 0 rfl (by decide) lF_X4_35 rfl dX4_tops_41 ?_
  refine lv_iload_n hx hb dX4_tops_44 rfl (lv_at hl 1 rfl) ?_
  refine lv_dup2_11 hx hb dX4_tops_45 rfl rfl ?_
  refine z_ald hC hK hP 2 rfl (by omega) (by decide) dX4_tops_46 ?_
  refine z_top (show (nI ((knF nw) d)) = nI (nw d) from by rw [knF_lo nw (by omega)]) ?_
  refine lv_iload_n hx hb dX4_tops_47 rfl (lv_at hl 2 rfl) ?_
  refine zi_add hC dX4_tops_48 ?_
  refine z_ast hC hK hP hD hS 2 rfl (by omega) (by decide) dX4_tops_49 (fun H locs hP hD hS => ?_)
  have hP : va_P D vwCl [oM q tr xtx ty xdc xdl xdb xar xac xwm xnd at9 sta sor val fau xnw xkp xta xtw td xhg, aI cI xdc 2 dc, aI cI xnw 729 (updN (knF nw) d ((nw d) + m9))] H := hP
  have hD : va_D A [oM q tr xtx ty xdc xdl xdb xar xac xwm xnd at9 sta sor val fau xnw xkp xta xtw td xhg, aI cI xdc 2 dc, aI cI xnw 729 (updN (knF nw) d ((nw d) + m9))] := hD
  refine lv_aload_n hx hb dX4_tops_50 rfl (lv_at hl 0 rfl) ?_
  refine z_get (k := 15) zcX4 hC hK hP 0 rfl (by decide) lF_X4_35 rfl dX4_tops_51 ?_
  refine lv_bipush (v := nI 6) hx hb dX4_tops_54 (by decide) ?_
  refine lv_iload_n hx hb dX4_tops_56 rfl (lv_at hl 1 rfl) ?_
  refine zi_add hC dX4_tops_57 ?_
  refine lv_dup2_11 hx hb dX4_tops_58 rfl rfl ?_
  refine z_ald hC hK hP 2 rfl (by omega) (by decide) dX4_tops_59 ?_
  refine z_top (show (nI ((updN (knF nw) d ((nw d) + m9)) (6 + d))) = nI (nw (6 + d)) from by rw [updN_n (by omega), knF_lo nw (by omega)]) ?_
  refine lv_iload_n hx hb dX4_tops_60 rfl (lv_at hl 2 rfl) ?_
  refine zi_add hC dX4_tops_61 ?_
  refine z_ast hC hK hP hD hS 2 rfl (by omega) (by decide) dX4_tops_62 (fun H locs hP hD hS => ?_)
  have hP : va_P D vwCl [oM q tr xtx ty xdc xdl xdb xar xac xwm xnd at9 sta sor val fau xnw xkp xta xtw td xhg, aI cI xdc 2 dc, aI cI xnw 729 (updN (updN (knF nw) d ((nw d) + m9)) (6 + d) ((nw (6 + d)) + m9))] H := hP
  have hD : va_D A [oM q tr xtx ty xdc xdl xdb xar xac xwm xnd at9 sta sor val fau xnw xkp xta xtw td xhg, aI cI xdc 2 dc, aI cI xnw 729 (updN (updN (knF nw) d ((nw d) + m9)) (6 + d) ((nw (6 + d)) + m9))] := hD
  refine lv_aload_n hx hb dX4_tops_63 rfl (lv_at hl 0 rfl) ?_
  refine z_get (k := 15) zcX4 hC hK hP 0 rfl (by decide) lF_X4_35 rfl dX4_tops_64 ?_
  refine lv_iload_n hx hb dX4_tops_67 rfl (lv_at hl 1 rfl) ?_
  refine z_ald hC hK hP 2 rfl (by omega) (by decide) dX4_tops_68 ?_
  exact zw_i hC hr hlk hA h0 hP hS (by rw [updN_n (by omega), updN_s]) dX4_tops_69
set_option maxHeartbeats 1000000 in
set_option maxRecDepth 100000 in
theorem c_X4_rightOnes {l : Launch} {D : va_G} {cI cZ cB cR : ClassId} {q xtx ty xdc xdl xdb xar xac xwm xnd at9 sta sor val xnw xkp xta xtw td xhg : Nat} {tr : Int64} {fau : Int32} {dc nw : Nat → Nat}  (hn : dc 0 ≤ 6) (hlb : ∀ j, j < 6 → nw (12 + j) < 6)  : mR l yX4_rightOnes cX4_rightOnes 3 (some .int) 0 0 D cI cZ cB cR [oM q tr xtx ty xdc xdl xdb xar xac xwm xnd at9 sta sor val fau xnw xkp xta xtw td xhg, aI cI xdc 2 dc, aI cI xnw 729 nw] [.ref q] (some (.int (nI (sm (fun i => if nw (12 + i) = i then 1 else 0) (dc 0))))) := by
  refine mR_of rfl (Nat.le_of_ble_eq_true rfl) ?_
  intro p e s m args below meth c hC hr hlk hK hP ls hl
  have hl : lv_has ls 3 [(0, .ref q)] := hl
  obtain ⟨hx, hb, hml, hown, hts⟩ := id hC
  refine lv_iconst (v := nI 0) hx hb dX4_rightOnes_0 (by decide) ?_
  refine lv_istore_n (lv' := [(1, .int (nI 0)), (0, .ref q)]) hx hb dX4_rightOnes_1 rfl hl (by decide) rfl (fun ls hl => ?_)
  refine lv_iconst (v := nI 0) hx hb dX4_rightOnes_2 (by decide) ?_
  refine lv_istore_n (lv' := [(2, .int (nI 0)), (1, .int (nI 0)), (0, .ref q)]) hx hb dX4_rightOnes_3 rfl hl (by decide) rfl (fun ls hl => ?_)
  have hL4 : ∀ (z4 : Nat) (d : Nat) (x : Nat), dc 0 - d = z4 → (d ≤ dc 0) → (x = sm (fun i => if nw (12 + i) = i then 1 else 0) d) → ∀ ls : Array Slot, lv_has ls 3 [(0, .ref q), (1, .int (nI x)), (2, .int (nI d))] → W p l e { frames := 0, cells := 0, slots := 0, locals := 0 } s m args below meth c s.heap [] 0 0 (MQ below (qR (some (.int (nI (sm (fun i => if nw (12 + i) = i then 1 else 0) (dc 0)))))) args s 0 0 (fun _ => False)) (F0 m 4 ls []) := by
    intro z4
    induction z4 using Nat.strongRecOn with
    | _ z4 ih4 =>
    intro d x hz4 hd hx9 ls hl
    refine lv_iload_n hx hb dX4_rightOnes_4 rfl (lv_at hl 2 rfl) ?_
    refine lv_aload_n hx hb dX4_rightOnes_5 rfl (lv_at hl 0 rfl) ?_
    refine z_get (k := 3) zcX4 hC hK hP 0 rfl (by decide) lF_X4_13 rfl dX4_rightOnes_6 ?_
    refine lv_iconst (v := nI 0) hx hb dX4_rightOnes_9 (by decide) ?_
    refine z_ald hC hK hP 1 rfl (by omega) (by decide) dX4_rightOnes_10 ?_
    refine zc_ge (tgt := 41) hC dX4_rightOnes_11 (by decide) (by omega) (by omega) (fun c11 => ?_) (fun c11 => ?_)
    · skip
      refine lv_iload_n hx hb dX4_rightOnes_41 rfl (lv_at hl 1 rfl) ?_
      exact zr_i hC hr hlk (by rw [hx9, show d = dc 0 by omega]) dX4_rightOnes_42
    · skip
      refine lv_iload_n hx hb dX4_rightOnes_14 rfl (lv_at hl 1 rfl) ?_
      refine lv_aload_n hx hb dX4_rightOnes_15 rfl (lv_at hl 0 rfl) ?_
      refine z_get (k := 15) zcX4 hC hK hP 0 rfl (by decide) lF_X4_35 rfl dX4_rightOnes_16 ?_
      refine lv_bipush (v := nI 12) hx hb dX4_rightOnes_19 (by decide) ?_
      refine lv_iload_n hx hb dX4_rightOnes_21 rfl (lv_at hl 2 rfl) ?_
      refine zi_add hC dX4_rightOnes_22 ?_
      refine z_ald hC hK hP 2 rfl (by omega) (by decide) dX4_rightOnes_23 ?_
      have b24 := hlb d (by omega)
      refine lv_iload_n hx hb dX4_rightOnes_24 rfl (lv_at hl 2 rfl) ?_
      refine zc_ne (tgt := 32) hC dX4_rightOnes_25 (by decide) (by omega) (by omega) (fun c25 => ?_) (fun c25 => ?_)
      · skip
        refine lv_iconst (v := nI 0) hx hb dX4_rightOnes_32 (by decide) ?_
        refine zi_add hC dX4_rightOnes_33 ?_
        refine lv_istore_n (lv' := [(1, .int (nI (x + 0))), (0, .ref q), (2, .int (nI d))]) hx hb dX4_rightOnes_34 rfl hl (by decide) rfl (fun ls hl => ?_)
        refine lv_iinc (v := nI (d + 1)) (lv' := [(2, .int (nI (d + 1))), (1, .int (nI (x + 0))), (0, .ref q)]) hx hb dX4_rightOnes_35 hl (k := 2) rfl (z_inc d 1) (by decide) rfl (fun ls hl => ?_)
        refine lv_goto (tgt := 4) hx hb dX4_rightOnes_38 (by decide) ?_
        exact ih4 (dc 0 - (d + 1)) (by omega) (d + 1) (x + 0) rfl (by omega) (by rw [hx9, sm_s]; rw [if_neg c25]) ls (lv_sub hl [2, 1, 0] rfl)
      · skip
        refine lv_iconst (v := nI 1) hx hb dX4_rightOnes_28 (by decide) ?_
        refine lv_goto (tgt := 33) hx hb dX4_rightOnes_29 (by decide) ?_
        refine zi_add hC dX4_rightOnes_33 ?_
        refine lv_istore_n (lv' := [(1, .int (nI (x + 1))), (0, .ref q), (2, .int (nI d))]) hx hb dX4_rightOnes_34 rfl hl (by decide) rfl (fun ls hl => ?_)
        refine lv_iinc (v := nI (d + 1)) (lv' := [(2, .int (nI (d + 1))), (1, .int (nI (x + 1))), (0, .ref q)]) hx hb dX4_rightOnes_35 hl (k := 2) rfl (z_inc d 1) (by decide) rfl (fun ls hl => ?_)
        refine lv_goto (tgt := 4) hx hb dX4_rightOnes_38 (by decide) ?_
        exact ih4 (dc 0 - (d + 1)) (by omega) (d + 1) (x + 1) rfl (by omega) (by rw [hx9, sm_s]; rw [if_pos c25]) ls (lv_sub hl [2, 1, 0] rfl)
  exact hL4 _ 0 0 rfl (by omega) (by rfl) ls (lv_sub hl [2, 1, 0] rfl)
set_option maxHeartbeats 1000000 in
set_option maxRecDepth 100000 in
theorem c_X4_labels_badD {l : Launch} {D : va_G} {cI cZ cB cR : ClassId} {q xtx ty xdc xdl xdb xar xac xwm xnd at9 sta sor val xnw xkp xta xtw td xhg : Nat} {tr : Int64} {fau : Int32} {dc : Nat → Nat} {x w : Int32} (hn : dc 0 ≤ 6) (hbad : ¬ vp_in x (dc 0)) : mR l yX4_labels cX4_labels 4 (some .int) 2 43 D cI cZ cB cR [oM q tr xtx ty xdc xdl xdb xar xac xwm xnd at9 sta sor val fau xnw xkp xta xtw td xhg, aI cI xdc 2 dc] [.ref q, .int x, .int w] (some (.int (-1))) := by
  refine mR_of rfl (Nat.le_of_ble_eq_true rfl) ?_
  intro p e s m args below meth c hC hr hlk hK hP ls hl
  have hl : lv_has ls 4 [(0, .ref q), (1, .int x), (2, .int w)] := hl
  obtain ⟨hx, hb, hml, hown, hts⟩ := id hC
  refine lv_aload_n hx hb dX4_labels_0 rfl (lv_at hl 0 rfl) ?_
  refine lv_iload_n hx hb dX4_labels_1 rfl (lv_at hl 1 rfl) ?_
  refine zRV (As := [.int x]) (b := q) (rest := []) hC (c_X4_isDecanter (l := l) (g := false) (hn := by omega) (hg := ⟨fun h => (by cases h), fun h => absurd h hbad⟩)) lM_X4_126 vM_X4_isDecanter (by decide) hK hP [0, 1] rfl ⟨rfl, rfl, rfl⟩ rfl hl.1 rfl (Nat.le_of_ble_eq_true rfl) dX4_labels_2 (by decide) ?_
  show W _ _ _ _ _ _ _ _ _ _ _ _ _ _ _ (F0 m 5 ls [.int (bI false)])
  refine zb_eq (tgt := 21) hC dX4_labels_5 (by decide) (fun c5 => ?_) (fun c5 => by exfalso; cases c5)
  refine lv_iconst (v := (-1)) hx hb dX4_labels_21 (by decide) ?_
  exact zr_i hC hr hlk (by first | rfl | omega) dX4_labels_22
set_option maxHeartbeats 1000000 in
set_option maxRecDepth 100000 in
theorem c_X4_labels_badE {l : Launch} {D : va_G} {cI cZ cB cR : ClassId} {q xtx ty xdc xdl xdb xar xac xwm xnd at9 sta sor val xnw xkp xta xtw td xhg : Nat} {tr : Int64} {fau : Int32} {dc : Nat → Nat} {d : Nat} {w : Int32} (hn : dc 0 ≤ 6) (hd : d < dc 0) (hbad : ¬ vp_in w (dc 0)) : mR l yX4_labels cX4_labels 4 (some .int) 2 43 D cI cZ cB cR [oM q tr xtx ty xdc xdl xdb xar xac xwm xnd at9 sta sor val fau xnw xkp xta xtw td xhg, aI cI xdc 2 dc] [.ref q, .int (nI d), .int w] (some (.int (-1))) := by
  refine mR_of rfl (Nat.le_of_ble_eq_true rfl) ?_
  intro p e s m args below meth c hC hr hlk hK hP ls hl
  have hl : lv_has ls 4 [(0, .ref q), (1, .int (nI d)), (2, .int w)] := hl
  obtain ⟨hx, hb, hml, hown, hts⟩ := id hC
  refine lv_aload_n hx hb dX4_labels_0 rfl (lv_at hl 0 rfl) ?_
  refine lv_iload_n hx hb dX4_labels_1 rfl (lv_at hl 1 rfl) ?_
  refine zRV (As := [.int (nI d)]) (b := q) (rest := []) hC (c_X4_isDecanter (l := l) (g := true) (hn := by omega) (hg := ⟨fun _ => vp_in_nI (by omega) (by omega), fun _ => rfl⟩)) lM_X4_126 vM_X4_isDecanter (by decide) hK hP [0, 1] rfl ⟨rfl, rfl, rfl⟩ rfl hl.1 rfl (Nat.le_of_ble_eq_true rfl) dX4_labels_2 (by decide) ?_
  show W _ _ _ _ _ _ _ _ _ _ _ _ _ _ _ (F0 m 5 ls [.int (bI true)])
  refine zb_eq (tgt := 21) hC dX4_labels_5 (by decide) (fun c5 => by exfalso; cases c5) (fun c5 => ?_)
  refine lv_aload_n hx hb dX4_labels_8 rfl (lv_at hl 0 rfl) ?_
  refine lv_iload_n hx hb dX4_labels_9 rfl (lv_at hl 2 rfl) ?_
  refine zRV (As := [.int w]) (b := q) (rest := []) hC (c_X4_isDecanter (l := l) (g := false) (hn := by omega) (hg := ⟨fun h => (by cases h), fun h => absurd h hbad⟩)) lM_X4_126 vM_X4_isDecanter (by decide) hK hP [0, 1] rfl ⟨rfl, rfl, rfl⟩ rfl hl.1 rfl (Nat.le_of_ble_eq_true rfl) dX4_labels_10 (by decide) ?_
  show W _ _ _ _ _ _ _ _ _ _ _ _ _ _ _ (F0 m 13 ls [.int (bI false)])
  refine zb_eq (tgt := 21) hC dX4_labels_13 (by decide) (fun c13 => ?_) (fun c13 => by exfalso; cases c13)
  refine lv_iconst (v := (-1)) hx hb dX4_labels_21 (by decide) ?_
  exact zr_i hC hr hlk (by first | rfl | omega) dX4_labels_22
set_option maxHeartbeats 1000000 in
set_option maxRecDepth 100000 in
theorem c_X4_labels_same {l : Launch} {D : va_G} {cI cZ cB cR : ClassId} {q xtx ty xdc xdl xdb xar xac xwm xnd at9 sta sor val xnw xkp xta xtw td xhg : Nat} {tr : Int64} {fau : Int32} {dc : Nat → Nat} {d : Nat} (hn : dc 0 ≤ 6) (hd : d < dc 0)  : mR l yX4_labels cX4_labels 4 (some .int) 2 43 D cI cZ cB cR [oM q tr xtx ty xdc xdl xdb xar xac xwm xnd at9 sta sor val fau xnw xkp xta xtw td xhg, aI cI xdc 2 dc] [.ref q, .int (nI d), .int (nI d)] (some (.int (-1))) := by
  refine mR_of rfl (Nat.le_of_ble_eq_true rfl) ?_
  intro p e s m args below meth c hC hr hlk hK hP ls hl
  have hl : lv_has ls 4 [(0, .ref q), (1, .int (nI d)), (2, .int (nI d))] := hl
  obtain ⟨hx, hb, hml, hown, hts⟩ := id hC
  refine lv_aload_n hx hb dX4_labels_0 rfl (lv_at hl 0 rfl) ?_
  refine lv_iload_n hx hb dX4_labels_1 rfl (lv_at hl 1 rfl) ?_
  refine zRV (As := [.int (nI d)]) (b := q) (rest := []) hC (c_X4_isDecanter (l := l) (g := true) (hn := by omega) (hg := ⟨fun _ => vp_in_nI (by omega) (by omega), fun _ => rfl⟩)) lM_X4_126 vM_X4_isDecanter (by decide) hK hP [0, 1] rfl ⟨rfl, rfl, rfl⟩ rfl hl.1 rfl (Nat.le_of_ble_eq_true rfl) dX4_labels_2 (by decide) ?_
  show W _ _ _ _ _ _ _ _ _ _ _ _ _ _ _ (F0 m 5 ls [.int (bI true)])
  refine zb_eq (tgt := 21) hC dX4_labels_5 (by decide) (fun c5 => by exfalso; cases c5) (fun c5 => ?_)
  refine lv_aload_n hx hb dX4_labels_8 rfl (lv_at hl 0 rfl) ?_
  refine lv_iload_n hx hb dX4_labels_9 rfl (lv_at hl 2 rfl) ?_
  refine zRV (As := [.int (nI d)]) (b := q) (rest := []) hC (c_X4_isDecanter (l := l) (g := true) (hn := by omega) (hg := ⟨fun _ => vp_in_nI (by omega) (by omega), fun _ => rfl⟩)) lM_X4_126 vM_X4_isDecanter (by decide) hK hP [0, 1] rfl ⟨rfl, rfl, rfl⟩ rfl hl.1 rfl (Nat.le_of_ble_eq_true rfl) dX4_labels_10 (by decide) ?_
  show W _ _ _ _ _ _ _ _ _ _ _ _ _ _ _ (F0 m 13 ls [.int (bI true)])
  refine zb_eq (tgt := 21) hC dX4_labels_13 (by decide) (fun c13 => by exfalso; cases c13) (fun c13 => ?_)
  refine lv_iload_n hx hb dX4_labels_16 rfl (lv_at hl 1 rfl) ?_
  refine lv_iload_n hx hb dX4_labels_17 rfl (lv_at hl 2 rfl) ?_
  refine zc_ne (tgt := 23) hC dX4_labels_18 (by decide) (by omega) (by omega) (fun c18 => by exfalso; exact c18 rfl) (fun c18 => ?_)
  refine lv_iconst (v := (-1)) hx hb dX4_labels_21 (by decide) ?_
  exact zr_i hC hr hlk (by first | rfl | omega) dX4_labels_22
set_option maxHeartbeats 1000000 in
set_option maxRecDepth 100000 in
theorem c_X4_labels {l : Launch} {D : va_G} {cI cZ cB cR : ClassId} {q xtx ty xdc xdl xdb xar xac xwm xnd at9 sta sor val xnw xkp xta xtw td xhg : Nat} {tr : Int64} {fau : Int32} {dc nw : Nat → Nat} {d e9 : Nat} (hn : dc 0 ≤ 6) (hd : d < dc 0) (he : e9 < dc 0) (hde : d ≠ e9) (hk : nw 22 ≤ 10) (hlb : ∀ j, j < 6 → nw (12 + j) < 6)  : mW l yX4_labels cX4_labels 4 (some .int) 2 43 D cI cZ cB cR [oM q tr xtx ty xdc xdl xdb xar xac xwm xnd at9 sta sor val fau xnw xkp xta xtw td xhg, aI cI xdc 2 dc, aI cI xnw 729 nw] [oM q tr xtx ty xdc xdl xdb xar xac xwm xnd at9 sta sor val fau xnw xkp xta xtw td xhg, aI cI xdc 2 dc, aI cI xnw 729 (updN (updN (knF nw) (12 + d) (nw (12 + e9))) (12 + e9) (nw (12 + d)))] [.ref q, .int (nI d), .int (nI e9)] (some (.int (nI (sm (fun i => if (updN (updN (knF nw) (12 + d) (nw (12 + e9))) (12 + e9) (nw (12 + d))) (12 + i) = i then 1 else 0) (dc 0))))) := by
  refine mW_of rfl (Nat.le_of_ble_eq_true rfl) ?_
  intro p e s m args below meth c hC hr hlk hK A hA hD H0 h0 hP hS ls hl
  have hP : va_P D vwCl [oM q tr xtx ty xdc xdl xdb xar xac xwm xnd at9 sta sor val fau xnw xkp xta xtw td xhg, aI cI xdc 2 dc, aI cI xnw 729 nw] H0 := hP
  have hl : lv_has ls 4 [(0, .ref q), (1, .int (nI d)), (2, .int (nI e9))] := hl
  obtain ⟨hx, hb, hml, hown, hts⟩ := id hC
  refine lv_aload_n hx hb dX4_labels_0 rfl (lv_at hl 0 rfl) ?_
  refine lv_iload_n hx hb dX4_labels_1 rfl (lv_at hl 1 rfl) ?_
  refine zRV (As := [.int (nI d)]) (b := q) (rest := []) hC (c_X4_isDecanter (l := l) (g := true) (hn := by omega) (hg := ⟨fun _ => vp_in_nI (by omega) (by omega), fun _ => rfl⟩)) lM_X4_126 vM_X4_isDecanter (by decide) hK hP [0, 1] rfl ⟨rfl, rfl, rfl⟩ rfl hl.1 rfl (Nat.le_of_ble_eq_true rfl) dX4_labels_2 (by decide) ?_
  show W _ _ _ _ _ _ _ _ _ _ _ _ _ _ _ (F0 m 5 ls [.int (bI true)])
  refine zb_eq (tgt := 21) hC dX4_labels_5 (by decide) (fun c5 => by exfalso; cases c5) (fun c5 => ?_)
  refine lv_aload_n hx hb dX4_labels_8 rfl (lv_at hl 0 rfl) ?_
  refine lv_iload_n hx hb dX4_labels_9 rfl (lv_at hl 2 rfl) ?_
  refine zRV (As := [.int (nI e9)]) (b := q) (rest := []) hC (c_X4_isDecanter (l := l) (g := true) (hn := by omega) (hg := ⟨fun _ => vp_in_nI (by omega) (by omega), fun _ => rfl⟩)) lM_X4_126 vM_X4_isDecanter (by decide) hK hP [0, 1] rfl ⟨rfl, rfl, rfl⟩ rfl hl.1 rfl (Nat.le_of_ble_eq_true rfl) dX4_labels_10 (by decide) ?_
  show W _ _ _ _ _ _ _ _ _ _ _ _ _ _ _ (F0 m 13 ls [.int (bI true)])
  refine zb_eq (tgt := 21) hC dX4_labels_13 (by decide) (fun c13 => by exfalso; cases c13) (fun c13 => ?_)
  refine lv_iload_n hx hb dX4_labels_16 rfl (lv_at hl 1 rfl) ?_
  refine lv_iload_n hx hb dX4_labels_17 rfl (lv_at hl 2 rfl) ?_
  refine zc_ne (tgt := 23) hC dX4_labels_18 (by decide) (by omega) (by omega) (fun c18 => ?_) (fun c18 => by exfalso; exact hde c18)
  refine lv_aload_n hx hb dX4_labels_23 rfl (lv_at hl 0 rfl) ?_
  refine zXV (As := []) (b := q) (rest := []) hC (c_X4_know (l := l) (hk := hk)) lM_X4_141 vM_X4_know (by decide) hK hP hD hS [0, 2] [q, xnw] rfl (by decide) rfl rfl ⟨rfl, rfl, rfl⟩ rfl hl.1 rfl (Nat.le_of_ble_eq_true rfl) dX4_labels_24 (by decide) (fun H locs hP hD hS => ?_)
  have hP : va_P D vwCl [oM q tr xtx ty xdc xdl xdb xar xac xwm xnd at9 sta sor val fau xnw xkp xta xtw td xhg, aI cI xdc 2 dc, aI cI xnw 729 (knF nw)] H := hP
  have hD : va_D A [oM q tr xtx ty xdc xdl xdb xar xac xwm xnd at9 sta sor val fau xnw xkp xta xtw td xhg, aI cI xdc 2 dc, aI cI xnw 729 (knF nw)] := hD
  show W _ _ _ _ _ _ _ _ _ _ _ _ _ _ _ (F0 m 27 ls [])
  refine lv_aload_n hx hb dX4_labels_27 rfl (lv_at hl 0 rfl) ?_
  refine z_get (k := 15) zcX4 hC hK hP 0 rfl (by decide) lF_X4_35 rfl dX4_labels_28 ?_
  refine lv_bipush (v := nI 12) hx hb dX4_labels_31 (by decide) ?_
  refine lv_iload_n hx hb dX4_labels_33 rfl (lv_at hl 1 rfl) ?_
  refine zi_add hC dX4_labels_34 ?_
  refine z_ald hC hK hP 2 rfl (by omega) (by decide) dX4_labels_35 ?_
  refine z_top (show (nI ((knF nw) (12 + d))) = nI (nw (12 + d)) from by rw [knF_lo nw (by omega)]) ?_
  refine lv_istore_n (lv' := [(3, .int (nI (nw (12 + d)))), (0, .ref q), (1, .int (nI d)), (2, .int (nI e9))]) hx hb dX4_labels_36 rfl hl (by decide) rfl (fun ls hl => ?_)
  refine lv_aload_n hx hb dX4_labels_37 rfl (lv_at hl 1 rfl) ?_
  refine z_get (k := 15) zcX4 hC hK hP 0 rfl (by decide) lF_X4_35 rfl dX4_labels_38 ?_
  refine lv_bipush (v := nI 12) hx hb dX4_labels_41 (by decide) ?_
  refine lv_iload_n hx hb dX4_labels_43 rfl (lv_at hl 2 rfl) ?_
  refine zi_add hC dX4_labels_44 ?_
  refine lv_aload_n hx hb dX4_labels_45 rfl (lv_at hl 1 rfl) ?_
  refine z_get (k := 15) zcX4 hC hK hP 0 rfl (by decide) lF_X4_35 rfl dX4_labels_46 ?_
  refine lv_bipush (v := nI 12) hx hb dX4_labels_49 (by decide) ?_
  refine lv_iload_n hx hb dX4_labels_51 rfl (lv_at hl 3 rfl) ?_
  refine zi_add hC dX4_labels_52 ?_
  refine z_ald hC hK hP 2 rfl (by omega) (by decide) dX4_labels_53 ?_
  refine z_top (show (nI ((knF nw) (12 + e9))) = nI (nw (12 + e9)) from by rw [knF_lo nw (by omega)]) ?_
  refine z_ast hC hK hP hD hS 2 rfl (by omega) (by decide) dX4_labels_54 (fun H locs hP hD hS => ?_)
  have hP : va_P D vwCl [oM q tr xtx ty xdc xdl xdb xar xac xwm xnd at9 sta sor val fau xnw xkp xta xtw td xhg, aI cI xdc 2 dc, aI cI xnw 729 (updN (knF nw) (12 + d) (nw (12 + e9)))] H := hP
  have hD : va_D A [oM q tr xtx ty xdc xdl xdb xar xac xwm xnd at9 sta sor val fau xnw xkp xta xtw td xhg, aI cI xdc 2 dc, aI cI xnw 729 (updN (knF nw) (12 + d) (nw (12 + e9)))] := hD
  refine lv_aload_n hx hb dX4_labels_55 rfl (lv_at hl 1 rfl) ?_
  refine z_get (k := 15) zcX4 hC hK hP 0 rfl (by decide) lF_X4_35 rfl dX4_labels_56 ?_
  refine lv_bipush (v := nI 12) hx hb dX4_labels_59 (by decide) ?_
  refine lv_iload_n hx hb dX4_labels_61 rfl (lv_at hl 3 rfl) ?_
  refine zi_add hC dX4_labels_62 ?_
  refine lv_iload_n hx hb dX4_labels_63 rfl (lv_at hl 0 rfl) ?_
  refine z_ast hC hK hP hD hS 2 rfl (by omega) (by decide) dX4_labels_64 (fun H locs hP hD hS => ?_)
  have hP : va_P D vwCl [oM q tr xtx ty xdc xdl xdb xar xac xwm xnd at9 sta sor val fau xnw xkp xta xtw td xhg, aI cI xdc 2 dc, aI cI xnw 729 (updN (updN (knF nw) (12 + d) (nw (12 + e9))) (12 + e9) (nw (12 + d)))] H := hP
  have hD : va_D A [oM q tr xtx ty xdc xdl xdb xar xac xwm xnd at9 sta sor val fau xnw xkp xta xtw td xhg, aI cI xdc 2 dc, aI cI xnw 729 (updN (updN (knF nw) (12 + d) (nw (12 + e9))) (12 + e9) (nw (12 + d)))] := hD
  refine lv_aload_n hx hb dX4_labels_65 rfl (lv_at hl 1 rfl) ?_
  refine zRV (As := []) (b := q) (rest := []) hC (c_X4_rightOnes (l := l) (hn := hn) (hlb := fun j hj => by have h1 := hlb d (by omega); have h2 := hlb e9 (by omega); have h3 := hlb j hj; unfold updN; split; exact h1; split; exact h2; rw [knF_lo nw (by omega)]; exact h3)) lM_X4_147 vM_X4_rightOnes (by decide) hK hP [0, 1, 2] rfl ⟨rfl, rfl, rfl⟩ rfl hl.1 rfl (Nat.le_of_ble_eq_true rfl) dX4_labels_66 (by decide) ?_
  show W _ _ _ _ _ _ _ _ _ _ _ _ _ _ _ (F0 m 69 ls [.int (nI (sm (fun i => if (updN (updN (knF nw) (12 + d) (nw (12 + e9))) (12 + e9) (nw (12 + d))) (12 + i) = i then 1 else 0) (dc 0)))])
  exact zw_i hC hr hlk hA h0 hP hS (by first | rfl | omega) dX4_labels_69
set_option maxHeartbeats 1000000 in
set_option maxRecDepth 100000 in
theorem c_X4_undo_state {l : Launch} {D : va_G} {cI cZ cB cR : ClassId} {q xtx ty xdc xdl xdb xar xac xwm xnd at9 sta sor val xnw xkp xta xtw td xhg : Nat} {tr : Int64} {fau : Int32} {nw : Nat → Nat}  (hk : nw 22 = 0) : mR l yX4_undo cX4_undo 2 (some .int) 0 0 D cI cZ cB cR [oM q tr xtx ty xdc xdl xdb xar xac xwm xnd at9 sta sor val fau xnw xkp xta xtw td xhg, aI cI xnw 729 nw] [.ref q] (some (.int (-2))) := by
  refine mR_of rfl (Nat.le_of_ble_eq_true rfl) ?_
  intro p e s m args below meth c hC hr hlk hK hP ls hl
  have hl : lv_has ls 2 [(0, .ref q)] := hl
  obtain ⟨hx, hb, hml, hown, hts⟩ := id hC
  refine lv_aload_n hx hb dX4_undo_0 rfl (lv_at hl 0 rfl) ?_
  refine z_get (k := 15) zcX4 hC hK hP 0 rfl (by decide) lF_X4_35 rfl dX4_undo_1 ?_
  refine lv_bipush (v := nI 22) hx hb dX4_undo_4 (by decide) ?_
  refine z_ald hC hK hP 1 rfl (by omega) (by decide) dX4_undo_6 ?_
  refine z0_ne (tgt := 13) hC dX4_undo_7 (by decide) (by omega) (fun c7 => by exfalso; omega) (fun c7 => ?_)
  refine lv_bipush (v := (-2)) hx hb dX4_undo_10 (by decide) ?_
  exact zr_i hC hr hlk (by first | rfl | omega) dX4_undo_12
set_option maxHeartbeats 1000000 in
set_option maxRecDepth 100000 in
theorem c_X4_undo {l : Launch} {D : va_G} {cI cZ cB cR : ClassId} {q xtx ty xdc xdl xdb xar xac xwm xnd at9 sta sor val xnw xkp xta xtw td xhg : Nat} {tr : Int64} {fau : Int32} {nw : Nat → Nat}  (hk : 0 < nw 22) (hk9 : nw 22 ≤ 10) : mW l yX4_undo cX4_undo 2 (some .int) 0 0 D cI cZ cB cR [oM q tr xtx ty xdc xdl xdb xar xac xwm xnd at9 sta sor val fau xnw xkp xta xtw td xhg, aI cI xnw 729 nw] [oM q tr xtx ty xdc xdl xdb xar xac xwm xnd at9 sta sor val fau xnw xkp xta xtw td xhg, aI cI xnw 729 (blk (updN nw 22 (nw 22 - 1)) 0 22 (fun m => nw (23 + 22 * (nw 22 - 1) + m)))] [.ref q] (some (.int (nI (nw 22 - 1)))) := by
  refine mW_of rfl (Nat.le_of_ble_eq_true rfl) ?_
  intro p e s m args below meth c hC hr hlk hK A hA hD H0 h0 hP hS ls hl
  have hP : va_P D vwCl [oM q tr xtx ty xdc xdl xdb xar xac xwm xnd at9 sta sor val fau xnw xkp xta xtw td xhg, aI cI xnw 729 nw] H0 := hP
  have hl : lv_has ls 2 [(0, .ref q)] := hl
  obtain ⟨hx, hb, hml, hown, hts⟩ := id hC
  refine lv_aload_n hx hb dX4_undo_0 rfl (lv_at hl 0 rfl) ?_
  refine z_get (k := 15) zcX4 hC hK hP 0 rfl (by decide) lF_X4_35 rfl dX4_undo_1 ?_
  refine lv_bipush (v := nI 22) hx hb dX4_undo_4 (by decide) ?_
  refine z_ald hC hK hP 1 rfl (by omega) (by decide) dX4_undo_6 ?_
  refine z0_ne (tgt := 13) hC dX4_undo_7 (by decide) (by omega) (fun c7 => ?_) (fun c7 => by exfalso; omega)
  refine lv_aload_n hx hb dX4_undo_13 rfl (lv_at hl 0 rfl) ?_
  refine z_get (k := 15) zcX4 hC hK hP 0 rfl (by decide) lF_X4_35 rfl dX4_undo_14 ?_
  refine lv_bipush (v := nI 22) hx hb dX4_undo_17 (by decide) ?_
  refine lv_dup2_11 hx hb dX4_undo_19 rfl rfl ?_
  refine z_ald hC hK hP 1 rfl (by omega) (by decide) dX4_undo_20 ?_
  refine lv_iconst (v := nI 1) hx hb dX4_undo_21 (by decide) ?_
  refine zi_sub hC dX4_undo_22 (by omega) ?_
  refine z_ast hC hK hP hD hS 1 rfl (by omega) (by decide) dX4_undo_23 (fun H locs hP hD hS => ?_)
  have hP : va_P D vwCl [oM q tr xtx ty xdc xdl xdb xar xac xwm xnd at9 sta sor val fau xnw xkp xta xtw td xhg, aI cI xnw 729 (updN nw 22 ((nw 22) - 1))] H := hP
  have hD : va_D A [oM q tr xtx ty xdc xdl xdb xar xac xwm xnd at9 sta sor val fau xnw xkp xta xtw td xhg, aI cI xnw 729 (updN nw 22 ((nw 22) - 1))] := hD
  refine lv_iconst (v := nI 0) hx hb dX4_undo_24 (by decide) ?_
  refine lv_istore_n (lv' := [(1, .int (nI 0)), (0, .ref q)]) hx hb dX4_undo_25 rfl hl (by decide) rfl (fun ls hl => ?_)
  have hL26 : ∀ (z26 : Nat) (i9 : Nat) (n8 : Nat → Nat), 22 - i9 = z26 → (i9 ≤ 22) → (n8 = blk (updN nw 22 (nw 22 - 1)) 0 i9 (fun m => nw (23 + 22 * (nw 22 - 1) + m))) → ∀ (H : Heap) (locs : List Loc), va_P D vwCl [oM q tr xtx ty xdc xdl xdb xar xac xwm xnd at9 sta sor val fau xnw xkp xta xtw td xhg, aI cI xnw 729 n8] H → va_D A [oM q tr xtx ty xdc xdl xdb xar xac xwm xnd at9 sta sor val fau xnw xkp xta xtw td xhg, aI cI xnw 729 n8] → va_S A H0 H locs → ∀ ls : Array Slot, lv_has ls 2 [(0, .ref q), (1, .int (nI i9))] → W p l e { frames := 0, cells := 0, slots := 0, locals := 0 } s m args below meth c H locs 0 0 (MQ below (qW D [oM q tr xtx ty xdc xdl xdb xar xac xwm xnd at9 sta sor val fau xnw xkp xta xtw td xhg, aI cI xnw 729 nw] [oM q tr xtx ty xdc xdl xdb xar xac xwm xnd at9 sta sor val fau xnw xkp xta xtw td xhg, aI cI xnw 729 (blk (updN nw 22 (nw 22 - 1)) 0 22 (fun m => nw (23 + 22 * (nw 22 - 1) + m)))] (some (.int (nI (nw 22 - 1))))) args s 0 0 (zA [oM q tr xtx ty xdc xdl xdb xar xac xwm xnd at9 sta sor val fau xnw xkp xta xtw td xhg, aI cI xnw 729 nw])) (F0 m 26 ls []) := by
    intro z26
    induction z26 using Nat.strongRecOn with
    | _ z26 ih26 =>
    intro i9 n8 hz26 hi hn8 H locs hP hD hS ls hl
    refine lv_iload_n hx hb dX4_undo_26 rfl (lv_at hl 1 rfl) ?_
    refine lv_bipush (v := nI 22) hx hb dX4_undo_27 (by decide) ?_
    refine zc_ge (tgt := 64) hC dX4_undo_29 (by decide) (by omega) (by omega) (fun c29 => ?_) (fun c29 => ?_)
    · skip
      refine lv_aload_n hx hb dX4_undo_64 rfl (lv_at hl 0 rfl) ?_
      refine z_get (k := 15) zcX4 hC hK hP 0 rfl (by decide) lF_X4_35 rfl dX4_undo_65 ?_
      refine lv_bipush (v := nI 22) hx hb dX4_undo_68 (by decide) ?_
      refine z_ald hC hK hP 1 rfl (by omega) (by decide) dX4_undo_70 ?_
      exact zw_i hC hr hlk hA h0 (by rw [hn8, show i9 = 22 by omega] at hP; exact hP) hS (by rw [hn8, blk_hi (by omega), updN_s]) dX4_undo_71
    · skip
      refine lv_aload_n hx hb dX4_undo_32 rfl (lv_at hl 0 rfl) ?_
      refine z_get (k := 15) zcX4 hC hK hP 0 rfl (by decide) lF_X4_35 rfl dX4_undo_33 ?_
      refine lv_iload_n hx hb dX4_undo_36 rfl (lv_at hl 1 rfl) ?_
      refine lv_aload_n hx hb dX4_undo_37 rfl (lv_at hl 0 rfl) ?_
      refine z_get (k := 15) zcX4 hC hK hP 0 rfl (by decide) lF_X4_35 rfl dX4_undo_38 ?_
      refine lv_bipush (v := nI 23) hx hb dX4_undo_41 (by decide) ?_
      refine lv_bipush (v := nI 22) hx hb dX4_undo_43 (by decide) ?_
      refine lv_aload_n hx hb dX4_undo_45 rfl (lv_at hl 0 rfl) ?_
      refine z_get (k := 15) zcX4 hC hK hP 0 rfl (by decide) lF_X4_35 rfl dX4_undo_46 ?_
      refine lv_bipush (v := nI 22) hx hb dX4_undo_49 (by decide) ?_
      refine z_ald hC hK hP 1 rfl (by omega) (by decide) dX4_undo_51 ?_
      refine z_top (show (nI (n8 22)) = nI (nw 22 - 1) from by rw [hn8, blk_hi (by omega), updN_s]) ?_
      refine zi_mul hC dX4_undo_52 ?_
      refine zi_add hC dX4_undo_53 ?_
      refine lv_iload_n hx hb dX4_undo_54 rfl (lv_at hl 1 rfl) ?_
      refine zi_add hC dX4_undo_55 ?_
      refine z_ald hC hK hP 1 rfl (by omega) (by decide) dX4_undo_56 ?_
      refine z_ast hC hK hP hD hS 1 rfl (by omega) (by decide) dX4_undo_57 (fun H locs hP hD hS => ?_)
      have hP : va_P D vwCl [oM q tr xtx ty xdc xdl xdb xar xac xwm xnd at9 sta sor val fau xnw xkp xta xtw td xhg, aI cI xnw 729 (updN n8 i9 (n8 ((23 + (22 * (nw 22 - 1))) + i9)))] H := hP
      have hD : va_D A [oM q tr xtx ty xdc xdl xdb xar xac xwm xnd at9 sta sor val fau xnw xkp xta xtw td xhg, aI cI xnw 729 (updN n8 i9 (n8 ((23 + (22 * (nw 22 - 1))) + i9)))] := hD
      refine lv_iinc (v := nI (i9 + 1)) (lv' := [(1, .int (nI (i9 + 1))), (0, .ref q)]) hx hb dX4_undo_58 hl (k := 1) rfl (z_inc i9 1) (by decide) rfl (fun ls hl => ?_)
      refine lv_goto (tgt := 26) hx hb dX4_undo_61 (by decide) ?_
      exact ih26 (22 - (i9 + 1)) (by omega) (i9 + 1) (updN n8 i9 (n8 ((23 + (22 * (nw 22 - 1))) + i9))) rfl (by omega) (by rw [show n8 (23 + 22 * (nw 22 - 1) + i9) = nw (23 + 22 * (nw 22 - 1) + i9) by rw [hn8, blk_hi (by omega), updN_n (by omega)], hn8, ← blk_s, Nat.zero_add]) _ _ hP hD hS ls (lv_sub hl [1, 0] rfl)
  exact hL26 _ 0 (updN nw 22 ((nw 22) - 1)) rfl (by omega) (by exact (blk_0 _ _ _).symm) _ _ hP hD hS ls (lv_sub hl [1, 0] rfl)
