theorem z_inD {x : Int32} {n : Nat} (hn : n < 1000) : (nI 0 ≤ x ∧ x ≤ nI n - nI 1) ↔ vp_in x n := by
  constructor
  · rintro ⟨h1, h2⟩
    have h3 : ¬ x < 0 := fun q => by
      have := Int32.le_iff_toInt_le.mp h1
      have := Int32.lt_iff_toInt_lt.mp q
      have h5 : (0 : Int32).toInt = 0 := rfl
      have h6 : (nI 0).toInt = 0 := rfl
      omega
    obtain ⟨j, hj, rfl⟩ := nI_of h3
    have h4 := Int32.le_iff_toInt_le.mp h2
    rw [pk_sub_toInt (by omega) (by omega), nI_toInt hj] at h4
    exact vp_in_nI (by omega) (by omega)
  · intro h
    obtain ⟨j, hj, rfl⟩ := vp_in_of h (by omega)
    refine ⟨(nI_leI (by omega) (by omega)).mpr (by omega), ?_⟩
    apply Int32.le_iff_toInt_le.mpr
    rw [pk_sub_toInt (by omega) (by omega), nI_toInt (by omega)]
    omega
theorem z_inN {a b d : Nat} (ha : a < 2 ^ 31) (hb : b < 2 ^ 31) (hd : d < 2 ^ 31) : (decide (b ≤ a ∧ a ≤ d) = true) ↔ (nI b ≤ nI a ∧ nI a ≤ nI d) := by
  rw [decide_eq_true_iff, nI_leI hb ha, nI_leI ha hd]
theorem z_subge {a b : Nat} (ha : a < 2 ^ 30) (hb : b < 2 ^ 30) (h : 0 ≤ nI a - nI b) : nI a - nI b = nI (a - b) := by
  by_cases h2 : b ≤ a
  · exact pk_sub h2
  · have h3 := Int32.lt_iff_toInt_lt.mp (pk_sneg hb (show a < b by omega))
    have h4 := Int32.le_iff_toInt_le.mp h
    omega
theorem z_sublt {a b : Nat} (ha : a < 2 ^ 30) (hb : b < 2 ^ 30) (h : ¬ 0 ≤ nI a - nI b) : nI 0 = nI (a - b) := by
  by_cases h2 : b ≤ a
  · rw [pk_sub h2] at h
    exact absurd (nI_pos' (by omega)) h
  · rw [show a - b = 0 by omega]
theorem all_f1 {P : Nat → Prop} {b : Bool} {q : Nat} (hb : b = true ↔ ∀ j, j < q → P j) (h : b = false) : false = true ↔ ∀ j, j < q + 1 → P j := ⟨fun h => (by cases h), fun h2 => absurd (hb.mpr (fun j hj => h2 j (by omega))) (by rw [h]; decide)⟩
theorem all_f2 {P : Nat → Prop} {q : Nat} (h : ¬ P q) : false = true ↔ ∀ j, j < q + 1 → P j := ⟨fun h => (by cases h), fun h2 => absurd (h2 q (by omega)) h⟩
theorem all_t {P : Nat → Prop} {b : Bool} {q : Nat} (hb : b = true ↔ ∀ j, j < q → P j) (h : b = true) (hq : P q) : true = true ↔ ∀ j, j < q + 1 → P j := ⟨fun _ j hj => (by
  rcases Nat.lt_succ_iff_lt_or_eq.mp hj with h1 | h1
  · exact hb.mp h j h1
  · rw [h1]; exact hq), fun _ => rfl⟩
theorem all_0 {P : Nat → Prop} : true = true ↔ ∀ j, j < 0 → P j := ⟨fun _ j hj => absurd hj (Nat.not_lt_zero j), fun _ => rfl⟩
def lsc (C9 : Nat → Bool) : Nat → Nat → Nat
  | 0, n => n
  | k + 1, n => if C9 (n + 1) = true then lsc C9 k (n + 1) else n
theorem lsc_s (C9 : Nat → Bool) (k n : Nat) : lsc C9 (k + 1) n = if C9 (n + 1) = true then lsc C9 k (n + 1) else n := rfl
set_option maxHeartbeats 1000000 in
set_option maxRecDepth 100000 in
theorem c_X4_in {l : Launch} {D : va_G} {cI cZ cB cR : ClassId} {v lo9 hi9 : Int32} {g : Bool} (hg : g = true ↔ lo9 ≤ v ∧ v ≤ hi9) : mR l yX4_in cX4_in 3 (some .boolean) 0 0 D cI cZ cB cR [] [.int v, .int lo9, .int hi9] (some (.int (bI g))) := by
  refine mR_of rfl (Nat.le_of_ble_eq_true rfl) ?_
  intro p e s m args below meth c hC hr hlk hK hP ls hl
  have hl : lv_has ls 3 [(0, .int v), (1, .int lo9), (2, .int hi9)] := hl
  obtain ⟨hx, hb, hml, hown, hts⟩ := id hC
  refine lv_iload_n hx hb dX4_in_0 rfl (lv_at hl 0 rfl) ?_
  refine lv_iload_n hx hb dX4_in_1 rfl (lv_at hl 1 rfl) ?_
  refine lv_icmp_lt (tgt := 14) hx hb dX4_in_2 (by decide) (fun c2 => ?_) (fun c2 => ?_)
  · skip
    refine lv_iconst (v := nI 0) hx hb dX4_in_14 (by decide) ?_
    refine z_top (y := bI false) rfl ?_
    exact zr_z hC hr hlk (by cases g with | false => rfl | true => exact absurd (hg.mp rfl) (fun h => Int32.not_lt.mpr h.1 c2)) dX4_in_15
  · skip
    refine lv_iload_n hx hb dX4_in_5 rfl (lv_at hl 0 rfl) ?_
    refine lv_iload_n hx hb dX4_in_6 rfl (lv_at hl 2 rfl) ?_
    refine lv_icmp_gt (tgt := 14) hx hb dX4_in_7 (by decide) (fun c7 => ?_) (fun c7 => ?_)
    · skip
      refine lv_iconst (v := nI 0) hx hb dX4_in_14 (by decide) ?_
      refine z_top (y := bI false) rfl ?_
      exact zr_z hC hr hlk (by cases g with | false => rfl | true => exact absurd (hg.mp rfl) (fun h => Int32.not_lt.mpr h.2 c7)) dX4_in_15
    · skip
      refine lv_iconst (v := nI 1) hx hb dX4_in_10 (by decide) ?_
      refine lv_goto (tgt := 15) hx hb dX4_in_11 (by decide) ?_
      refine z_top (y := bI true) rfl ?_
      exact zr_z hC hr hlk (by exact (hg.mpr ⟨Int32.not_lt.mp c2, Int32.not_lt.mp c7⟩).symm) dX4_in_15
set_option maxHeartbeats 1000000 in
set_option maxRecDepth 100000 in
theorem c_X4_isDecanter {l : Launch} {D : va_G} {cI cZ cB cR : ClassId} {q xtx ty xdc xdl xdb xar xac xwm xnd at9 sta sor val xnw xkp xta xtw td xhg : Nat} {tr : Int64} {fau : Int32} {dc : Nat → Nat} {x : Int32} {g : Bool} (hn : dc 0 ≤ 6) (hg : g = true ↔ vp_in x (dc 0)) : mR l yX4_isDecanter cX4_isDecanter 2 (some .boolean) 1 22 D cI cZ cB cR [oM q tr xtx ty xdc xdl xdb xar xac xwm xnd at9 sta sor val fau xnw xkp xta xtw td xhg, aI cI xdc 2 dc] [.ref q, .int x] (some (.int (bI g))) := by
  refine mR_of rfl (Nat.le_of_ble_eq_true rfl) ?_
  intro p e s m args below meth c hC hr hlk hK hP ls hl
  have hl : lv_has ls 2 [(0, .ref q), (1, .int x)] := hl
  obtain ⟨hx, hb, hml, hown, hts⟩ := id hC
  refine lv_iload_n hx hb dX4_isDecanter_0 rfl (lv_at hl 1 rfl) ?_
  refine lv_iconst (v := nI 0) hx hb dX4_isDecanter_1 (by decide) ?_
  refine lv_aload_n hx hb dX4_isDecanter_2 rfl (lv_at hl 0 rfl) ?_
  refine z_get (k := 3) zcX4 hC hK hP 0 rfl (by decide) lF_X4_13 rfl dX4_isDecanter_3 ?_
  refine lv_iconst (v := nI 0) hx hb dX4_isDecanter_6 (by decide) ?_
  refine z_ald hC hK hP 1 rfl (by omega) (by decide) dX4_isDecanter_7 ?_
  refine lv_iconst (v := nI 1) hx hb dX4_isDecanter_8 (by decide) ?_
  refine lv_isub hx hb dX4_isDecanter_9 ?_
  refine zRS (As := [.int x, .int (nI 0), .int ((nI (dc 0)) - (nI 1))]) (rest := []) hC (c_X4_in (l := l) (g := g) (hg := hg.trans (z_inD (by omega)).symm)) lM_X4_57 sM_X4_in (by decide) hK rfl hl.1 rfl (Nat.le_of_ble_eq_true rfl) dX4_isDecanter_10 (by decide) ?_
  show W _ _ _ _ _ _ _ _ _ _ _ _ _ _ _ (F0 m 13 ls [.int (bI g)])
  exact zr_z hC hr hlk (by first | rfl | omega) dX4_isDecanter_13
set_option maxHeartbeats 1000000 in
set_option maxRecDepth 100000 in
theorem c_X4_isAct {l : Launch} {D : va_G} {cI cZ cB cR : ClassId} {q xtx ty xdc xdl xdb xar xac xwm xnd at9 sta sor val xnw xkp xta xtw td xhg : Nat} {tr : Int64} {fau : Int32} {acn : Nat → Nat} {x : Int32} {g : Bool} (hn : acn 0 ≤ 6) (hg : g = true ↔ vp_in x (acn 0)) : mR l yX4_isAct cX4_isAct 2 (some .boolean) 1 22 D cI cZ cB cR [oM q tr xtx ty xdc xdl xdb xar xac xwm xnd at9 sta sor val fau xnw xkp xta xtw td xhg, aI cI xac 2 acn] [.ref q, .int x] (some (.int (bI g))) := by
  refine mR_of rfl (Nat.le_of_ble_eq_true rfl) ?_
  intro p e s m args below meth c hC hr hlk hK hP ls hl
  have hl : lv_has ls 2 [(0, .ref q), (1, .int x)] := hl
  obtain ⟨hx, hb, hml, hown, hts⟩ := id hC
  refine lv_iload_n hx hb dX4_isAct_0 rfl (lv_at hl 1 rfl) ?_
  refine lv_iconst (v := nI 0) hx hb dX4_isAct_1 (by decide) ?_
  refine lv_aload_n hx hb dX4_isAct_2 rfl (lv_at hl 0 rfl) ?_
  refine z_get (k := 7) zcX4 hC hK hP 0 rfl (by decide) lF_X4_26 rfl dX4_isAct_3 ?_
  refine lv_iconst (v := nI 0) hx hb dX4_isAct_6 (by decide) ?_
  refine z_ald hC hK hP 1 rfl (by omega) (by decide) dX4_isAct_7 ?_
  refine lv_iconst (v := nI 1) hx hb dX4_isAct_8 (by decide) ?_
  refine lv_isub hx hb dX4_isAct_9 ?_
  refine zRS (As := [.int x, .int (nI 0), .int ((nI (acn 0)) - (nI 1))]) (rest := []) hC (c_X4_in (l := l) (g := g) (hg := hg.trans (z_inD (by omega)).symm)) lM_X4_57 sM_X4_in (by decide) hK rfl hl.1 rfl (Nat.le_of_ble_eq_true rfl) dX4_isAct_10 (by decide) ?_
  show W _ _ _ _ _ _ _ _ _ _ _ _ _ _ _ (F0 m 13 ls [.int (bI g)])
  exact zr_z hC hr hlk (by first | rfl | omega) dX4_isAct_13
set_option maxHeartbeats 1000000 in
set_option maxRecDepth 100000 in
theorem c_X4_isDone {l : Launch} {D : va_G} {cI cZ cB cR : ClassId} {q xtx ty xdc xdl xdb xar xac xwm xnd at9 sta sor val xnw xkp xta xtw td xhg : Nat} {tr : Int64} {fau : Int32} {nw : Nat → Nat} {a : Nat} (ha : a < 31) (hdn : nw 19 < 32) : mR l yX4_isDone cX4_isDone 2 (some .boolean) 0 0 D cI cZ cB cR [oM q tr xtx ty xdc xdl xdb xar xac xwm xnd at9 sta sor val fau xnw xkp xta xtw td xhg, aI cI xnw 729 nw] [.ref q, .int (nI a)] (some (.int (bI (Nat.testBit (nw 19) a)))) := by
  refine mR_of rfl (Nat.le_of_ble_eq_true rfl) ?_
  intro p e s m args below meth c hC hr hlk hK hP ls hl
  have hl : lv_has ls 2 [(0, .ref q), (1, .int (nI a))] := hl
  obtain ⟨hx, hb, hml, hown, hts⟩ := id hC
  refine lv_aload_n hx hb dX4_isDone_0 rfl (lv_at hl 0 rfl) ?_
  refine z_get (k := 15) zcX4 hC hK hP 0 rfl (by decide) lF_X4_35 rfl dX4_isDone_1 ?_
  refine lv_bipush (v := nI 19) hx hb dX4_isDone_4 (by decide) ?_
  refine z_ald hC hK hP 1 rfl (by omega) (by decide) dX4_isDone_6 ?_
  refine lv_iload_n hx hb dX4_isDone_7 rfl (lv_at hl 1 rfl) ?_
  refine zi_shr hC dX4_isDone_8 (by omega) (by omega) ?_
  refine lv_iconst (v := nI 1) hx hb dX4_isDone_9 (by decide) ?_
  have b10 : (Nat.testBit (nw 19) a).toNat < 2 := Bool.toNat_lt _
  refine zi_and hC dX4_isDone_10 ?_
  refine z_top (show (nI (((nw 19) / 2 ^ a) &&& 1)) = nI ((Nat.testBit (nw 19) a).toNat) from by exact z_bit _ a) ?_
  refine lv_iconst (v := nI 1) hx hb dX4_isDone_11 (by decide) ?_
  refine zc_ne (tgt := 19) hC dX4_isDone_12 (by decide) (by omega) (by omega) (fun c12 => ?_) (fun c12 => ?_)
  · skip
    refine lv_iconst (v := nI 0) hx hb dX4_isDone_19 (by decide) ?_
    refine z_top (y := bI false) rfl ?_
    exact zr_z hC hr hlk (by revert c12; cases Nat.testBit (nw 19) a <;> simp) dX4_isDone_20
  · skip
    refine lv_iconst (v := nI 1) hx hb dX4_isDone_15 (by decide) ?_
    refine lv_goto (tgt := 20) hx hb dX4_isDone_16 (by decide) ?_
    refine z_top (y := bI true) rfl ?_
    exact zr_z hC hr hlk (by revert c12; cases Nat.testBit (nw 19) a <;> simp) dX4_isDone_20
set_option maxHeartbeats 1000000 in
set_option maxRecDepth 100000 in
theorem c_X4_needOf {l : Launch} {D : va_G} {cI cZ cB cR : ClassId} {q xtx ty xdc xdl xdb xar xac xwm xnd at9 sta sor val xnw xkp xta xtw td xhg : Nat} {tr : Int64} {fau : Int32} {nd : Nat → Nat} {a d : Nat} (ha : a < 5) (hd : d < 6) : mR l yX4_needOf cX4_needOf 3 (some .int) 0 0 D cI cZ cB cR [oM q tr xtx ty xdc xdl xdb xar xac xwm xnd at9 sta sor val fau xnw xkp xta xtw td xhg, aI cI xnd 60 nd] [.ref q, .int (nI a), .int (nI d)] (some (.int (nI (nd (6 * a + d))))) := by
  refine mR_of rfl (Nat.le_of_ble_eq_true rfl) ?_
  intro p e s m args below meth c hC hr hlk hK hP ls hl
  have hl : lv_has ls 3 [(0, .ref q), (1, .int (nI a)), (2, .int (nI d))] := hl
  obtain ⟨hx, hb, hml, hown, hts⟩ := id hC
  refine lv_aload_n hx hb dX4_needOf_0 rfl (lv_at hl 0 rfl) ?_
  refine z_get (k := 9) zcX4 hC hK hP 0 rfl (by decide) lF_X4_32 rfl dX4_needOf_1 ?_
  refine lv_bipush (v := nI 6) hx hb dX4_needOf_4 (by decide) ?_
  refine lv_iload_n hx hb dX4_needOf_6 rfl (lv_at hl 1 rfl) ?_
  refine zi_mul hC dX4_needOf_7 ?_
  refine lv_iload_n hx hb dX4_needOf_8 rfl (lv_at hl 2 rfl) ?_
  refine zi_add hC dX4_needOf_9 ?_
  refine z_ald hC hK hP 1 rfl (by omega) (by decide) dX4_needOf_10 ?_
  exact zr_i hC hr hlk (by first | rfl | omega) dX4_needOf_11
set_option maxHeartbeats 1000000 in
set_option maxRecDepth 100000 in
theorem c_X4_with {l : Launch} {D : va_G} {cI cZ cB cR : ClassId} {q xtx ty xdc xdl xdb xar xac xwm xnd at9 sta sor val xnw xkp xta xtw td xhg : Nat} {tr : Int64} {fau : Int32} {nw : Nat → Nat} {j9 w9 : Nat} (hlb : ∀ j, j < 6 → nw (12 + j) < 6) (hw : w9 < 6) (hj : nw (12 + w9) = j9) (hm : ∀ i, i < w9 → nw (12 + i) ≠ j9) : mR l yX4_with cX4_with 3 (some .int) 0 0 D cI cZ cB cR [oM q tr xtx ty xdc xdl xdb xar xac xwm xnd at9 sta sor val fau xnw xkp xta xtw td xhg, aI cI xnw 729 nw] [.ref q, .int (nI j9)] (some (.int (nI w9))) := by
  refine mR_of rfl (Nat.le_of_ble_eq_true rfl) ?_
  intro p e s m args below meth c hC hr hlk hK hP ls hl
  have hl : lv_has ls 3 [(0, .ref q), (1, .int (nI j9))] := hl
  obtain ⟨hx, hb, hml, hown, hts⟩ := id hC
  refine lv_iconst (v := nI 0) hx hb dX4_with_0 (by decide) ?_
  refine lv_istore_n (lv' := [(2, .int (nI 0)), (0, .ref q), (1, .int (nI j9))]) hx hb dX4_with_1 rfl hl (by decide) rfl (fun ls hl => ?_)
  have hL2 : ∀ (z2 : Nat) (d : Nat), w9 - d = z2 → (d ≤ w9) → ∀ ls : Array Slot, lv_has ls 3 [(0, .ref q), (1, .int (nI j9)), (2, .int (nI d))] → W p l e { frames := 0, cells := 0, slots := 0, locals := 0 } s m args below meth c s.heap [] 0 0 (MQ below (qR (some (.int (nI w9)))) args s 0 0 (fun _ => False)) (F0 m 2 ls []) := by
    intro z2
    induction z2 using Nat.strongRecOn with
    | _ z2 ih2 =>
    intro d hz2 hd ls hl
    refine lv_aload_n hx hb dX4_with_2 rfl (lv_at hl 0 rfl) ?_
    refine z_get (k := 15) zcX4 hC hK hP 0 rfl (by decide) lF_X4_35 rfl dX4_with_3 ?_
    refine lv_bipush (v := nI 12) hx hb dX4_with_6 (by decide) ?_
    refine lv_iload_n hx hb dX4_with_8 rfl (lv_at hl 2 rfl) ?_
    refine zi_add hC dX4_with_9 ?_
    have b10 := hlb d (by omega)
    refine z_ald hC hK hP 1 rfl (by omega) (by decide) dX4_with_10 ?_
    have b11 := hlb w9 hw
    refine lv_iload_n hx hb dX4_with_11 rfl (lv_at hl 1 rfl) ?_
    refine zc_eq (tgt := 21) hC dX4_with_12 (by decide) (by omega) (by omega) (fun c12 => ?_) (fun c12 => ?_)
    · skip
      refine lv_iload_n hx hb dX4_with_21 rfl (lv_at hl 2 rfl) ?_
      exact zr_i hC hr hlk (by by_cases e : d = w9; rw [e]; exact absurd c12 (hm d (by omega))) dX4_with_22
    · skip
      have h12 : d < w9 := by
        rcases Nat.lt_or_ge d w9 with h | h
        · exact h
        · exact absurd (by rw [show d = w9 by omega]; exact hj) c12
      refine lv_iinc (v := nI (d + 1)) (lv' := [(2, .int (nI (d + 1))), (0, .ref q), (1, .int (nI j9))]) hx hb dX4_with_15 hl (k := 2) rfl (z_inc d 1) (by decide) rfl (fun ls hl => ?_)
      refine lv_goto (tgt := 2) hx hb dX4_with_18 (by decide) ?_
      exact ih2 (w9 - (d + 1)) (by omega) (d + 1) rfl (by omega) ls (lv_sub hl [1, 2, 0] rfl)
  exact hL2 _ 0 rfl (by omega) ls (lv_sub hl [1, 2, 0] rfl)
set_option maxHeartbeats 1000000 in
set_option maxRecDepth 100000 in
theorem c_X4_levelIn {l : Launch} {D : va_G} {cI cZ cB cR : ClassId} {q xtx ty xdc xdl xdb xar xac xwm xnd at9 sta sor val xnw xkp xta xtw td xhg : Nat} {tr : Int64} {fau : Int32} {nw ar : Nat → Nat} {d m9 : Nat} (hlv : ∀ j, j < 6 → nw j ≤ 40) (har : ∀ i, i < 6 → ar i ≤ 5) (hd : d < 6) (hm : m9 < 100) : mR l yX4_levelIn cX4_levelIn 4 (some .int) 0 0 D cI cZ cB cR [oM q tr xtx ty xdc xdl xdb xar xac xwm xnd at9 sta sor val fau xnw xkp xta xtw td xhg, aI cI xnw 729 nw, aI cI xar 12 ar] [.ref q, .int (nI d), .int (nI m9)] (some (.int (nI (nw d - m9 * ar d)))) := by
  refine mR_of rfl (Nat.le_of_ble_eq_true rfl) ?_
  intro p e s m args below meth c hC hr hlk hK hP ls hl
  have hl : lv_has ls 4 [(0, .ref q), (1, .int (nI d)), (2, .int (nI m9))] := hl
  obtain ⟨hx, hb, hml, hown, hts⟩ := id hC
  refine lv_aload_n hx hb dX4_levelIn_0 rfl (lv_at hl 0 rfl) ?_
  refine z_get (k := 15) zcX4 hC hK hP 0 rfl (by decide) lF_X4_35 rfl dX4_levelIn_1 ?_
  refine lv_iload_n hx hb dX4_levelIn_4 rfl (lv_at hl 1 rfl) ?_
  refine z_ald hC hK hP 1 rfl (by omega) (by decide) dX4_levelIn_5 ?_
  refine lv_iload_n hx hb dX4_levelIn_6 rfl (lv_at hl 2 rfl) ?_
  refine lv_aload_n hx hb dX4_levelIn_7 rfl (lv_at hl 0 rfl) ?_
  refine z_get (k := 6) zcX4 hC hK hP 0 rfl (by decide) lF_X4_23 rfl dX4_levelIn_8 ?_
  refine lv_iload_n hx hb dX4_levelIn_11 rfl (lv_at hl 1 rfl) ?_
  refine z_ald hC hK hP 2 rfl (by omega) (by decide) dX4_levelIn_12 ?_
  have b13 := hlv d hd
  have b14 := har d hd
  have b15 : m9 * ar d ≤ m9 * 5 := Nat.mul_le_mul_left _ b14
  refine zi_mul hC dX4_levelIn_13 ?_
  refine lv_isub hx hb dX4_levelIn_14 ?_
  refine lv_istore_n (lv' := [(3, .int ((nI (nw d)) - (nI (m9 * (ar d))))), (0, .ref q), (1, .int (nI d)), (2, .int (nI m9))]) hx hb dX4_levelIn_15 rfl hl (by decide) rfl (fun ls hl => ?_)
  refine lv_iload_n hx hb dX4_levelIn_16 rfl (lv_at hl 0 rfl) ?_
  refine lv_if_ge (tgt := 24) hx hb dX4_levelIn_17 (by decide) (fun c17 => ?_) (fun c17 => ?_)
  · skip
    refine lv_iload_n hx hb dX4_levelIn_24 rfl (lv_at hl 0 rfl) ?_
    exact zr_i hC hr hlk (by exact z_subge (by omega) (by omega) c17) dX4_levelIn_25
  · skip
    refine lv_iconst (v := nI 0) hx hb dX4_levelIn_20 (by decide) ?_
    refine lv_goto (tgt := 25) hx hb dX4_levelIn_21 (by decide) ?_
    exact zr_i hC hr hlk (by exact z_sublt (by omega) (by omega) c17) dX4_levelIn_25
set_option maxHeartbeats 1000000 in
set_option maxRecDepth 100000 in
theorem c_X4_can {l : Launch} {D : va_G} {cI cZ cB cR : ClassId} {q xtx ty xdc xdl xdb xar xac xwm xnd at9 sta sor val xnw xkp xta xtw td xhg : Nat} {tr : Int64} {fau : Int32} {dc nw ar nd : Nat → Nat} {W9 : Nat → Nat} {a m9 : Nat} {g : Bool} (hn : dc 0 ≤ 6) (hlv : ∀ j, j < 6 → nw j ≤ 40) (hlb : ∀ j, j < 6 → nw (12 + j) < 6) (har : ∀ i, i < 6 → ar i ≤ 5) (hnd : ∀ i, nd i ≤ 9) (hW : ∀ j, j < dc 0 → W9 j < dc 0 ∧ nw (12 + W9 j) = j ∧ ∀ i, i < W9 j → nw (12 + i) ≠ j) (ha : a < 5) (hm : m9 < 100) (hg : g = true ↔ ∀ d, d < dc 0 → nd (6 * a + d) ≤ nw (W9 d) - m9 * ar (W9 d)) : mR l yX4_can cX4_can 5 (some .boolean) 1 23 D cI cZ cB cR [oM q tr xtx ty xdc xdl xdb xar xac xwm xnd at9 sta sor val fau xnw xkp xta xtw td xhg, aI cI xdc 2 dc, aI cI xnw 729 nw, aI cI xar 12 ar, aI cI xnd 60 nd] [.ref q, .int (nI a), .int (nI m9)] (some (.int (bI g))) := by
  refine mR_of rfl (Nat.le_of_ble_eq_true rfl) ?_
  intro p e s m args below meth c hC hr hlk hK hP ls hl
  have hl : lv_has ls 5 [(0, .ref q), (1, .int (nI a)), (2, .int (nI m9))] := hl
  obtain ⟨hx, hb, hml, hown, hts⟩ := id hC
  refine lv_iconst (v := nI 1) hx hb dX4_can_0 (by decide) ?_
  refine lv_istore_n (lv' := [(3, .int (nI 1)), (0, .ref q), (1, .int (nI a)), (2, .int (nI m9))]) hx hb dX4_can_1 rfl hl (by decide) rfl (fun ls hl => ?_)
  refine lv_iconst (v := nI 0) hx hb dX4_can_2 (by decide) ?_
  refine lv_istore (lv' := [(4, .int (nI 0)), (3, .int (nI 1)), (0, .ref q), (1, .int (nI a)), (2, .int (nI m9))]) hx hb dX4_can_3 hl (by decide) rfl (fun ls hl => ?_)
  have hL5 : ∀ (z5 : Nat) (d : Nat) (b9 : Bool), dc 0 - d = z5 → (d ≤ dc 0) → (b9 = true ↔ ∀ i, i < d → nd (6 * a + i) ≤ nw (W9 i) - m9 * ar (W9 i)) → ∀ ls : Array Slot, lv_has ls 5 [(0, .ref q), (1, .int (nI a)), (2, .int (nI m9)), (3, .int (bI b9)), (4, .int (nI d))] → W p l e { frames := 1, cells := 0, slots := 0, locals := 23 } s m args below meth c s.heap [] 0 0 (MQ below (qR (some (.int (bI g)))) args s 0 0 (fun _ => False)) (F0 m 5 ls []) := by
    intro z5
    induction z5 using Nat.strongRecOn with
    | _ z5 ih5 =>
    intro d b9 hz5 hd hb9 ls hl
    refine lv_iload hx hb dX4_can_5 (lv_at hl 4 rfl) ?_
    refine lv_aload_n hx hb dX4_can_7 rfl (lv_at hl 0 rfl) ?_
    refine z_get (k := 3) zcX4 hC hK hP 0 rfl (by decide) lF_X4_13 rfl dX4_can_8 ?_
    refine lv_iconst (v := nI 0) hx hb dX4_can_11 (by decide) ?_
    refine z_ald hC hK hP 1 rfl (by omega) (by decide) dX4_can_12 ?_
    refine zc_ge (tgt := 53) hC dX4_can_13 (by decide) (by omega) (by omega) (fun c13 => ?_) (fun c13 => ?_)
    · skip
      refine lv_iload_n hx hb dX4_can_53 rfl (lv_at hl 3 rfl) ?_
      exact zr_z hC hr hlk (by have e : d = dc 0 := (by omega); rw [e] at hb9; cases b9 <;> cases g <;> first | rfl | exact absurd (hg.mpr (hb9.mp rfl)) (by decide) | exact absurd (hb9.mpr (hg.mp rfl)) (by decide)) dX4_can_54
    · skip
      have hJ46 : ∀ (j9 : Bool), True → (j9 = true ↔ ∀ i, i < d + 1 → nd (6 * a + i) ≤ nw (W9 i) - m9 * ar (W9 i)) → ∀ ls : Array Slot, lv_has ls 5 [(0, .ref q), (1, .int (nI a)), (2, .int (nI m9)), (4, .int (nI d))] → W p l e { frames := 1, cells := 0, slots := 0, locals := 23 } s m args below meth c s.heap [] 0 0 (MQ below (qR (some (.int (bI g)))) args s 0 0 (fun _ => False)) (F0 m 46 ls [.int (bI j9)]) := by
        intro j9 _ hj9 ls hl
        refine lv_istore_n (lv' := [(3, .int (bI j9)), (0, .ref q), (1, .int (nI a)), (2, .int (nI m9)), (4, .int (nI d))]) hx hb dX4_can_46 rfl hl (by decide) rfl (fun ls hl => ?_)
        refine lv_iinc (v := nI (d + 1)) (lv' := [(4, .int (nI (d + 1))), (3, .int (bI j9)), (0, .ref q), (1, .int (nI a)), (2, .int (nI m9))]) hx hb dX4_can_47 hl (k := 4) rfl (z_inc d 1) (by decide) rfl (fun ls hl => ?_)
        refine lv_goto (tgt := 5) hx hb dX4_can_50 (by decide) ?_
        exact ih5 (dc 0 - (d + 1)) (by omega) (d + 1) j9 rfl (by omega) (by exact hj9) ls (lv_sub hl [2, 3, 4, 1, 0] rfl)
      refine lv_iload_n hx hb dX4_can_16 rfl (lv_at hl 3 rfl) ?_
      refine zb_eq (tgt := 45) hC dX4_can_17 (by decide) (fun c17 => ?_) (fun c17 => ?_)
      · skip
        refine lv_iconst (v := nI 0) hx hb dX4_can_45 (by decide) ?_
        exact hJ46 false trivial (by exact all_f1 (P := (fun d => nd (6 * a + d) ≤ nw (W9 d) - m9 * ar (W9 d))) hb9 c17) ls (lv_sub hl [0, 1, 2, 4] rfl)
      · skip
        refine lv_aload_n hx hb dX4_can_20 rfl (lv_at hl 0 rfl) ?_
        refine lv_aload_n hx hb dX4_can_21 rfl (lv_at hl 0 rfl) ?_
        refine lv_iload hx hb dX4_can_22 (lv_at hl 4 rfl) ?_
        refine zRV (As := [.int (nI d)]) (b := q) (rest := [.ref q]) hC (c_X4_with (l := l) (hlb := hlb) (w9 := W9 d) (hw := by have := (hW d (by omega)).1; omega) (hj := (hW d (by omega)).2.1) (hm := (hW d (by omega)).2.2)) lM_X4_109 vM_X4_with (by decide) hK hP [0, 2] rfl ⟨rfl, rfl, rfl⟩ rfl hl.1 rfl (Nat.le_of_ble_eq_true rfl) dX4_can_24 (by decide) ?_
        show W _ _ _ _ _ _ _ _ _ _ _ _ _ _ _ (F0 m 27 ls [.int (nI (W9 d)), .ref q])
        refine lv_iload_n hx hb dX4_can_27 rfl (lv_at hl 2 rfl) ?_
        refine zRV (As := [.int (nI (W9 d)), .int (nI m9)]) (b := q) (rest := []) hC (c_X4_levelIn (l := l) (hlv := hlv) (har := har) (hd := by have := (hW d (by omega)).1; omega) (hm := hm)) lM_X4_113 vM_X4_levelIn (by decide) hK hP [0, 2, 3] rfl ⟨rfl, rfl, rfl⟩ rfl hl.1 rfl (Nat.le_of_ble_eq_true rfl) dX4_can_28 (by decide) ?_
        show W _ _ _ _ _ _ _ _ _ _ _ _ _ _ _ (F0 m 31 ls [.int (nI (nw (W9 d) - m9 * ar (W9 d)))])
        refine lv_aload_n hx hb dX4_can_31 rfl (lv_at hl 0 rfl) ?_
        refine lv_iload_n hx hb dX4_can_32 rfl (lv_at hl 1 rfl) ?_
        refine lv_iload hx hb dX4_can_33 (lv_at hl 4 rfl) ?_
        refine zRV (As := [.int (nI a), .int (nI d)]) (b := q) (rest := [.int (nI (nw (W9 d) - m9 * ar (W9 d)))]) hC (c_X4_needOf (l := l) (ha := ha) (hd := by omega)) lM_X4_116 vM_X4_needOf (by decide) hK hP [0, 4] rfl ⟨rfl, rfl, rfl⟩ rfl hl.1 rfl (Nat.le_of_ble_eq_true rfl) dX4_can_35 (by decide) ?_
        show W _ _ _ _ _ _ _ _ _ _ _ _ _ _ _ (F0 m 38 ls [.int (nI (nd (6 * a + d))), .int (nI (nw (W9 d) - m9 * ar (W9 d)))])
        have b38 := hlv (W9 d) (by have := (hW d (by omega)).1; omega)
        have b39 := hnd (6 * a + d)
        refine zc_lt (tgt := 45) hC dX4_can_38 (by decide) (by omega) (by omega) (fun c38 => ?_) (fun c38 => ?_)
        · skip
          refine lv_iconst (v := nI 0) hx hb dX4_can_45 (by decide) ?_
          exact hJ46 false trivial (by exact all_f2 (P := (fun d => nd (6 * a + d) ≤ nw (W9 d) - m9 * ar (W9 d))) (Nat.not_le.mpr c38)) ls (lv_sub hl [0, 1, 2, 4] rfl)
        · skip
          refine lv_iconst (v := nI 1) hx hb dX4_can_41 (by decide) ?_
          refine lv_goto (tgt := 46) hx hb dX4_can_42 (by decide) ?_
          exact hJ46 true trivial (by exact all_t (P := (fun d => nd (6 * a + d) ≤ nw (W9 d) - m9 * ar (W9 d))) hb9 c17 c38) ls (lv_sub hl [0, 1, 2, 4] rfl)
  exact hL5 _ 0 true rfl (by omega) (by exact all_0) ls (lv_sub hl [2, 3, 4, 1, 0] rfl)
set_option maxHeartbeats 1000000 in
set_option maxRecDepth 100000 in
theorem c_X4_span {l : Launch} {D : va_G} {cI cZ cB cR : ClassId} {q xtx ty xdc xdl xdb xar xac xwm xnd at9 sta sor val xnw xkp xta xtw td xhg : Nat} {tr : Int64} {fau : Int32} {nw ar : Nat → Nat} {d : Nat} (hlv : ∀ j, j < 6 → nw j ≤ 40) (har : ∀ i, i < 6 → ar i ≤ 5) (hd : d < 6) : mR l yX4_span cX4_span 2 (some .int) 0 0 D cI cZ cB cR [oM q tr xtx ty xdc xdl xdb xar xac xwm xnd at9 sta sor val fau xnw xkp xta xtw td xhg, aI cI xnw 729 nw, aI cI xar 12 ar] [.ref q, .int (nI d)] (some (.int (spanF (nw d) (ar d)))) := by
  refine mR_of rfl (Nat.le_of_ble_eq_true rfl) ?_
  intro p e s m args below meth c hC hr hlk hK hP ls hl
  have hl : lv_has ls 2 [(0, .ref q), (1, .int (nI d))] := hl
  obtain ⟨hx, hb, hml, hown, hts⟩ := id hC
  refine lv_aload_n hx hb dX4_span_0 rfl (lv_at hl 0 rfl) ?_
  refine z_get (k := 15) zcX4 hC hK hP 0 rfl (by decide) lF_X4_35 rfl dX4_span_1 ?_
  refine lv_iload_n hx hb dX4_span_4 rfl (lv_at hl 1 rfl) ?_
  refine z_ald hC hK hP 1 rfl (by omega) (by decide) dX4_span_5 ?_
  have b6 := hlv d hd
  refine z0_ne (tgt := 11) hC dX4_span_6 (by decide) (by omega) (fun c6 => ?_) (fun c6 => ?_)
  · skip
    refine lv_aload_n hx hb dX4_span_11 rfl (lv_at hl 0 rfl) ?_
    refine z_get (k := 6) zcX4 hC hK hP 0 rfl (by decide) lF_X4_23 rfl dX4_span_12 ?_
    refine lv_iload_n hx hb dX4_span_15 rfl (lv_at hl 1 rfl) ?_
    refine z_ald hC hK hP 2 rfl (by omega) (by decide) dX4_span_16 ?_
    have b17 := har d hd
    refine z0_ne (tgt := 25) hC dX4_span_17 (by decide) (by omega) (fun c17 => ?_) (fun c17 => ?_)
    · skip
      refine lv_aload_n hx hb dX4_span_25 rfl (lv_at hl 0 rfl) ?_
      refine z_get (k := 15) zcX4 hC hK hP 0 rfl (by decide) lF_X4_35 rfl dX4_span_26 ?_
      refine lv_iload_n hx hb dX4_span_29 rfl (lv_at hl 1 rfl) ?_
      refine z_ald hC hK hP 1 rfl (by omega) (by decide) dX4_span_30 ?_
      refine lv_aload_n hx hb dX4_span_31 rfl (lv_at hl 0 rfl) ?_
      refine z_get (k := 6) zcX4 hC hK hP 0 rfl (by decide) lF_X4_23 rfl dX4_span_32 ?_
      refine lv_iload_n hx hb dX4_span_35 rfl (lv_at hl 1 rfl) ?_
      refine z_ald hC hK hP 2 rfl (by omega) (by decide) dX4_span_36 ?_
      refine zi_add hC dX4_span_37 ?_
      refine lv_iconst (v := nI 1) hx hb dX4_span_38 (by decide) ?_
      refine zi_sub hC dX4_span_39 (by omega) ?_
      refine lv_aload_n hx hb dX4_span_40 rfl (lv_at hl 0 rfl) ?_
      refine z_get (k := 6) zcX4 hC hK hP 0 rfl (by decide) lF_X4_23 rfl dX4_span_41 ?_
      refine lv_iload_n hx hb dX4_span_44 rfl (lv_at hl 1 rfl) ?_
      refine z_ald hC hK hP 2 rfl (by omega) (by decide) dX4_span_45 ?_
      refine zi_div hC dX4_span_46 (by omega) (by omega) (by omega) ?_
      exact zr_i hC hr hlk (by unfold spanF; rw [if_neg (by omega), if_neg (by omega)]) dX4_span_47
    · skip
      refine lv_bipush (v := (-9)) hx hb dX4_span_20 (by decide) ?_
      refine lv_goto (tgt := 47) hx hb dX4_span_22 (by decide) ?_
      exact zr_i hC hr hlk (by unfold spanF; rw [if_neg (by omega), if_pos c17]) dX4_span_47
  · skip
    refine lv_iconst (v := nI 0) hx hb dX4_span_9 (by decide) ?_
    exact zr_i hC hr hlk (by unfold spanF; rw [if_pos c6]; rfl) dX4_span_10
set_option maxHeartbeats 1000000 in
set_option maxRecDepth 100000 in
theorem c_X4_lastOf {l : Launch} {D : va_G} {cI cZ cB cR : ClassId} {q xtx ty xdc xdl xdb xar xac xwm xnd at9 sta sor val xnw xkp xta xtw td xhg : Nat} {tr : Int64} {fau : Int32} {dc nw ar nd : Nat → Nat} {W9 : Nat → Nat} {a : Nat} {C9 : Nat → Bool} (hn : dc 0 ≤ 6) (hlv : ∀ j, j < 6 → nw j ≤ 40) (hlb : ∀ j, j < 6 → nw (12 + j) < 6) (har : ∀ i, i < 6 → ar i ≤ 5) (hnd : ∀ i, nd i ≤ 9) (hW : ∀ j, j < dc 0 → W9 j < dc 0 ∧ nw (12 + W9 j) = j ∧ ∀ i, i < W9 j → nw (12 + i) ≠ j) (ha : a < 5) (hC9 : ∀ m9, m9 ≤ 60 → (C9 m9 = true ↔ ∀ d, d < dc 0 → nd (6 * a + d) ≤ nw (W9 d) - m9 * ar (W9 d))) (hdn : nw 19 < 32)  : mR l yX4_lastOf cX4_lastOf 3 (some .int) 2 47 D cI cZ cB cR [oM q tr xtx ty xdc xdl xdb xar xac xwm xnd at9 sta sor val fau xnw xkp xta xtw td xhg, aI cI xdc 2 dc, aI cI xnw 729 nw, aI cI xar 12 ar, aI cI xnd 60 nd] [.ref q, .int (nI a)] (some (.int (if Nat.testBit (nw 19) a || !C9 0 then -9 else nI (lsc C9 60 0)))) := by
  refine mR_of rfl (Nat.le_of_ble_eq_true rfl) ?_
  intro p e s m args below meth c hC hr hlk hK hP ls hl
  have hl : lv_has ls 3 [(0, .ref q), (1, .int (nI a))] := hl
  obtain ⟨hx, hb, hml, hown, hts⟩ := id hC
  refine lv_aload_n hx hb dX4_lastOf_0 rfl (lv_at hl 0 rfl) ?_
  refine lv_iload_n hx hb dX4_lastOf_1 rfl (lv_at hl 1 rfl) ?_
  refine zRV (As := [.int (nI a)]) (b := q) (rest := []) hC (c_X4_isDone (l := l) (a := a) (ha := by omega) (hdn := hdn)) lM_X4_119 vM_X4_isDone (by decide) hK hP [0, 2] rfl ⟨rfl, rfl, rfl⟩ rfl hl.1 rfl (Nat.le_of_ble_eq_true rfl) dX4_lastOf_2 (by decide) ?_
  show W _ _ _ _ _ _ _ _ _ _ _ _ _ _ _ (F0 m 5 ls [.int (bI (Nat.testBit (nw 19) a))])
  refine zb_ne (tgt := 17) hC dX4_lastOf_5 (by decide) (fun c5 => ?_) (fun c5 => ?_)
  · skip
    refine lv_bipush (v := (-9)) hx hb dX4_lastOf_17 (by decide) ?_
    exact zr_i hC hr hlk (by rw [c5]; rfl) dX4_lastOf_19
  · skip
    refine lv_aload_n hx hb dX4_lastOf_8 rfl (lv_at hl 0 rfl) ?_
    refine lv_iload_n hx hb dX4_lastOf_9 rfl (lv_at hl 1 rfl) ?_
    refine lv_iconst (v := nI 0) hx hb dX4_lastOf_10 (by decide) ?_
    refine zRV (As := [.int (nI a), .int (nI 0)]) (b := q) (rest := []) hC (c_X4_can (l := l) (W9 := W9) (g := C9 0) (hn := hn) (hlv := hlv) (hlb := hlb) (har := har) (hnd := hnd) (hW := hW) (ha := ha) (hm := by omega) (hg := hC9 0 (by omega))) lM_X4_122 vM_X4_can (by decide) hK hP [0, 1, 2, 3, 4] rfl ⟨rfl, rfl, rfl⟩ rfl hl.1 rfl (Nat.le_of_ble_eq_true rfl) dX4_lastOf_11 (by decide) ?_
    show W _ _ _ _ _ _ _ _ _ _ _ _ _ _ _ (F0 m 14 ls [.int (bI (C9 0))])
    refine zb_ne (tgt := 20) hC dX4_lastOf_14 (by decide) (fun c14 => ?_) (fun c14 => ?_)
    · skip
      refine lv_iconst (v := nI 0) hx hb dX4_lastOf_20 (by decide) ?_
      refine lv_istore_n (lv' := [(2, .int (nI 0)), (0, .ref q), (1, .int (nI a))]) hx hb dX4_lastOf_21 rfl hl (by decide) rfl (fun ls hl => ?_)
      have hL22 : ∀ (z22 : Nat) (n9 : Nat), 60 - n9 = z22 → (n9 ≤ 60) → (lsc C9 (60 - n9) n9 = lsc C9 60 0) → ∀ ls : Array Slot, lv_has ls 3 [(0, .ref q), (1, .int (nI a)), (2, .int (nI n9))] → W p l e { frames := 2, cells := 0, slots := 0, locals := 47 } s m args below meth c s.heap [] 0 0 (MQ below (qR (some (.int (if Nat.testBit (nw 19) a || !C9 0 then -9 else nI (lsc C9 60 0))))) args s 0 0 (fun _ => False)) (F0 m 22 ls []) := by
        intro z22
        induction z22 using Nat.strongRecOn with
        | _ z22 ih22 =>
        intro n9 hz22 hn9 hq9 ls hl
        refine lv_iload_n hx hb dX4_lastOf_22 rfl (lv_at hl 2 rfl) ?_
        refine lv_bipush (v := nI 60) hx hb dX4_lastOf_23 (by decide) ?_
        refine zc_ge (tgt := 45) hC dX4_lastOf_25 (by decide) (by omega) (by omega) (fun c25 => ?_) (fun c25 => ?_)
        · skip
          refine lv_iload_n hx hb dX4_lastOf_45 rfl (lv_at hl 2 rfl) ?_
          exact zr_i hC hr hlk (by rw [if_neg (by rw [c5, c14]; decide), ← hq9, show 60 - n9 = 0 by omega]; rfl) dX4_lastOf_46
        · skip
          refine lv_aload_n hx hb dX4_lastOf_28 rfl (lv_at hl 0 rfl) ?_
          refine lv_iload_n hx hb dX4_lastOf_29 rfl (lv_at hl 1 rfl) ?_
          refine lv_iload_n hx hb dX4_lastOf_30 rfl (lv_at hl 2 rfl) ?_
          refine lv_iconst (v := nI 1) hx hb dX4_lastOf_31 (by decide) ?_
          refine zi_add hC dX4_lastOf_32 ?_
          refine zRV (As := [.int (nI a), .int (nI (n9 + 1))]) (b := q) (rest := []) hC (c_X4_can (l := l) (W9 := W9) (g := C9 (n9 + 1)) (hn := hn) (hlv := hlv) (hlb := hlb) (har := har) (hnd := hnd) (hW := hW) (ha := ha) (hm := by omega) (hg := hC9 (n9 + 1) (by omega))) lM_X4_122 vM_X4_can (by decide) hK hP [0, 1, 2, 3, 4] rfl ⟨rfl, rfl, rfl⟩ rfl hl.1 rfl (Nat.le_of_ble_eq_true rfl) dX4_lastOf_33 (by decide) ?_
          show W _ _ _ _ _ _ _ _ _ _ _ _ _ _ _ (F0 m 36 ls [.int (bI (C9 (n9 + 1)))])
          refine zb_eq (tgt := 45) hC dX4_lastOf_36 (by decide) (fun c36 => ?_) (fun c36 => ?_)
          · skip
            refine lv_iload_n hx hb dX4_lastOf_45 rfl (lv_at hl 2 rfl) ?_
            exact zr_i hC hr hlk (by rw [if_neg (by rw [c5, c14]; decide), ← hq9, show 60 - n9 = (60 - (n9 + 1)) + 1 by omega, lsc_s, if_neg (by rw [c36]; decide)]) dX4_lastOf_46
          · skip
            refine lv_iinc (v := nI (n9 + 1)) (lv' := [(2, .int (nI (n9 + 1))), (0, .ref q), (1, .int (nI a))]) hx hb dX4_lastOf_39 hl (k := 2) rfl (z_inc n9 1) (by decide) rfl (fun ls hl => ?_)
            refine lv_goto (tgt := 22) hx hb dX4_lastOf_42 (by decide) ?_
            exact ih22 (60 - (n9 + 1)) (by omega) (n9 + 1) rfl (by omega) (by rw [← hq9, show 60 - n9 = (60 - (n9 + 1)) + 1 by omega, lsc_s, if_pos c36]) ls (lv_sub hl [1, 2, 0] rfl)
      exact hL22 _ 0 rfl (by omega) (by rfl) ls (lv_sub hl [1, 2, 0] rfl)
    · skip
      refine lv_bipush (v := (-9)) hx hb dX4_lastOf_17 (by decide) ?_
      exact zr_i hC hr hlk (by rw [c14]; exact (if_pos (by simp)).symm) dX4_lastOf_19
set_option maxHeartbeats 1000000 in
set_option maxRecDepth 100000 in
theorem c_X4_qualities {l : Launch} {D : va_G} {cI cZ cB cR : ClassId} {q xtx ty xdc xdl xdb xar xac xwm xnd at9 sta sor val xnw xkp xta xtw td xhg : Nat} {tr : Int64} {fau : Int32} {dc nd : Nat → Nat} {a : Nat} (hn : dc 0 ≤ 6) (hnd : ∀ i, nd i ≤ 9) (ha : a < 5) : mR l yX4_qualities cX4_qualities 4 (some .int) 1 22 D cI cZ cB cR [oM q tr xtx ty xdc xdl xdb xar xac xwm xnd at9 sta sor val fau xnw xkp xta xtw td xhg, aI cI xdc 2 dc, aI cI xnd 60 nd] [.ref q, .int (nI a)] (some (.int (nI (orr (fun i => decide (0 < nd (6 * a + i))) (dc 0))))) := by
  refine mR_of rfl (Nat.le_of_ble_eq_true rfl) ?_
  intro p e s m args below meth c hC hr hlk hK hP ls hl
  have hl : lv_has ls 4 [(0, .ref q), (1, .int (nI a))] := hl
  obtain ⟨hx, hb, hml, hown, hts⟩ := id hC
  refine lv_iconst (v := nI 0) hx hb dX4_qualities_0 (by decide) ?_
  refine lv_istore_n (lv' := [(2, .int (nI 0)), (0, .ref q), (1, .int (nI a))]) hx hb dX4_qualities_1 rfl hl (by decide) rfl (fun ls hl => ?_)
  refine lv_iconst (v := nI 0) hx hb dX4_qualities_2 (by decide) ?_
  refine lv_istore_n (lv' := [(3, .int (nI 0)), (2, .int (nI 0)), (0, .ref q), (1, .int (nI a))]) hx hb dX4_qualities_3 rfl hl (by decide) rfl (fun ls hl => ?_)
  have hL4 : ∀ (z4 : Nat) (d : Nat) (x : Nat), dc 0 - d = z4 → (d ≤ dc 0) → (x = orr (fun i => decide (0 < nd (6 * a + i))) d) → ∀ ls : Array Slot, lv_has ls 4 [(0, .ref q), (1, .int (nI a)), (2, .int (nI x)), (3, .int (nI d))] → W p l e { frames := 1, cells := 0, slots := 0, locals := 22 } s m args below meth c s.heap [] 0 0 (MQ below (qR (some (.int (nI (orr (fun i => decide (0 < nd (6 * a + i))) (dc 0)))))) args s 0 0 (fun _ => False)) (F0 m 4 ls []) := by
    intro z4
    induction z4 using Nat.strongRecOn with
    | _ z4 ih4 =>
    intro d x hz4 hd hx9 ls hl
    refine lv_iload_n hx hb dX4_qualities_4 rfl (lv_at hl 3 rfl) ?_
    refine lv_aload_n hx hb dX4_qualities_5 rfl (lv_at hl 0 rfl) ?_
    refine z_get (k := 3) zcX4 hC hK hP 0 rfl (by decide) lF_X4_13 rfl dX4_qualities_6 ?_
    refine lv_iconst (v := nI 0) hx hb dX4_qualities_9 (by decide) ?_
    refine z_ald hC hK hP 1 rfl (by omega) (by decide) dX4_qualities_10 ?_
    refine zc_ge (tgt := 39) hC dX4_qualities_11 (by decide) (by omega) (by omega) (fun c11 => ?_) (fun c11 => ?_)
    · skip
      refine lv_iload_n hx hb dX4_qualities_39 rfl (lv_at hl 2 rfl) ?_
      exact zr_i hC hr hlk (by rw [hx9, show d = dc 0 by omega]) dX4_qualities_40
    · skip
      refine lv_iload_n hx hb dX4_qualities_14 rfl (lv_at hl 2 rfl) ?_
      refine lv_aload_n hx hb dX4_qualities_15 rfl (lv_at hl 0 rfl) ?_
      refine lv_iload_n hx hb dX4_qualities_16 rfl (lv_at hl 1 rfl) ?_
      refine lv_iload_n hx hb dX4_qualities_17 rfl (lv_at hl 3 rfl) ?_
      refine zRV (As := [.int (nI a), .int (nI d)]) (b := q) (rest := [.int (nI x)]) hC (c_X4_needOf (l := l) (ha := ha) (hd := by omega)) lM_X4_116 vM_X4_needOf (by decide) hK hP [0, 2] rfl ⟨rfl, rfl, rfl⟩ rfl hl.1 rfl (Nat.le_of_ble_eq_true rfl) dX4_qualities_18 (by decide) ?_
      show W _ _ _ _ _ _ _ _ _ _ _ _ _ _ _ (F0 m 21 ls [.int (nI (nd (6 * a + d))), .int (nI x)])
      have b21 := hnd (6 * a + d)
      refine z0_le (tgt := 30) hC dX4_qualities_21 (by decide) (by omega) (fun c21 => ?_) (fun c21 => ?_)
      · skip
        refine lv_iconst (v := nI 0) hx hb dX4_qualities_30 (by decide) ?_
        refine zi_or hC dX4_qualities_31 ?_
        refine lv_istore_n (lv' := [(2, .int (nI (x ||| 0))), (0, .ref q), (1, .int (nI a)), (3, .int (nI d))]) hx hb dX4_qualities_32 rfl hl (by decide) rfl (fun ls hl => ?_)
        refine lv_iinc (v := nI (d + 1)) (lv' := [(3, .int (nI (d + 1))), (2, .int (nI (x ||| 0))), (0, .ref q), (1, .int (nI a))]) hx hb dX4_qualities_33 hl (k := 3) rfl (z_inc d 1) (by decide) rfl (fun ls hl => ?_)
        refine lv_goto (tgt := 4) hx hb dX4_qualities_36 (by decide) ?_
        exact ih4 (dc 0 - (d + 1)) (by omega) (d + 1) (x ||| 0) rfl (by omega) (by rw [hx9, orr_s, Nat.or_zero]; exact (if_neg (by rw [c21]; decide)).symm) ls (lv_sub hl [2, 3, 1, 0] rfl)
      · skip
        refine lv_iconst (v := nI 1) hx hb dX4_qualities_24 (by decide) ?_
        refine lv_iload_n hx hb dX4_qualities_25 rfl (lv_at hl 3 rfl) ?_
        refine zi_shl1 hC dX4_qualities_26 (by omega) ?_
        refine lv_goto (tgt := 31) hx hb dX4_qualities_27 (by decide) ?_
        refine zi_or hC dX4_qualities_31 ?_
        refine lv_istore_n (lv' := [(2, .int (nI (x ||| (2 ^ d)))), (0, .ref q), (1, .int (nI a)), (3, .int (nI d))]) hx hb dX4_qualities_32 rfl hl (by decide) rfl (fun ls hl => ?_)
        refine lv_iinc (v := nI (d + 1)) (lv' := [(3, .int (nI (d + 1))), (2, .int (nI (x ||| (2 ^ d)))), (0, .ref q), (1, .int (nI a))]) hx hb dX4_qualities_33 hl (k := 3) rfl (z_inc d 1) (by decide) rfl (fun ls hl => ?_)
        refine lv_goto (tgt := 4) hx hb dX4_qualities_36 (by decide) ?_
        exact ih4 (dc 0 - (d + 1)) (by omega) (d + 1) (x ||| (2 ^ d)) rfl (by omega) (by rw [hx9, orr_s]; exact (if_pos (decide_eq_true c21)).symm) ls (lv_sub hl [2, 3, 1, 0] rfl)
  exact hL4 _ 0 0 rfl (by omega) (by rfl) ls (lv_sub hl [2, 3, 1, 0] rfl)
set_option maxHeartbeats 1000000 in
set_option maxRecDepth 100000 in
theorem c_X4_manyOf {l : Launch} {D : va_G} {cI cZ cB cR : ClassId} {s9 : Nat} (hs : s9 < 64) : mR l yX4_manyOf cX4_manyOf 3 (some .int) 0 0 D cI cZ cB cR [] [.int (nI s9)] (some (.int (nI (popc s9)))) := by
  refine mR_of rfl (Nat.le_of_ble_eq_true rfl) ?_
  intro p e s m args below meth c hC hr hlk hK hP ls hl
  have hl : lv_has ls 3 [(0, .int (nI s9))] := hl
  obtain ⟨hx, hb, hml, hown, hts⟩ := id hC
  refine lv_iconst (v := nI 0) hx hb dX4_manyOf_0 (by decide) ?_
  refine lv_istore_n (lv' := [(1, .int (nI 0)), (0, .int (nI s9))]) hx hb dX4_manyOf_1 rfl hl (by decide) rfl (fun ls hl => ?_)
  refine lv_iconst (v := nI 0) hx hb dX4_manyOf_2 (by decide) ?_
  refine lv_istore_n (lv' := [(2, .int (nI 0)), (1, .int (nI 0)), (0, .int (nI s9))]) hx hb dX4_manyOf_3 rfl hl (by decide) rfl (fun ls hl => ?_)
  have hL4 : ∀ (z4 : Nat) (d : Nat) (x : Nat), 6 - d = z4 → (d ≤ 6) → (x = sm (fun i => (s9.testBit i).toNat) d) → ∀ ls : Array Slot, lv_has ls 3 [(0, .int (nI s9)), (1, .int (nI x)), (2, .int (nI d))] → W p l e { frames := 0, cells := 0, slots := 0, locals := 0 } s m args below meth c s.heap [] 0 0 (MQ below (qR (some (.int (nI (popc s9))))) args s 0 0 (fun _ => False)) (F0 m 4 ls []) := by
    intro z4
    induction z4 using Nat.strongRecOn with
    | _ z4 ih4 =>
    intro d x hz4 hd hx9 ls hl
    refine lv_iload_n hx hb dX4_manyOf_4 rfl (lv_at hl 2 rfl) ?_
    refine lv_bipush (v := nI 6) hx hb dX4_manyOf_5 (by decide) ?_
    refine zc_ge (tgt := 24) hC dX4_manyOf_7 (by decide) (by omega) (by omega) (fun c7 => ?_) (fun c7 => ?_)
    · skip
      refine lv_iload_n hx hb dX4_manyOf_24 rfl (lv_at hl 1 rfl) ?_
      exact zr_i hC hr hlk (by rw [hx9, show d = 6 by omega]; rfl) dX4_manyOf_25
    · skip
      refine lv_iload_n hx hb dX4_manyOf_10 rfl (lv_at hl 1 rfl) ?_
      refine lv_iload_n hx hb dX4_manyOf_11 rfl (lv_at hl 0 rfl) ?_
      refine lv_iload_n hx hb dX4_manyOf_12 rfl (lv_at hl 2 rfl) ?_
      refine zi_shr hC dX4_manyOf_13 (by omega) (by omega) ?_
      refine lv_iconst (v := nI 1) hx hb dX4_manyOf_14 (by decide) ?_
      refine zi_and hC dX4_manyOf_15 ?_
      refine z_top (show (nI ((s9 / 2 ^ d) &&& 1)) = nI ((s9.testBit d).toNat) from by exact z_bit s9 d) ?_
      refine zi_add hC dX4_manyOf_16 ?_
      refine lv_istore_n (lv' := [(1, .int (nI (x + ((s9.testBit d).toNat)))), (0, .int (nI s9)), (2, .int (nI d))]) hx hb dX4_manyOf_17 rfl hl (by decide) rfl (fun ls hl => ?_)
      refine lv_iinc (v := nI (d + 1)) (lv' := [(2, .int (nI (d + 1))), (1, .int (nI (x + ((s9.testBit d).toNat)))), (0, .int (nI s9))]) hx hb dX4_manyOf_18 hl (k := 2) rfl (z_inc d 1) (by decide) rfl (fun ls hl => ?_)
      refine lv_goto (tgt := 4) hx hb dX4_manyOf_21 (by decide) ?_
      exact ih4 (6 - (d + 1)) (by omega) (d + 1) (x + ((s9.testBit d).toNat)) rfl (by omega) (by rw [hx9, sm_s]) ls (lv_sub hl [2, 1, 0] rfl)
  exact hL4 _ 0 0 rfl (by omega) (by rfl) ls (lv_sub hl [2, 1, 0] rfl)
