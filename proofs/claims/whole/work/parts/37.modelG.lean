/-- the pairs behind an act's worth -/
def raL (by_ : Nat → Nat) (len n off : Nat) : Nat → Mp → (Nat → Nat) → Mp × (Nat → Nat)
  | 0, u, nd => (u, nd)
  | k + 1, u, nd => if u.2.2.1 = 1 ∧ u.2.2.2.2 = -9 then raL by_ len n off k (numF by_ len (nI 9) (numF by_ len (nI n - nI 1) u)) (if (numF by_ len (nI 9) (numF by_ len (nI n - nI 1) u)).2.2.2.2 = -9 then updN nd (off + u.2.2.2.1) (numF by_ len (nI n - nI 1) u).2.2.2.1 else nd) else (u, nd)
theorem raL_0 {by_ : Nat → Nat} {len n off k : Nat} {u : Mp} {nd : Nat → Nat} (h : k = 0) : raL by_ len n off k u nd = (u, nd) := by
  rw [h]; rfl
theorem raL_n {by_ : Nat → Nat} {len n off k : Nat} {u : Mp} {nd : Nat → Nat} (h : ¬ (u.2.2.1 = 1 ∧ u.2.2.2.2 = -9)) : raL by_ len n off k u nd = (u, nd) := by
  cases k with
  | zero => rfl
  | succ k => exact if_neg h
theorem raL_s {by_ : Nat → Nat} {len n off k : Nat} {u : Mp} {nd : Nat → Nat} (hk : 0 < k) (h : u.2.2.1 = 1 ∧ u.2.2.2.2 = -9) : raL by_ len n off k u nd = raL by_ len n off (k - 1) (numF by_ len (nI 9) (numF by_ len (nI n - nI 1) u)) (if (numF by_ len (nI 9) (numF by_ len (nI n - nI 1) u)).2.2.2.2 = -9 then updN nd (off + u.2.2.2.1) (numF by_ len (nI n - nI 1) u).2.2.2.1 else nd) := by
  obtain ⟨j, rfl⟩ : ∃ j, k = j + 1 := ⟨k - 1, by omega⟩
  exact if_pos h
/-- the second of an exchange may be taken -/
def exO (n : Nat) (u v : Mp) : Bool := decide (v.2.2.1 = 1 ∧ v.2.2.2.1 < n ∧ v.2.2.2.1 ≠ u.2.2.2.1)
/-- levels and labels of the draft into the present -/
def tdN (base dl db : Nat → Nat) : Nat → Nat → Nat
  | 0 => base
  | d + 1 => updN (updN (tdN base dl db d) d (dl d)) (12 + d) (db d)
theorem tdN_s (base dl db : Nat → Nat) (d : Nat) : tdN base dl db (d + 1) = updN (updN (tdN base dl db d) d (dl d)) (12 + d) (db d) := rfl
set_option maxHeartbeats 1000000 in
set_option maxRecDepth 100000 in
theorem c_X4_readAct {l : Launch} {D : va_G} {cI cZ cB cR : ClassId} {q xtx ty xdc xdl xdb xar xac xwm xnd xnw xkp xta xtw td xhg : Nat} {tr : Int64} {u : Mp} {dc acn wm nd : Nat → Nat} {tx : Nat → Int32} {by_ : Nat → Nat}  (hlen : ty ≤ 150) (htx : ∀ i, i < ty → tx i &&& nI 255 = nI (by_ i)) (hby : ∀ i, by_ i < 256) (hu : wfP ty u) (hn1 : dc 1 ≤ 6) (ha1 : acn 1 < 5) : mW l yX4_readAct cX4_readAct 5 none 4 87 D cI cZ cB cR [oM q tr xtx ty xdc xdl xdb xar xac xwm xnd u.1 u.2.1 u.2.2.1 u.2.2.2.1 u.2.2.2.2 xnw xkp xta xtw td xhg, aB cB xtx 150 tx, aI cI xdc 2 dc, aI cI xac 2 acn, aI cI xwm 10 wm, aI cI xnd 60 nd] [oM q tr xtx ty xdc xdl xdb xar xac xwm xnd (((raL by_ ty (dc 1) (6 * (5 + acn 1)) 6 (numF by_ ty (nI 99) u) (blk nd (6 * (5 + acn 1)) 6 (fun _ => 0))).1).1) (((raL by_ ty (dc 1) (6 * (5 + acn 1)) 6 (numF by_ ty (nI 99) u) (blk nd (6 * (5 + acn 1)) 6 (fun _ => 0))).1).2.1) (((raL by_ ty (dc 1) (6 * (5 + acn 1)) 6 (numF by_ ty (nI 99) u) (blk nd (6 * (5 + acn 1)) 6 (fun _ => 0))).1).2.2.1) (((raL by_ ty (dc 1) (6 * (5 + acn 1)) 6 (numF by_ ty (nI 99) u) (blk nd (6 * (5 + acn 1)) 6 (fun _ => 0))).1).2.2.2.1) (((raL by_ ty (dc 1) (6 * (5 + acn 1)) 6 (numF by_ ty (nI 99) u) (blk nd (6 * (5 + acn 1)) 6 (fun _ => 0))).1).2.2.2.2) xnw xkp xta xtw td xhg, aB cB xtx 150 tx, aI cI xdc 2 dc, aI cI xac 2 (updN acn 1 (acn 1 + 1)), aI cI xwm 10 (updN wm (5 + acn 1) u.2.2.2.1), aI cI xnd 60 ((raL by_ ty (dc 1) (6 * (5 + acn 1)) 6 (numF by_ ty (nI 99) u) (blk nd (6 * (5 + acn 1)) 6 (fun _ => 0))).2)] [.ref q] (none) := by
  refine mW_of rfl (Nat.le_of_ble_eq_true rfl) ?_
  intro p e s m args below meth c hC hr hlk hK A hA hD H0 h0 hP hS ls hl
  have hP : va_P D vwCl [oM q tr xtx ty xdc xdl xdb xar xac xwm xnd u.1 u.2.1 u.2.2.1 u.2.2.2.1 u.2.2.2.2 xnw xkp xta xtw td xhg, aB cB xtx 150 tx, aI cI xdc 2 dc, aI cI xac 2 acn, aI cI xwm 10 wm, aI cI xnd 60 nd] H0 := hP
  have hl : lv_has ls 5 [(0, .ref q)] := hl
  obtain ⟨hx, hb, hml, hown, hts⟩ := id hC
  refine lv_iconst (v := nI 5) hx hb dX4_readAct_0 (by decide) ?_
  refine lv_aload_n hx hb dX4_readAct_1 rfl (lv_at hl 0 rfl) ?_
  refine z_get (k := 7) zcX4 hC hK hP 0 rfl (by decide) lF_X4_26 rfl dX4_readAct_2 ?_
  refine lv_iconst (v := nI 1) hx hb dX4_readAct_5 (by decide) ?_
  refine z_ald hC hK hP 3 rfl (by omega) (by decide) dX4_readAct_6 ?_
  refine zi_add hC dX4_readAct_7 ?_
  refine lv_istore_n (lv' := [(1, .int (nI (5 + (acn 1)))), (0, .ref q)]) hx hb dX4_readAct_8 rfl hl (by decide) rfl (fun ls hl => ?_)
  refine lv_aload_n hx hb dX4_readAct_9 rfl (lv_at hl 1 rfl) ?_
  refine z_get (k := 8) zcX4 hC hK hP 0 rfl (by decide) lF_X4_29 rfl dX4_readAct_10 ?_
  refine lv_iload_n hx hb dX4_readAct_13 rfl (lv_at hl 0 rfl) ?_
  refine lv_aload_n hx hb dX4_readAct_14 rfl (lv_at hl 1 rfl) ?_
  refine lv_iconst (v := nI 0) hx hb dX4_readAct_15 (by decide) ?_
  refine lv_bipush (v := nI 99) hx hb dX4_readAct_16 (by decide) ?_
  refine zXV (As := [.int (nI 0), .int (nI 99)]) (b := q) (rest := [.int (nI (5 + (acn 1))), .ref xwm]) hC (c_X4_number (l := l) (u := u) (hlen := hlen) (htx := htx) (hby := hby) (hu := hu)) lM_X4_91 vM_X4_number (by decide) hK hP hD hS [0, 1] [q, xtx] rfl (by decide) rfl rfl ⟨rfl, rfl, rfl⟩ rfl hl.1 rfl (Nat.le_of_ble_eq_true rfl) dX4_readAct_18 (by decide) (fun H locs hP hD hS => ?_)
  have hP : va_P D vwCl [oM q tr xtx ty xdc xdl xdb xar xac xwm xnd ((numF by_ ty (nI 99) u).1) ((numF by_ ty (nI 99) u).2.1) ((numF by_ ty (nI 99) u).2.2.1) ((numF by_ ty (nI 99) u).2.2.2.1) ((numF by_ ty (nI 99) u).2.2.2.2) xnw xkp xta xtw td xhg, aB cB xtx 150 tx, aI cI xdc 2 dc, aI cI xac 2 acn, aI cI xwm 10 wm, aI cI xnd 60 nd] H := hP
  have hD : va_D A [oM q tr xtx ty xdc xdl xdb xar xac xwm xnd ((numF by_ ty (nI 99) u).1) ((numF by_ ty (nI 99) u).2.1) ((numF by_ ty (nI 99) u).2.2.1) ((numF by_ ty (nI 99) u).2.2.2.1) ((numF by_ ty (nI 99) u).2.2.2.2) xnw xkp xta xtw td xhg, aB cB xtx 150 tx, aI cI xdc 2 dc, aI cI xac 2 acn, aI cI xwm 10 wm, aI cI xnd 60 nd] := hD
  show W _ _ _ _ _ _ _ _ _ _ _ _ _ _ _ (F0 m 21 ls [.int (nI u.2.2.2.1), .int (nI (5 + (acn 1))), .ref xwm])
  refine z_ast hC hK hP hD hS 4 rfl (by omega) (by decide) dX4_readAct_21 (fun H locs hP hD hS => ?_)
  have hP : va_P D vwCl [oM q tr xtx ty xdc xdl xdb xar xac xwm xnd ((numF by_ ty (nI 99) u).1) ((numF by_ ty (nI 99) u).2.1) ((numF by_ ty (nI 99) u).2.2.1) ((numF by_ ty (nI 99) u).2.2.2.1) ((numF by_ ty (nI 99) u).2.2.2.2) xnw xkp xta xtw td xhg, aB cB xtx 150 tx, aI cI xdc 2 dc, aI cI xac 2 acn, aI cI xwm 10 (updN wm (5 + (acn 1)) u.2.2.2.1), aI cI xnd 60 nd] H := hP
  have hD : va_D A [oM q tr xtx ty xdc xdl xdb xar xac xwm xnd ((numF by_ ty (nI 99) u).1) ((numF by_ ty (nI 99) u).2.1) ((numF by_ ty (nI 99) u).2.2.1) ((numF by_ ty (nI 99) u).2.2.2.1) ((numF by_ ty (nI 99) u).2.2.2.2) xnw xkp xta xtw td xhg, aB cB xtx 150 tx, aI cI xdc 2 dc, aI cI xac 2 acn, aI cI xwm 10 (updN wm (5 + (acn 1)) u.2.2.2.1), aI cI xnd 60 nd] := hD
  refine lv_iconst (v := nI 0) hx hb dX4_readAct_22 (by decide) ?_
  refine lv_istore_n (lv' := [(2, .int (nI 0)), (1, .int (nI (5 + (acn 1)))), (0, .ref q)]) hx hb dX4_readAct_23 rfl hl (by decide) rfl (fun ls hl => ?_)
  have hL24 : ∀ (z24 : Nat) (i9 : Nat) (n8 : Nat → Nat), 6 - i9 = z24 → (i9 ≤ 6) → (n8 = blk nd (6 * (5 + acn 1)) i9 (fun _ => 0)) → ∀ (H : Heap) (locs : List Loc), va_P D vwCl [oM q tr xtx ty xdc xdl xdb xar xac xwm xnd ((numF by_ ty (nI 99) u).1) ((numF by_ ty (nI 99) u).2.1) ((numF by_ ty (nI 99) u).2.2.1) ((numF by_ ty (nI 99) u).2.2.2.1) ((numF by_ ty (nI 99) u).2.2.2.2) xnw xkp xta xtw td xhg, aB cB xtx 150 tx, aI cI xdc 2 dc, aI cI xac 2 acn, aI cI xwm 10 (updN wm (5 + acn 1) u.2.2.2.1), aI cI xnd 60 n8] H → va_D A [oM q tr xtx ty xdc xdl xdb xar xac xwm xnd ((numF by_ ty (nI 99) u).1) ((numF by_ ty (nI 99) u).2.1) ((numF by_ ty (nI 99) u).2.2.1) ((numF by_ ty (nI 99) u).2.2.2.1) ((numF by_ ty (nI 99) u).2.2.2.2) xnw xkp xta xtw td xhg, aB cB xtx 150 tx, aI cI xdc 2 dc, aI cI xac 2 acn, aI cI xwm 10 (updN wm (5 + acn 1) u.2.2.2.1), aI cI xnd 60 n8] → va_S A H0 H locs → ∀ ls : Array Slot, lv_has ls 5 [(0, .ref q), (1, .int (nI (5 + (acn 1)))), (2, .int (nI i9))] → W p l e { frames := 4, cells := 0, slots := 0, locals := 87 } s m args below meth c H locs 0 0 (MQ below (qW D [oM q tr xtx ty xdc xdl xdb xar xac xwm xnd u.1 u.2.1 u.2.2.1 u.2.2.2.1 u.2.2.2.2 xnw xkp xta xtw td xhg, aB cB xtx 150 tx, aI cI xdc 2 dc, aI cI xac 2 acn, aI cI xwm 10 wm, aI cI xnd 60 nd] [oM q tr xtx ty xdc xdl xdb xar xac xwm xnd (((raL by_ ty (dc 1) (6 * (5 + acn 1)) 6 (numF by_ ty (nI 99) u) (blk nd (6 * (5 + acn 1)) 6 (fun _ => 0))).1).1) (((raL by_ ty (dc 1) (6 * (5 + acn 1)) 6 (numF by_ ty (nI 99) u) (blk nd (6 * (5 + acn 1)) 6 (fun _ => 0))).1).2.1) (((raL by_ ty (dc 1) (6 * (5 + acn 1)) 6 (numF by_ ty (nI 99) u) (blk nd (6 * (5 + acn 1)) 6 (fun _ => 0))).1).2.2.1) (((raL by_ ty (dc 1) (6 * (5 + acn 1)) 6 (numF by_ ty (nI 99) u) (blk nd (6 * (5 + acn 1)) 6 (fun _ => 0))).1).2.2.2.1) (((raL by_ ty (dc 1) (6 * (5 + acn 1)) 6 (numF by_ ty (nI 99) u) (blk nd (6 * (5 + acn 1)) 6 (fun _ => 0))).1).2.2.2.2) xnw xkp xta xtw td xhg, aB cB xtx 150 tx, aI cI xdc 2 dc, aI cI xac 2 (updN acn 1 (acn 1 + 1)), aI cI xwm 10 (updN wm (5 + acn 1) u.2.2.2.1), aI cI xnd 60 ((raL by_ ty (dc 1) (6 * (5 + acn 1)) 6 (numF by_ ty (nI 99) u) (blk nd (6 * (5 + acn 1)) 6 (fun _ => 0))).2)] (none)) args s 0 0 (zA [oM q tr xtx ty xdc xdl xdb xar xac xwm xnd u.1 u.2.1 u.2.2.1 u.2.2.2.1 u.2.2.2.2 xnw xkp xta xtw td xhg, aB cB xtx 150 tx, aI cI xdc 2 dc, aI cI xac 2 acn, aI cI xwm 10 wm, aI cI xnd 60 nd])) (F0 m 24 ls []) := by
    intro z24
    induction z24 using Nat.strongRecOn with
    | _ z24 ih24 =>
    intro i9 n8 hz24 hi hn8 H locs hP hD hS ls hl
    refine lv_iload_n hx hb dX4_readAct_24 rfl (lv_at hl 2 rfl) ?_
    refine lv_bipush (v := nI 6) hx hb dX4_readAct_25 (by decide) ?_
    refine zc_ge (tgt := 48) hC dX4_readAct_27 (by decide) (by omega) (by omega) (fun c27 => ?_) (fun c27 => ?_)
    · skip
      refine lv_iconst (v := nI 0) hx hb dX4_readAct_48 (by decide) ?_
      refine lv_istore_n (lv' := [(2, .int (nI 0)), (0, .ref q), (1, .int (nI (5 + (acn 1))))]) hx hb dX4_readAct_49 rfl hl (by decide) rfl (fun ls hl => ?_)
      have hL50 : ∀ (z50 : Nat) (j9 : Nat) (u9 : Mp) (n9 : Nat → Nat), 6 - j9 = z50 → (j9 ≤ 6) → (wfP ty u9) → (raL by_ ty (dc 1) (6 * (5 + acn 1)) (6 - j9) u9 n9 = raL by_ ty (dc 1) (6 * (5 + acn 1)) 6 (numF by_ ty (nI 99) u) (blk nd (6 * (5 + acn 1)) 6 (fun _ => 0))) → ∀ (H : Heap) (locs : List Loc), va_P D vwCl [oM q tr xtx ty xdc xdl xdb xar xac xwm xnd u9.1 u9.2.1 u9.2.2.1 u9.2.2.2.1 u9.2.2.2.2 xnw xkp xta xtw td xhg, aB cB xtx 150 tx, aI cI xdc 2 dc, aI cI xac 2 acn, aI cI xwm 10 (updN wm (5 + acn 1) u.2.2.2.1), aI cI xnd 60 n9] H → va_D A [oM q tr xtx ty xdc xdl xdb xar xac xwm xnd u9.1 u9.2.1 u9.2.2.1 u9.2.2.2.1 u9.2.2.2.2 xnw xkp xta xtw td xhg, aB cB xtx 150 tx, aI cI xdc 2 dc, aI cI xac 2 acn, aI cI xwm 10 (updN wm (5 + acn 1) u.2.2.2.1), aI cI xnd 60 n9] → va_S A H0 H locs → ∀ ls : Array Slot, lv_has ls 5 [(0, .ref q), (1, .int (nI (5 + (acn 1)))), (2, .int (nI j9))] → W p l e { frames := 4, cells := 0, slots := 0, locals := 87 } s m args below meth c H locs 0 0 (MQ below (qW D [oM q tr xtx ty xdc xdl xdb xar xac xwm xnd u.1 u.2.1 u.2.2.1 u.2.2.2.1 u.2.2.2.2 xnw xkp xta xtw td xhg, aB cB xtx 150 tx, aI cI xdc 2 dc, aI cI xac 2 acn, aI cI xwm 10 wm, aI cI xnd 60 nd] [oM q tr xtx ty xdc xdl xdb xar xac xwm xnd (((raL by_ ty (dc 1) (6 * (5 + acn 1)) 6 (numF by_ ty (nI 99) u) (blk nd (6 * (5 + acn 1)) 6 (fun _ => 0))).1).1) (((raL by_ ty (dc 1) (6 * (5 + acn 1)) 6 (numF by_ ty (nI 99) u) (blk nd (6 * (5 + acn 1)) 6 (fun _ => 0))).1).2.1) (((raL by_ ty (dc 1) (6 * (5 + acn 1)) 6 (numF by_ ty (nI 99) u) (blk nd (6 * (5 + acn 1)) 6 (fun _ => 0))).1).2.2.1) (((raL by_ ty (dc 1) (6 * (5 + acn 1)) 6 (numF by_ ty (nI 99) u) (blk nd (6 * (5 + acn 1)) 6 (fun _ => 0))).1).2.2.2.1) (((raL by_ ty (dc 1) (6 * (5 + acn 1)) 6 (numF by_ ty (nI 99) u) (blk nd (6 * (5 + acn 1)) 6 (fun _ => 0))).1).2.2.2.2) xnw xkp xta xtw td xhg, aB cB xtx 150 tx, aI cI xdc 2 dc, aI cI xac 2 (updN acn 1 (acn 1 + 1)), aI cI xwm 10 (updN wm (5 + acn 1) u.2.2.2.1), aI cI xnd 60 ((raL by_ ty (dc 1) (6 * (5 + acn 1)) 6 (numF by_ ty (nI 99) u) (blk nd (6 * (5 + acn 1)) 6 (fun _ => 0))).2)] (none)) args s 0 0 (zA [oM q tr xtx ty xdc xdl xdb xar xac xwm xnd u.1 u.2.1 u.2.2.1 u.2.2.2.1 u.2.2.2.2 xnw xkp xta xtw td xhg, aB cB xtx 150 tx, aI cI xdc 2 dc, aI cI xac 2 acn, aI cI xwm 10 wm, aI cI xnd 60 nd])) (F0 m 50 ls []) := by
        intro z50
        induction z50 using Nat.strongRecOn with
        | _ z50 ih50 =>
        intro j9 u9 n9 hz50 hj hu9 hq9 H locs hP hD hS ls hl
        refine lv_iload_n hx hb dX4_readAct_50 rfl (lv_at hl 2 rfl) ?_
        refine lv_bipush (v := nI 6) hx hb dX4_readAct_51 (by decide) ?_
        refine zc_ge (tgt := 124) hC dX4_readAct_53 (by decide) (by omega) (by omega) (fun c53 => ?_) (fun c53 => ?_)
        · skip
          refine lv_aload_n hx hb dX4_readAct_124 rfl (lv_at hl 0 rfl) ?_
          refine z_get (k := 7) zcX4 hC hK hP 0 rfl (by decide) lF_X4_26 rfl dX4_readAct_125 ?_
          refine lv_iconst (v := nI 1) hx hb dX4_readAct_128 (by decide) ?_
          refine lv_dup2_11 hx hb dX4_readAct_129 rfl rfl ?_
          refine z_ald hC hK hP 3 rfl (by omega) (by decide) dX4_readAct_130 ?_
          refine lv_iconst (v := nI 1) hx hb dX4_readAct_131 (by decide) ?_
          refine zi_add hC dX4_readAct_132 ?_
          refine z_ast hC hK hP hD hS 3 rfl (by omega) (by decide) dX4_readAct_133 (fun H locs hP hD hS => ?_)
          have hP : va_P D vwCl [oM q tr xtx ty xdc xdl xdb xar xac xwm xnd u9.1 u9.2.1 u9.2.2.1 u9.2.2.2.1 u9.2.2.2.2 xnw xkp xta xtw td xhg, aB cB xtx 150 tx, aI cI xdc 2 dc, aI cI xac 2 (updN acn 1 ((acn 1) + 1)), aI cI xwm 10 (updN wm (5 + acn 1) u.2.2.2.1), aI cI xnd 60 n9] H := hP
          have hD : va_D A [oM q tr xtx ty xdc xdl xdb xar xac xwm xnd u9.1 u9.2.1 u9.2.2.1 u9.2.2.2.1 u9.2.2.2.2 xnw xkp xta xtw td xhg, aB cB xtx 150 tx, aI cI xdc 2 dc, aI cI xac 2 (updN acn 1 ((acn 1) + 1)), aI cI xwm 10 (updN wm (5 + acn 1) u.2.2.2.1), aI cI xnd 60 n9] := hD
          exact zw_v hC hr hlk hA h0 (by rw [show raL by_ ty (dc 1) (6 * (5 + acn 1)) 6 (numF by_ ty (nI 99) u) (blk nd (6 * (5 + acn 1)) 6 (fun _ => 0)) = (u9, n9) from hq9.symm.trans (raL_0 (by omega))]; exact hP) hS dX4_readAct_134
        · skip
          refine lv_aload_n hx hb dX4_readAct_56 rfl (lv_at hl 0 rfl) ?_
          refine z_get (k := 12) zcX4 hC hK hP 0 rfl (by decide) lF_X4_78 rfl dX4_readAct_57 ?_
          have b60 := hu9.2.2.1
          have b61 := hu9.2.2.2
          refine lv_iconst (v := nI 1) hx hb dX4_readAct_60 (by decide) ?_
          refine zc_ne (tgt := 124) hC dX4_readAct_61 (by decide) (by omega) (by omega) (fun c61 => ?_) (fun c61 => ?_)
          · skip
            refine lv_aload_n hx hb dX4_readAct_124 rfl (lv_at hl 0 rfl) ?_
            refine z_get (k := 7) zcX4 hC hK hP 0 rfl (by decide) lF_X4_26 rfl dX4_readAct_125 ?_
            refine lv_iconst (v := nI 1) hx hb dX4_readAct_128 (by decide) ?_
            refine lv_dup2_11 hx hb dX4_readAct_129 rfl rfl ?_
            refine z_ald hC hK hP 3 rfl (by omega) (by decide) dX4_readAct_130 ?_
            refine lv_iconst (v := nI 1) hx hb dX4_readAct_131 (by decide) ?_
            refine zi_add hC dX4_readAct_132 ?_
            refine z_ast hC hK hP hD hS 3 rfl (by omega) (by decide) dX4_readAct_133 (fun H locs hP hD hS => ?_)
            have hP : va_P D vwCl [oM q tr xtx ty xdc xdl xdb xar xac xwm xnd u9.1 u9.2.1 u9.2.2.1 u9.2.2.2.1 u9.2.2.2.2 xnw xkp xta xtw td xhg, aB cB xtx 150 tx, aI cI xdc 2 dc, aI cI xac 2 (updN acn 1 ((acn 1) + 1)), aI cI xwm 10 (updN wm (5 + acn 1) u.2.2.2.1), aI cI xnd 60 n9] H := hP
            have hD : va_D A [oM q tr xtx ty xdc xdl xdb xar xac xwm xnd u9.1 u9.2.1 u9.2.2.1 u9.2.2.2.1 u9.2.2.2.2 xnw xkp xta xtw td xhg, aB cB xtx 150 tx, aI cI xdc 2 dc, aI cI xac 2 (updN acn 1 ((acn 1) + 1)), aI cI xwm 10 (updN wm (5 + acn 1) u.2.2.2.1), aI cI xnd 60 n9] := hD
            exact zw_v hC hr hlk hA h0 (by rw [show raL by_ ty (dc 1) (6 * (5 + acn 1)) 6 (numF by_ ty (nI 99) u) (blk nd (6 * (5 + acn 1)) 6 (fun _ => 0)) = (u9, n9) from hq9.symm.trans (raL_n (fun h => c61 h.1))]; exact hP) hS dX4_readAct_134
          · skip
            refine lv_aload_n hx hb dX4_readAct_64 rfl (lv_at hl 0 rfl) ?_
            refine z_get (k := 14) zcX4 hC hK hP 0 rfl (by decide) lF_X4_81 rfl dX4_readAct_65 ?_
            refine lv_bipush (v := (-9)) hx hb dX4_readAct_68 (by decide) ?_
            refine lv_icmp_ne (tgt := 124) hx hb dX4_readAct_70 (by decide) (fun c70 => ?_) (fun c70 => ?_)
            · skip
              refine lv_aload_n hx hb dX4_readAct_124 rfl (lv_at hl 0 rfl) ?_
              refine z_get (k := 7) zcX4 hC hK hP 0 rfl (by decide) lF_X4_26 rfl dX4_readAct_125 ?_
              refine lv_iconst (v := nI 1) hx hb dX4_readAct_128 (by decide) ?_
              refine lv_dup2_11 hx hb dX4_readAct_129 rfl rfl ?_
              refine z_ald hC hK hP 3 rfl (by omega) (by decide) dX4_readAct_130 ?_
              refine lv_iconst (v := nI 1) hx hb dX4_readAct_131 (by decide) ?_
              refine zi_add hC dX4_readAct_132 ?_
              refine z_ast hC hK hP hD hS 3 rfl (by omega) (by decide) dX4_readAct_133 (fun H locs hP hD hS => ?_)
              have hP : va_P D vwCl [oM q tr xtx ty xdc xdl xdb xar xac xwm xnd u9.1 u9.2.1 u9.2.2.1 u9.2.2.2.1 u9.2.2.2.2 xnw xkp xta xtw td xhg, aB cB xtx 150 tx, aI cI xdc 2 dc, aI cI xac 2 (updN acn 1 ((acn 1) + 1)), aI cI xwm 10 (updN wm (5 + acn 1) u.2.2.2.1), aI cI xnd 60 n9] H := hP
              have hD : va_D A [oM q tr xtx ty xdc xdl xdb xar xac xwm xnd u9.1 u9.2.1 u9.2.2.1 u9.2.2.2.1 u9.2.2.2.2 xnw xkp xta xtw td xhg, aB cB xtx 150 tx, aI cI xdc 2 dc, aI cI xac 2 (updN acn 1 ((acn 1) + 1)), aI cI xwm 10 (updN wm (5 + acn 1) u.2.2.2.1), aI cI xnd 60 n9] := hD
              exact zw_v hC hr hlk hA h0 (by rw [show raL by_ ty (dc 1) (6 * (5 + acn 1)) 6 (numF by_ ty (nI 99) u) (blk nd (6 * (5 + acn 1)) 6 (fun _ => 0)) = (u9, n9) from hq9.symm.trans (raL_n (fun h => c70 h.2))]; exact hP) hS dX4_readAct_134
            · skip
              refine lv_aload_n hx hb dX4_readAct_73 rfl (lv_at hl 0 rfl) ?_
              refine lv_iconst (v := nI 0) hx hb dX4_readAct_74 (by decide) ?_
              refine lv_aload_n hx hb dX4_readAct_75 rfl (lv_at hl 0 rfl) ?_
              refine z_get (k := 3) zcX4 hC hK hP 0 rfl (by decide) lF_X4_13 rfl dX4_readAct_76 ?_
              refine lv_iconst (v := nI 1) hx hb dX4_readAct_79 (by decide) ?_
              refine z_ald hC hK hP 2 rfl (by omega) (by decide) dX4_readAct_80 ?_
              refine lv_iconst (v := nI 1) hx hb dX4_readAct_81 (by decide) ?_
              refine lv_isub hx hb dX4_readAct_82 ?_
              refine zXV (As := [.int (nI 0), .int ((nI (dc 1)) - (nI 1))]) (b := q) (rest := []) hC (c_X4_number (l := l) (u := u9) (hlen := hlen) (htx := htx) (hby := hby) (hu := hu9)) lM_X4_91 vM_X4_number (by decide) hK hP hD hS [0, 1] [q, xtx] rfl (by decide) rfl rfl ⟨rfl, rfl, rfl⟩ rfl hl.1 rfl (Nat.le_of_ble_eq_true rfl) dX4_readAct_83 (by decide) (fun H locs hP hD hS => ?_)
              have hP : va_P D vwCl [oM q tr xtx ty xdc xdl xdb xar xac xwm xnd ((numF by_ ty (nI (dc 1) - nI 1) u9).1) ((numF by_ ty (nI (dc 1) - nI 1) u9).2.1) ((numF by_ ty (nI (dc 1) - nI 1) u9).2.2.1) ((numF by_ ty (nI (dc 1) - nI 1) u9).2.2.2.1) ((numF by_ ty (nI (dc 1) - nI 1) u9).2.2.2.2) xnw xkp xta xtw td xhg, aB cB xtx 150 tx, aI cI xdc 2 dc, aI cI xac 2 acn, aI cI xwm 10 (updN wm (5 + acn 1) u.2.2.2.1), aI cI xnd 60 n9] H := hP
              have hD : va_D A [oM q tr xtx ty xdc xdl xdb xar xac xwm xnd ((numF by_ ty (nI (dc 1) - nI 1) u9).1) ((numF by_ ty (nI (dc 1) - nI 1) u9).2.1) ((numF by_ ty (nI (dc 1) - nI 1) u9).2.2.1) ((numF by_ ty (nI (dc 1) - nI 1) u9).2.2.2.1) ((numF by_ ty (nI (dc 1) - nI 1) u9).2.2.2.2) xnw xkp xta xtw td xhg, aB cB xtx 150 tx, aI cI xdc 2 dc, aI cI xac 2 acn, aI cI xwm 10 (updN wm (5 + acn 1) u.2.2.2.1), aI cI xnd 60 n9] := hD
              show W _ _ _ _ _ _ _ _ _ _ _ _ _ _ _ (F0 m 86 ls [.int (nI u9.2.2.2.1)])
              refine lv_istore_n (lv' := [(3, .int (nI u9.2.2.2.1)), (0, .ref q), (1, .int (nI (5 + (acn 1)))), (2, .int (nI j9))]) hx hb dX4_readAct_86 rfl hl (by decide) rfl (fun ls hl => ?_)
              refine lv_aload_n hx hb dX4_readAct_87 rfl (lv_at hl 1 rfl) ?_
              refine lv_iconst (v := nI 0) hx hb dX4_readAct_88 (by decide) ?_
              refine lv_bipush (v := nI 9) hx hb dX4_readAct_89 (by decide) ?_
              refine zXV (As := [.int (nI 0), .int (nI 9)]) (b := q) (rest := []) hC (c_X4_number (l := l) (u := numF by_ ty (nI (dc 1) - nI 1) u9) (hlen := hlen) (htx := htx) (hby := hby) (hu := numF_wf hu9)) lM_X4_91 vM_X4_number (by decide) hK hP hD hS [0, 1] [q, xtx] rfl (by decide) rfl rfl ⟨rfl, rfl, rfl⟩ rfl hl.1 rfl (Nat.le_of_ble_eq_true rfl) dX4_readAct_91 (by decide) (fun H locs hP hD hS => ?_)
              have hP : va_P D vwCl [oM q tr xtx ty xdc xdl xdb xar xac xwm xnd ((numF by_ ty (nI 9) (numF by_ ty (nI (dc 1) - nI 1) u9)).1) ((numF by_ ty (nI 9) (numF by_ ty (nI (dc 1) - nI 1) u9)).2.1) ((numF by_ ty (nI 9) (numF by_ ty (nI (dc 1) - nI 1) u9)).2.2.1) ((numF by_ ty (nI 9) (numF by_ ty (nI (dc 1) - nI 1) u9)).2.2.2.1) ((numF by_ ty (nI 9) (numF by_ ty (nI (dc 1) - nI 1) u9)).2.2.2.2) xnw xkp xta xtw td xhg, aB cB xtx 150 tx, aI cI xdc 2 dc, aI cI xac 2 acn, aI cI xwm 10 (updN wm (5 + acn 1) u.2.2.2.1), aI cI xnd 60 n9] H := hP
              have hD : va_D A [oM q tr xtx ty xdc xdl xdb xar xac xwm xnd ((numF by_ ty (nI 9) (numF by_ ty (nI (dc 1) - nI 1) u9)).1) ((numF by_ ty (nI 9) (numF by_ ty (nI (dc 1) - nI 1) u9)).2.1) ((numF by_ ty (nI 9) (numF by_ ty (nI (dc 1) - nI 1) u9)).2.2.1) ((numF by_ ty (nI 9) (numF by_ ty (nI (dc 1) - nI 1) u9)).2.2.2.1) ((numF by_ ty (nI 9) (numF by_ ty (nI (dc 1) - nI 1) u9)).2.2.2.2) xnw xkp xta xtw td xhg, aB cB xtx 150 tx, aI cI xdc 2 dc, aI cI xac 2 acn, aI cI xwm 10 (updN wm (5 + acn 1) u.2.2.2.1), aI cI xnd 60 n9] := hD
              show W _ _ _ _ _ _ _ _ _ _ _ _ _ _ _ (F0 m 94 ls [.int (nI ((numF by_ ty (nI (dc 1) - nI 1) u9).2.2.2.1))])
              refine lv_istore (lv' := [(4, .int (nI ((numF by_ ty (nI (dc 1) - nI 1) u9).2.2.2.1))), (3, .int (nI u9.2.2.2.1)), (0, .ref q), (1, .int (nI (5 + (acn 1)))), (2, .int (nI j9))]) hx hb dX4_readAct_94 hl (by decide) rfl (fun ls hl => ?_)
              refine lv_aload_n hx hb dX4_readAct_96 rfl (lv_at hl 2 rfl) ?_
              refine z_get (k := 14) zcX4 hC hK hP 0 rfl (by decide) lF_X4_81 rfl dX4_readAct_97 ?_
              refine lv_bipush (v := (-9)) hx hb dX4_readAct_100 (by decide) ?_
              refine lv_icmp_ne (tgt := 118) hx hb dX4_readAct_102 (by decide) (fun c102 => ?_) (fun c102 => ?_)
              · skip
                refine lv_iinc (v := nI (j9 + 1)) (lv' := [(2, .int (nI (j9 + 1))), (4, .int (nI ((numF by_ ty (nI (dc 1) - nI 1) u9).2.2.2.1))), (3, .int (nI u9.2.2.2.1)), (0, .ref q), (1, .int (nI (5 + (acn 1))))]) hx hb dX4_readAct_118 hl (k := 4) rfl (z_inc j9 1) (by decide) rfl (fun ls hl => ?_)
                refine lv_goto (tgt := 50) hx hb dX4_readAct_121 (by decide) ?_
                exact ih50 (6 - (j9 + 1)) (by omega) (j9 + 1) (numF by_ ty (nI 9) (numF by_ ty (nI (dc 1) - nI 1) u9)) n9 rfl (by omega) (by exact numF_wf (numF_wf hu9)) (by rw [← hq9, raL_s (k := 6 - j9) (by omega) ⟨c61, c70⟩, show 6 - (j9 + 1) = 6 - j9 - 1 by omega]; rw [if_neg c102]) _ _ hP hD hS ls (lv_sub hl [3, 4, 0] rfl)
              · skip
                have b102 := numF_ok hlen (numF_wf hu9) c102
                have b103 := numF_ok hlen hu9 b102.2.2
                have b104 := le_pred (by omega) hn1 b103.2.1
                refine lv_aload_n hx hb dX4_readAct_105 rfl (lv_at hl 2 rfl) ?_
                refine z_get (k := 9) zcX4 hC hK hP 0 rfl (by decide) lF_X4_32 rfl dX4_readAct_106 ?_
                refine lv_bipush (v := nI 6) hx hb dX4_readAct_109 (by decide) ?_
                refine lv_iload_n hx hb dX4_readAct_111 rfl (lv_at hl 3 rfl) ?_
                refine zi_mul hC dX4_readAct_112 ?_
                refine lv_iload_n hx hb dX4_readAct_113 rfl (lv_at hl 1 rfl) ?_
                refine zi_add hC dX4_readAct_114 ?_
                refine lv_iload hx hb dX4_readAct_115 (lv_at hl 0 rfl) ?_
                refine z_ast hC hK hP hD hS 5 rfl (by omega) (by decide) dX4_readAct_117 (fun H locs hP hD hS => ?_)
                have hP : va_P D vwCl [oM q tr xtx ty xdc xdl xdb xar xac xwm xnd ((numF by_ ty (nI 9) (numF by_ ty (nI (dc 1) - nI 1) u9)).1) ((numF by_ ty (nI 9) (numF by_ ty (nI (dc 1) - nI 1) u9)).2.1) ((numF by_ ty (nI 9) (numF by_ ty (nI (dc 1) - nI 1) u9)).2.2.1) ((numF by_ ty (nI 9) (numF by_ ty (nI (dc 1) - nI 1) u9)).2.2.2.1) ((numF by_ ty (nI 9) (numF by_ ty (nI (dc 1) - nI 1) u9)).2.2.2.2) xnw xkp xta xtw td xhg, aB cB xtx 150 tx, aI cI xdc 2 dc, aI cI xac 2 acn, aI cI xwm 10 (updN wm (5 + acn 1) u.2.2.2.1), aI cI xnd 60 (updN n9 ((6 * (5 + (acn 1))) + u9.2.2.2.1) ((numF by_ ty (nI (dc 1) - nI 1) u9).2.2.2.1))] H := hP
                have hD : va_D A [oM q tr xtx ty xdc xdl xdb xar xac xwm xnd ((numF by_ ty (nI 9) (numF by_ ty (nI (dc 1) - nI 1) u9)).1) ((numF by_ ty (nI 9) (numF by_ ty (nI (dc 1) - nI 1) u9)).2.1) ((numF by_ ty (nI 9) (numF by_ ty (nI (dc 1) - nI 1) u9)).2.2.1) ((numF by_ ty (nI 9) (numF by_ ty (nI (dc 1) - nI 1) u9)).2.2.2.1) ((numF by_ ty (nI 9) (numF by_ ty (nI (dc 1) - nI 1) u9)).2.2.2.2) xnw xkp xta xtw td xhg, aB cB xtx 150 tx, aI cI xdc 2 dc, aI cI xac 2 acn, aI cI xwm 10 (updN wm (5 + acn 1) u.2.2.2.1), aI cI xnd 60 (updN n9 ((6 * (5 + (acn 1))) + u9.2.2.2.1) ((numF by_ ty (nI (dc 1) - nI 1) u9).2.2.2.1))] := hD
                refine lv_iinc (v := nI (j9 + 1)) (lv' := [(2, .int (nI (j9 + 1))), (4, .int (nI ((numF by_ ty (nI (dc 1) - nI 1) u9).2.2.2.1))), (3, .int (nI u9.2.2.2.1)), (0, .ref q), (1, .int (nI (5 + (acn 1))))]) hx hb dX4_readAct_118 hl (k := 4) rfl (z_inc j9 1) (by decide) rfl (fun ls hl => ?_)
                refine lv_goto (tgt := 50) hx hb dX4_readAct_121 (by decide) ?_
                exact ih50 (6 - (j9 + 1)) (by omega) (j9 + 1) (numF by_ ty (nI 9) (numF by_ ty (nI (dc 1) - nI 1) u9)) (updN n9 ((6 * (5 + (acn 1))) + u9.2.2.2.1) ((numF by_ ty (nI (dc 1) - nI 1) u9).2.2.2.1)) rfl (by omega) (by exact numF_wf (numF_wf hu9)) (by rw [← hq9, raL_s (k := 6 - j9) (by omega) ⟨c61, c70⟩, show 6 - (j9 + 1) = 6 - j9 - 1 by omega]; rw [if_pos c102]) _ _ hP hD hS ls (lv_sub hl [3, 4, 0] rfl)
      exact hL50 _ 0 (numF by_ ty (nI 99) u) n8 rfl (by omega) (by exact numF_wf hu) (by rw [hn8, show i9 = 6 by omega]) _ _ hP hD hS ls (lv_sub hl [1, 2, 0] rfl)
    · skip
      refine lv_aload_n hx hb dX4_readAct_30 rfl (lv_at hl 0 rfl) ?_
      refine z_get (k := 9) zcX4 hC hK hP 0 rfl (by decide) lF_X4_32 rfl dX4_readAct_31 ?_
      refine lv_bipush (v := nI 6) hx hb dX4_readAct_34 (by decide) ?_
      refine lv_iload_n hx hb dX4_readAct_36 rfl (lv_at hl 1 rfl) ?_
      refine zi_mul hC dX4_readAct_37 ?_
      refine lv_iload_n hx hb dX4_readAct_38 rfl (lv_at hl 2 rfl) ?_
      refine zi_add hC dX4_readAct_39 ?_
      refine lv_iconst (v := nI 0) hx hb dX4_readAct_40 (by decide) ?_
      refine z_ast hC hK hP hD hS 5 rfl (by omega) (by decide) dX4_readAct_41 (fun H locs hP hD hS => ?_)
      have hP : va_P D vwCl [oM q tr xtx ty xdc xdl xdb xar xac xwm xnd ((numF by_ ty (nI 99) u).1) ((numF by_ ty (nI 99) u).2.1) ((numF by_ ty (nI 99) u).2.2.1) ((numF by_ ty (nI 99) u).2.2.2.1) ((numF by_ ty (nI 99) u).2.2.2.2) xnw xkp xta xtw td xhg, aB cB xtx 150 tx, aI cI xdc 2 dc, aI cI xac 2 acn, aI cI xwm 10 (updN wm (5 + acn 1) u.2.2.2.1), aI cI xnd 60 (updN n8 ((6 * (5 + (acn 1))) + i9) 0)] H := hP
      have hD : va_D A [oM q tr xtx ty xdc xdl xdb xar xac xwm xnd ((numF by_ ty (nI 99) u).1) ((numF by_ ty (nI 99) u).2.1) ((numF by_ ty (nI 99) u).2.2.1) ((numF by_ ty (nI 99) u).2.2.2.1) ((numF by_ ty (nI 99) u).2.2.2.2) xnw xkp xta xtw td xhg, aB cB xtx 150 tx, aI cI xdc 2 dc, aI cI xac 2 acn, aI cI xwm 10 (updN wm (5 + acn 1) u.2.2.2.1), aI cI xnd 60 (updN n8 ((6 * (5 + (acn 1))) + i9) 0)] := hD
      refine lv_iinc (v := nI (i9 + 1)) (lv' := [(2, .int (nI (i9 + 1))), (0, .ref q), (1, .int (nI (5 + (acn 1))))]) hx hb dX4_readAct_42 hl (k := 2) rfl (z_inc i9 1) (by decide) rfl (fun ls hl => ?_)
      refine lv_goto (tgt := 24) hx hb dX4_readAct_45 (by decide) ?_
      exact ih24 (6 - (i9 + 1)) (by omega) (i9 + 1) (updN n8 ((6 * (5 + (acn 1))) + i9) 0) rfl (by omega) (by rw [hn8, ← blk_s]) _ _ hP hD hS ls (lv_sub hl [1, 2, 0] rfl)
  exact hL24 _ 0 nd rfl (by omega) (by exact (blk_0 _ _ _).symm) _ _ hP hD hS ls (lv_sub hl [2, 1, 0] rfl)
set_option maxHeartbeats 1000000 in
set_option maxRecDepth 100000 in
theorem c_X4_readRow_a {l : Launch} {D : va_G} {cI cZ cB cR : ClassId} {q xtx ty xdc xdl xdb xar xac xwm xnd xnw xkp xta xtw td xhg : Nat} {tr : Int64} {u : Mp} {dc acn wm nd : Nat → Nat} {tx : Nat → Int32} {by_ : Nat → Nat}  (hlen : ty ≤ 150) (htx : ∀ i, i < ty → tx i &&& nI 255 = nI (by_ i)) (hby : ∀ i, by_ i < 256) (hu : wfP ty u) (hn1 : dc 1 ≤ 6) (ha1 : acn 1 < 5) : mW l yX4_readRow cX4_readRow 5 none 5 111 D cI cZ cB cR [oM q tr xtx ty xdc xdl xdb xar xac xwm xnd u.1 u.2.1 u.2.2.1 u.2.2.2.1 u.2.2.2.2 xnw xkp xta xtw td xhg, aB cB xtx 150 tx, aI cI xdc 2 dc, aI cI xac 2 acn, aI cI xwm 10 wm, aI cI xnd 60 nd] [oM q tr xtx ty xdc xdl xdb xar xac xwm xnd (((raL by_ ty (dc 1) (6 * (5 + acn 1)) 6 (numF by_ ty (nI 99) u) (blk nd (6 * (5 + acn 1)) 6 (fun _ => 0))).1).1) (((raL by_ ty (dc 1) (6 * (5 + acn 1)) 6 (numF by_ ty (nI 99) u) (blk nd (6 * (5 + acn 1)) 6 (fun _ => 0))).1).2.1) (((raL by_ ty (dc 1) (6 * (5 + acn 1)) 6 (numF by_ ty (nI 99) u) (blk nd (6 * (5 + acn 1)) 6 (fun _ => 0))).1).2.2.1) (((raL by_ ty (dc 1) (6 * (5 + acn 1)) 6 (numF by_ ty (nI 99) u) (blk nd (6 * (5 + acn 1)) 6 (fun _ => 0))).1).2.2.2.1) (((raL by_ ty (dc 1) (6 * (5 + acn 1)) 6 (numF by_ ty (nI 99) u) (blk nd (6 * (5 + acn 1)) 6 (fun _ => 0))).1).2.2.2.2) xnw xkp xta xtw td xhg, aB cB xtx 150 tx, aI cI xdc 2 dc, aI cI xac 2 (updN acn 1 (acn 1 + 1)), aI cI xwm 10 (updN wm (5 + acn 1) u.2.2.2.1), aI cI xnd 60 ((raL by_ ty (dc 1) (6 * (5 + acn 1)) 6 (numF by_ ty (nI 99) u) (blk nd (6 * (5 + acn 1)) 6 (fun _ => 0))).2)] [.ref q, .int (nI 97)] (none) := by
  refine mW_of rfl (Nat.le_of_ble_eq_true rfl) ?_
  intro p e s m args below meth c hC hr hlk hK A hA hD H0 h0 hP hS ls hl
  have hP : va_P D vwCl [oM q tr xtx ty xdc xdl xdb xar xac xwm xnd u.1 u.2.1 u.2.2.1 u.2.2.2.1 u.2.2.2.2 xnw xkp xta xtw td xhg, aB cB xtx 150 tx, aI cI xdc 2 dc, aI cI xac 2 acn, aI cI xwm 10 wm, aI cI xnd 60 nd] H0 := hP
  have hl : lv_has ls 5 [(0, .ref q), (1, .int (nI 97))] := hl
  obtain ⟨hx, hb, hml, hown, hts⟩ := id hC
  refine lv_iload_n hx hb dX4_readRow_0 rfl (lv_at hl 1 rfl) ?_
  refine lv_lookup (off := 95) (tgt := 96) hx hb dX4_readRow_1 (by decide) (by decide) (by decide) ?_
  refine lv_aload_n hx hb dX4_readRow_96 rfl (lv_at hl 0 rfl) ?_
  refine zXV (As := []) (b := q) (rest := []) hC (c_X4_readAct (l := l) (u := u) (hlen := hlen) (htx := htx) (hby := hby) (hu := hu) (hn1 := hn1) (ha1 := ha1)) lM_X4_95 vM_X4_readAct (by decide) hK hP hD hS [0, 1, 2, 3, 4, 5] [q, xtx, xdc, xac, xwm, xnd] rfl (by decide) rfl rfl ⟨rfl, rfl, rfl⟩ rfl hl.1 rfl (Nat.le_of_ble_eq_true rfl) dX4_readRow_97 (by decide) (fun H locs hP hD hS => ?_)
  have hP : va_P D vwCl [oM q tr xtx ty xdc xdl xdb xar xac xwm xnd (((raL by_ ty (dc 1) (6 * (5 + acn 1)) 6 (numF by_ ty (nI 99) u) (blk nd (6 * (5 + acn 1)) 6 (fun _ => 0))).1).1) (((raL by_ ty (dc 1) (6 * (5 + acn 1)) 6 (numF by_ ty (nI 99) u) (blk nd (6 * (5 + acn 1)) 6 (fun _ => 0))).1).2.1) (((raL by_ ty (dc 1) (6 * (5 + acn 1)) 6 (numF by_ ty (nI 99) u) (blk nd (6 * (5 + acn 1)) 6 (fun _ => 0))).1).2.2.1) (((raL by_ ty (dc 1) (6 * (5 + acn 1)) 6 (numF by_ ty (nI 99) u) (blk nd (6 * (5 + acn 1)) 6 (fun _ => 0))).1).2.2.2.1) (((raL by_ ty (dc 1) (6 * (5 + acn 1)) 6 (numF by_ ty (nI 99) u) (blk nd (6 * (5 + acn 1)) 6 (fun _ => 0))).1).2.2.2.2) xnw xkp xta xtw td xhg, aB cB xtx 150 tx, aI cI xdc 2 dc, aI cI xac 2 (updN acn 1 (acn 1 + 1)), aI cI xwm 10 (updN wm (5 + acn 1) u.2.2.2.1), aI cI xnd 60 ((raL by_ ty (dc 1) (6 * (5 + acn 1)) 6 (numF by_ ty (nI 99) u) (blk nd (6 * (5 + acn 1)) 6 (fun _ => 0))).2)] H := hP
  have hD : va_D A [oM q tr xtx ty xdc xdl xdb xar xac xwm xnd (((raL by_ ty (dc 1) (6 * (5 + acn 1)) 6 (numF by_ ty (nI 99) u) (blk nd (6 * (5 + acn 1)) 6 (fun _ => 0))).1).1) (((raL by_ ty (dc 1) (6 * (5 + acn 1)) 6 (numF by_ ty (nI 99) u) (blk nd (6 * (5 + acn 1)) 6 (fun _ => 0))).1).2.1) (((raL by_ ty (dc 1) (6 * (5 + acn 1)) 6 (numF by_ ty (nI 99) u) (blk nd (6 * (5 + acn 1)) 6 (fun _ => 0))).1).2.2.1) (((raL by_ ty (dc 1) (6 * (5 + acn 1)) 6 (numF by_ ty (nI 99) u) (blk nd (6 * (5 + acn 1)) 6 (fun _ => 0))).1).2.2.2.1) (((raL by_ ty (dc 1) (6 * (5 + acn 1)) 6 (numF by_ ty (nI 99) u) (blk nd (6 * (5 + acn 1)) 6 (fun _ => 0))).1).2.2.2.2) xnw xkp xta xtw td xhg, aB cB xtx 150 tx, aI cI xdc 2 dc, aI cI xac 2 (updN acn 1 (acn 1 + 1)), aI cI xwm 10 (updN wm (5 + acn 1) u.2.2.2.1), aI cI xnd 60 ((raL by_ ty (dc 1) (6 * (5 + acn 1)) 6 (numF by_ ty (nI 99) u) (blk nd (6 * (5 + acn 1)) 6 (fun _ => 0))).2)] := hD
  show W _ _ _ _ _ _ _ _ _ _ _ _ _ _ _ (F0 m 100 ls [])
  refine lv_goto (tgt := 193) hx hb dX4_readRow_100 (by decide) ?_
  exact zw_v hC hr hlk hA h0 hP hS dX4_readRow_193
set_option maxHeartbeats 1000000 in
set_option maxRecDepth 100000 in
theorem c_X4_readRow_d {l : Launch} {D : va_G} {cI cZ cB cR : ClassId} {q xtx ty xdc xdl xdb xar xac xwm xnd xnw xkp xta xtw td xhg : Nat} {tr : Int64} {u : Mp} {dc dl db ar : Nat → Nat} {tx : Nat → Int32} {by_ : Nat → Nat}  (hlen : ty ≤ 150) (htx : ∀ i, i < ty → tx i &&& nI 255 = nI (by_ i)) (hby : ∀ i, by_ i < 256) (hu : wfP ty u) (hn1 : dc 1 < 6) : mW l yX4_readRow cX4_readRow 5 none 4 87 D cI cZ cB cR [oM q tr xtx ty xdc xdl xdb xar xac xwm xnd u.1 u.2.1 u.2.2.1 u.2.2.2.1 u.2.2.2.2 xnw xkp xta xtw td xhg, aB cB xtx 150 tx, aI cI xdc 2 dc, aI cI xdl 6 dl, aI cI xdb 6 db, aI cI xar 12 ar] [oM q tr xtx ty xdc xdl xdb xar xac xwm xnd ((numF by_ ty (nI 5) (numF by_ ty (nI 40) u)).1) ((numF by_ ty (nI 5) (numF by_ ty (nI 40) u)).2.1) ((numF by_ ty (nI 5) (numF by_ ty (nI 40) u)).2.2.1) ((numF by_ ty (nI 5) (numF by_ ty (nI 40) u)).2.2.2.1) ((numF by_ ty (nI 5) (numF by_ ty (nI 40) u)).2.2.2.2) xnw xkp xta xtw td xhg, aB cB xtx 150 tx, aI cI xdc 2 (updN dc 1 (dc 1 + 1)), aI cI xdl 6 (updN dl (dc 1) u.2.2.2.1), aI cI xdb 6 (updN db (dc 1) (dc 1)), aI cI xar 12 (updN ar (6 + dc 1) (numF by_ ty (nI 40) u).2.2.2.1)] [.ref q, .int (nI 100)] (none) := by
  refine mW_of rfl (Nat.le_of_ble_eq_true rfl) ?_
  intro p e s m args below meth c hC hr hlk hK A hA hD H0 h0 hP hS ls hl
  have hP : va_P D vwCl [oM q tr xtx ty xdc xdl xdb xar xac xwm xnd u.1 u.2.1 u.2.2.1 u.2.2.2.1 u.2.2.2.2 xnw xkp xta xtw td xhg, aB cB xtx 150 tx, aI cI xdc 2 dc, aI cI xdl 6 dl, aI cI xdb 6 db, aI cI xar 12 ar] H0 := hP
  have hl : lv_has ls 5 [(0, .ref q), (1, .int (nI 100))] := hl
  obtain ⟨hx, hb, hml, hown, hts⟩ := id hC
  refine lv_iload_n hx hb dX4_readRow_0 rfl (lv_at hl 1 rfl) ?_
  refine lv_lookup (off := 27) (tgt := 28) hx hb dX4_readRow_1 (by decide) (by decide) (by decide) ?_
  refine lv_aload_n hx hb dX4_readRow_28 rfl (lv_at hl 0 rfl) ?_
  refine z_get (k := 4) zcX4 hC hK hP 0 rfl (by decide) lF_X4_17 rfl dX4_readRow_29 ?_
  refine lv_aload_n hx hb dX4_readRow_32 rfl (lv_at hl 0 rfl) ?_
  refine z_get (k := 3) zcX4 hC hK hP 0 rfl (by decide) lF_X4_13 rfl dX4_readRow_33 ?_
  refine lv_iconst (v := nI 1) hx hb dX4_readRow_36 (by decide) ?_
  refine z_ald hC hK hP 2 rfl (by omega) (by decide) dX4_readRow_37 ?_
  refine lv_aload_n hx hb dX4_readRow_38 rfl (lv_at hl 0 rfl) ?_
  refine lv_iconst (v := nI 0) hx hb dX4_readRow_39 (by decide) ?_
  refine lv_bipush (v := nI 40) hx hb dX4_readRow_40 (by decide) ?_
  refine zXV (As := [.int (nI 0), .int (nI 40)]) (b := q) (rest := [.int (nI (dc 1)), .ref xdl]) hC (c_X4_number (l := l) (u := u) (hlen := hlen) (htx := htx) (hby := hby) (hu := hu)) lM_X4_91 vM_X4_number (by decide) hK hP hD hS [0, 1] [q, xtx] rfl (by decide) rfl rfl ⟨rfl, rfl, rfl⟩ rfl hl.1 rfl (Nat.le_of_ble_eq_true rfl) dX4_readRow_42 (by decide) (fun H locs hP hD hS => ?_)
  have hP : va_P D vwCl [oM q tr xtx ty xdc xdl xdb xar xac xwm xnd ((numF by_ ty (nI 40) u).1) ((numF by_ ty (nI 40) u).2.1) ((numF by_ ty (nI 40) u).2.2.1) ((numF by_ ty (nI 40) u).2.2.2.1) ((numF by_ ty (nI 40) u).2.2.2.2) xnw xkp xta xtw td xhg, aB cB xtx 150 tx, aI cI xdc 2 dc, aI cI xdl 6 dl, aI cI xdb 6 db, aI cI xar 12 ar] H := hP
  have hD : va_D A [oM q tr xtx ty xdc xdl xdb xar xac xwm xnd ((numF by_ ty (nI 40) u).1) ((numF by_ ty (nI 40) u).2.1) ((numF by_ ty (nI 40) u).2.2.1) ((numF by_ ty (nI 40) u).2.2.2.1) ((numF by_ ty (nI 40) u).2.2.2.2) xnw xkp xta xtw td xhg, aB cB xtx 150 tx, aI cI xdc 2 dc, aI cI xdl 6 dl, aI cI xdb 6 db, aI cI xar 12 ar] := hD
  show W _ _ _ _ _ _ _ _ _ _ _ _ _ _ _ (F0 m 45 ls [.int (nI u.2.2.2.1), .int (nI (dc 1)), .ref xdl])
  refine z_ast hC hK hP hD hS 3 rfl (by omega) (by decide) dX4_readRow_45 (fun H locs hP hD hS => ?_)
  have hP : va_P D vwCl [oM q tr xtx ty xdc xdl xdb xar xac xwm xnd ((numF by_ ty (nI 40) u).1) ((numF by_ ty (nI 40) u).2.1) ((numF by_ ty (nI 40) u).2.2.1) ((numF by_ ty (nI 40) u).2.2.2.1) ((numF by_ ty (nI 40) u).2.2.2.2) xnw xkp xta xtw td xhg, aB cB xtx 150 tx, aI cI xdc 2 dc, aI cI xdl 6 (updN dl (dc 1) u.2.2.2.1), aI cI xdb 6 db, aI cI xar 12 ar] H := hP
  have hD : va_D A [oM q tr xtx ty xdc xdl xdb xar xac xwm xnd ((numF by_ ty (nI 40) u).1) ((numF by_ ty (nI 40) u).2.1) ((numF by_ ty (nI 40) u).2.2.1) ((numF by_ ty (nI 40) u).2.2.2.1) ((numF by_ ty (nI 40) u).2.2.2.2) xnw xkp xta xtw td xhg, aB cB xtx 150 tx, aI cI xdc 2 dc, aI cI xdl 6 (updN dl (dc 1) u.2.2.2.1), aI cI xdb 6 db, aI cI xar 12 ar] := hD
  refine lv_aload_n hx hb dX4_readRow_46 rfl (lv_at hl 0 rfl) ?_
  refine z_get (k := 6) zcX4 hC hK hP 0 rfl (by decide) lF_X4_23 rfl dX4_readRow_47 ?_
  refine lv_bipush (v := nI 6) hx hb dX4_readRow_50 (by decide) ?_
  refine lv_aload_n hx hb dX4_readRow_52 rfl (lv_at hl 0 rfl) ?_
  refine z_get (k := 3) zcX4 hC hK hP 0 rfl (by decide) lF_X4_13 rfl dX4_readRow_53 ?_
  refine lv_iconst (v := nI 1) hx hb dX4_readRow_56 (by decide) ?_
  refine z_ald hC hK hP 2 rfl (by omega) (by decide) dX4_readRow_57 ?_
  refine zi_add hC dX4_readRow_58 ?_
  refine lv_aload_n hx hb dX4_readRow_59 rfl (lv_at hl 0 rfl) ?_
  refine lv_iconst (v := nI 0) hx hb dX4_readRow_60 (by decide) ?_
  refine lv_iconst (v := nI 5) hx hb dX4_readRow_61 (by decide) ?_
  refine zXV (As := [.int (nI 0), .int (nI 5)]) (b := q) (rest := [.int (nI (6 + (dc 1))), .ref xar]) hC (c_X4_number (l := l) (u := numF by_ ty (nI 40) u) (hlen := hlen) (htx := htx) (hby := hby) (hu := numF_wf hu)) lM_X4_91 vM_X4_number (by decide) hK hP hD hS [0, 1] [q, xtx] rfl (by decide) rfl rfl ⟨rfl, rfl, rfl⟩ rfl hl.1 rfl (Nat.le_of_ble_eq_true rfl) dX4_readRow_62 (by decide) (fun H locs hP hD hS => ?_)
  have hP : va_P D vwCl [oM q tr xtx ty xdc xdl xdb xar xac xwm xnd ((numF by_ ty (nI 5) (numF by_ ty (nI 40) u)).1) ((numF by_ ty (nI 5) (numF by_ ty (nI 40) u)).2.1) ((numF by_ ty (nI 5) (numF by_ ty (nI 40) u)).2.2.1) ((numF by_ ty (nI 5) (numF by_ ty (nI 40) u)).2.2.2.1) ((numF by_ ty (nI 5) (numF by_ ty (nI 40) u)).2.2.2.2) xnw xkp xta xtw td xhg, aB cB xtx 150 tx, aI cI xdc 2 dc, aI cI xdl 6 (updN dl (dc 1) u.2.2.2.1), aI cI xdb 6 db, aI cI xar 12 ar] H := hP
  have hD : va_D A [oM q tr xtx ty xdc xdl xdb xar xac xwm xnd ((numF by_ ty (nI 5) (numF by_ ty (nI 40) u)).1) ((numF by_ ty (nI 5) (numF by_ ty (nI 40) u)).2.1) ((numF by_ ty (nI 5) (numF by_ ty (nI 40) u)).2.2.1) ((numF by_ ty (nI 5) (numF by_ ty (nI 40) u)).2.2.2.1) ((numF by_ ty (nI 5) (numF by_ ty (nI 40) u)).2.2.2.2) xnw xkp xta xtw td xhg, aB cB xtx 150 tx, aI cI xdc 2 dc, aI cI xdl 6 (updN dl (dc 1) u.2.2.2.1), aI cI xdb 6 db, aI cI xar 12 ar] := hD
  show W _ _ _ _ _ _ _ _ _ _ _ _ _ _ _ (F0 m 65 ls [.int (nI ((numF by_ ty (nI 40) u).2.2.2.1)), .int (nI (6 + (dc 1))), .ref xar])
  refine z_ast hC hK hP hD hS 5 rfl (by omega) (by decide) dX4_readRow_65 (fun H locs hP hD hS => ?_)
  have hP : va_P D vwCl [oM q tr xtx ty xdc xdl xdb xar xac xwm xnd ((numF by_ ty (nI 5) (numF by_ ty (nI 40) u)).1) ((numF by_ ty (nI 5) (numF by_ ty (nI 40) u)).2.1) ((numF by_ ty (nI 5) (numF by_ ty (nI 40) u)).2.2.1) ((numF by_ ty (nI 5) (numF by_ ty (nI 40) u)).2.2.2.1) ((numF by_ ty (nI 5) (numF by_ ty (nI 40) u)).2.2.2.2) xnw xkp xta xtw td xhg, aB cB xtx 150 tx, aI cI xdc 2 dc, aI cI xdl 6 (updN dl (dc 1) u.2.2.2.1), aI cI xdb 6 db, aI cI xar 12 (updN ar (6 + (dc 1)) ((numF by_ ty (nI 40) u).2.2.2.1))] H := hP
  have hD : va_D A [oM q tr xtx ty xdc xdl xdb xar xac xwm xnd ((numF by_ ty (nI 5) (numF by_ ty (nI 40) u)).1) ((numF by_ ty (nI 5) (numF by_ ty (nI 40) u)).2.1) ((numF by_ ty (nI 5) (numF by_ ty (nI 40) u)).2.2.1) ((numF by_ ty (nI 5) (numF by_ ty (nI 40) u)).2.2.2.1) ((numF by_ ty (nI 5) (numF by_ ty (nI 40) u)).2.2.2.2) xnw xkp xta xtw td xhg, aB cB xtx 150 tx, aI cI xdc 2 dc, aI cI xdl 6 (updN dl (dc 1) u.2.2.2.1), aI cI xdb 6 db, aI cI xar 12 (updN ar (6 + (dc 1)) ((numF by_ ty (nI 40) u).2.2.2.1))] := hD
  refine lv_aload_n hx hb dX4_readRow_66 rfl (lv_at hl 0 rfl) ?_
  refine z_get (k := 5) zcX4 hC hK hP 0 rfl (by decide) lF_X4_20 rfl dX4_readRow_67 ?_
  refine lv_aload_n hx hb dX4_readRow_70 rfl (lv_at hl 0 rfl) ?_
  refine z_get (k := 3) zcX4 hC hK hP 0 rfl (by decide) lF_X4_13 rfl dX4_readRow_71 ?_
  refine lv_iconst (v := nI 1) hx hb dX4_readRow_74 (by decide) ?_
  refine z_ald hC hK hP 2 rfl (by omega) (by decide) dX4_readRow_75 ?_
  refine lv_aload_n hx hb dX4_readRow_76 rfl (lv_at hl 0 rfl) ?_
  refine z_get (k := 3) zcX4 hC hK hP 0 rfl (by decide) lF_X4_13 rfl dX4_readRow_77 ?_
  refine lv_iconst (v := nI 1) hx hb dX4_readRow_80 (by decide) ?_
  refine z_ald hC hK hP 2 rfl (by omega) (by decide) dX4_readRow_81 ?_
  refine z_ast hC hK hP hD hS 4 rfl (by omega) (by decide) dX4_readRow_82 (fun H locs hP hD hS => ?_)
  have hP : va_P D vwCl [oM q tr xtx ty xdc xdl xdb xar xac xwm xnd ((numF by_ ty (nI 5) (numF by_ ty (nI 40) u)).1) ((numF by_ ty (nI 5) (numF by_ ty (nI 40) u)).2.1) ((numF by_ ty (nI 5) (numF by_ ty (nI 40) u)).2.2.1) ((numF by_ ty (nI 5) (numF by_ ty (nI 40) u)).2.2.2.1) ((numF by_ ty (nI 5) (numF by_ ty (nI 40) u)).2.2.2.2) xnw xkp xta xtw td xhg, aB cB xtx 150 tx, aI cI xdc 2 dc, aI cI xdl 6 (updN dl (dc 1) u.2.2.2.1), aI cI xdb 6 (updN db (dc 1) (dc 1)), aI cI xar 12 (updN ar (6 + (dc 1)) ((numF by_ ty (nI 40) u).2.2.2.1))] H := hP
  have hD : va_D A [oM q tr xtx ty xdc xdl xdb xar xac xwm xnd ((numF by_ ty (nI 5) (numF by_ ty (nI 40) u)).1) ((numF by_ ty (nI 5) (numF by_ ty (nI 40) u)).2.1) ((numF by_ ty (nI 5) (numF by_ ty (nI 40) u)).2.2.1) ((numF by_ ty (nI 5) (numF by_ ty (nI 40) u)).2.2.2.1) ((numF by_ ty (nI 5) (numF by_ ty (nI 40) u)).2.2.2.2) xnw xkp xta xtw td xhg, aB cB xtx 150 tx, aI cI xdc 2 dc, aI cI xdl 6 (updN dl (dc 1) u.2.2.2.1), aI cI xdb 6 (updN db (dc 1) (dc 1)), aI cI xar 12 (updN ar (6 + (dc 1)) ((numF by_ ty (nI 40) u).2.2.2.1))] := hD
  refine lv_aload_n hx hb dX4_readRow_83 rfl (lv_at hl 0 rfl) ?_
  refine z_get (k := 3) zcX4 hC hK hP 0 rfl (by decide) lF_X4_13 rfl dX4_readRow_84 ?_
  refine lv_iconst (v := nI 1) hx hb dX4_readRow_87 (by decide) ?_
  refine lv_dup2_11 hx hb dX4_readRow_88 rfl rfl ?_
  refine z_ald hC hK hP 2 rfl (by omega) (by decide) dX4_readRow_89 ?_
  refine lv_iconst (v := nI 1) hx hb dX4_readRow_90 (by decide) ?_
  refine zi_add hC dX4_readRow_91 ?_
  refine z_ast hC hK hP hD hS 2 rfl (by omega) (by decide) dX4_readRow_92 (fun H locs hP hD hS => ?_)
  have hP : va_P D vwCl [oM q tr xtx ty xdc xdl xdb xar xac xwm xnd ((numF by_ ty (nI 5) (numF by_ ty (nI 40) u)).1) ((numF by_ ty (nI 5) (numF by_ ty (nI 40) u)).2.1) ((numF by_ ty (nI 5) (numF by_ ty (nI 40) u)).2.2.1) ((numF by_ ty (nI 5) (numF by_ ty (nI 40) u)).2.2.2.1) ((numF by_ ty (nI 5) (numF by_ ty (nI 40) u)).2.2.2.2) xnw xkp xta xtw td xhg, aB cB xtx 150 tx, aI cI xdc 2 (updN dc 1 ((dc 1) + 1)), aI cI xdl 6 (updN dl (dc 1) u.2.2.2.1), aI cI xdb 6 (updN db (dc 1) (dc 1)), aI cI xar 12 (updN ar (6 + (dc 1)) ((numF by_ ty (nI 40) u).2.2.2.1))] H := hP
  have hD : va_D A [oM q tr xtx ty xdc xdl xdb xar xac xwm xnd ((numF by_ ty (nI 5) (numF by_ ty (nI 40) u)).1) ((numF by_ ty (nI 5) (numF by_ ty (nI 40) u)).2.1) ((numF by_ ty (nI 5) (numF by_ ty (nI 40) u)).2.2.1) ((numF by_ ty (nI 5) (numF by_ ty (nI 40) u)).2.2.2.1) ((numF by_ ty (nI 5) (numF by_ ty (nI 40) u)).2.2.2.2) xnw xkp xta xtw td xhg, aB cB xtx 150 tx, aI cI xdc 2 (updN dc 1 ((dc 1) + 1)), aI cI xdl 6 (updN dl (dc 1) u.2.2.2.1), aI cI xdb 6 (updN db (dc 1) (dc 1)), aI cI xar 12 (updN ar (6 + (dc 1)) ((numF by_ ty (nI 40) u).2.2.2.1))] := hD
  refine lv_goto (tgt := 193) hx hb dX4_readRow_93 (by decide) ?_
  exact zw_v hC hr hlk hA h0 hP hS dX4_readRow_193
set_option maxHeartbeats 1000000 in
set_option maxRecDepth 100000 in
theorem c_X4_readRow_x {l : Launch} {D : va_G} {cI cZ cB cR : ClassId} {q xtx ty xdc xdl xdb xar xac xwm xnd xnw xkp xta xtw td xhg : Nat} {tr : Int64} {u : Mp} {dc db : Nat → Nat} {tx : Nat → Int32} {by_ : Nat → Nat}  (hlen : ty ≤ 150) (htx : ∀ i, i < ty → tx i &&& nI 255 = nI (by_ i)) (hby : ∀ i, by_ i < 256) (hu : wfP ty u) (hn1 : dc 1 ≤ 6) : mW l yX4_readRow cX4_readRow 5 none 4 87 D cI cZ cB cR [oM q tr xtx ty xdc xdl xdb xar xac xwm xnd u.1 u.2.1 u.2.2.1 u.2.2.2.1 u.2.2.2.2 xnw xkp xta xtw td xhg, aB cB xtx 150 tx, aI cI xdc 2 dc, aI cI xdb 6 db] [oM q tr xtx ty xdc xdl xdb xar xac xwm xnd ((dueF by_ ty (exO (dc 1) u (numF by_ ty (nI (dc 1) - nI 1) u)) (numF by_ ty (nI (dc 1) - nI 1) u)).1) ((dueF by_ ty (exO (dc 1) u (numF by_ ty (nI (dc 1) - nI 1) u)) (numF by_ ty (nI (dc 1) - nI 1) u)).2.1) ((dueF by_ ty (exO (dc 1) u (numF by_ ty (nI (dc 1) - nI 1) u)) (numF by_ ty (nI (dc 1) - nI 1) u)).2.2.1) ((dueF by_ ty (exO (dc 1) u (numF by_ ty (nI (dc 1) - nI 1) u)) (numF by_ ty (nI (dc 1) - nI 1) u)).2.2.2.1) ((dueF by_ ty (exO (dc 1) u (numF by_ ty (nI (dc 1) - nI 1) u)) (numF by_ ty (nI (dc 1) - nI 1) u)).2.2.2.2) xnw xkp xta xtw td xhg, aB cB xtx 150 tx, aI cI xdc 2 dc, aI cI xdb 6 (if (dueF by_ ty (exO (dc 1) u (numF by_ ty (nI (dc 1) - nI 1) u)) (numF by_ ty (nI (dc 1) - nI 1) u)).2.2.2.2 = -9 then updN (updN db u.2.2.2.1 (db (numF by_ ty (nI (dc 1) - nI 1) u).2.2.2.1)) (numF by_ ty (nI (dc 1) - nI 1) u).2.2.2.1 (db u.2.2.2.1) else db)] [.ref q, .int (nI 120)] (none) := by
  refine mW_of rfl (Nat.le_of_ble_eq_true rfl) ?_
  intro p e s m args below meth c hC hr hlk hK A hA hD H0 h0 hP hS ls hl
  have hP : va_P D vwCl [oM q tr xtx ty xdc xdl xdb xar xac xwm xnd u.1 u.2.1 u.2.2.1 u.2.2.2.1 u.2.2.2.2 xnw xkp xta xtw td xhg, aB cB xtx 150 tx, aI cI xdc 2 dc, aI cI xdb 6 db] H0 := hP
  have hl : lv_has ls 5 [(0, .ref q), (1, .int (nI 120))] := hl
  obtain ⟨hx, hb, hml, hown, hts⟩ := id hC
  refine lv_iload_n hx hb dX4_readRow_0 rfl (lv_at hl 1 rfl) ?_
  refine lv_lookup (off := 102) (tgt := 103) hx hb dX4_readRow_1 (by decide) (by decide) (by decide) ?_
  refine lv_aload_n hx hb dX4_readRow_103 rfl (lv_at hl 0 rfl) ?_
  refine lv_iconst (v := nI 0) hx hb dX4_readRow_104 (by decide) ?_
  refine lv_aload_n hx hb dX4_readRow_105 rfl (lv_at hl 0 rfl) ?_
  refine z_get (k := 3) zcX4 hC hK hP 0 rfl (by decide) lF_X4_13 rfl dX4_readRow_106 ?_
  refine lv_iconst (v := nI 1) hx hb dX4_readRow_109 (by decide) ?_
  refine z_ald hC hK hP 2 rfl (by omega) (by decide) dX4_readRow_110 ?_
  refine lv_iconst (v := nI 1) hx hb dX4_readRow_111 (by decide) ?_
  refine lv_isub hx hb dX4_readRow_112 ?_
  refine zXV (As := [.int (nI 0), .int ((nI (dc 1)) - (nI 1))]) (b := q) (rest := []) hC (c_X4_number (l := l) (u := u) (hlen := hlen) (htx := htx) (hby := hby) (hu := hu)) lM_X4_91 vM_X4_number (by decide) hK hP hD hS [0, 1] [q, xtx] rfl (by decide) rfl rfl ⟨rfl, rfl, rfl⟩ rfl hl.1 rfl (Nat.le_of_ble_eq_true rfl) dX4_readRow_113 (by decide) (fun H locs hP hD hS => ?_)
  have hP : va_P D vwCl [oM q tr xtx ty xdc xdl xdb xar xac xwm xnd ((numF by_ ty (nI (dc 1) - nI 1) u).1) ((numF by_ ty (nI (dc 1) - nI 1) u).2.1) ((numF by_ ty (nI (dc 1) - nI 1) u).2.2.1) ((numF by_ ty (nI (dc 1) - nI 1) u).2.2.2.1) ((numF by_ ty (nI (dc 1) - nI 1) u).2.2.2.2) xnw xkp xta xtw td xhg, aB cB xtx 150 tx, aI cI xdc 2 dc, aI cI xdb 6 db] H := hP
  have hD : va_D A [oM q tr xtx ty xdc xdl xdb xar xac xwm xnd ((numF by_ ty (nI (dc 1) - nI 1) u).1) ((numF by_ ty (nI (dc 1) - nI 1) u).2.1) ((numF by_ ty (nI (dc 1) - nI 1) u).2.2.1) ((numF by_ ty (nI (dc 1) - nI 1) u).2.2.2.1) ((numF by_ ty (nI (dc 1) - nI 1) u).2.2.2.2) xnw xkp xta xtw td xhg, aB cB xtx 150 tx, aI cI xdc 2 dc, aI cI xdb 6 db] := hD
  show W _ _ _ _ _ _ _ _ _ _ _ _ _ _ _ (F0 m 116 ls [.int (nI u.2.2.2.1)])
  refine lv_istore_n (lv' := [(2, .int (nI u.2.2.2.1)), (0, .ref q), (1, .int (nI 120))]) hx hb dX4_readRow_116 rfl hl (by decide) rfl (fun ls hl => ?_)
  refine lv_aload_n hx hb dX4_readRow_117 rfl (lv_at hl 1 rfl) ?_
  refine lv_aload_n hx hb dX4_readRow_118 rfl (lv_at hl 1 rfl) ?_
  refine z_get (k := 12) zcX4 hC hK hP 0 rfl (by decide) lF_X4_78 rfl dX4_readRow_119 ?_
  have hw := numF_wf (by_ := by_) (hi := nI (dc 1) - nI 1) hu
  have b120 := hw.2.2.1
  have b121 := hw.2.2.2
  have b122 := hu.2.2.2
  refine lv_iconst (v := nI 1) hx hb dX4_readRow_122 (by decide) ?_
  have hJ152 : ∀ (b9 : Bool), True → (b9 = exO (dc 1) u (numF by_ ty (nI (dc 1) - nI 1) u)) → ∀ ls : Array Slot, lv_has ls 5 [(0, .ref q), (1, .int (nI 120)), (2, .int (nI u.2.2.2.1))] → W p l e { frames := 4, cells := 0, slots := 0, locals := 87 } s m args below meth c H locs 0 0 (MQ below (qW D [oM q tr xtx ty xdc xdl xdb xar xac xwm xnd u.1 u.2.1 u.2.2.1 u.2.2.2.1 u.2.2.2.2 xnw xkp xta xtw td xhg, aB cB xtx 150 tx, aI cI xdc 2 dc, aI cI xdb 6 db] [oM q tr xtx ty xdc xdl xdb xar xac xwm xnd ((dueF by_ ty (exO (dc 1) u (numF by_ ty (nI (dc 1) - nI 1) u)) (numF by_ ty (nI (dc 1) - nI 1) u)).1) ((dueF by_ ty (exO (dc 1) u (numF by_ ty (nI (dc 1) - nI 1) u)) (numF by_ ty (nI (dc 1) - nI 1) u)).2.1) ((dueF by_ ty (exO (dc 1) u (numF by_ ty (nI (dc 1) - nI 1) u)) (numF by_ ty (nI (dc 1) - nI 1) u)).2.2.1) ((dueF by_ ty (exO (dc 1) u (numF by_ ty (nI (dc 1) - nI 1) u)) (numF by_ ty (nI (dc 1) - nI 1) u)).2.2.2.1) ((dueF by_ ty (exO (dc 1) u (numF by_ ty (nI (dc 1) - nI 1) u)) (numF by_ ty (nI (dc 1) - nI 1) u)).2.2.2.2) xnw xkp xta xtw td xhg, aB cB xtx 150 tx, aI cI xdc 2 dc, aI cI xdb 6 (if (dueF by_ ty (exO (dc 1) u (numF by_ ty (nI (dc 1) - nI 1) u)) (numF by_ ty (nI (dc 1) - nI 1) u)).2.2.2.2 = -9 then updN (updN db u.2.2.2.1 (db (numF by_ ty (nI (dc 1) - nI 1) u).2.2.2.1)) (numF by_ ty (nI (dc 1) - nI 1) u).2.2.2.1 (db u.2.2.2.1) else db)] (none)) args s 0 0 (zA [oM q tr xtx ty xdc xdl xdb xar xac xwm xnd u.1 u.2.1 u.2.2.1 u.2.2.2.1 u.2.2.2.2 xnw xkp xta xtw td xhg, aB cB xtx 150 tx, aI cI xdc 2 dc, aI cI xdb 6 db])) (F0 m 152 ls [.int (bI b9), .ref q]) := by
    intro b9 _ hb9 ls hl
    refine zXV (As := [.int (bI b9)]) (b := q) (rest := []) hC (c_X4_due (l := l) (u := numF by_ ty (nI (dc 1) - nI 1) u) (ok9 := b9) (hlen := hlen) (htx := htx) (hby := hby) (hu := numF_wf hu)) lM_X4_87 vM_X4_due (by decide) hK hP hD hS [0, 1] [q, xtx] rfl (by decide) rfl rfl ⟨rfl, rfl, rfl⟩ rfl hl.1 rfl (Nat.le_of_ble_eq_true rfl) dX4_readRow_152 (by decide) (fun H locs hP hD hS => ?_)
    have hP : va_P D vwCl [oM q tr xtx ty xdc xdl xdb xar xac xwm xnd ((dueF by_ ty b9 (numF by_ ty (nI (dc 1) - nI 1) u)).1) ((dueF by_ ty b9 (numF by_ ty (nI (dc 1) - nI 1) u)).2.1) ((dueF by_ ty b9 (numF by_ ty (nI (dc 1) - nI 1) u)).2.2.1) ((dueF by_ ty b9 (numF by_ ty (nI (dc 1) - nI 1) u)).2.2.2.1) ((dueF by_ ty b9 (numF by_ ty (nI (dc 1) - nI 1) u)).2.2.2.2) xnw xkp xta xtw td xhg, aB cB xtx 150 tx, aI cI xdc 2 dc, aI cI xdb 6 db] H := hP
    have hD : va_D A [oM q tr xtx ty xdc xdl xdb xar xac xwm xnd ((dueF by_ ty b9 (numF by_ ty (nI (dc 1) - nI 1) u)).1) ((dueF by_ ty b9 (numF by_ ty (nI (dc 1) - nI 1) u)).2.1) ((dueF by_ ty b9 (numF by_ ty (nI (dc 1) - nI 1) u)).2.2.1) ((dueF by_ ty b9 (numF by_ ty (nI (dc 1) - nI 1) u)).2.2.2.1) ((dueF by_ ty b9 (numF by_ ty (nI (dc 1) - nI 1) u)).2.2.2.2) xnw xkp xta xtw td xhg, aB cB xtx 150 tx, aI cI xdc 2 dc, aI cI xdb 6 db] := hD
    show W _ _ _ _ _ _ _ _ _ _ _ _ _ _ _ (F0 m 155 ls [.int (nI ((numF by_ ty (nI (dc 1) - nI 1) u).2.2.2.1))])
    refine lv_istore_n (lv' := [(3, .int (nI ((numF by_ ty (nI (dc 1) - nI 1) u).2.2.2.1))), (0, .ref q), (1, .int (nI 120)), (2, .int (nI u.2.2.2.1))]) hx hb dX4_readRow_155 rfl hl (by decide) rfl (fun ls hl => ?_)
    refine lv_aload_n hx hb dX4_readRow_156 rfl (lv_at hl 1 rfl) ?_
    refine z_get (k := 14) zcX4 hC hK hP 0 rfl (by decide) lF_X4_81 rfl dX4_readRow_157 ?_
    refine lv_bipush (v := (-9)) hx hb dX4_readRow_160 (by decide) ?_
    refine lv_icmp_ne (tgt := 193) hx hb dX4_readRow_162 (by decide) (fun c162 => ?_) (fun c162 => ?_)
    · skip
      rw [hb9] at c162
      exact zw_v hC hr hlk hA h0 (by rw [if_neg c162]; rw [hb9] at hP; exact hP) hS dX4_readRow_193
    · skip
      rw [hb9] at c162
      have b162 := dueF_ok hlen hw c162
      have b163 := numF_ok hlen hu b162.2
      have b164 := le_pred (by omega) hn1 b163.2.1
      have b165 := (of_decide_eq_true b162.1).2.1
      refine lv_aload_n hx hb dX4_readRow_165 rfl (lv_at hl 1 rfl) ?_
      refine z_get (k := 5) zcX4 hC hK hP 0 rfl (by decide) lF_X4_20 rfl dX4_readRow_166 ?_
      refine lv_iload_n hx hb dX4_readRow_169 rfl (lv_at hl 3 rfl) ?_
      refine z_ald hC hK hP 3 rfl (by omega) (by decide) dX4_readRow_170 ?_
      refine lv_istore (lv' := [(4, .int (nI (db u.2.2.2.1))), (3, .int (nI ((numF by_ ty (nI (dc 1) - nI 1) u).2.2.2.1))), (0, .ref q), (1, .int (nI 120)), (2, .int (nI u.2.2.2.1))]) hx hb dX4_readRow_171 hl (by decide) rfl (fun ls hl => ?_)
      refine lv_aload_n hx hb dX4_readRow_173 rfl (lv_at hl 2 rfl) ?_
      refine z_get (k := 5) zcX4 hC hK hP 0 rfl (by decide) lF_X4_20 rfl dX4_readRow_174 ?_
      refine lv_iload_n hx hb dX4_readRow_177 rfl (lv_at hl 4 rfl) ?_
      refine lv_aload_n hx hb dX4_readRow_178 rfl (lv_at hl 2 rfl) ?_
      refine z_get (k := 5) zcX4 hC hK hP 0 rfl (by decide) lF_X4_20 rfl dX4_readRow_179 ?_
      refine lv_iload_n hx hb dX4_readRow_182 rfl (lv_at hl 1 rfl) ?_
      refine z_ald hC hK hP 3 rfl (by omega) (by decide) dX4_readRow_183 ?_
      refine z_ast hC hK hP hD hS 3 rfl (by omega) (by decide) dX4_readRow_184 (fun H locs hP hD hS => ?_)
      have hP : va_P D vwCl [oM q tr xtx ty xdc xdl xdb xar xac xwm xnd ((dueF by_ ty b9 (numF by_ ty (nI (dc 1) - nI 1) u)).1) ((dueF by_ ty b9 (numF by_ ty (nI (dc 1) - nI 1) u)).2.1) ((dueF by_ ty b9 (numF by_ ty (nI (dc 1) - nI 1) u)).2.2.1) ((dueF by_ ty b9 (numF by_ ty (nI (dc 1) - nI 1) u)).2.2.2.1) ((dueF by_ ty b9 (numF by_ ty (nI (dc 1) - nI 1) u)).2.2.2.2) xnw xkp xta xtw td xhg, aB cB xtx 150 tx, aI cI xdc 2 dc, aI cI xdb 6 (updN db u.2.2.2.1 (db ((numF by_ ty (nI (dc 1) - nI 1) u).2.2.2.1)))] H := hP
      have hD : va_D A [oM q tr xtx ty xdc xdl xdb xar xac xwm xnd ((dueF by_ ty b9 (numF by_ ty (nI (dc 1) - nI 1) u)).1) ((dueF by_ ty b9 (numF by_ ty (nI (dc 1) - nI 1) u)).2.1) ((dueF by_ ty b9 (numF by_ ty (nI (dc 1) - nI 1) u)).2.2.1) ((dueF by_ ty b9 (numF by_ ty (nI (dc 1) - nI 1) u)).2.2.2.1) ((dueF by_ ty b9 (numF by_ ty (nI (dc 1) - nI 1) u)).2.2.2.2) xnw xkp xta xtw td xhg, aB cB xtx 150 tx, aI cI xdc 2 dc, aI cI xdb 6 (updN db u.2.2.2.1 (db ((numF by_ ty (nI (dc 1) - nI 1) u).2.2.2.1)))] := hD
      refine lv_aload_n hx hb dX4_readRow_185 rfl (lv_at hl 2 rfl) ?_
      refine z_get (k := 5) zcX4 hC hK hP 0 rfl (by decide) lF_X4_20 rfl dX4_readRow_186 ?_
      refine lv_iload_n hx hb dX4_readRow_189 rfl (lv_at hl 1 rfl) ?_
      refine lv_iload hx hb dX4_readRow_190 (lv_at hl 0 rfl) ?_
      refine z_ast hC hK hP hD hS 3 rfl (by omega) (by decide) dX4_readRow_192 (fun H locs hP hD hS => ?_)
      have hP : va_P D vwCl [oM q tr xtx ty xdc xdl xdb xar xac xwm xnd ((dueF by_ ty b9 (numF by_ ty (nI (dc 1) - nI 1) u)).1) ((dueF by_ ty b9 (numF by_ ty (nI (dc 1) - nI 1) u)).2.1) ((dueF by_ ty b9 (numF by_ ty (nI (dc 1) - nI 1) u)).2.2.1) ((dueF by_ ty b9 (numF by_ ty (nI (dc 1) - nI 1) u)).2.2.2.1) ((dueF by_ ty b9 (numF by_ ty (nI (dc 1) - nI 1) u)).2.2.2.2) xnw xkp xta xtw td xhg, aB cB xtx 150 tx, aI cI xdc 2 dc, aI cI xdb 6 (updN (updN db u.2.2.2.1 (db ((numF by_ ty (nI (dc 1) - nI 1) u).2.2.2.1))) ((numF by_ ty (nI (dc 1) - nI 1) u).2.2.2.1) (db u.2.2.2.1))] H := hP
      have hD : va_D A [oM q tr xtx ty xdc xdl xdb xar xac xwm xnd ((dueF by_ ty b9 (numF by_ ty (nI (dc 1) - nI 1) u)).1) ((dueF by_ ty b9 (numF by_ ty (nI (dc 1) - nI 1) u)).2.1) ((dueF by_ ty b9 (numF by_ ty (nI (dc 1) - nI 1) u)).2.2.1) ((dueF by_ ty b9 (numF by_ ty (nI (dc 1) - nI 1) u)).2.2.2.1) ((dueF by_ ty b9 (numF by_ ty (nI (dc 1) - nI 1) u)).2.2.2.2) xnw xkp xta xtw td xhg, aB cB xtx 150 tx, aI cI xdc 2 dc, aI cI xdb 6 (updN (updN db u.2.2.2.1 (db ((numF by_ ty (nI (dc 1) - nI 1) u).2.2.2.1))) ((numF by_ ty (nI (dc 1) - nI 1) u).2.2.2.1) (db u.2.2.2.1))] := hD
      exact zw_v hC hr hlk hA h0 (by rw [if_pos c162]; rw [hb9] at hP; exact hP) hS dX4_readRow_193
  refine zc_ne (tgt := 151) hC dX4_readRow_123 (by decide) (by omega) (by omega) (fun c123 => ?_) (fun c123 => ?_)
  · skip
    refine lv_iconst (v := nI 0) hx hb dX4_readRow_151 (by decide) ?_
    exact hJ152 false trivial (by exact (decide_eq_false (fun h => c123 h.1)).symm) ls (lv_sub hl [1, 2, 0] rfl)
  · skip
    refine lv_aload_n hx hb dX4_readRow_126 rfl (lv_at hl 1 rfl) ?_
    refine z_get (k := 13) zcX4 hC hK hP 0 rfl (by decide) lF_X4_75 rfl dX4_readRow_127 ?_
    refine lv_aload_n hx hb dX4_readRow_130 rfl (lv_at hl 1 rfl) ?_
    refine z_get (k := 3) zcX4 hC hK hP 0 rfl (by decide) lF_X4_13 rfl dX4_readRow_131 ?_
    refine lv_iconst (v := nI 1) hx hb dX4_readRow_134 (by decide) ?_
    refine z_ald hC hK hP 2 rfl (by omega) (by decide) dX4_readRow_135 ?_
    refine zc_ge (tgt := 151) hC dX4_readRow_136 (by decide) (by omega) (by omega) (fun c136 => ?_) (fun c136 => ?_)
    · skip
      refine lv_iconst (v := nI 0) hx hb dX4_readRow_151 (by decide) ?_
      exact hJ152 false trivial (by exact (decide_eq_false (fun h => by have := h.2.1; omega)).symm) ls (lv_sub hl [1, 2, 0] rfl)
    · skip
      refine lv_aload_n hx hb dX4_readRow_139 rfl (lv_at hl 1 rfl) ?_
      refine z_get (k := 13) zcX4 hC hK hP 0 rfl (by decide) lF_X4_75 rfl dX4_readRow_140 ?_
      refine lv_iload_n hx hb dX4_readRow_143 rfl (lv_at hl 0 rfl) ?_
      refine zc_eq (tgt := 151) hC dX4_readRow_144 (by decide) (by omega) (by omega) (fun c144 => ?_) (fun c144 => ?_)
      · skip
        refine lv_iconst (v := nI 0) hx hb dX4_readRow_151 (by decide) ?_
        exact hJ152 false trivial (by exact (decide_eq_false (fun h => h.2.2 c144)).symm) ls (lv_sub hl [1, 2, 0] rfl)
      · skip
        refine lv_iconst (v := nI 1) hx hb dX4_readRow_147 (by decide) ?_
        refine lv_goto (tgt := 152) hx hb dX4_readRow_148 (by decide) ?_
        exact hJ152 true trivial (by exact (decide_eq_true ⟨c123, by omega, c144⟩).symm) ls (lv_sub hl [1, 2, 0] rfl)
set_option maxHeartbeats 1000000 in
set_option maxRecDepth 100000 in
theorem c_X4_plain {l : Launch} {D : va_G} {cI cZ cB cR : ClassId} {q xtx ty xdc xdl xdb xar xac xwm xnd at9 sta sor val xnw xkp xta xtw td xhg : Nat} {tr : Int64} {fau : Int32} {dc acn : Nat → Nat}   : mW l yX4_plain cX4_plain 1 none 0 0 D cI cZ cB cR [oM q tr xtx ty xdc xdl xdb xar xac xwm xnd at9 sta sor val fau xnw xkp xta xtw td xhg, aI cI xdc 2 dc, aI cI xac 2 acn] [oM q tr xtx ty xdc xdl xdb xar xac xwm xnd at9 sta sor val fau xnw xkp xta xtw td xhg, aI cI xdc 2 (updN dc 1 0), aI cI xac 2 (updN acn 1 0)] [.ref q] (none) := by
  refine mW_of rfl (Nat.le_of_ble_eq_true rfl) ?_
  intro p e s m args below meth c hC hr hlk hK A hA hD H0 h0 hP hS ls hl
  have hP : va_P D vwCl [oM q tr xtx ty xdc xdl xdb xar xac xwm xnd at9 sta sor val fau xnw xkp xta xtw td xhg, aI cI xdc 2 dc, aI cI xac 2 acn] H0 := hP
  have hl : lv_has ls 1 [(0, .ref q)] := hl
  obtain ⟨hx, hb, hml, hown, hts⟩ := id hC
  refine lv_aload_n hx hb dX4_plain_0 rfl (lv_at hl 0 rfl) ?_
  refine z_get (k := 3) zcX4 hC hK hP 0 rfl (by decide) lF_X4_13 rfl dX4_plain_1 ?_
  refine lv_iconst (v := nI 1) hx hb dX4_plain_4 (by decide) ?_
  refine lv_iconst (v := nI 0) hx hb dX4_plain_5 (by decide) ?_
  refine z_ast hC hK hP hD hS 1 rfl (by omega) (by decide) dX4_plain_6 (fun H locs hP hD hS => ?_)
  have hP : va_P D vwCl [oM q tr xtx ty xdc xdl xdb xar xac xwm xnd at9 sta sor val fau xnw xkp xta xtw td xhg, aI cI xdc 2 (updN dc 1 0), aI cI xac 2 acn] H := hP
  have hD : va_D A [oM q tr xtx ty xdc xdl xdb xar xac xwm xnd at9 sta sor val fau xnw xkp xta xtw td xhg, aI cI xdc 2 (updN dc 1 0), aI cI xac 2 acn] := hD
  refine lv_aload_n hx hb dX4_plain_7 rfl (lv_at hl 0 rfl) ?_
  refine z_get (k := 7) zcX4 hC hK hP 0 rfl (by decide) lF_X4_26 rfl dX4_plain_8 ?_
  refine lv_iconst (v := nI 1) hx hb dX4_plain_11 (by decide) ?_
  refine lv_iconst (v := nI 0) hx hb dX4_plain_12 (by decide) ?_
  refine z_ast hC hK hP hD hS 2 rfl (by omega) (by decide) dX4_plain_13 (fun H locs hP hD hS => ?_)
  have hP : va_P D vwCl [oM q tr xtx ty xdc xdl xdb xar xac xwm xnd at9 sta sor val fau xnw xkp xta xtw td xhg, aI cI xdc 2 (updN dc 1 0), aI cI xac 2 (updN acn 1 0)] H := hP
  have hD : va_D A [oM q tr xtx ty xdc xdl xdb xar xac xwm xnd at9 sta sor val fau xnw xkp xta xtw td xhg, aI cI xdc 2 (updN dc 1 0), aI cI xac 2 (updN acn 1 0)] := hD
  exact zw_v hC hr hlk hA h0 hP hS dX4_plain_14
set_option maxHeartbeats 1000000 in
set_option maxRecDepth 100000 in
theorem c_X4_takeDraft {l : Launch} {D : va_G} {cI cZ cB cR : ClassId} {q xtx ty xdc xdl xdb xar xac xwm xnd at9 sta sor val xnw xkp xta xtw td xhg : Nat} {tr : Int64} {fau : Int32} {dc acn nw dl db ar wm nd : Nat → Nat} {kp : Nat → Bool}  (hn1 : dc 1 ≤ 6) (ha1 : acn 1 ≤ 5) : mW l yX4_takeDraft cX4_takeDraft 3 none 0 0 D cI cZ cB cR [oM q tr xtx ty xdc xdl xdb xar xac xwm xnd at9 sta sor val fau xnw xkp xta xtw td xhg, aI cI xdc 2 dc, aI cI xac 2 acn, aI cI xnw 729 nw, aI cI xdl 6 dl, aI cI xdb 6 db, aI cI xar 12 ar, aI cI xwm 10 wm, aI cI xnd 60 nd, aZ cZ xkp 2 kp] [oM q tr xtx ty xdc xdl xdb xar xac xwm xnd at9 sta sor val fau xnw xkp xta xtw 0 xhg, aI cI xdc 2 (updN dc 0 (dc 1)), aI cI xac 2 (updN acn 0 (acn 1)), aI cI xnw 729 (updN (tdN (blk nw 0 22 (fun _ => 0)) dl db (dc 1)) 22 0), aI cI xdl 6 dl, aI cI xdb 6 db, aI cI xar 12 (blk ar 0 (dc 1) (fun m => ar (6 + m))), aI cI xwm 10 (blk wm 0 (acn 1) (fun m => wm (5 + m))), aI cI xnd 60 (blk nd 0 (6 * acn 1) (fun m => nd (30 + m))), aZ cZ xkp 2 (updB (updB kp 0 false) 1 false)] [.ref q] (none) := by
  refine mW_of rfl (Nat.le_of_ble_eq_true rfl) ?_
  intro p e s m args below meth c hC hr hlk hK A hA hD H0 h0 hP hS ls hl
  have hP : va_P D vwCl [oM q tr xtx ty xdc xdl xdb xar xac xwm xnd at9 sta sor val fau xnw xkp xta xtw td xhg, aI cI xdc 2 dc, aI cI xac 2 acn, aI cI xnw 729 nw, aI cI xdl 6 dl, aI cI xdb 6 db, aI cI xar 12 ar, aI cI xwm 10 wm, aI cI xnd 60 nd, aZ cZ xkp 2 kp] H0 := hP
  have hl : lv_has ls 3 [(0, .ref q)] := hl
  obtain ⟨hx, hb, hml, hown, hts⟩ := id hC
  refine lv_aload_n hx hb dX4_takeDraft_0 rfl (lv_at hl 0 rfl) ?_
  refine z_get (k := 3) zcX4 hC hK hP 0 rfl (by decide) lF_X4_13 rfl dX4_takeDraft_1 ?_
  refine lv_iconst (v := nI 0) hx hb dX4_takeDraft_4 (by decide) ?_
  refine lv_aload_n hx hb dX4_takeDraft_5 rfl (lv_at hl 0 rfl) ?_
  refine z_get (k := 3) zcX4 hC hK hP 0 rfl (by decide) lF_X4_13 rfl dX4_takeDraft_6 ?_
  refine lv_iconst (v := nI 1) hx hb dX4_takeDraft_9 (by decide) ?_
  refine z_ald hC hK hP 1 rfl (by omega) (by decide) dX4_takeDraft_10 ?_
  refine z_ast hC hK hP hD hS 1 rfl (by omega) (by decide) dX4_takeDraft_11 (fun H locs hP hD hS => ?_)
  have hP : va_P D vwCl [oM q tr xtx ty xdc xdl xdb xar xac xwm xnd at9 sta sor val fau xnw xkp xta xtw td xhg, aI cI xdc 2 (updN dc 0 (dc 1)), aI cI xac 2 acn, aI cI xnw 729 nw, aI cI xdl 6 dl, aI cI xdb 6 db, aI cI xar 12 ar, aI cI xwm 10 wm, aI cI xnd 60 nd, aZ cZ xkp 2 kp] H := hP
  have hD : va_D A [oM q tr xtx ty xdc xdl xdb xar xac xwm xnd at9 sta sor val fau xnw xkp xta xtw td xhg, aI cI xdc 2 (updN dc 0 (dc 1)), aI cI xac 2 acn, aI cI xnw 729 nw, aI cI xdl 6 dl, aI cI xdb 6 db, aI cI xar 12 ar, aI cI xwm 10 wm, aI cI xnd 60 nd, aZ cZ xkp 2 kp] := hD
  refine lv_aload_n hx hb dX4_takeDraft_12 rfl (lv_at hl 0 rfl) ?_
  refine z_get (k := 7) zcX4 hC hK hP 0 rfl (by decide) lF_X4_26 rfl dX4_takeDraft_13 ?_
  refine lv_iconst (v := nI 0) hx hb dX4_takeDraft_16 (by decide) ?_
  refine lv_aload_n hx hb dX4_takeDraft_17 rfl (lv_at hl 0 rfl) ?_
  refine z_get (k := 7) zcX4 hC hK hP 0 rfl (by decide) lF_X4_26 rfl dX4_takeDraft_18 ?_
  refine lv_iconst (v := nI 1) hx hb dX4_takeDraft_21 (by decide) ?_
  refine z_ald hC hK hP 2 rfl (by omega) (by decide) dX4_takeDraft_22 ?_
  refine z_ast hC hK hP hD hS 2 rfl (by omega) (by decide) dX4_takeDraft_23 (fun H locs hP hD hS => ?_)
  have hP : va_P D vwCl [oM q tr xtx ty xdc xdl xdb xar xac xwm xnd at9 sta sor val fau xnw xkp xta xtw td xhg, aI cI xdc 2 (updN dc 0 (dc 1)), aI cI xac 2 (updN acn 0 (acn 1)), aI cI xnw 729 nw, aI cI xdl 6 dl, aI cI xdb 6 db, aI cI xar 12 ar, aI cI xwm 10 wm, aI cI xnd 60 nd, aZ cZ xkp 2 kp] H := hP
  have hD : va_D A [oM q tr xtx ty xdc xdl xdb xar xac xwm xnd at9 sta sor val fau xnw xkp xta xtw td xhg, aI cI xdc 2 (updN dc 0 (dc 1)), aI cI xac 2 (updN acn 0 (acn 1)), aI cI xnw 729 nw, aI cI xdl 6 dl, aI cI xdb 6 db, aI cI xar 12 ar, aI cI xwm 10 wm, aI cI xnd 60 nd, aZ cZ xkp 2 kp] := hD
  refine lv_iconst (v := nI 0) hx hb dX4_takeDraft_24 (by decide) ?_
  refine lv_istore_n (lv' := [(1, .int (nI 0)), (0, .ref q)]) hx hb dX4_takeDraft_25 rfl hl (by decide) rfl (fun ls hl => ?_)
  have hL26 : ∀ (z26 : Nat) (i9 : Nat) (n8 : Nat → Nat), 22 - i9 = z26 → (i9 ≤ 22) → (n8 = blk nw 0 i9 (fun _ => 0)) → ∀ (H : Heap) (locs : List Loc), va_P D vwCl [oM q tr xtx ty xdc xdl xdb xar xac xwm xnd at9 sta sor val fau xnw xkp xta xtw td xhg, aI cI xdc 2 (updN dc 0 (dc 1)), aI cI xac 2 (updN acn 0 (acn 1)), aI cI xnw 729 n8, aI cI xdl 6 dl, aI cI xdb 6 db, aI cI xar 12 ar, aI cI xwm 10 wm, aI cI xnd 60 nd, aZ cZ xkp 2 kp] H → va_D A [oM q tr xtx ty xdc xdl xdb xar xac xwm xnd at9 sta sor val fau xnw xkp xta xtw td xhg, aI cI xdc 2 (updN dc 0 (dc 1)), aI cI xac 2 (updN acn 0 (acn 1)), aI cI xnw 729 n8, aI cI xdl 6 dl, aI cI xdb 6 db, aI cI xar 12 ar, aI cI xwm 10 wm, aI cI xnd 60 nd, aZ cZ xkp 2 kp] → va_S A H0 H locs → ∀ ls : Array Slot, lv_has ls 3 [(0, .ref q), (1, .int (nI i9))] → W p l e { frames := 0, cells := 0, slots := 0, locals := 0 } s m args below meth c H locs 0 0 (MQ below (qW D [oM q tr xtx ty xdc xdl xdb xar xac xwm xnd at9 sta sor val fau xnw xkp xta xtw td xhg, aI cI xdc 2 dc, aI cI xac 2 acn, aI cI xnw 729 nw, aI cI xdl 6 dl, aI cI xdb 6 db, aI cI xar 12 ar, aI cI xwm 10 wm, aI cI xnd 60 nd, aZ cZ xkp 2 kp] [oM q tr xtx ty xdc xdl xdb xar xac xwm xnd at9 sta sor val fau xnw xkp xta xtw 0 xhg, aI cI xdc 2 (updN dc 0 (dc 1)), aI cI xac 2 (updN acn 0 (acn 1)), aI cI xnw 729 (updN (tdN (blk nw 0 22 (fun _ => 0)) dl db (dc 1)) 22 0), aI cI xdl 6 dl, aI cI xdb 6 db, aI cI xar 12 (blk ar 0 (dc 1) (fun m => ar (6 + m))), aI cI xwm 10 (blk wm 0 (acn 1) (fun m => wm (5 + m))), aI cI xnd 60 (blk nd 0 (6 * acn 1) (fun m => nd (30 + m))), aZ cZ xkp 2 (updB (updB kp 0 false) 1 false)] (none)) args s 0 0 (zA [oM q tr xtx ty xdc xdl xdb xar xac xwm xnd at9 sta sor val fau xnw xkp xta xtw td xhg, aI cI xdc 2 dc, aI cI xac 2 acn, aI cI xnw 729 nw, aI cI xdl 6 dl, aI cI xdb 6 db, aI cI xar 12 ar, aI cI xwm 10 wm, aI cI xnd 60 nd, aZ cZ xkp 2 kp])) (F0 m 26 ls []) := by
    intro z26
    induction z26 using Nat.strongRecOn with
    | _ z26 ih26 =>
    intro i9 n8 hz26 hi hn8 H locs hP hD hS ls hl
    refine lv_iload_n hx hb dX4_takeDraft_26 rfl (lv_at hl 1 rfl) ?_
    refine lv_bipush (v := nI 22) hx hb dX4_takeDraft_27 (by decide) ?_
    refine zc_ge (tgt := 45) hC dX4_takeDraft_29 (by decide) (by omega) (by omega) (fun c29 => ?_) (fun c29 => ?_)
    · skip
      refine lv_iconst (v := nI 0) hx hb dX4_takeDraft_45 (by decide) ?_
      refine lv_istore_n (lv' := [(1, .int (nI 0)), (0, .ref q)]) hx hb dX4_takeDraft_46 rfl hl (by decide) rfl (fun ls hl => ?_)
      have hL47 : ∀ (z47 : Nat) (d : Nat) (n9 : Nat → Nat) (a8 : Nat → Nat), dc 1 - d = z47 → (d ≤ dc 1) → (n9 = tdN (blk nw 0 22 (fun _ => 0)) dl db d) → (a8 = blk ar 0 d (fun m => ar (6 + m))) → ∀ (H : Heap) (locs : List Loc), va_P D vwCl [oM q tr xtx ty xdc xdl xdb xar xac xwm xnd at9 sta sor val fau xnw xkp xta xtw td xhg, aI cI xdc 2 (updN dc 0 (dc 1)), aI cI xac 2 (updN acn 0 (acn 1)), aI cI xnw 729 n9, aI cI xdl 6 dl, aI cI xdb 6 db, aI cI xar 12 a8, aI cI xwm 10 wm, aI cI xnd 60 nd, aZ cZ xkp 2 kp] H → va_D A [oM q tr xtx ty xdc xdl xdb xar xac xwm xnd at9 sta sor val fau xnw xkp xta xtw td xhg, aI cI xdc 2 (updN dc 0 (dc 1)), aI cI xac 2 (updN acn 0 (acn 1)), aI cI xnw 729 n9, aI cI xdl 6 dl, aI cI xdb 6 db, aI cI xar 12 a8, aI cI xwm 10 wm, aI cI xnd 60 nd, aZ cZ xkp 2 kp] → va_S A H0 H locs → ∀ ls : Array Slot, lv_has ls 3 [(0, .ref q), (1, .int (nI d))] → W p l e { frames := 0, cells := 0, slots := 0, locals := 0 } s m args below meth c H locs 0 0 (MQ below (qW D [oM q tr xtx ty xdc xdl xdb xar xac xwm xnd at9 sta sor val fau xnw xkp xta xtw td xhg, aI cI xdc 2 dc, aI cI xac 2 acn, aI cI xnw 729 nw, aI cI xdl 6 dl, aI cI xdb 6 db, aI cI xar 12 ar, aI cI xwm 10 wm, aI cI xnd 60 nd, aZ cZ xkp 2 kp] [oM q tr xtx ty xdc xdl xdb xar xac xwm xnd at9 sta sor val fau xnw xkp xta xtw 0 xhg, aI cI xdc 2 (updN dc 0 (dc 1)), aI cI xac 2 (updN acn 0 (acn 1)), aI cI xnw 729 (updN (tdN (blk nw 0 22 (fun _ => 0)) dl db (dc 1)) 22 0), aI cI xdl 6 dl, aI cI xdb 6 db, aI cI xar 12 (blk ar 0 (dc 1) (fun m => ar (6 + m))), aI cI xwm 10 (blk wm 0 (acn 1) (fun m => wm (5 + m))), aI cI xnd 60 (blk nd 0 (6 * acn 1) (fun m => nd (30 + m))), aZ cZ xkp 2 (updB (updB kp 0 false) 1 false)] (none)) args s 0 0 (zA [oM q tr xtx ty xdc xdl xdb xar xac xwm xnd at9 sta sor val fau xnw xkp xta xtw td xhg, aI cI xdc 2 dc, aI cI xac 2 acn, aI cI xnw 729 nw, aI cI xdl 6 dl, aI cI xdb 6 db, aI cI xar 12 ar, aI cI xwm 10 wm, aI cI xnd 60 nd, aZ cZ xkp 2 kp])) (F0 m 47 ls []) := by
        intro z47
        induction z47 using Nat.strongRecOn with
        | _ z47 ih47 =>
        intro d n9 a8 hz47 hd hn9 ha8 H locs hP hD hS ls hl
        refine lv_iload_n hx hb dX4_takeDraft_47 rfl (lv_at hl 1 rfl) ?_
        refine lv_aload_n hx hb dX4_takeDraft_48 rfl (lv_at hl 0 rfl) ?_
        refine z_get (k := 3) zcX4 hC hK hP 0 rfl (by decide) lF_X4_13 rfl dX4_takeDraft_49 ?_
        refine lv_iconst (v := nI 0) hx hb dX4_takeDraft_52 (by decide) ?_
        refine z_ald hC hK hP 1 rfl (by omega) (by decide) dX4_takeDraft_53 ?_
        refine z_top (show (nI ((updN dc 0 (dc 1)) 0)) = nI (dc 1) from by rw [updN_s]) ?_
        refine zc_ge (tgt := 105) hC dX4_takeDraft_54 (by decide) (by omega) (by omega) (fun c54 => ?_) (fun c54 => ?_)
        · skip
          have e54 : d = dc 1 := by omega
          rw [e54] at hn9 ha8
          refine lv_iconst (v := nI 0) hx hb dX4_takeDraft_105 (by decide) ?_
          refine lv_istore_n (lv' := [(1, .int (nI 0)), (0, .ref q)]) hx hb dX4_takeDraft_106 rfl hl (by decide) rfl (fun ls hl => ?_)
          have hL107 : ∀ (z107 : Nat) (a : Nat) (w8 : Nat → Nat) (d8 : Nat → Nat), acn 1 - a = z107 → (a ≤ acn 1) → (w8 = blk wm 0 a (fun m => wm (5 + m))) → (d8 = blk nd 0 (6 * a) (fun m => nd (30 + m))) → ∀ (H : Heap) (locs : List Loc), va_P D vwCl [oM q tr xtx ty xdc xdl xdb xar xac xwm xnd at9 sta sor val fau xnw xkp xta xtw td xhg, aI cI xdc 2 (updN dc 0 (dc 1)), aI cI xac 2 (updN acn 0 (acn 1)), aI cI xnw 729 n9, aI cI xdl 6 dl, aI cI xdb 6 db, aI cI xar 12 a8, aI cI xwm 10 w8, aI cI xnd 60 d8, aZ cZ xkp 2 kp] H → va_D A [oM q tr xtx ty xdc xdl xdb xar xac xwm xnd at9 sta sor val fau xnw xkp xta xtw td xhg, aI cI xdc 2 (updN dc 0 (dc 1)), aI cI xac 2 (updN acn 0 (acn 1)), aI cI xnw 729 n9, aI cI xdl 6 dl, aI cI xdb 6 db, aI cI xar 12 a8, aI cI xwm 10 w8, aI cI xnd 60 d8, aZ cZ xkp 2 kp] → va_S A H0 H locs → ∀ ls : Array Slot, lv_has ls 3 [(0, .ref q), (1, .int (nI a))] → W p l e { frames := 0, cells := 0, slots := 0, locals := 0 } s m args below meth c H locs 0 0 (MQ below (qW D [oM q tr xtx ty xdc xdl xdb xar xac xwm xnd at9 sta sor val fau xnw xkp xta xtw td xhg, aI cI xdc 2 dc, aI cI xac 2 acn, aI cI xnw 729 nw, aI cI xdl 6 dl, aI cI xdb 6 db, aI cI xar 12 ar, aI cI xwm 10 wm, aI cI xnd 60 nd, aZ cZ xkp 2 kp] [oM q tr xtx ty xdc xdl xdb xar xac xwm xnd at9 sta sor val fau xnw xkp xta xtw 0 xhg, aI cI xdc 2 (updN dc 0 (dc 1)), aI cI xac 2 (updN acn 0 (acn 1)), aI cI xnw 729 (updN (tdN (blk nw 0 22 (fun _ => 0)) dl db (dc 1)) 22 0), aI cI xdl 6 dl, aI cI xdb 6 db, aI cI xar 12 (blk ar 0 (dc 1) (fun m => ar (6 + m))), aI cI xwm 10 (blk wm 0 (acn 1) (fun m => wm (5 + m))), aI cI xnd 60 (blk nd 0 (6 * acn 1) (fun m => nd (30 + m))), aZ cZ xkp 2 (updB (updB kp 0 false) 1 false)] (none)) args s 0 0 (zA [oM q tr xtx ty xdc xdl xdb xar xac xwm xnd at9 sta sor val fau xnw xkp xta xtw td xhg, aI cI xdc 2 dc, aI cI xac 2 acn, aI cI xnw 729 nw, aI cI xdl 6 dl, aI cI xdb 6 db, aI cI xar 12 ar, aI cI xwm 10 wm, aI cI xnd 60 nd, aZ cZ xkp 2 kp])) (F0 m 107 ls []) := by
            intro z107
            induction z107 using Nat.strongRecOn with
            | _ z107 ih107 =>
            intro a w8 d8 hz107 ha hw8 hd8 H locs hP hD hS ls hl
            refine lv_iload_n hx hb dX4_takeDraft_107 rfl (lv_at hl 1 rfl) ?_
            refine lv_aload_n hx hb dX4_takeDraft_108 rfl (lv_at hl 0 rfl) ?_
            refine z_get (k := 7) zcX4 hC hK hP 0 rfl (by decide) lF_X4_26 rfl dX4_takeDraft_109 ?_
            refine lv_iconst (v := nI 0) hx hb dX4_takeDraft_112 (by decide) ?_
            refine z_ald hC hK hP 2 rfl (by omega) (by decide) dX4_takeDraft_113 ?_
            refine z_top (show (nI ((updN acn 0 (acn 1)) 0)) = nI (acn 1) from by rw [updN_s]) ?_
            refine zc_ge (tgt := 175) hC dX4_takeDraft_114 (by decide) (by omega) (by omega) (fun c114 => ?_) (fun c114 => ?_)
            · skip
              have e114 : a = acn 1 := by omega
              rw [e114] at hw8 hd8
              refine lv_aload_n hx hb dX4_takeDraft_175 rfl (lv_at hl 0 rfl) ?_
              refine z_get (k := 15) zcX4 hC hK hP 0 rfl (by decide) lF_X4_35 rfl dX4_takeDraft_176 ?_
              refine lv_bipush (v := nI 22) hx hb dX4_takeDraft_179 (by decide) ?_
              refine lv_iconst (v := nI 0) hx hb dX4_takeDraft_181 (by decide) ?_
              refine z_ast hC hK hP hD hS 3 rfl (by omega) (by decide) dX4_takeDraft_182 (fun H locs hP hD hS => ?_)
              have hP : va_P D vwCl [oM q tr xtx ty xdc xdl xdb xar xac xwm xnd at9 sta sor val fau xnw xkp xta xtw td xhg, aI cI xdc 2 (updN dc 0 (dc 1)), aI cI xac 2 (updN acn 0 (acn 1)), aI cI xnw 729 (updN n9 22 0), aI cI xdl 6 dl, aI cI xdb 6 db, aI cI xar 12 a8, aI cI xwm 10 w8, aI cI xnd 60 d8, aZ cZ xkp 2 kp] H := hP
              have hD : va_D A [oM q tr xtx ty xdc xdl xdb xar xac xwm xnd at9 sta sor val fau xnw xkp xta xtw td xhg, aI cI xdc 2 (updN dc 0 (dc 1)), aI cI xac 2 (updN acn 0 (acn 1)), aI cI xnw 729 (updN n9 22 0), aI cI xdl 6 dl, aI cI xdb 6 db, aI cI xar 12 a8, aI cI xwm 10 w8, aI cI xnd 60 d8, aZ cZ xkp 2 kp] := hD
              refine lv_aload_n hx hb dX4_takeDraft_183 rfl (lv_at hl 0 rfl) ?_
              refine lv_iconst (v := nI 0) hx hb dX4_takeDraft_184 (by decide) ?_
              refine z_put (k := 19) zcX4 hC hK hP hD hS 0 rfl (by decide) lF_X4_98 rfl rfl rfl (Nat.le_of_ble_eq_true rfl) dX4_takeDraft_185 (fun H locs hP hD hS => ?_)
              have hP : va_P D vwCl [oM q tr xtx ty xdc xdl xdb xar xac xwm xnd at9 sta sor val fau xnw xkp xta xtw 0 xhg, aI cI xdc 2 (updN dc 0 (dc 1)), aI cI xac 2 (updN acn 0 (acn 1)), aI cI xnw 729 (updN n9 22 0), aI cI xdl 6 dl, aI cI xdb 6 db, aI cI xar 12 a8, aI cI xwm 10 w8, aI cI xnd 60 d8, aZ cZ xkp 2 kp] H := hP
              have hD : va_D A [oM q tr xtx ty xdc xdl xdb xar xac xwm xnd at9 sta sor val fau xnw xkp xta xtw 0 xhg, aI cI xdc 2 (updN dc 0 (dc 1)), aI cI xac 2 (updN acn 0 (acn 1)), aI cI xnw 729 (updN n9 22 0), aI cI xdl 6 dl, aI cI xdb 6 db, aI cI xar 12 a8, aI cI xwm 10 w8, aI cI xnd 60 d8, aZ cZ xkp 2 kp] := hD
              refine lv_aload_n hx hb dX4_takeDraft_188 rfl (lv_at hl 0 rfl) ?_
              refine z_get (k := 16) zcX4 hC hK hP 0 rfl (by decide) lF_X4_38 rfl dX4_takeDraft_189 ?_
              refine lv_iconst (v := nI 0) hx hb dX4_takeDraft_192 (by decide) ?_
              refine lv_iconst (v := nI 0) hx hb dX4_takeDraft_193 (by decide) ?_
              refine z_top (show (nI 0) = bI false from by rfl) ?_
              refine z_zst hC hK hP hD hS 9 rfl (by omega) (by decide) dX4_takeDraft_194 (fun H locs hP hD hS => ?_)
              have hP : va_P D vwCl [oM q tr xtx ty xdc xdl xdb xar xac xwm xnd at9 sta sor val fau xnw xkp xta xtw 0 xhg, aI cI xdc 2 (updN dc 0 (dc 1)), aI cI xac 2 (updN acn 0 (acn 1)), aI cI xnw 729 (updN n9 22 0), aI cI xdl 6 dl, aI cI xdb 6 db, aI cI xar 12 a8, aI cI xwm 10 w8, aI cI xnd 60 d8, aZ cZ xkp 2 (updB kp 0 false)] H := hP
              have hD : va_D A [oM q tr xtx ty xdc xdl xdb xar xac xwm xnd at9 sta sor val fau xnw xkp xta xtw 0 xhg, aI cI xdc 2 (updN dc 0 (dc 1)), aI cI xac 2 (updN acn 0 (acn 1)), aI cI xnw 729 (updN n9 22 0), aI cI xdl 6 dl, aI cI xdb 6 db, aI cI xar 12 a8, aI cI xwm 10 w8, aI cI xnd 60 d8, aZ cZ xkp 2 (updB kp 0 false)] := hD
              refine lv_aload_n hx hb dX4_takeDraft_195 rfl (lv_at hl 0 rfl) ?_
              refine z_get (k := 16) zcX4 hC hK hP 0 rfl (by decide) lF_X4_38 rfl dX4_takeDraft_196 ?_
              refine lv_iconst (v := nI 1) hx hb dX4_takeDraft_199 (by decide) ?_
              refine lv_iconst (v := nI 0) hx hb dX4_takeDraft_200 (by decide) ?_
              refine z_top (show (nI 0) = bI false from by rfl) ?_
              refine z_zst hC hK hP hD hS 9 rfl (by omega) (by decide) dX4_takeDraft_201 (fun H locs hP hD hS => ?_)
              have hP : va_P D vwCl [oM q tr xtx ty xdc xdl xdb xar xac xwm xnd at9 sta sor val fau xnw xkp xta xtw 0 xhg, aI cI xdc 2 (updN dc 0 (dc 1)), aI cI xac 2 (updN acn 0 (acn 1)), aI cI xnw 729 (updN n9 22 0), aI cI xdl 6 dl, aI cI xdb 6 db, aI cI xar 12 a8, aI cI xwm 10 w8, aI cI xnd 60 d8, aZ cZ xkp 2 (updB (updB kp 0 false) 1 false)] H := hP
              have hD : va_D A [oM q tr xtx ty xdc xdl xdb xar xac xwm xnd at9 sta sor val fau xnw xkp xta xtw 0 xhg, aI cI xdc 2 (updN dc 0 (dc 1)), aI cI xac 2 (updN acn 0 (acn 1)), aI cI xnw 729 (updN n9 22 0), aI cI xdl 6 dl, aI cI xdb 6 db, aI cI xar 12 a8, aI cI xwm 10 w8, aI cI xnd 60 d8, aZ cZ xkp 2 (updB (updB kp 0 false) 1 false)] := hD
              exact zw_v hC hr hlk hA h0 (by rw [hn9, ha8, hw8, hd8] at hP; exact hP) hS dX4_takeDraft_202
            · skip
              refine lv_aload_n hx hb dX4_takeDraft_117 rfl (lv_at hl 0 rfl) ?_
              refine z_get (k := 8) zcX4 hC hK hP 0 rfl (by decide) lF_X4_29 rfl dX4_takeDraft_118 ?_
              refine lv_iload_n hx hb dX4_takeDraft_121 rfl (lv_at hl 1 rfl) ?_
              refine lv_aload_n hx hb dX4_takeDraft_122 rfl (lv_at hl 0 rfl) ?_
              refine z_get (k := 8) zcX4 hC hK hP 0 rfl (by decide) lF_X4_29 rfl dX4_takeDraft_123 ?_
              refine lv_iconst (v := nI 5) hx hb dX4_takeDraft_126 (by decide) ?_
              refine lv_iload_n hx hb dX4_takeDraft_127 rfl (lv_at hl 1 rfl) ?_
              refine zi_add hC dX4_takeDraft_128 ?_
              refine z_ald hC hK hP 7 rfl (by omega) (by decide) dX4_takeDraft_129 ?_
              refine z_ast hC hK hP hD hS 7 rfl (by omega) (by decide) dX4_takeDraft_130 (fun H locs hP hD hS => ?_)
              have hP : va_P D vwCl [oM q tr xtx ty xdc xdl xdb xar xac xwm xnd at9 sta sor val fau xnw xkp xta xtw td xhg, aI cI xdc 2 (updN dc 0 (dc 1)), aI cI xac 2 (updN acn 0 (acn 1)), aI cI xnw 729 n9, aI cI xdl 6 dl, aI cI xdb 6 db, aI cI xar 12 a8, aI cI xwm 10 (updN w8 a (w8 (5 + a))), aI cI xnd 60 d8, aZ cZ xkp 2 kp] H := hP
              have hD : va_D A [oM q tr xtx ty xdc xdl xdb xar xac xwm xnd at9 sta sor val fau xnw xkp xta xtw td xhg, aI cI xdc 2 (updN dc 0 (dc 1)), aI cI xac 2 (updN acn 0 (acn 1)), aI cI xnw 729 n9, aI cI xdl 6 dl, aI cI xdb 6 db, aI cI xar 12 a8, aI cI xwm 10 (updN w8 a (w8 (5 + a))), aI cI xnd 60 d8, aZ cZ xkp 2 kp] := hD
              refine lv_iconst (v := nI 0) hx hb dX4_takeDraft_131 (by decide) ?_
              refine lv_istore_n (lv' := [(2, .int (nI 0)), (0, .ref q), (1, .int (nI a))]) hx hb dX4_takeDraft_132 rfl hl (by decide) rfl (fun ls hl => ?_)
              have hL133 : ∀ (z133 : Nat) (q9 : Nat) (d7 : Nat → Nat), 6 - q9 = z133 → (q9 ≤ 6) → (d7 = blk nd 0 (6 * a + q9) (fun m => nd (30 + m))) → ∀ (H : Heap) (locs : List Loc), va_P D vwCl [oM q tr xtx ty xdc xdl xdb xar xac xwm xnd at9 sta sor val fau xnw xkp xta xtw td xhg, aI cI xdc 2 (updN dc 0 (dc 1)), aI cI xac 2 (updN acn 0 (acn 1)), aI cI xnw 729 n9, aI cI xdl 6 dl, aI cI xdb 6 db, aI cI xar 12 a8, aI cI xwm 10 (updN w8 a (w8 (5 + a))), aI cI xnd 60 d7, aZ cZ xkp 2 kp] H → va_D A [oM q tr xtx ty xdc xdl xdb xar xac xwm xnd at9 sta sor val fau xnw xkp xta xtw td xhg, aI cI xdc 2 (updN dc 0 (dc 1)), aI cI xac 2 (updN acn 0 (acn 1)), aI cI xnw 729 n9, aI cI xdl 6 dl, aI cI xdb 6 db, aI cI xar 12 a8, aI cI xwm 10 (updN w8 a (w8 (5 + a))), aI cI xnd 60 d7, aZ cZ xkp 2 kp] → va_S A H0 H locs → ∀ ls : Array Slot, lv_has ls 3 [(0, .ref q), (1, .int (nI a)), (2, .int (nI q9))] → W p l e { frames := 0, cells := 0, slots := 0, locals := 0 } s m args below meth c H locs 0 0 (MQ below (qW D [oM q tr xtx ty xdc xdl xdb xar xac xwm xnd at9 sta sor val fau xnw xkp xta xtw td xhg, aI cI xdc 2 dc, aI cI xac 2 acn, aI cI xnw 729 nw, aI cI xdl 6 dl, aI cI xdb 6 db, aI cI xar 12 ar, aI cI xwm 10 wm, aI cI xnd 60 nd, aZ cZ xkp 2 kp] [oM q tr xtx ty xdc xdl xdb xar xac xwm xnd at9 sta sor val fau xnw xkp xta xtw 0 xhg, aI cI xdc 2 (updN dc 0 (dc 1)), aI cI xac 2 (updN acn 0 (acn 1)), aI cI xnw 729 (updN (tdN (blk nw 0 22 (fun _ => 0)) dl db (dc 1)) 22 0), aI cI xdl 6 dl, aI cI xdb 6 db, aI cI xar 12 (blk ar 0 (dc 1) (fun m => ar (6 + m))), aI cI xwm 10 (blk wm 0 (acn 1) (fun m => wm (5 + m))), aI cI xnd 60 (blk nd 0 (6 * acn 1) (fun m => nd (30 + m))), aZ cZ xkp 2 (updB (updB kp 0 false) 1 false)] (none)) args s 0 0 (zA [oM q tr xtx ty xdc xdl xdb xar xac xwm xnd at9 sta sor val fau xnw xkp xta xtw td xhg, aI cI xdc 2 dc, aI cI xac 2 acn, aI cI xnw 729 nw, aI cI xdl 6 dl, aI cI xdb 6 db, aI cI xar 12 ar, aI cI xwm 10 wm, aI cI xnd 60 nd, aZ cZ xkp 2 kp])) (F0 m 133 ls []) := by
                intro z133
                induction z133 using Nat.strongRecOn with
                | _ z133 ih133 =>
                intro q9 d7 hz133 hq hd7 H locs hP hD hS ls hl
                refine lv_iload_n hx hb dX4_takeDraft_133 rfl (lv_at hl 2 rfl) ?_
                refine lv_bipush (v := nI 6) hx hb dX4_takeDraft_134 (by decide) ?_
                refine zc_ge (tgt := 169) hC dX4_takeDraft_136 (by decide) (by omega) (by omega) (fun c136 => ?_) (fun c136 => ?_)
                · skip
                  refine lv_iinc (v := nI (a + 1)) (lv' := [(1, .int (nI (a + 1))), (0, .ref q), (2, .int (nI q9))]) hx hb dX4_takeDraft_169 hl (k := 1) rfl (z_inc a 1) (by decide) rfl (fun ls hl => ?_)
                  refine lv_goto (tgt := 107) hx hb dX4_takeDraft_172 (by decide) ?_
                  exact ih107 (acn 1 - (a + 1)) (by omega) (a + 1) (updN w8 a (w8 (5 + a))) d7 rfl (by omega) (by rw [show w8 (5 + a) = wm (5 + a) by rw [hw8, blk_hi (by omega)], hw8, ← blk_s, Nat.zero_add]) (by rw [hd7, show 6 * (a + 1) = 6 * a + q9 by omega]) _ _ hP hD hS ls (lv_sub hl [1, 0] rfl)
                · skip
                  refine lv_aload_n hx hb dX4_takeDraft_139 rfl (lv_at hl 0 rfl) ?_
                  refine z_get (k := 9) zcX4 hC hK hP 0 rfl (by decide) lF_X4_32 rfl dX4_takeDraft_140 ?_
                  refine lv_bipush (v := nI 6) hx hb dX4_takeDraft_143 (by decide) ?_
                  refine lv_iload_n hx hb dX4_takeDraft_145 rfl (lv_at hl 1 rfl) ?_
                  refine zi_mul hC dX4_takeDraft_146 ?_
                  refine lv_iload_n hx hb dX4_takeDraft_147 rfl (lv_at hl 2 rfl) ?_
                  refine zi_add hC dX4_takeDraft_148 ?_
                  refine lv_aload_n hx hb dX4_takeDraft_149 rfl (lv_at hl 0 rfl) ?_
                  refine z_get (k := 9) zcX4 hC hK hP 0 rfl (by decide) lF_X4_32 rfl dX4_takeDraft_150 ?_
                  refine lv_bipush (v := nI 6) hx hb dX4_takeDraft_153 (by decide) ?_
                  refine lv_iconst (v := nI 5) hx hb dX4_takeDraft_155 (by decide) ?_
                  refine lv_iload_n hx hb dX4_takeDraft_156 rfl (lv_at hl 1 rfl) ?_
                  refine zi_add hC dX4_takeDraft_157 ?_
                  refine zi_mul hC dX4_takeDraft_158 ?_
                  refine lv_iload_n hx hb dX4_takeDraft_159 rfl (lv_at hl 2 rfl) ?_
                  refine zi_add hC dX4_takeDraft_160 ?_
                  refine z_ald hC hK hP 8 rfl (by omega) (by decide) dX4_takeDraft_161 ?_
                  refine z_ast hC hK hP hD hS 8 rfl (by omega) (by decide) dX4_takeDraft_162 (fun H locs hP hD hS => ?_)
                  have hP : va_P D vwCl [oM q tr xtx ty xdc xdl xdb xar xac xwm xnd at9 sta sor val fau xnw xkp xta xtw td xhg, aI cI xdc 2 (updN dc 0 (dc 1)), aI cI xac 2 (updN acn 0 (acn 1)), aI cI xnw 729 n9, aI cI xdl 6 dl, aI cI xdb 6 db, aI cI xar 12 a8, aI cI xwm 10 (updN w8 a (w8 (5 + a))), aI cI xnd 60 (updN d7 ((6 * a) + q9) (d7 ((6 * (5 + a)) + q9))), aZ cZ xkp 2 kp] H := hP
                  have hD : va_D A [oM q tr xtx ty xdc xdl xdb xar xac xwm xnd at9 sta sor val fau xnw xkp xta xtw td xhg, aI cI xdc 2 (updN dc 0 (dc 1)), aI cI xac 2 (updN acn 0 (acn 1)), aI cI xnw 729 n9, aI cI xdl 6 dl, aI cI xdb 6 db, aI cI xar 12 a8, aI cI xwm 10 (updN w8 a (w8 (5 + a))), aI cI xnd 60 (updN d7 ((6 * a) + q9) (d7 ((6 * (5 + a)) + q9))), aZ cZ xkp 2 kp] := hD
                  refine lv_iinc (v := nI (q9 + 1)) (lv' := [(2, .int (nI (q9 + 1))), (0, .ref q), (1, .int (nI a))]) hx hb dX4_takeDraft_163 hl (k := 2) rfl (z_inc q9 1) (by decide) rfl (fun ls hl => ?_)
                  refine lv_goto (tgt := 133) hx hb dX4_takeDraft_166 (by decide) ?_
                  exact ih133 (6 - (q9 + 1)) (by omega) (q9 + 1) (updN d7 ((6 * a) + q9) (d7 ((6 * (5 + a)) + q9))) rfl (by omega) (by rw [show d7 (6 * (5 + a) + q9) = nd (30 + (6 * a + q9)) by rw [hd7, blk_hi (by omega), show 6 * (5 + a) + q9 = 30 + (6 * a + q9) by omega], hd7, show 6 * a + (q9 + 1) = (6 * a + q9) + 1 by omega, ← blk_s, Nat.zero_add]) _ _ hP hD hS ls (lv_sub hl [1, 2, 0] rfl)
              exact hL133 _ 0 d8 rfl (by omega) (by exact hd8) _ _ hP hD hS ls (lv_sub hl [1, 2, 0] rfl)
          exact hL107 _ 0 wm nd rfl (by omega) (by exact (blk_0 _ _ _).symm) (by exact (blk_0 _ _ _).symm) _ _ hP hD hS ls (lv_sub hl [1, 0] rfl)
        · skip
          refine lv_aload_n hx hb dX4_takeDraft_57 rfl (lv_at hl 0 rfl) ?_
          refine z_get (k := 15) zcX4 hC hK hP 0 rfl (by decide) lF_X4_35 rfl dX4_takeDraft_58 ?_
          refine lv_iload_n hx hb dX4_takeDraft_61 rfl (lv_at hl 1 rfl) ?_
          refine lv_aload_n hx hb dX4_takeDraft_62 rfl (lv_at hl 0 rfl) ?_
          refine z_get (k := 4) zcX4 hC hK hP 0 rfl (by decide) lF_X4_17 rfl dX4_takeDraft_63 ?_
          refine lv_iload_n hx hb dX4_takeDraft_66 rfl (lv_at hl 1 rfl) ?_
          refine z_ald hC hK hP 4 rfl (by omega) (by decide) dX4_takeDraft_67 ?_
          refine z_ast hC hK hP hD hS 3 rfl (by omega) (by decide) dX4_takeDraft_68 (fun H locs hP hD hS => ?_)
          have hP : va_P D vwCl [oM q tr xtx ty xdc xdl xdb xar xac xwm xnd at9 sta sor val fau xnw xkp xta xtw td xhg, aI cI xdc 2 (updN dc 0 (dc 1)), aI cI xac 2 (updN acn 0 (acn 1)), aI cI xnw 729 (updN n9 d (dl d)), aI cI xdl 6 dl, aI cI xdb 6 db, aI cI xar 12 a8, aI cI xwm 10 wm, aI cI xnd 60 nd, aZ cZ xkp 2 kp] H := hP
          have hD : va_D A [oM q tr xtx ty xdc xdl xdb xar xac xwm xnd at9 sta sor val fau xnw xkp xta xtw td xhg, aI cI xdc 2 (updN dc 0 (dc 1)), aI cI xac 2 (updN acn 0 (acn 1)), aI cI xnw 729 (updN n9 d (dl d)), aI cI xdl 6 dl, aI cI xdb 6 db, aI cI xar 12 a8, aI cI xwm 10 wm, aI cI xnd 60 nd, aZ cZ xkp 2 kp] := hD
          refine lv_aload_n hx hb dX4_takeDraft_69 rfl (lv_at hl 0 rfl) ?_
          refine z_get (k := 15) zcX4 hC hK hP 0 rfl (by decide) lF_X4_35 rfl dX4_takeDraft_70 ?_
          refine lv_bipush (v := nI 12) hx hb dX4_takeDraft_73 (by decide) ?_
          refine lv_iload_n hx hb dX4_takeDraft_75 rfl (lv_at hl 1 rfl) ?_
          refine zi_add hC dX4_takeDraft_76 ?_
          refine lv_aload_n hx hb dX4_takeDraft_77 rfl (lv_at hl 0 rfl) ?_
          refine z_get (k := 5) zcX4 hC hK hP 0 rfl (by decide) lF_X4_20 rfl dX4_takeDraft_78 ?_
          refine lv_iload_n hx hb dX4_takeDraft_81 rfl (lv_at hl 1 rfl) ?_
          refine z_ald hC hK hP 5 rfl (by omega) (by decide) dX4_takeDraft_82 ?_
          refine z_ast hC hK hP hD hS 3 rfl (by omega) (by decide) dX4_takeDraft_83 (fun H locs hP hD hS => ?_)
          have hP : va_P D vwCl [oM q tr xtx ty xdc xdl xdb xar xac xwm xnd at9 sta sor val fau xnw xkp xta xtw td xhg, aI cI xdc 2 (updN dc 0 (dc 1)), aI cI xac 2 (updN acn 0 (acn 1)), aI cI xnw 729 (updN (updN n9 d (dl d)) (12 + d) (db d)), aI cI xdl 6 dl, aI cI xdb 6 db, aI cI xar 12 a8, aI cI xwm 10 wm, aI cI xnd 60 nd, aZ cZ xkp 2 kp] H := hP
          have hD : va_D A [oM q tr xtx ty xdc xdl xdb xar xac xwm xnd at9 sta sor val fau xnw xkp xta xtw td xhg, aI cI xdc 2 (updN dc 0 (dc 1)), aI cI xac 2 (updN acn 0 (acn 1)), aI cI xnw 729 (updN (updN n9 d (dl d)) (12 + d) (db d)), aI cI xdl 6 dl, aI cI xdb 6 db, aI cI xar 12 a8, aI cI xwm 10 wm, aI cI xnd 60 nd, aZ cZ xkp 2 kp] := hD
          refine lv_aload_n hx hb dX4_takeDraft_84 rfl (lv_at hl 0 rfl) ?_
          refine z_get (k := 6) zcX4 hC hK hP 0 rfl (by decide) lF_X4_23 rfl dX4_takeDraft_85 ?_
          refine lv_iload_n hx hb dX4_takeDraft_88 rfl (lv_at hl 1 rfl) ?_
          refine lv_aload_n hx hb dX4_takeDraft_89 rfl (lv_at hl 0 rfl) ?_
          refine z_get (k := 6) zcX4 hC hK hP 0 rfl (by decide) lF_X4_23 rfl dX4_takeDraft_90 ?_
          refine lv_bipush (v := nI 6) hx hb dX4_takeDraft_93 (by decide) ?_
          refine lv_iload_n hx hb dX4_takeDraft_95 rfl (lv_at hl 1 rfl) ?_
          refine zi_add hC dX4_takeDraft_96 ?_
          refine z_ald hC hK hP 6 rfl (by omega) (by decide) dX4_takeDraft_97 ?_
          refine z_ast hC hK hP hD hS 6 rfl (by omega) (by decide) dX4_takeDraft_98 (fun H locs hP hD hS => ?_)
          have hP : va_P D vwCl [oM q tr xtx ty xdc xdl xdb xar xac xwm xnd at9 sta sor val fau xnw xkp xta xtw td xhg, aI cI xdc 2 (updN dc 0 (dc 1)), aI cI xac 2 (updN acn 0 (acn 1)), aI cI xnw 729 (updN (updN n9 d (dl d)) (12 + d) (db d)), aI cI xdl 6 dl, aI cI xdb 6 db, aI cI xar 12 (updN a8 d (a8 (6 + d))), aI cI xwm 10 wm, aI cI xnd 60 nd, aZ cZ xkp 2 kp] H := hP
          have hD : va_D A [oM q tr xtx ty xdc xdl xdb xar xac xwm xnd at9 sta sor val fau xnw xkp xta xtw td xhg, aI cI xdc 2 (updN dc 0 (dc 1)), aI cI xac 2 (updN acn 0 (acn 1)), aI cI xnw 729 (updN (updN n9 d (dl d)) (12 + d) (db d)), aI cI xdl 6 dl, aI cI xdb 6 db, aI cI xar 12 (updN a8 d (a8 (6 + d))), aI cI xwm 10 wm, aI cI xnd 60 nd, aZ cZ xkp 2 kp] := hD
          refine lv_iinc (v := nI (d + 1)) (lv' := [(1, .int (nI (d + 1))), (0, .ref q)]) hx hb dX4_takeDraft_99 hl (k := 1) rfl (z_inc d 1) (by decide) rfl (fun ls hl => ?_)
          refine lv_goto (tgt := 47) hx hb dX4_takeDraft_102 (by decide) ?_
          exact ih47 (dc 1 - (d + 1)) (by omega) (d + 1) (updN (updN n9 d (dl d)) (12 + d) (db d)) (updN a8 d (a8 (6 + d))) rfl (by omega) (by rw [hn9, tdN_s]) (by rw [show a8 (6 + d) = ar (6 + d) by rw [ha8, blk_hi (by omega)], ha8, ← blk_s, Nat.zero_add]) _ _ hP hD hS ls (lv_sub hl [1, 0] rfl)
      exact hL47 _ 0 n8 ar rfl (by omega) (by rw [hn8, show i9 = 22 by omega]; rfl) (by exact (blk_0 _ _ _).symm) _ _ hP hD hS ls (lv_sub hl [1, 0] rfl)
    · skip
      refine lv_aload_n hx hb dX4_takeDraft_32 rfl (lv_at hl 0 rfl) ?_
      refine z_get (k := 15) zcX4 hC hK hP 0 rfl (by decide) lF_X4_35 rfl dX4_takeDraft_33 ?_
      refine lv_iload_n hx hb dX4_takeDraft_36 rfl (lv_at hl 1 rfl) ?_
      refine lv_iconst (v := nI 0) hx hb dX4_takeDraft_37 (by decide) ?_
      refine z_ast hC hK hP hD hS 3 rfl (by omega) (by decide) dX4_takeDraft_38 (fun H locs hP hD hS => ?_)
      have hP : va_P D vwCl [oM q tr xtx ty xdc xdl xdb xar xac xwm xnd at9 sta sor val fau xnw xkp xta xtw td xhg, aI cI xdc 2 (updN dc 0 (dc 1)), aI cI xac 2 (updN acn 0 (acn 1)), aI cI xnw 729 (updN n8 i9 0), aI cI xdl 6 dl, aI cI xdb 6 db, aI cI xar 12 ar, aI cI xwm 10 wm, aI cI xnd 60 nd, aZ cZ xkp 2 kp] H := hP
      have hD : va_D A [oM q tr xtx ty xdc xdl xdb xar xac xwm xnd at9 sta sor val fau xnw xkp xta xtw td xhg, aI cI xdc 2 (updN dc 0 (dc 1)), aI cI xac 2 (updN acn 0 (acn 1)), aI cI xnw 729 (updN n8 i9 0), aI cI xdl 6 dl, aI cI xdb 6 db, aI cI xar 12 ar, aI cI xwm 10 wm, aI cI xnd 60 nd, aZ cZ xkp 2 kp] := hD
      refine lv_iinc (v := nI (i9 + 1)) (lv' := [(1, .int (nI (i9 + 1))), (0, .ref q)]) hx hb dX4_takeDraft_39 hl (k := 1) rfl (z_inc i9 1) (by decide) rfl (fun ls hl => ?_)
      refine lv_goto (tgt := 26) hx hb dX4_takeDraft_42 (by decide) ?_
      exact ih26 (22 - (i9 + 1)) (by omega) (i9 + 1) (updN n8 i9 0) rfl (by omega) (by rw [hn8, ← blk_s, Nat.zero_add]) _ _ hP hD hS ls (lv_sub hl [1, 0] rfl)
  exact hL26 _ 0 nw rfl (by omega) (by exact (blk_0 _ _ _).symm) _ _ hP hD hS ls (lv_sub hl [1, 0] rfl)
