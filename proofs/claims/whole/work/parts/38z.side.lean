set_option maxHeartbeats 4000000 in
set_option maxRecDepth 100000 in
theorem c_X4_sideboard_bad {l : Launch} {D : va_G} {cI cZ cB cR : ClassId} {q xtx ty xdc xdl xdb xar xac xwm xnd at9 sta sor val xnw xkp xta xtw td xhg : Nat} {tr : Int64} {fau : Int32} {dc acn dl db ar wm nd nw : Nat → Nat} {tx : Nat → Int32} {kp : Nat → Bool} {by_ : Nat → Nat} {E9 : Nat × Md}  (hlen : ty ≤ 150) (htx : ∀ i, i < ty → tx i &&& nI 255 = nI (by_ i)) (hby : ∀ i, by_ i < 256) (hE9 : sbF by_ ty 400 0 (((stp by_ ty 0).1, (stp by_ ty 0).2.1, (stp by_ ty 0).2.2.1, (stp by_ ty 0).2.2.2, -9), updN dc 1 0, updN acn 1 0, dl, db, ar, wm, nd) = E9) (hbad : E9.2.1.2.2.2.2 ≠ -9) : mW l yX4_sideboard cX4_sideboard 3 (some .int) 6 135 D cI cZ cB cR [oM q tr xtx ty xdc xdl xdb xar xac xwm xnd at9 sta sor val fau xnw xkp xta xtw td xhg, aB cB xtx 150 tx, aI cI xdc 2 dc, aI cI xac 2 acn, aI cI xdl 6 dl, aI cI xdb 6 db, aI cI xar 12 ar, aI cI xwm 10 wm, aI cI xnd 60 nd, aI cI xnw 729 nw, aZ cZ xkp 2 kp] [oM q tr xtx ty xdc xdl xdb xar xac xwm xnd E9.2.1.1 E9.2.1.2.1 E9.2.1.2.2.1 E9.2.1.2.2.2.1 E9.2.1.2.2.2.2 xnw xkp xta xtw td xhg, aB cB xtx 150 tx, aI cI xdc 2 E9.2.2.1, aI cI xac 2 E9.2.2.2.1, aI cI xdl 6 E9.2.2.2.2.1, aI cI xdb 6 E9.2.2.2.2.2.1, aI cI xar 12 E9.2.2.2.2.2.2.1, aI cI xwm 10 E9.2.2.2.2.2.2.2.1, aI cI xnd 60 E9.2.2.2.2.2.2.2.2, aI cI xnw 729 nw, aZ cZ xkp 2 kp] [.ref q] (some (.int ((-10) - E9.2.1.2.2.2.2))) := by
  refine mW_of rfl (Nat.le_of_ble_eq_true rfl) ?_
  intro p e s m args below meth c hC hr hlk hK A hA hD H0 h0 hP hS ls hl
  have hP : va_P D vwCl [oM q tr xtx ty xdc xdl xdb xar xac xwm xnd at9 sta sor val fau xnw xkp xta xtw td xhg, aB cB xtx 150 tx, aI cI xdc 2 dc, aI cI xac 2 acn, aI cI xdl 6 dl, aI cI xdb 6 db, aI cI xar 12 ar, aI cI xwm 10 wm, aI cI xnd 60 nd, aI cI xnw 729 nw, aZ cZ xkp 2 kp] H0 := hP
  have hl : lv_has ls 3 [(0, .ref q)] := hl
  obtain ⟨hx, hb, hml, hown, hts⟩ := id hC
  refine lv_aload_n hx hb dX4_sideboard_0 rfl (lv_at hl 0 rfl) ?_
  refine lv_iconst (v := nI 0) hx hb dX4_sideboard_1 (by decide) ?_
  refine z_put (k := 10) zcX4 hC hK hP hD hS 0 rfl (by decide) lF_X4_65 rfl rfl rfl (Nat.le_of_ble_eq_true rfl) dX4_sideboard_2 (fun H locs hP hD hS => ?_)
  have hP : va_P D vwCl [oM q tr xtx ty xdc xdl xdb xar xac xwm xnd 0 sta sor val fau xnw xkp xta xtw td xhg, aB cB xtx 150 tx, aI cI xdc 2 dc, aI cI xac 2 acn, aI cI xdl 6 dl, aI cI xdb 6 db, aI cI xar 12 ar, aI cI xwm 10 wm, aI cI xnd 60 nd, aI cI xnw 729 nw, aZ cZ xkp 2 kp] H := hP
  have hD : va_D A [oM q tr xtx ty xdc xdl xdb xar xac xwm xnd 0 sta sor val fau xnw xkp xta xtw td xhg, aB cB xtx 150 tx, aI cI xdc 2 dc, aI cI xac 2 acn, aI cI xdl 6 dl, aI cI xdb 6 db, aI cI xar 12 ar, aI cI xwm 10 wm, aI cI xnd 60 nd, aI cI xnw 729 nw, aZ cZ xkp 2 kp] := hD
  refine lv_aload_n hx hb dX4_sideboard_5 rfl (lv_at hl 0 rfl) ?_
  refine lv_bipush (v := (-9)) hx hb dX4_sideboard_6 (by decide) ?_
  refine z_put (k := 14) zcX4 hC hK hP hD hS 0 rfl (by decide) lF_X4_81 rfl rfl rfl (Nat.le_of_ble_eq_true rfl) dX4_sideboard_8 (fun H locs hP hD hS => ?_)
  have hP : va_P D vwCl [oM q tr xtx ty xdc xdl xdb xar xac xwm xnd 0 sta sor val (-9) xnw xkp xta xtw td xhg, aB cB xtx 150 tx, aI cI xdc 2 dc, aI cI xac 2 acn, aI cI xdl 6 dl, aI cI xdb 6 db, aI cI xar 12 ar, aI cI xwm 10 wm, aI cI xnd 60 nd, aI cI xnw 729 nw, aZ cZ xkp 2 kp] H := hP
  have hD : va_D A [oM q tr xtx ty xdc xdl xdb xar xac xwm xnd 0 sta sor val (-9) xnw xkp xta xtw td xhg, aB cB xtx 150 tx, aI cI xdc 2 dc, aI cI xac 2 acn, aI cI xdl 6 dl, aI cI xdb 6 db, aI cI xar 12 ar, aI cI xwm 10 wm, aI cI xnd 60 nd, aI cI xnw 729 nw, aZ cZ xkp 2 kp] := hD
  refine lv_aload_n hx hb dX4_sideboard_11 rfl (lv_at hl 0 rfl) ?_
  refine zXV (As := []) (b := q) (rest := []) hC (c_X4_plain (l := l) ) lM_X4_51 vM_X4_plain (by decide) hK hP hD hS [0, 2, 3] [q, xdc, xac] rfl (by decide) rfl rfl ⟨rfl, rfl, rfl⟩ rfl hl.1 rfl (Nat.le_of_ble_eq_true rfl) dX4_sideboard_12 (by decide) (fun H locs hP hD hS => ?_)
  have hP : va_P D vwCl [oM q tr xtx ty xdc xdl xdb xar xac xwm xnd 0 sta sor val (-9) xnw xkp xta xtw td xhg, aB cB xtx 150 tx, aI cI xdc 2 (updN dc 1 0), aI cI xac 2 (updN acn 1 0), aI cI xdl 6 dl, aI cI xdb 6 db, aI cI xar 12 ar, aI cI xwm 10 wm, aI cI xnd 60 nd, aI cI xnw 729 nw, aZ cZ xkp 2 kp] H := hP
  have hD : va_D A [oM q tr xtx ty xdc xdl xdb xar xac xwm xnd 0 sta sor val (-9) xnw xkp xta xtw td xhg, aB cB xtx 150 tx, aI cI xdc 2 (updN dc 1 0), aI cI xac 2 (updN acn 1 0), aI cI xdl 6 dl, aI cI xdb 6 db, aI cI xar 12 ar, aI cI xwm 10 wm, aI cI xnd 60 nd, aI cI xnw 729 nw, aZ cZ xkp 2 kp] := hD
  show W _ _ _ _ _ _ _ _ _ _ _ _ _ _ _ (F0 m 15 ls [])
  refine lv_iconst (v := nI 0) hx hb dX4_sideboard_15 (by decide) ?_
  refine lv_istore_n (lv' := [(1, .int (nI 0)), (0, .ref q)]) hx hb dX4_sideboard_16 rfl hl (by decide) rfl (fun ls hl => ?_)
  refine lv_aload_n hx hb dX4_sideboard_17 rfl (lv_at hl 1 rfl) ?_
  refine zXV (As := []) (b := q) (rest := []) hC (c_X4_step (l := l) (hlen := hlen) (htx := htx) (hby := hby) (hat := Nat.zero_le _)) lM_X4_84 vM_X4_step (by decide) hK hP hD hS [0, 1] [q, xtx] rfl (by decide) rfl rfl ⟨rfl, rfl, rfl⟩ rfl hl.1 rfl (Nat.le_of_ble_eq_true rfl) dX4_sideboard_18 (by decide) (fun H locs hP hD hS => ?_)
  have hP : va_P D vwCl [oM q tr xtx ty xdc xdl xdb xar xac xwm xnd ((stp by_ ty 0).1) ((stp by_ ty 0).2.1) ((stp by_ ty 0).2.2.1) ((stp by_ ty 0).2.2.2) (-9) xnw xkp xta xtw td xhg, aB cB xtx 150 tx, aI cI xdc 2 (updN dc 1 0), aI cI xac 2 (updN acn 1 0), aI cI xdl 6 dl, aI cI xdb 6 db, aI cI xar 12 ar, aI cI xwm 10 wm, aI cI xnd 60 nd, aI cI xnw 729 nw, aZ cZ xkp 2 kp] H := hP
  have hD : va_D A [oM q tr xtx ty xdc xdl xdb xar xac xwm xnd ((stp by_ ty 0).1) ((stp by_ ty 0).2.1) ((stp by_ ty 0).2.2.1) ((stp by_ ty 0).2.2.2) (-9) xnw xkp xta xtw td xhg, aB cB xtx 150 tx, aI cI xdc 2 (updN dc 1 0), aI cI xac 2 (updN acn 1 0), aI cI xdl 6 dl, aI cI xdb 6 db, aI cI xar 12 ar, aI cI xwm 10 wm, aI cI xnd 60 nd, aI cI xnw 729 nw, aZ cZ xkp 2 kp] := hD
  show W _ _ _ _ _ _ _ _ _ _ _ _ _ _ _ (F0 m 21 ls [])
  have hL21 : ∀ (z21 : Nat) (c9 : Nat) (D9 : Md) (k9 : Nat), mu ty D9.1 = z21 → (wfD ty D9) → (mu ty D9.1 < k9) → (sbF by_ ty k9 c9 D9 = E9) → ∀ (H : Heap) (locs : List Loc), va_P D vwCl [oM q tr xtx ty xdc xdl xdb xar xac xwm xnd D9.1.1 D9.1.2.1 D9.1.2.2.1 D9.1.2.2.2.1 D9.1.2.2.2.2 xnw xkp xta xtw td xhg, aB cB xtx 150 tx, aI cI xdc 2 D9.2.1, aI cI xac 2 D9.2.2.1, aI cI xdl 6 D9.2.2.2.1, aI cI xdb 6 D9.2.2.2.2.1, aI cI xar 12 D9.2.2.2.2.2.1, aI cI xwm 10 D9.2.2.2.2.2.2.1, aI cI xnd 60 D9.2.2.2.2.2.2.2, aI cI xnw 729 nw, aZ cZ xkp 2 kp] H → va_D A [oM q tr xtx ty xdc xdl xdb xar xac xwm xnd D9.1.1 D9.1.2.1 D9.1.2.2.1 D9.1.2.2.2.1 D9.1.2.2.2.2 xnw xkp xta xtw td xhg, aB cB xtx 150 tx, aI cI xdc 2 D9.2.1, aI cI xac 2 D9.2.2.1, aI cI xdl 6 D9.2.2.2.1, aI cI xdb 6 D9.2.2.2.2.1, aI cI xar 12 D9.2.2.2.2.2.1, aI cI xwm 10 D9.2.2.2.2.2.2.1, aI cI xnd 60 D9.2.2.2.2.2.2.2, aI cI xnw 729 nw, aZ cZ xkp 2 kp] → va_S A H0 H locs → ∀ ls : Array Slot, lv_has ls 3 [(0, .ref q), (1, .int (nI c9))] → W p l e { frames := 6, cells := 0, slots := 0, locals := 135 } s m args below meth c H locs 0 0 (MQ below (qW D [oM q tr xtx ty xdc xdl xdb xar xac xwm xnd at9 sta sor val fau xnw xkp xta xtw td xhg, aB cB xtx 150 tx, aI cI xdc 2 dc, aI cI xac 2 acn, aI cI xdl 6 dl, aI cI xdb 6 db, aI cI xar 12 ar, aI cI xwm 10 wm, aI cI xnd 60 nd, aI cI xnw 729 nw, aZ cZ xkp 2 kp] [oM q tr xtx ty xdc xdl xdb xar xac xwm xnd E9.2.1.1 E9.2.1.2.1 E9.2.1.2.2.1 E9.2.1.2.2.2.1 E9.2.1.2.2.2.2 xnw xkp xta xtw td xhg, aB cB xtx 150 tx, aI cI xdc 2 E9.2.2.1, aI cI xac 2 E9.2.2.2.1, aI cI xdl 6 E9.2.2.2.2.1, aI cI xdb 6 E9.2.2.2.2.2.1, aI cI xar 12 E9.2.2.2.2.2.2.1, aI cI xwm 10 E9.2.2.2.2.2.2.2.1, aI cI xnd 60 E9.2.2.2.2.2.2.2.2, aI cI xnw 729 nw, aZ cZ xkp 2 kp] (some (.int ((-10) - E9.2.1.2.2.2.2)))) args s 0 0 (zA [oM q tr xtx ty xdc xdl xdb xar xac xwm xnd at9 sta sor val fau xnw xkp xta xtw td xhg, aB cB xtx 150 tx, aI cI xdc 2 dc, aI cI xac 2 acn, aI cI xdl 6 dl, aI cI xdb 6 db, aI cI xar 12 ar, aI cI xwm 10 wm, aI cI xnd 60 nd, aI cI xnw 729 nw, aZ cZ xkp 2 kp])) (F0 m 21 ls []) := by
    intro z21
    induction z21 using Nat.strongRecOn with
    | _ z21 ih21 =>
    intro c9 D9 k9 hz21 hw hk9 hq9 H locs hP hD hS ls hl
    refine lv_aload_n hx hb dX4_sideboard_21 rfl (lv_at hl 0 rfl) ?_
    refine z_get (k := 14) zcX4 hC hK hP 0 rfl (by decide) lF_X4_81 rfl dX4_sideboard_22 ?_
    refine lv_bipush (v := (-9)) hx hb dX4_sideboard_25 (by decide) ?_
    refine lv_icmp_ne (tgt := 91) hx hb dX4_sideboard_27 (by decide) (fun c27 => ?_) (fun c27 => ?_)
    · skip
      refine lv_aload_n hx hb dX4_sideboard_91 rfl (lv_at hl 0 rfl) ?_
      refine z_get (k := 14) zcX4 hC hK hP 0 rfl (by decide) lF_X4_81 rfl dX4_sideboard_92 ?_
      refine lv_bipush (v := (-9)) hx hb dX4_sideboard_95 (by decide) ?_
      refine lv_icmp_eq (tgt := 108) hx hb dX4_sideboard_97 (by decide) (fun c97 => by exfalso; exact hbad (by rw [show E9 = (c9, D9) from hq9.symm.trans (sbF_n (fun h => c27 h.1))]; exact c97)) (fun c97 => ?_)
      refine lv_bipush (v := (-10)) hx hb dX4_sideboard_100 (by decide) ?_
      refine lv_aload_n hx hb dX4_sideboard_102 rfl (lv_at hl 0 rfl) ?_
      refine z_get (k := 14) zcX4 hC hK hP 0 rfl (by decide) lF_X4_81 rfl dX4_sideboard_103 ?_
      refine lv_isub hx hb dX4_sideboard_106 ?_
      exact zw_i hC hr hlk hA h0 (by rw [show E9 = (c9, D9) from hq9.symm.trans (sbF_n (fun h => c27 h.1))]; exact hP) hS (by rw [show E9 = (c9, D9) from hq9.symm.trans (sbF_n (fun h => c27 h.1))]) dX4_sideboard_107
    · skip
      refine lv_aload_n hx hb dX4_sideboard_30 rfl (lv_at hl 0 rfl) ?_
      refine z_get (k := 12) zcX4 hC hK hP 0 rfl (by decide) lF_X4_78 rfl dX4_sideboard_31 ?_
      refine lv_iconst (v := nI 3) hx hb dX4_sideboard_34 (by decide) ?_
      have b35 := hw.1.2.2.1
      refine zc_eq (tgt := 91) hC dX4_sideboard_35 (by decide) (by omega) (by omega) (fun c35 => ?_) (fun c35 => ?_)
      · skip
        refine lv_aload_n hx hb dX4_sideboard_91 rfl (lv_at hl 0 rfl) ?_
        refine z_get (k := 14) zcX4 hC hK hP 0 rfl (by decide) lF_X4_81 rfl dX4_sideboard_92 ?_
        refine lv_bipush (v := (-9)) hx hb dX4_sideboard_95 (by decide) ?_
        refine lv_icmp_eq (tgt := 108) hx hb dX4_sideboard_97 (by decide) (fun c97 => by exfalso; exact hbad (by rw [show E9 = (c9, D9) from hq9.symm.trans (sbF_n (fun h => h.2 c35))]; exact c97)) (fun c97 => ?_)
        refine lv_bipush (v := (-10)) hx hb dX4_sideboard_100 (by decide) ?_
        refine lv_aload_n hx hb dX4_sideboard_102 rfl (lv_at hl 0 rfl) ?_
        refine z_get (k := 14) zcX4 hC hK hP 0 rfl (by decide) lF_X4_81 rfl dX4_sideboard_103 ?_
        refine lv_isub hx hb dX4_sideboard_106 ?_
        exact zw_i hC hr hlk hA h0 (by rw [show E9 = (c9, D9) from hq9.symm.trans (sbF_n (fun h => h.2 c35))]; exact hP) hS (by rw [show E9 = (c9, D9) from hq9.symm.trans (sbF_n (fun h => h.2 c35))]) dX4_sideboard_107
      · skip
        refine lv_aload_n hx hb dX4_sideboard_38 rfl (lv_at hl 0 rfl) ?_
        refine z_get (k := 12) zcX4 hC hK hP 0 rfl (by decide) lF_X4_78 rfl dX4_sideboard_39 ?_
        refine lv_istore_n (lv' := [(2, .int (nI D9.1.2.2.1)), (0, .ref q), (1, .int (nI c9))]) hx hb dX4_sideboard_42 rfl hl (by decide) rfl (fun ls hl => ?_)
        refine lv_aload_n hx hb dX4_sideboard_43 rfl (lv_at hl 1 rfl) ?_
        refine lv_aload_n hx hb dX4_sideboard_44 rfl (lv_at hl 1 rfl) ?_
        refine lv_iload_n hx hb dX4_sideboard_45 rfl (lv_at hl 0 rfl) ?_
        refine zRV (As := [.int (nI D9.1.2.2.1)]) (b := q) (rest := [.ref q]) hC (c_X4_mayBe (l := l) (hx9 := hw.1.2.2.1) (hn1 := hw.2.1) (ha1 := hw.2.2)) lM_X4_101 vM_X4_mayBe (by decide) hK hP [0, 2, 3] rfl ⟨rfl, rfl, rfl⟩ rfl hl.1 rfl (Nat.le_of_ble_eq_true rfl) dX4_sideboard_46 (by decide) ?_
        show W _ _ _ _ _ _ _ _ _ _ _ _ _ _ _ (F0 m 49 ls [.int (bI (mbF (D9.2.1 1) (D9.2.2.1 1) D9.1.2.2.1)), .ref q])
        obtain ⟨F9, hF9⟩ : ∃ F, dueF by_ ty (mbF (D9.2.1 1) (D9.2.2.1 1) D9.1.2.2.1) D9.1 = F := ⟨_, rfl⟩
        have wF := dM_wfV hF9 hw
        refine zXV (As := [.int (bI (mbF (D9.2.1 1) (D9.2.2.1 1) D9.1.2.2.1))]) (b := q) (rest := []) hC (c_X4_dueV (l := l) (u := D9.1) (ok9 := mbF (D9.2.1 1) (D9.2.2.1 1) D9.1.2.2.1) (F9 := F9) (hlen := hlen) (htx := htx) (hby := hby) (hu := hw.1) (hF9 := hF9)) lM_X4_87 vM_X4_due (by decide) hK hP hD hS [0, 1] [q, xtx] rfl (by decide) rfl rfl ⟨rfl, rfl, rfl⟩ rfl hl.1 rfl (Nat.le_of_ble_eq_true rfl) dX4_sideboard_49 (by decide) (fun H locs hP hD hS => ?_)
        have hP : va_P D vwCl [oM q tr xtx ty xdc xdl xdb xar xac xwm xnd F9.1 F9.2.1 F9.2.2.1 F9.2.2.2.1 F9.2.2.2.2 xnw xkp xta xtw td xhg, aB cB xtx 150 tx, aI cI xdc 2 D9.2.1, aI cI xac 2 D9.2.2.1, aI cI xdl 6 D9.2.2.2.1, aI cI xdb 6 D9.2.2.2.2.1, aI cI xar 12 D9.2.2.2.2.2.1, aI cI xwm 10 D9.2.2.2.2.2.2.1, aI cI xnd 60 D9.2.2.2.2.2.2.2, aI cI xnw 729 nw, aZ cZ xkp 2 kp] H := hP
        have hD : va_D A [oM q tr xtx ty xdc xdl xdb xar xac xwm xnd F9.1 F9.2.1 F9.2.2.1 F9.2.2.2.1 F9.2.2.2.2 xnw xkp xta xtw td xhg, aB cB xtx 150 tx, aI cI xdc 2 D9.2.1, aI cI xac 2 D9.2.2.1, aI cI xdl 6 D9.2.2.2.1, aI cI xdb 6 D9.2.2.2.2.1, aI cI xar 12 D9.2.2.2.2.2.1, aI cI xwm 10 D9.2.2.2.2.2.2.1, aI cI xnd 60 D9.2.2.2.2.2.2.2, aI cI xnw 729 nw, aZ cZ xkp 2 kp] := hD
        show W _ _ _ _ _ _ _ _ _ _ _ _ _ _ _ (F0 m 52 ls [.int (nI D9.1.2.2.2.1)])
        refine lv_pop hx hb dX4_sideboard_52 rfl ?_
        refine lv_aload_n hx hb dX4_sideboard_53 rfl (lv_at hl 1 rfl) ?_
        refine z_get (k := 14) zcX4 hC hK hP 0 rfl (by decide) lF_X4_81 rfl dX4_sideboard_54 ?_
        refine lv_bipush (v := (-9)) hx hb dX4_sideboard_57 (by decide) ?_
        refine lv_icmp_ne (tgt := 88) hx hb dX4_sideboard_59 (by decide) (fun c59 => ?_) (fun c59 => ?_)
        · skip
          have b59 : mu ty (F9, D9.2).1 < mu ty D9.1 := mu_dV (by_ := by_) (len := ty) c27 hF9 c59
          refine lv_goto (tgt := 21) hx hb dX4_sideboard_88 (by decide) ?_
          exact ih21 (mu ty (F9, D9.2).1) (by omega) c9 (F9, D9.2) (k9 - 1) rfl (by exact wF) (by exact Nat.lt_of_lt_of_le b59 (by omega)) (by rw [← hq9]; exact (sbF_dV (by omega) ⟨c27, c35⟩ hF9 c59).symm) _ _ hP hD hS ls (lv_sub hl [1, 2] rfl)
        · skip
          refine lv_aload_n hx hb dX4_sideboard_62 rfl (lv_at hl 1 rfl) ?_
          refine lv_iload_n hx hb dX4_sideboard_63 rfl (lv_at hl 0 rfl) ?_
          have h64s := mbF_ok (dueF_ok hlen hw.1 (by rw [hF9]; exact c59)).1
          rcases h64s with h64 | h64 | h64
          · skip
            refine z_top (show (nI D9.1.2.2.1) = nI 97 from by rw [h64.1]) ?_
            obtain ⟨R9, hR9⟩ : ∃ R, rowA by_ ty (F9, D9.2) = R := ⟨_, rfl⟩
            refine zXV (As := [.int (nI 97)]) (b := q) (rest := []) hC (c_X4_readRow_aV (l := l) (F9 := F9) (X9 := D9.2) (R9 := R9) (hlen := hlen) (htx := htx) (hby := hby) (hu := wF.1) (hn1 := wF.2.1) (ha1 := h64.2) (hR9 := hR9)) lM_X4_105 vM_X4_readRow (by decide) hK hP hD hS [0, 1, 2, 3, 4, 5, 6, 7, 8] [q, xtx, xdc, xac, xdl, xdb, xar, xwm, xnd] rfl (by decide) rfl rfl ⟨rfl, rfl, rfl⟩ rfl hl.1 rfl (Nat.le_of_ble_eq_true rfl) dX4_sideboard_64 (by decide) (fun H locs hP hD hS => ?_)
            have hP : va_P D vwCl [oM q tr xtx ty xdc xdl xdb xar xac xwm xnd R9.1.1 R9.1.2.1 R9.1.2.2.1 R9.1.2.2.2.1 R9.1.2.2.2.2 xnw xkp xta xtw td xhg, aB cB xtx 150 tx, aI cI xdc 2 R9.2.1, aI cI xac 2 R9.2.2.1, aI cI xdl 6 R9.2.2.2.1, aI cI xdb 6 R9.2.2.2.2.1, aI cI xar 12 R9.2.2.2.2.2.1, aI cI xwm 10 R9.2.2.2.2.2.2.1, aI cI xnd 60 R9.2.2.2.2.2.2.2, aI cI xnw 729 nw, aZ cZ xkp 2 kp] H := hP
            have hD : va_D A [oM q tr xtx ty xdc xdl xdb xar xac xwm xnd R9.1.1 R9.1.2.1 R9.1.2.2.1 R9.1.2.2.2.1 R9.1.2.2.2.2 xnw xkp xta xtw td xhg, aB cB xtx 150 tx, aI cI xdc 2 R9.2.1, aI cI xac 2 R9.2.2.1, aI cI xdl 6 R9.2.2.2.1, aI cI xdb 6 R9.2.2.2.2.1, aI cI xar 12 R9.2.2.2.2.2.1, aI cI xwm 10 R9.2.2.2.2.2.2.1, aI cI xnd 60 R9.2.2.2.2.2.2.2, aI cI xnw 729 nw, aZ cZ xkp 2 kp] := hD
            show W _ _ _ _ _ _ _ _ _ _ _ _ _ _ _ (F0 m 67 ls [])
            refine lv_aload_n hx hb dX4_sideboard_67 rfl (lv_at hl 1 rfl) ?_
            refine lv_aload_n hx hb dX4_sideboard_68 rfl (lv_at hl 1 rfl) ?_
            refine z_get (k := 12) zcX4 hC hK hP 0 rfl (by decide) lF_X4_78 rfl dX4_sideboard_69 ?_
            refine lv_iconst (v := nI 2) hx hb dX4_sideboard_72 (by decide) ?_
            have w73 : wfD ty R9 := by rw [← hR9]; exact rowA_wf (by_ := by_) wF h64.2
            have b73 := w73.1.2.2.1
            refine zc_ne (tgt := 80) hC dX4_sideboard_73 (by decide) (by omega) (by omega) (fun c73 => ?_) (fun c73 => ?_)
            · skip
              refine lv_iconst (v := nI 0) hx hb dX4_sideboard_80 (by decide) ?_
              refine z_top (show (nI 0) = bI false from by rfl) ?_
              obtain ⟨G9, hG9⟩ : ∃ G, dueF by_ ty false R9.1 = G := ⟨_, rfl⟩
              refine zXV (As := [.int (bI false)]) (b := q) (rest := []) hC (c_X4_dueV (l := l) (u := R9.1) (ok9 := false) (F9 := G9) (hlen := hlen) (htx := htx) (hby := hby) (hu := w73.1) (hF9 := hG9)) lM_X4_87 vM_X4_due (by decide) hK hP hD hS [0, 1] [q, xtx] rfl (by decide) rfl rfl ⟨rfl, rfl, rfl⟩ rfl hl.1 rfl (Nat.le_of_ble_eq_true rfl) dX4_sideboard_81 (by decide) (fun H locs hP hD hS => ?_)
              have hP : va_P D vwCl [oM q tr xtx ty xdc xdl xdb xar xac xwm xnd G9.1 G9.2.1 G9.2.2.1 G9.2.2.2.1 G9.2.2.2.2 xnw xkp xta xtw td xhg, aB cB xtx 150 tx, aI cI xdc 2 R9.2.1, aI cI xac 2 R9.2.2.1, aI cI xdl 6 R9.2.2.2.1, aI cI xdb 6 R9.2.2.2.2.1, aI cI xar 12 R9.2.2.2.2.2.1, aI cI xwm 10 R9.2.2.2.2.2.2.1, aI cI xnd 60 R9.2.2.2.2.2.2.2, aI cI xnw 729 nw, aZ cZ xkp 2 kp] H := hP
              have hD : va_D A [oM q tr xtx ty xdc xdl xdb xar xac xwm xnd G9.1 G9.2.1 G9.2.2.1 G9.2.2.2.1 G9.2.2.2.2 xnw xkp xta xtw td xhg, aB cB xtx 150 tx, aI cI xdc 2 R9.2.1, aI cI xac 2 R9.2.2.1, aI cI xdl 6 R9.2.2.2.1, aI cI xdb 6 R9.2.2.2.2.1, aI cI xar 12 R9.2.2.2.2.2.1, aI cI xwm 10 R9.2.2.2.2.2.2.1, aI cI xnd 60 R9.2.2.2.2.2.2.2, aI cI xnw 729 nw, aZ cZ xkp 2 kp] := hD
              show W _ _ _ _ _ _ _ _ _ _ _ _ _ _ _ (F0 m 84 ls [.int (nI R9.1.2.2.2.1)])
              refine lv_pop hx hb dX4_sideboard_84 rfl ?_
              have b85 : mu ty (G9, R9.2).1 < mu ty D9.1 := mu_AV (by_ := by_) (b := false) hlen hw c27 h64.2 hF9 hR9 hG9
              refine lv_iinc (v := nI (c9 + 1)) (lv' := [(1, .int (nI (c9 + 1))), (2, .int (nI D9.1.2.2.1)), (0, .ref q)]) hx hb dX4_sideboard_85 hl (k := 2) rfl (z_inc c9 1) (by decide) rfl (fun ls hl => ?_)
              refine lv_goto (tgt := 21) hx hb dX4_sideboard_88 (by decide) ?_
              exact ih21 (mu ty (G9, R9.2).1) (by omega) (c9 + 1) (G9, R9.2) (k9 - 1) rfl (by exact eM_wfV hG9 w73) (by exact Nat.lt_of_lt_of_le b85 (by omega)) (by rw [← hq9]; exact (sbF_rV (by omega) ⟨c27, c35⟩ hF9 c59 ((if_pos h64.1).trans hR9) (decide_eq_false c73) hG9).symm) _ _ hP hD hS ls (lv_sub hl [2, 0] rfl)
            · skip
              refine lv_iconst (v := nI 1) hx hb dX4_sideboard_76 (by decide) ?_
              refine lv_goto (tgt := 81) hx hb dX4_sideboard_77 (by decide) ?_
              refine z_top (show (nI 1) = bI true from by rfl) ?_
              obtain ⟨G9, hG9⟩ : ∃ G, dueF by_ ty true R9.1 = G := ⟨_, rfl⟩
              refine zXV (As := [.int (bI true)]) (b := q) (rest := []) hC (c_X4_dueV (l := l) (u := R9.1) (ok9 := true) (F9 := G9) (hlen := hlen) (htx := htx) (hby := hby) (hu := w73.1) (hF9 := hG9)) lM_X4_87 vM_X4_due (by decide) hK hP hD hS [0, 1] [q, xtx] rfl (by decide) rfl rfl ⟨rfl, rfl, rfl⟩ rfl hl.1 rfl (Nat.le_of_ble_eq_true rfl) dX4_sideboard_81 (by decide) (fun H locs hP hD hS => ?_)
              have hP : va_P D vwCl [oM q tr xtx ty xdc xdl xdb xar xac xwm xnd G9.1 G9.2.1 G9.2.2.1 G9.2.2.2.1 G9.2.2.2.2 xnw xkp xta xtw td xhg, aB cB xtx 150 tx, aI cI xdc 2 R9.2.1, aI cI xac 2 R9.2.2.1, aI cI xdl 6 R9.2.2.2.1, aI cI xdb 6 R9.2.2.2.2.1, aI cI xar 12 R9.2.2.2.2.2.1, aI cI xwm 10 R9.2.2.2.2.2.2.1, aI cI xnd 60 R9.2.2.2.2.2.2.2, aI cI xnw 729 nw, aZ cZ xkp 2 kp] H := hP
              have hD : va_D A [oM q tr xtx ty xdc xdl xdb xar xac xwm xnd G9.1 G9.2.1 G9.2.2.1 G9.2.2.2.1 G9.2.2.2.2 xnw xkp xta xtw td xhg, aB cB xtx 150 tx, aI cI xdc 2 R9.2.1, aI cI xac 2 R9.2.2.1, aI cI xdl 6 R9.2.2.2.1, aI cI xdb 6 R9.2.2.2.2.1, aI cI xar 12 R9.2.2.2.2.2.1, aI cI xwm 10 R9.2.2.2.2.2.2.1, aI cI xnd 60 R9.2.2.2.2.2.2.2, aI cI xnw 729 nw, aZ cZ xkp 2 kp] := hD
              show W _ _ _ _ _ _ _ _ _ _ _ _ _ _ _ (F0 m 84 ls [.int (nI R9.1.2.2.2.1)])
              refine lv_pop hx hb dX4_sideboard_84 rfl ?_
              have b85 : mu ty (G9, R9.2).1 < mu ty D9.1 := mu_AV (by_ := by_) (b := true) hlen hw c27 h64.2 hF9 hR9 hG9
              refine lv_iinc (v := nI (c9 + 1)) (lv' := [(1, .int (nI (c9 + 1))), (2, .int (nI D9.1.2.2.1)), (0, .ref q)]) hx hb dX4_sideboard_85 hl (k := 2) rfl (z_inc c9 1) (by decide) rfl (fun ls hl => ?_)
              refine lv_goto (tgt := 21) hx hb dX4_sideboard_88 (by decide) ?_
              exact ih21 (mu ty (G9, R9.2).1) (by omega) (c9 + 1) (G9, R9.2) (k9 - 1) rfl (by exact eM_wfV hG9 w73) (by exact Nat.lt_of_lt_of_le b85 (by omega)) (by rw [← hq9]; exact (sbF_rV (by omega) ⟨c27, c35⟩ hF9 c59 ((if_pos h64.1).trans hR9) (decide_eq_true c73) hG9).symm) _ _ hP hD hS ls (lv_sub hl [2, 0] rfl)
          · skip
            refine z_top (show (nI D9.1.2.2.1) = nI 100 from by rw [h64.1]) ?_
            obtain ⟨R9, hR9⟩ : ∃ R, rowD by_ ty (F9, D9.2) = R := ⟨_, rfl⟩
            refine zXV (As := [.int (nI 100)]) (b := q) (rest := []) hC (c_X4_readRow_dV (l := l) (F9 := F9) (X9 := D9.2) (R9 := R9) (hlen := hlen) (htx := htx) (hby := hby) (hu := wF.1) (hn1 := h64.2) (hR9 := hR9)) lM_X4_105 vM_X4_readRow (by decide) hK hP hD hS [0, 1, 2, 3, 4, 5, 6, 7, 8] [q, xtx, xdc, xac, xdl, xdb, xar, xwm, xnd] rfl (by decide) rfl rfl ⟨rfl, rfl, rfl⟩ rfl hl.1 rfl (Nat.le_of_ble_eq_true rfl) dX4_sideboard_64 (by decide) (fun H locs hP hD hS => ?_)
            have hP : va_P D vwCl [oM q tr xtx ty xdc xdl xdb xar xac xwm xnd R9.1.1 R9.1.2.1 R9.1.2.2.1 R9.1.2.2.2.1 R9.1.2.2.2.2 xnw xkp xta xtw td xhg, aB cB xtx 150 tx, aI cI xdc 2 R9.2.1, aI cI xac 2 R9.2.2.1, aI cI xdl 6 R9.2.2.2.1, aI cI xdb 6 R9.2.2.2.2.1, aI cI xar 12 R9.2.2.2.2.2.1, aI cI xwm 10 R9.2.2.2.2.2.2.1, aI cI xnd 60 R9.2.2.2.2.2.2.2, aI cI xnw 729 nw, aZ cZ xkp 2 kp] H := hP
            have hD : va_D A [oM q tr xtx ty xdc xdl xdb xar xac xwm xnd R9.1.1 R9.1.2.1 R9.1.2.2.1 R9.1.2.2.2.1 R9.1.2.2.2.2 xnw xkp xta xtw td xhg, aB cB xtx 150 tx, aI cI xdc 2 R9.2.1, aI cI xac 2 R9.2.2.1, aI cI xdl 6 R9.2.2.2.1, aI cI xdb 6 R9.2.2.2.2.1, aI cI xar 12 R9.2.2.2.2.2.1, aI cI xwm 10 R9.2.2.2.2.2.2.1, aI cI xnd 60 R9.2.2.2.2.2.2.2, aI cI xnw 729 nw, aZ cZ xkp 2 kp] := hD
            show W _ _ _ _ _ _ _ _ _ _ _ _ _ _ _ (F0 m 67 ls [])
            refine lv_aload_n hx hb dX4_sideboard_67 rfl (lv_at hl 1 rfl) ?_
            refine lv_aload_n hx hb dX4_sideboard_68 rfl (lv_at hl 1 rfl) ?_
            refine z_get (k := 12) zcX4 hC hK hP 0 rfl (by decide) lF_X4_78 rfl dX4_sideboard_69 ?_
            refine lv_iconst (v := nI 2) hx hb dX4_sideboard_72 (by decide) ?_
            have w73 : wfD ty R9 := by rw [← hR9]; exact rowD_wf (by_ := by_) wF h64.2
            have b73 := w73.1.2.2.1
            refine zc_ne (tgt := 80) hC dX4_sideboard_73 (by decide) (by omega) (by omega) (fun c73 => ?_) (fun c73 => ?_)
            · skip
              refine lv_iconst (v := nI 0) hx hb dX4_sideboard_80 (by decide) ?_
              refine z_top (show (nI 0) = bI false from by rfl) ?_
              obtain ⟨G9, hG9⟩ : ∃ G, dueF by_ ty false R9.1 = G := ⟨_, rfl⟩
              refine zXV (As := [.int (bI false)]) (b := q) (rest := []) hC (c_X4_dueV (l := l) (u := R9.1) (ok9 := false) (F9 := G9) (hlen := hlen) (htx := htx) (hby := hby) (hu := w73.1) (hF9 := hG9)) lM_X4_87 vM_X4_due (by decide) hK hP hD hS [0, 1] [q, xtx] rfl (by decide) rfl rfl ⟨rfl, rfl, rfl⟩ rfl hl.1 rfl (Nat.le_of_ble_eq_true rfl) dX4_sideboard_81 (by decide) (fun H locs hP hD hS => ?_)
              have hP : va_P D vwCl [oM q tr xtx ty xdc xdl xdb xar xac xwm xnd G9.1 G9.2.1 G9.2.2.1 G9.2.2.2.1 G9.2.2.2.2 xnw xkp xta xtw td xhg, aB cB xtx 150 tx, aI cI xdc 2 R9.2.1, aI cI xac 2 R9.2.2.1, aI cI xdl 6 R9.2.2.2.1, aI cI xdb 6 R9.2.2.2.2.1, aI cI xar 12 R9.2.2.2.2.2.1, aI cI xwm 10 R9.2.2.2.2.2.2.1, aI cI xnd 60 R9.2.2.2.2.2.2.2, aI cI xnw 729 nw, aZ cZ xkp 2 kp] H := hP
              have hD : va_D A [oM q tr xtx ty xdc xdl xdb xar xac xwm xnd G9.1 G9.2.1 G9.2.2.1 G9.2.2.2.1 G9.2.2.2.2 xnw xkp xta xtw td xhg, aB cB xtx 150 tx, aI cI xdc 2 R9.2.1, aI cI xac 2 R9.2.2.1, aI cI xdl 6 R9.2.2.2.1, aI cI xdb 6 R9.2.2.2.2.1, aI cI xar 12 R9.2.2.2.2.2.1, aI cI xwm 10 R9.2.2.2.2.2.2.1, aI cI xnd 60 R9.2.2.2.2.2.2.2, aI cI xnw 729 nw, aZ cZ xkp 2 kp] := hD
              show W _ _ _ _ _ _ _ _ _ _ _ _ _ _ _ (F0 m 84 ls [.int (nI R9.1.2.2.2.1)])
              refine lv_pop hx hb dX4_sideboard_84 rfl ?_
              have b85 : mu ty (G9, R9.2).1 < mu ty D9.1 := mu_DV (by_ := by_) (b := false) hlen hw c27 h64.2 hF9 hR9 hG9
              refine lv_iinc (v := nI (c9 + 1)) (lv' := [(1, .int (nI (c9 + 1))), (2, .int (nI D9.1.2.2.1)), (0, .ref q)]) hx hb dX4_sideboard_85 hl (k := 2) rfl (z_inc c9 1) (by decide) rfl (fun ls hl => ?_)
              refine lv_goto (tgt := 21) hx hb dX4_sideboard_88 (by decide) ?_
              exact ih21 (mu ty (G9, R9.2).1) (by omega) (c9 + 1) (G9, R9.2) (k9 - 1) rfl (by exact eM_wfV hG9 w73) (by exact Nat.lt_of_lt_of_le b85 (by omega)) (by rw [← hq9]; exact (sbF_rV (by omega) ⟨c27, c35⟩ hF9 c59 (((if_neg (by omega)).trans (if_pos h64.1)).trans hR9) (decide_eq_false c73) hG9).symm) _ _ hP hD hS ls (lv_sub hl [2, 0] rfl)
            · skip
              refine lv_iconst (v := nI 1) hx hb dX4_sideboard_76 (by decide) ?_
              refine lv_goto (tgt := 81) hx hb dX4_sideboard_77 (by decide) ?_
              refine z_top (show (nI 1) = bI true from by rfl) ?_
              obtain ⟨G9, hG9⟩ : ∃ G, dueF by_ ty true R9.1 = G := ⟨_, rfl⟩
              refine zXV (As := [.int (bI true)]) (b := q) (rest := []) hC (c_X4_dueV (l := l) (u := R9.1) (ok9 := true) (F9 := G9) (hlen := hlen) (htx := htx) (hby := hby) (hu := w73.1) (hF9 := hG9)) lM_X4_87 vM_X4_due (by decide) hK hP hD hS [0, 1] [q, xtx] rfl (by decide) rfl rfl ⟨rfl, rfl, rfl⟩ rfl hl.1 rfl (Nat.le_of_ble_eq_true rfl) dX4_sideboard_81 (by decide) (fun H locs hP hD hS => ?_)
              have hP : va_P D vwCl [oM q tr xtx ty xdc xdl xdb xar xac xwm xnd G9.1 G9.2.1 G9.2.2.1 G9.2.2.2.1 G9.2.2.2.2 xnw xkp xta xtw td xhg, aB cB xtx 150 tx, aI cI xdc 2 R9.2.1, aI cI xac 2 R9.2.2.1, aI cI xdl 6 R9.2.2.2.1, aI cI xdb 6 R9.2.2.2.2.1, aI cI xar 12 R9.2.2.2.2.2.1, aI cI xwm 10 R9.2.2.2.2.2.2.1, aI cI xnd 60 R9.2.2.2.2.2.2.2, aI cI xnw 729 nw, aZ cZ xkp 2 kp] H := hP
              have hD : va_D A [oM q tr xtx ty xdc xdl xdb xar xac xwm xnd G9.1 G9.2.1 G9.2.2.1 G9.2.2.2.1 G9.2.2.2.2 xnw xkp xta xtw td xhg, aB cB xtx 150 tx, aI cI xdc 2 R9.2.1, aI cI xac 2 R9.2.2.1, aI cI xdl 6 R9.2.2.2.1, aI cI xdb 6 R9.2.2.2.2.1, aI cI xar 12 R9.2.2.2.2.2.1, aI cI xwm 10 R9.2.2.2.2.2.2.1, aI cI xnd 60 R9.2.2.2.2.2.2.2, aI cI xnw 729 nw, aZ cZ xkp 2 kp] := hD
              show W _ _ _ _ _ _ _ _ _ _ _ _ _ _ _ (F0 m 84 ls [.int (nI R9.1.2.2.2.1)])
              refine lv_pop hx hb dX4_sideboard_84 rfl ?_
              have b85 : mu ty (G9, R9.2).1 < mu ty D9.1 := mu_DV (by_ := by_) (b := true) hlen hw c27 h64.2 hF9 hR9 hG9
              refine lv_iinc (v := nI (c9 + 1)) (lv' := [(1, .int (nI (c9 + 1))), (2, .int (nI D9.1.2.2.1)), (0, .ref q)]) hx hb dX4_sideboard_85 hl (k := 2) rfl (z_inc c9 1) (by decide) rfl (fun ls hl => ?_)
              refine lv_goto (tgt := 21) hx hb dX4_sideboard_88 (by decide) ?_
              exact ih21 (mu ty (G9, R9.2).1) (by omega) (c9 + 1) (G9, R9.2) (k9 - 1) rfl (by exact eM_wfV hG9 w73) (by exact Nat.lt_of_lt_of_le b85 (by omega)) (by rw [← hq9]; exact (sbF_rV (by omega) ⟨c27, c35⟩ hF9 c59 (((if_neg (by omega)).trans (if_pos h64.1)).trans hR9) (decide_eq_true c73) hG9).symm) _ _ hP hD hS ls (lv_sub hl [2, 0] rfl)
          · skip
            refine z_top (show (nI D9.1.2.2.1) = nI 120 from by rw [h64]) ?_
            obtain ⟨R9, hR9⟩ : ∃ R, rowX by_ ty (F9, D9.2) = R := ⟨_, rfl⟩
            refine zXV (As := [.int (nI 120)]) (b := q) (rest := []) hC (c_X4_readRow_xV (l := l) (F9 := F9) (X9 := D9.2) (R9 := R9) (hlen := hlen) (htx := htx) (hby := hby) (hu := wF.1) (hn1 := wF.2.1) (hR9 := hR9)) lM_X4_105 vM_X4_readRow (by decide) hK hP hD hS [0, 1, 2, 3, 4, 5, 6, 7, 8] [q, xtx, xdc, xac, xdl, xdb, xar, xwm, xnd] rfl (by decide) rfl rfl ⟨rfl, rfl, rfl⟩ rfl hl.1 rfl (Nat.le_of_ble_eq_true rfl) dX4_sideboard_64 (by decide) (fun H locs hP hD hS => ?_)
            have hP : va_P D vwCl [oM q tr xtx ty xdc xdl xdb xar xac xwm xnd R9.1.1 R9.1.2.1 R9.1.2.2.1 R9.1.2.2.2.1 R9.1.2.2.2.2 xnw xkp xta xtw td xhg, aB cB xtx 150 tx, aI cI xdc 2 R9.2.1, aI cI xac 2 R9.2.2.1, aI cI xdl 6 R9.2.2.2.1, aI cI xdb 6 R9.2.2.2.2.1, aI cI xar 12 R9.2.2.2.2.2.1, aI cI xwm 10 R9.2.2.2.2.2.2.1, aI cI xnd 60 R9.2.2.2.2.2.2.2, aI cI xnw 729 nw, aZ cZ xkp 2 kp] H := hP
            have hD : va_D A [oM q tr xtx ty xdc xdl xdb xar xac xwm xnd R9.1.1 R9.1.2.1 R9.1.2.2.1 R9.1.2.2.2.1 R9.1.2.2.2.2 xnw xkp xta xtw td xhg, aB cB xtx 150 tx, aI cI xdc 2 R9.2.1, aI cI xac 2 R9.2.2.1, aI cI xdl 6 R9.2.2.2.1, aI cI xdb 6 R9.2.2.2.2.1, aI cI xar 12 R9.2.2.2.2.2.1, aI cI xwm 10 R9.2.2.2.2.2.2.1, aI cI xnd 60 R9.2.2.2.2.2.2.2, aI cI xnw 729 nw, aZ cZ xkp 2 kp] := hD
            show W _ _ _ _ _ _ _ _ _ _ _ _ _ _ _ (F0 m 67 ls [])
            refine lv_aload_n hx hb dX4_sideboard_67 rfl (lv_at hl 1 rfl) ?_
            refine lv_aload_n hx hb dX4_sideboard_68 rfl (lv_at hl 1 rfl) ?_
            refine z_get (k := 12) zcX4 hC hK hP 0 rfl (by decide) lF_X4_78 rfl dX4_sideboard_69 ?_
            refine lv_iconst (v := nI 2) hx hb dX4_sideboard_72 (by decide) ?_
            have w73 : wfD ty R9 := by rw [← hR9]; exact rowX_wf (by_ := by_) wF
            have b73 := w73.1.2.2.1
            refine zc_ne (tgt := 80) hC dX4_sideboard_73 (by decide) (by omega) (by omega) (fun c73 => ?_) (fun c73 => ?_)
            · skip
              refine lv_iconst (v := nI 0) hx hb dX4_sideboard_80 (by decide) ?_
              refine z_top (show (nI 0) = bI false from by rfl) ?_
              obtain ⟨G9, hG9⟩ : ∃ G, dueF by_ ty false R9.1 = G := ⟨_, rfl⟩
              refine zXV (As := [.int (bI false)]) (b := q) (rest := []) hC (c_X4_dueV (l := l) (u := R9.1) (ok9 := false) (F9 := G9) (hlen := hlen) (htx := htx) (hby := hby) (hu := w73.1) (hF9 := hG9)) lM_X4_87 vM_X4_due (by decide) hK hP hD hS [0, 1] [q, xtx] rfl (by decide) rfl rfl ⟨rfl, rfl, rfl⟩ rfl hl.1 rfl (Nat.le_of_ble_eq_true rfl) dX4_sideboard_81 (by decide) (fun H locs hP hD hS => ?_)
              have hP : va_P D vwCl [oM q tr xtx ty xdc xdl xdb xar xac xwm xnd G9.1 G9.2.1 G9.2.2.1 G9.2.2.2.1 G9.2.2.2.2 xnw xkp xta xtw td xhg, aB cB xtx 150 tx, aI cI xdc 2 R9.2.1, aI cI xac 2 R9.2.2.1, aI cI xdl 6 R9.2.2.2.1, aI cI xdb 6 R9.2.2.2.2.1, aI cI xar 12 R9.2.2.2.2.2.1, aI cI xwm 10 R9.2.2.2.2.2.2.1, aI cI xnd 60 R9.2.2.2.2.2.2.2, aI cI xnw 729 nw, aZ cZ xkp 2 kp] H := hP
              have hD : va_D A [oM q tr xtx ty xdc xdl xdb xar xac xwm xnd G9.1 G9.2.1 G9.2.2.1 G9.2.2.2.1 G9.2.2.2.2 xnw xkp xta xtw td xhg, aB cB xtx 150 tx, aI cI xdc 2 R9.2.1, aI cI xac 2 R9.2.2.1, aI cI xdl 6 R9.2.2.2.1, aI cI xdb 6 R9.2.2.2.2.1, aI cI xar 12 R9.2.2.2.2.2.1, aI cI xwm 10 R9.2.2.2.2.2.2.1, aI cI xnd 60 R9.2.2.2.2.2.2.2, aI cI xnw 729 nw, aZ cZ xkp 2 kp] := hD
              show W _ _ _ _ _ _ _ _ _ _ _ _ _ _ _ (F0 m 84 ls [.int (nI R9.1.2.2.2.1)])
              refine lv_pop hx hb dX4_sideboard_84 rfl ?_
              have b85 : mu ty (G9, R9.2).1 < mu ty D9.1 := mu_XV (by_ := by_) (b := false) hlen hw c27 hF9 hR9 hG9
              refine lv_iinc (v := nI (c9 + 1)) (lv' := [(1, .int (nI (c9 + 1))), (2, .int (nI D9.1.2.2.1)), (0, .ref q)]) hx hb dX4_sideboard_85 hl (k := 2) rfl (z_inc c9 1) (by decide) rfl (fun ls hl => ?_)
              refine lv_goto (tgt := 21) hx hb dX4_sideboard_88 (by decide) ?_
              exact ih21 (mu ty (G9, R9.2).1) (by omega) (c9 + 1) (G9, R9.2) (k9 - 1) rfl (by exact eM_wfV hG9 w73) (by exact Nat.lt_of_lt_of_le b85 (by omega)) (by rw [← hq9]; exact (sbF_rV (by omega) ⟨c27, c35⟩ hF9 c59 (((if_neg (by omega)).trans (if_neg (by omega))).trans hR9) (decide_eq_false c73) hG9).symm) _ _ hP hD hS ls (lv_sub hl [2, 0] rfl)
            · skip
              refine lv_iconst (v := nI 1) hx hb dX4_sideboard_76 (by decide) ?_
              refine lv_goto (tgt := 81) hx hb dX4_sideboard_77 (by decide) ?_
              refine z_top (show (nI 1) = bI true from by rfl) ?_
              obtain ⟨G9, hG9⟩ : ∃ G, dueF by_ ty true R9.1 = G := ⟨_, rfl⟩
              refine zXV (As := [.int (bI true)]) (b := q) (rest := []) hC (c_X4_dueV (l := l) (u := R9.1) (ok9 := true) (F9 := G9) (hlen := hlen) (htx := htx) (hby := hby) (hu := w73.1) (hF9 := hG9)) lM_X4_87 vM_X4_due (by decide) hK hP hD hS [0, 1] [q, xtx] rfl (by decide) rfl rfl ⟨rfl, rfl, rfl⟩ rfl hl.1 rfl (Nat.le_of_ble_eq_true rfl) dX4_sideboard_81 (by decide) (fun H locs hP hD hS => ?_)
              have hP : va_P D vwCl [oM q tr xtx ty xdc xdl xdb xar xac xwm xnd G9.1 G9.2.1 G9.2.2.1 G9.2.2.2.1 G9.2.2.2.2 xnw xkp xta xtw td xhg, aB cB xtx 150 tx, aI cI xdc 2 R9.2.1, aI cI xac 2 R9.2.2.1, aI cI xdl 6 R9.2.2.2.1, aI cI xdb 6 R9.2.2.2.2.1, aI cI xar 12 R9.2.2.2.2.2.1, aI cI xwm 10 R9.2.2.2.2.2.2.1, aI cI xnd 60 R9.2.2.2.2.2.2.2, aI cI xnw 729 nw, aZ cZ xkp 2 kp] H := hP
              have hD : va_D A [oM q tr xtx ty xdc xdl xdb xar xac xwm xnd G9.1 G9.2.1 G9.2.2.1 G9.2.2.2.1 G9.2.2.2.2 xnw xkp xta xtw td xhg, aB cB xtx 150 tx, aI cI xdc 2 R9.2.1, aI cI xac 2 R9.2.2.1, aI cI xdl 6 R9.2.2.2.1, aI cI xdb 6 R9.2.2.2.2.1, aI cI xar 12 R9.2.2.2.2.2.1, aI cI xwm 10 R9.2.2.2.2.2.2.1, aI cI xnd 60 R9.2.2.2.2.2.2.2, aI cI xnw 729 nw, aZ cZ xkp 2 kp] := hD
              show W _ _ _ _ _ _ _ _ _ _ _ _ _ _ _ (F0 m 84 ls [.int (nI R9.1.2.2.2.1)])
              refine lv_pop hx hb dX4_sideboard_84 rfl ?_
              have b85 : mu ty (G9, R9.2).1 < mu ty D9.1 := mu_XV (by_ := by_) (b := true) hlen hw c27 hF9 hR9 hG9
              refine lv_iinc (v := nI (c9 + 1)) (lv' := [(1, .int (nI (c9 + 1))), (2, .int (nI D9.1.2.2.1)), (0, .ref q)]) hx hb dX4_sideboard_85 hl (k := 2) rfl (z_inc c9 1) (by decide) rfl (fun ls hl => ?_)
              refine lv_goto (tgt := 21) hx hb dX4_sideboard_88 (by decide) ?_
              exact ih21 (mu ty (G9, R9.2).1) (by omega) (c9 + 1) (G9, R9.2) (k9 - 1) rfl (by exact eM_wfV hG9 w73) (by exact Nat.lt_of_lt_of_le b85 (by omega)) (by rw [← hq9]; exact (sbF_rV (by omega) ⟨c27, c35⟩ hF9 c59 (((if_neg (by omega)).trans (if_neg (by omega))).trans hR9) (decide_eq_true c73) hG9).symm) _ _ hP hD hS ls (lv_sub hl [2, 0] rfl)
  exact hL21 _ 0 (((stp by_ ty 0).1, (stp by_ ty 0).2.1, (stp by_ ty 0).2.2.1, (stp by_ ty 0).2.2.2, -9), updN dc 1 0, updN acn 1 0, dl, db, ar, wm, nd) 400 rfl (by exact ⟨stp_wf (Nat.zero_le _), by show updN dc 1 0 1 ≤ 6; rw [updN_s]; omega, by show updN acn 1 0 1 ≤ 5; rw [updN_s]; omega⟩) (by exact Nat.lt_of_le_of_lt mu_le (by omega)) (by exact hE9) _ _ hP hD hS ls (lv_sub hl [1, 0] rfl)
set_option maxHeartbeats 4000000 in
set_option maxRecDepth 100000 in
theorem c_X4_sideboard {l : Launch} {D : va_G} {cI cZ cB cR : ClassId} {q xtx ty xdc xdl xdb xar xac xwm xnd at9 sta sor val xnw xkp xta xtw td xhg : Nat} {tr : Int64} {fau : Int32} {dc acn dl db ar wm nd nw : Nat → Nat} {tx : Nat → Int32} {kp : Nat → Bool} {by_ : Nat → Nat} {E9 : Nat × Md}  (hlen : ty ≤ 150) (htx : ∀ i, i < ty → tx i &&& nI 255 = nI (by_ i)) (hby : ∀ i, by_ i < 256) (hE9 : sbF by_ ty 400 0 (((stp by_ ty 0).1, (stp by_ ty 0).2.1, (stp by_ ty 0).2.2.1, (stp by_ ty 0).2.2.2, -9), updN dc 1 0, updN acn 1 0, dl, db, ar, wm, nd) = E9) (hgood : E9.2.1.2.2.2.2 = -9) : mW l yX4_sideboard cX4_sideboard 3 (some .int) 6 135 D cI cZ cB cR [oM q tr xtx ty xdc xdl xdb xar xac xwm xnd at9 sta sor val fau xnw xkp xta xtw td xhg, aB cB xtx 150 tx, aI cI xdc 2 dc, aI cI xac 2 acn, aI cI xdl 6 dl, aI cI xdb 6 db, aI cI xar 12 ar, aI cI xwm 10 wm, aI cI xnd 60 nd, aI cI xnw 729 nw, aZ cZ xkp 2 kp] [oM q tr xtx 0 xdc xdl xdb xar xac xwm xnd E9.2.1.1 E9.2.1.2.1 E9.2.1.2.2.1 E9.2.1.2.2.2.1 E9.2.1.2.2.2.2 xnw xkp xta xtw 0 xhg, aB cB xtx 150 tx, aI cI xdc 2 (updN E9.2.2.1 0 (E9.2.2.1 1)), aI cI xac 2 (updN E9.2.2.2.1 0 (E9.2.2.2.1 1)), aI cI xdl 6 E9.2.2.2.2.1, aI cI xdb 6 E9.2.2.2.2.2.1, aI cI xar 12 (blk E9.2.2.2.2.2.2.1 0 (E9.2.2.1 1) (fun m => E9.2.2.2.2.2.2.1 (6 + m))), aI cI xwm 10 (blk E9.2.2.2.2.2.2.2.1 0 (E9.2.2.2.1 1) (fun m => E9.2.2.2.2.2.2.2.1 (5 + m))), aI cI xnd 60 (blk E9.2.2.2.2.2.2.2.2 0 (6 * E9.2.2.2.1 1) (fun m => E9.2.2.2.2.2.2.2.2 (30 + m))), aI cI xnw 729 (updN (tdN (blk nw 0 22 (fun _ => 0)) E9.2.2.2.2.1 E9.2.2.2.2.2.1 (E9.2.2.1 1)) 22 0), aZ cZ xkp 2 (updB (updB kp 0 false) 1 false)] [.ref q] (some (.int (nI E9.1))) := by
  refine mW_of rfl (Nat.le_of_ble_eq_true rfl) ?_
  intro p e s m args below meth c hC hr hlk hK A hA hD H0 h0 hP hS ls hl
  have hP : va_P D vwCl [oM q tr xtx ty xdc xdl xdb xar xac xwm xnd at9 sta sor val fau xnw xkp xta xtw td xhg, aB cB xtx 150 tx, aI cI xdc 2 dc, aI cI xac 2 acn, aI cI xdl 6 dl, aI cI xdb 6 db, aI cI xar 12 ar, aI cI xwm 10 wm, aI cI xnd 60 nd, aI cI xnw 729 nw, aZ cZ xkp 2 kp] H0 := hP
  have hl : lv_has ls 3 [(0, .ref q)] := hl
  obtain ⟨hx, hb, hml, hown, hts⟩ := id hC
  refine lv_aload_n hx hb dX4_sideboard_0 rfl (lv_at hl 0 rfl) ?_
  refine lv_iconst (v := nI 0) hx hb dX4_sideboard_1 (by decide) ?_
  refine z_put (k := 10) zcX4 hC hK hP hD hS 0 rfl (by decide) lF_X4_65 rfl rfl rfl (Nat.le_of_ble_eq_true rfl) dX4_sideboard_2 (fun H locs hP hD hS => ?_)
  have hP : va_P D vwCl [oM q tr xtx ty xdc xdl xdb xar xac xwm xnd 0 sta sor val fau xnw xkp xta xtw td xhg, aB cB xtx 150 tx, aI cI xdc 2 dc, aI cI xac 2 acn, aI cI xdl 6 dl, aI cI xdb 6 db, aI cI xar 12 ar, aI cI xwm 10 wm, aI cI xnd 60 nd, aI cI xnw 729 nw, aZ cZ xkp 2 kp] H := hP
  have hD : va_D A [oM q tr xtx ty xdc xdl xdb xar xac xwm xnd 0 sta sor val fau xnw xkp xta xtw td xhg, aB cB xtx 150 tx, aI cI xdc 2 dc, aI cI xac 2 acn, aI cI xdl 6 dl, aI cI xdb 6 db, aI cI xar 12 ar, aI cI xwm 10 wm, aI cI xnd 60 nd, aI cI xnw 729 nw, aZ cZ xkp 2 kp] := hD
  refine lv_aload_n hx hb dX4_sideboard_5 rfl (lv_at hl 0 rfl) ?_
  refine lv_bipush (v := (-9)) hx hb dX4_sideboard_6 (by decide) ?_
  refine z_put (k := 14) zcX4 hC hK hP hD hS 0 rfl (by decide) lF_X4_81 rfl rfl rfl (Nat.le_of_ble_eq_true rfl) dX4_sideboard_8 (fun H locs hP hD hS => ?_)
  have hP : va_P D vwCl [oM q tr xtx ty xdc xdl xdb xar xac xwm xnd 0 sta sor val (-9) xnw xkp xta xtw td xhg, aB cB xtx 150 tx, aI cI xdc 2 dc, aI cI xac 2 acn, aI cI xdl 6 dl, aI cI xdb 6 db, aI cI xar 12 ar, aI cI xwm 10 wm, aI cI xnd 60 nd, aI cI xnw 729 nw, aZ cZ xkp 2 kp] H := hP
  have hD : va_D A [oM q tr xtx ty xdc xdl xdb xar xac xwm xnd 0 sta sor val (-9) xnw xkp xta xtw td xhg, aB cB xtx 150 tx, aI cI xdc 2 dc, aI cI xac 2 acn, aI cI xdl 6 dl, aI cI xdb 6 db, aI cI xar 12 ar, aI cI xwm 10 wm, aI cI xnd 60 nd, aI cI xnw 729 nw, aZ cZ xkp 2 kp] := hD
  refine lv_aload_n hx hb dX4_sideboard_11 rfl (lv_at hl 0 rfl) ?_
  refine zXV (As := []) (b := q) (rest := []) hC (c_X4_plain (l := l) ) lM_X4_51 vM_X4_plain (by decide) hK hP hD hS [0, 2, 3] [q, xdc, xac] rfl (by decide) rfl rfl ⟨rfl, rfl, rfl⟩ rfl hl.1 rfl (Nat.le_of_ble_eq_true rfl) dX4_sideboard_12 (by decide) (fun H locs hP hD hS => ?_)
  have hP : va_P D vwCl [oM q tr xtx ty xdc xdl xdb xar xac xwm xnd 0 sta sor val (-9) xnw xkp xta xtw td xhg, aB cB xtx 150 tx, aI cI xdc 2 (updN dc 1 0), aI cI xac 2 (updN acn 1 0), aI cI xdl 6 dl, aI cI xdb 6 db, aI cI xar 12 ar, aI cI xwm 10 wm, aI cI xnd 60 nd, aI cI xnw 729 nw, aZ cZ xkp 2 kp] H := hP
  have hD : va_D A [oM q tr xtx ty xdc xdl xdb xar xac xwm xnd 0 sta sor val (-9) xnw xkp xta xtw td xhg, aB cB xtx 150 tx, aI cI xdc 2 (updN dc 1 0), aI cI xac 2 (updN acn 1 0), aI cI xdl 6 dl, aI cI xdb 6 db, aI cI xar 12 ar, aI cI xwm 10 wm, aI cI xnd 60 nd, aI cI xnw 729 nw, aZ cZ xkp 2 kp] := hD
  show W _ _ _ _ _ _ _ _ _ _ _ _ _ _ _ (F0 m 15 ls [])
  refine lv_iconst (v := nI 0) hx hb dX4_sideboard_15 (by decide) ?_
  refine lv_istore_n (lv' := [(1, .int (nI 0)), (0, .ref q)]) hx hb dX4_sideboard_16 rfl hl (by decide) rfl (fun ls hl => ?_)
  refine lv_aload_n hx hb dX4_sideboard_17 rfl (lv_at hl 1 rfl) ?_
  refine zXV (As := []) (b := q) (rest := []) hC (c_X4_step (l := l) (hlen := hlen) (htx := htx) (hby := hby) (hat := Nat.zero_le _)) lM_X4_84 vM_X4_step (by decide) hK hP hD hS [0, 1] [q, xtx] rfl (by decide) rfl rfl ⟨rfl, rfl, rfl⟩ rfl hl.1 rfl (Nat.le_of_ble_eq_true rfl) dX4_sideboard_18 (by decide) (fun H locs hP hD hS => ?_)
  have hP : va_P D vwCl [oM q tr xtx ty xdc xdl xdb xar xac xwm xnd ((stp by_ ty 0).1) ((stp by_ ty 0).2.1) ((stp by_ ty 0).2.2.1) ((stp by_ ty 0).2.2.2) (-9) xnw xkp xta xtw td xhg, aB cB xtx 150 tx, aI cI xdc 2 (updN dc 1 0), aI cI xac 2 (updN acn 1 0), aI cI xdl 6 dl, aI cI xdb 6 db, aI cI xar 12 ar, aI cI xwm 10 wm, aI cI xnd 60 nd, aI cI xnw 729 nw, aZ cZ xkp 2 kp] H := hP
  have hD : va_D A [oM q tr xtx ty xdc xdl xdb xar xac xwm xnd ((stp by_ ty 0).1) ((stp by_ ty 0).2.1) ((stp by_ ty 0).2.2.1) ((stp by_ ty 0).2.2.2) (-9) xnw xkp xta xtw td xhg, aB cB xtx 150 tx, aI cI xdc 2 (updN dc 1 0), aI cI xac 2 (updN acn 1 0), aI cI xdl 6 dl, aI cI xdb 6 db, aI cI xar 12 ar, aI cI xwm 10 wm, aI cI xnd 60 nd, aI cI xnw 729 nw, aZ cZ xkp 2 kp] := hD
  show W _ _ _ _ _ _ _ _ _ _ _ _ _ _ _ (F0 m 21 ls [])
  have hL21 : ∀ (z21 : Nat) (c9 : Nat) (D9 : Md) (k9 : Nat), mu ty D9.1 = z21 → (wfD ty D9) → (mu ty D9.1 < k9) → (sbF by_ ty k9 c9 D9 = E9) → ∀ (H : Heap) (locs : List Loc), va_P D vwCl [oM q tr xtx ty xdc xdl xdb xar xac xwm xnd D9.1.1 D9.1.2.1 D9.1.2.2.1 D9.1.2.2.2.1 D9.1.2.2.2.2 xnw xkp xta xtw td xhg, aB cB xtx 150 tx, aI cI xdc 2 D9.2.1, aI cI xac 2 D9.2.2.1, aI cI xdl 6 D9.2.2.2.1, aI cI xdb 6 D9.2.2.2.2.1, aI cI xar 12 D9.2.2.2.2.2.1, aI cI xwm 10 D9.2.2.2.2.2.2.1, aI cI xnd 60 D9.2.2.2.2.2.2.2, aI cI xnw 729 nw, aZ cZ xkp 2 kp] H → va_D A [oM q tr xtx ty xdc xdl xdb xar xac xwm xnd D9.1.1 D9.1.2.1 D9.1.2.2.1 D9.1.2.2.2.1 D9.1.2.2.2.2 xnw xkp xta xtw td xhg, aB cB xtx 150 tx, aI cI xdc 2 D9.2.1, aI cI xac 2 D9.2.2.1, aI cI xdl 6 D9.2.2.2.1, aI cI xdb 6 D9.2.2.2.2.1, aI cI xar 12 D9.2.2.2.2.2.1, aI cI xwm 10 D9.2.2.2.2.2.2.1, aI cI xnd 60 D9.2.2.2.2.2.2.2, aI cI xnw 729 nw, aZ cZ xkp 2 kp] → va_S A H0 H locs → ∀ ls : Array Slot, lv_has ls 3 [(0, .ref q), (1, .int (nI c9))] → W p l e { frames := 6, cells := 0, slots := 0, locals := 135 } s m args below meth c H locs 0 0 (MQ below (qW D [oM q tr xtx ty xdc xdl xdb xar xac xwm xnd at9 sta sor val fau xnw xkp xta xtw td xhg, aB cB xtx 150 tx, aI cI xdc 2 dc, aI cI xac 2 acn, aI cI xdl 6 dl, aI cI xdb 6 db, aI cI xar 12 ar, aI cI xwm 10 wm, aI cI xnd 60 nd, aI cI xnw 729 nw, aZ cZ xkp 2 kp] [oM q tr xtx 0 xdc xdl xdb xar xac xwm xnd E9.2.1.1 E9.2.1.2.1 E9.2.1.2.2.1 E9.2.1.2.2.2.1 E9.2.1.2.2.2.2 xnw xkp xta xtw 0 xhg, aB cB xtx 150 tx, aI cI xdc 2 (updN E9.2.2.1 0 (E9.2.2.1 1)), aI cI xac 2 (updN E9.2.2.2.1 0 (E9.2.2.2.1 1)), aI cI xdl 6 E9.2.2.2.2.1, aI cI xdb 6 E9.2.2.2.2.2.1, aI cI xar 12 (blk E9.2.2.2.2.2.2.1 0 (E9.2.2.1 1) (fun m => E9.2.2.2.2.2.2.1 (6 + m))), aI cI xwm 10 (blk E9.2.2.2.2.2.2.2.1 0 (E9.2.2.2.1 1) (fun m => E9.2.2.2.2.2.2.2.1 (5 + m))), aI cI xnd 60 (blk E9.2.2.2.2.2.2.2.2 0 (6 * E9.2.2.2.1 1) (fun m => E9.2.2.2.2.2.2.2.2 (30 + m))), aI cI xnw 729 (updN (tdN (blk nw 0 22 (fun _ => 0)) E9.2.2.2.2.1 E9.2.2.2.2.2.1 (E9.2.2.1 1)) 22 0), aZ cZ xkp 2 (updB (updB kp 0 false) 1 false)] (some (.int (nI E9.1)))) args s 0 0 (zA [oM q tr xtx ty xdc xdl xdb xar xac xwm xnd at9 sta sor val fau xnw xkp xta xtw td xhg, aB cB xtx 150 tx, aI cI xdc 2 dc, aI cI xac 2 acn, aI cI xdl 6 dl, aI cI xdb 6 db, aI cI xar 12 ar, aI cI xwm 10 wm, aI cI xnd 60 nd, aI cI xnw 729 nw, aZ cZ xkp 2 kp])) (F0 m 21 ls []) := by
    intro z21
    induction z21 using Nat.strongRecOn with
    | _ z21 ih21 =>
    intro c9 D9 k9 hz21 hw hk9 hq9 H locs hP hD hS ls hl
    refine lv_aload_n hx hb dX4_sideboard_21 rfl (lv_at hl 0 rfl) ?_
    refine z_get (k := 14) zcX4 hC hK hP 0 rfl (by decide) lF_X4_81 rfl dX4_sideboard_22 ?_
    refine lv_bipush (v := (-9)) hx hb dX4_sideboard_25 (by decide) ?_
    refine lv_icmp_ne (tgt := 91) hx hb dX4_sideboard_27 (by decide) (fun c27 => ?_) (fun c27 => ?_)
    · skip
      refine lv_aload_n hx hb dX4_sideboard_91 rfl (lv_at hl 0 rfl) ?_
      refine z_get (k := 14) zcX4 hC hK hP 0 rfl (by decide) lF_X4_81 rfl dX4_sideboard_92 ?_
      refine lv_bipush (v := (-9)) hx hb dX4_sideboard_95 (by decide) ?_
      refine lv_icmp_eq (tgt := 108) hx hb dX4_sideboard_97 (by decide) (fun c97 => ?_) (fun c97 => by exfalso; exact c97 (by have := hgood; rw [show E9 = (c9, D9) from hq9.symm.trans (sbF_n (fun h => c27 h.1))] at this; exact this))
      refine lv_aload_n hx hb dX4_sideboard_108 rfl (lv_at hl 0 rfl) ?_
      refine zXV (As := []) (b := q) (rest := []) hC (c_X4_takeDraft (l := l) (hn1 := hw.2.1) (ha1 := hw.2.2)) lM_X4_54 vM_X4_takeDraft (by decide) hK hP hD hS [0, 2, 3, 9, 4, 5, 6, 7, 8, 10] [q, xdc, xac, xnw, xdl, xdb, xar, xwm, xnd, xkp] rfl (by decide) rfl rfl ⟨rfl, rfl, rfl⟩ rfl hl.1 rfl (Nat.le_of_ble_eq_true rfl) dX4_sideboard_109 (by decide) (fun H locs hP hD hS => ?_)
      have hP : va_P D vwCl [oM q tr xtx ty xdc xdl xdb xar xac xwm xnd D9.1.1 D9.1.2.1 D9.1.2.2.1 D9.1.2.2.2.1 D9.1.2.2.2.2 xnw xkp xta xtw 0 xhg, aB cB xtx 150 tx, aI cI xdc 2 (updN D9.2.1 0 (D9.2.1 1)), aI cI xac 2 (updN D9.2.2.1 0 (D9.2.2.1 1)), aI cI xdl 6 D9.2.2.2.1, aI cI xdb 6 D9.2.2.2.2.1, aI cI xar 12 (blk D9.2.2.2.2.2.1 0 (D9.2.1 1) (fun m => D9.2.2.2.2.2.1 (6 + m))), aI cI xwm 10 (blk D9.2.2.2.2.2.2.1 0 (D9.2.2.1 1) (fun m => D9.2.2.2.2.2.2.1 (5 + m))), aI cI xnd 60 (blk D9.2.2.2.2.2.2.2 0 (6 * D9.2.2.1 1) (fun m => D9.2.2.2.2.2.2.2 (30 + m))), aI cI xnw 729 (updN (tdN (blk nw 0 22 (fun _ => 0)) D9.2.2.2.1 D9.2.2.2.2.1 (D9.2.1 1)) 22 0), aZ cZ xkp 2 (updB (updB kp 0 false) 1 false)] H := hP
      have hD : va_D A [oM q tr xtx ty xdc xdl xdb xar xac xwm xnd D9.1.1 D9.1.2.1 D9.1.2.2.1 D9.1.2.2.2.1 D9.1.2.2.2.2 xnw xkp xta xtw 0 xhg, aB cB xtx 150 tx, aI cI xdc 2 (updN D9.2.1 0 (D9.2.1 1)), aI cI xac 2 (updN D9.2.2.1 0 (D9.2.2.1 1)), aI cI xdl 6 D9.2.2.2.1, aI cI xdb 6 D9.2.2.2.2.1, aI cI xar 12 (blk D9.2.2.2.2.2.1 0 (D9.2.1 1) (fun m => D9.2.2.2.2.2.1 (6 + m))), aI cI xwm 10 (blk D9.2.2.2.2.2.2.1 0 (D9.2.2.1 1) (fun m => D9.2.2.2.2.2.2.1 (5 + m))), aI cI xnd 60 (blk D9.2.2.2.2.2.2.2 0 (6 * D9.2.2.1 1) (fun m => D9.2.2.2.2.2.2.2 (30 + m))), aI cI xnw 729 (updN (tdN (blk nw 0 22 (fun _ => 0)) D9.2.2.2.1 D9.2.2.2.2.1 (D9.2.1 1)) 22 0), aZ cZ xkp 2 (updB (updB kp 0 false) 1 false)] := hD
      show W _ _ _ _ _ _ _ _ _ _ _ _ _ _ _ (F0 m 112 ls [])
      refine lv_aload_n hx hb dX4_sideboard_112 rfl (lv_at hl 0 rfl) ?_
      refine lv_iconst (v := nI 0) hx hb dX4_sideboard_113 (by decide) ?_
      refine z_put (k := 2) zcX4 hC hK hP hD hS 0 rfl (by decide) lF_X4_61 rfl rfl rfl (Nat.le_of_ble_eq_true rfl) dX4_sideboard_114 (fun H locs hP hD hS => ?_)
      have hP : va_P D vwCl [oM q tr xtx 0 xdc xdl xdb xar xac xwm xnd D9.1.1 D9.1.2.1 D9.1.2.2.1 D9.1.2.2.2.1 D9.1.2.2.2.2 xnw xkp xta xtw 0 xhg, aB cB xtx 150 tx, aI cI xdc 2 (updN D9.2.1 0 (D9.2.1 1)), aI cI xac 2 (updN D9.2.2.1 0 (D9.2.2.1 1)), aI cI xdl 6 D9.2.2.2.1, aI cI xdb 6 D9.2.2.2.2.1, aI cI xar 12 (blk D9.2.2.2.2.2.1 0 (D9.2.1 1) (fun m => D9.2.2.2.2.2.1 (6 + m))), aI cI xwm 10 (blk D9.2.2.2.2.2.2.1 0 (D9.2.2.1 1) (fun m => D9.2.2.2.2.2.2.1 (5 + m))), aI cI xnd 60 (blk D9.2.2.2.2.2.2.2 0 (6 * D9.2.2.1 1) (fun m => D9.2.2.2.2.2.2.2 (30 + m))), aI cI xnw 729 (updN (tdN (blk nw 0 22 (fun _ => 0)) D9.2.2.2.1 D9.2.2.2.2.1 (D9.2.1 1)) 22 0), aZ cZ xkp 2 (updB (updB kp 0 false) 1 false)] H := hP
      have hD : va_D A [oM q tr xtx 0 xdc xdl xdb xar xac xwm xnd D9.1.1 D9.1.2.1 D9.1.2.2.1 D9.1.2.2.2.1 D9.1.2.2.2.2 xnw xkp xta xtw 0 xhg, aB cB xtx 150 tx, aI cI xdc 2 (updN D9.2.1 0 (D9.2.1 1)), aI cI xac 2 (updN D9.2.2.1 0 (D9.2.2.1 1)), aI cI xdl 6 D9.2.2.2.1, aI cI xdb 6 D9.2.2.2.2.1, aI cI xar 12 (blk D9.2.2.2.2.2.1 0 (D9.2.1 1) (fun m => D9.2.2.2.2.2.1 (6 + m))), aI cI xwm 10 (blk D9.2.2.2.2.2.2.1 0 (D9.2.2.1 1) (fun m => D9.2.2.2.2.2.2.1 (5 + m))), aI cI xnd 60 (blk D9.2.2.2.2.2.2.2 0 (6 * D9.2.2.1 1) (fun m => D9.2.2.2.2.2.2.2 (30 + m))), aI cI xnw 729 (updN (tdN (blk nw 0 22 (fun _ => 0)) D9.2.2.2.1 D9.2.2.2.2.1 (D9.2.1 1)) 22 0), aZ cZ xkp 2 (updB (updB kp 0 false) 1 false)] := hD
      refine lv_iload_n hx hb dX4_sideboard_117 rfl (lv_at hl 1 rfl) ?_
      exact zw_i hC hr hlk hA h0 (by rw [show E9 = (c9, D9) from hq9.symm.trans (sbF_n (fun h => c27 h.1))]; exact hP) hS (by rw [show E9 = (c9, D9) from hq9.symm.trans (sbF_n (fun h => c27 h.1))]) dX4_sideboard_118
    · skip
      refine lv_aload_n hx hb dX4_sideboard_30 rfl (lv_at hl 0 rfl) ?_
      refine z_get (k := 12) zcX4 hC hK hP 0 rfl (by decide) lF_X4_78 rfl dX4_sideboard_31 ?_
      refine lv_iconst (v := nI 3) hx hb dX4_sideboard_34 (by decide) ?_
      have b35 := hw.1.2.2.1
      refine zc_eq (tgt := 91) hC dX4_sideboard_35 (by decide) (by omega) (by omega) (fun c35 => ?_) (fun c35 => ?_)
      · skip
        refine lv_aload_n hx hb dX4_sideboard_91 rfl (lv_at hl 0 rfl) ?_
        refine z_get (k := 14) zcX4 hC hK hP 0 rfl (by decide) lF_X4_81 rfl dX4_sideboard_92 ?_
        refine lv_bipush (v := (-9)) hx hb dX4_sideboard_95 (by decide) ?_
        refine lv_icmp_eq (tgt := 108) hx hb dX4_sideboard_97 (by decide) (fun c97 => ?_) (fun c97 => by exfalso; exact c97 (by have := hgood; rw [show E9 = (c9, D9) from hq9.symm.trans (sbF_n (fun h => h.2 c35))] at this; exact this))
        refine lv_aload_n hx hb dX4_sideboard_108 rfl (lv_at hl 0 rfl) ?_
        refine zXV (As := []) (b := q) (rest := []) hC (c_X4_takeDraft (l := l) (hn1 := hw.2.1) (ha1 := hw.2.2)) lM_X4_54 vM_X4_takeDraft (by decide) hK hP hD hS [0, 2, 3, 9, 4, 5, 6, 7, 8, 10] [q, xdc, xac, xnw, xdl, xdb, xar, xwm, xnd, xkp] rfl (by decide) rfl rfl ⟨rfl, rfl, rfl⟩ rfl hl.1 rfl (Nat.le_of_ble_eq_true rfl) dX4_sideboard_109 (by decide) (fun H locs hP hD hS => ?_)
        have hP : va_P D vwCl [oM q tr xtx ty xdc xdl xdb xar xac xwm xnd D9.1.1 D9.1.2.1 D9.1.2.2.1 D9.1.2.2.2.1 D9.1.2.2.2.2 xnw xkp xta xtw 0 xhg, aB cB xtx 150 tx, aI cI xdc 2 (updN D9.2.1 0 (D9.2.1 1)), aI cI xac 2 (updN D9.2.2.1 0 (D9.2.2.1 1)), aI cI xdl 6 D9.2.2.2.1, aI cI xdb 6 D9.2.2.2.2.1, aI cI xar 12 (blk D9.2.2.2.2.2.1 0 (D9.2.1 1) (fun m => D9.2.2.2.2.2.1 (6 + m))), aI cI xwm 10 (blk D9.2.2.2.2.2.2.1 0 (D9.2.2.1 1) (fun m => D9.2.2.2.2.2.2.1 (5 + m))), aI cI xnd 60 (blk D9.2.2.2.2.2.2.2 0 (6 * D9.2.2.1 1) (fun m => D9.2.2.2.2.2.2.2 (30 + m))), aI cI xnw 729 (updN (tdN (blk nw 0 22 (fun _ => 0)) D9.2.2.2.1 D9.2.2.2.2.1 (D9.2.1 1)) 22 0), aZ cZ xkp 2 (updB (updB kp 0 false) 1 false)] H := hP
        have hD : va_D A [oM q tr xtx ty xdc xdl xdb xar xac xwm xnd D9.1.1 D9.1.2.1 D9.1.2.2.1 D9.1.2.2.2.1 D9.1.2.2.2.2 xnw xkp xta xtw 0 xhg, aB cB xtx 150 tx, aI cI xdc 2 (updN D9.2.1 0 (D9.2.1 1)), aI cI xac 2 (updN D9.2.2.1 0 (D9.2.2.1 1)), aI cI xdl 6 D9.2.2.2.1, aI cI xdb 6 D9.2.2.2.2.1, aI cI xar 12 (blk D9.2.2.2.2.2.1 0 (D9.2.1 1) (fun m => D9.2.2.2.2.2.1 (6 + m))), aI cI xwm 10 (blk D9.2.2.2.2.2.2.1 0 (D9.2.2.1 1) (fun m => D9.2.2.2.2.2.2.1 (5 + m))), aI cI xnd 60 (blk D9.2.2.2.2.2.2.2 0 (6 * D9.2.2.1 1) (fun m => D9.2.2.2.2.2.2.2 (30 + m))), aI cI xnw 729 (updN (tdN (blk nw 0 22 (fun _ => 0)) D9.2.2.2.1 D9.2.2.2.2.1 (D9.2.1 1)) 22 0), aZ cZ xkp 2 (updB (updB kp 0 false) 1 false)] := hD
        show W _ _ _ _ _ _ _ _ _ _ _ _ _ _ _ (F0 m 112 ls [])
        refine lv_aload_n hx hb dX4_sideboard_112 rfl (lv_at hl 0 rfl) ?_
        refine lv_iconst (v := nI 0) hx hb dX4_sideboard_113 (by decide) ?_
        refine z_put (k := 2) zcX4 hC hK hP hD hS 0 rfl (by decide) lF_X4_61 rfl rfl rfl (Nat.le_of_ble_eq_true rfl) dX4_sideboard_114 (fun H locs hP hD hS => ?_)
        have hP : va_P D vwCl [oM q tr xtx 0 xdc xdl xdb xar xac xwm xnd D9.1.1 D9.1.2.1 D9.1.2.2.1 D9.1.2.2.2.1 D9.1.2.2.2.2 xnw xkp xta xtw 0 xhg, aB cB xtx 150 tx, aI cI xdc 2 (updN D9.2.1 0 (D9.2.1 1)), aI cI xac 2 (updN D9.2.2.1 0 (D9.2.2.1 1)), aI cI xdl 6 D9.2.2.2.1, aI cI xdb 6 D9.2.2.2.2.1, aI cI xar 12 (blk D9.2.2.2.2.2.1 0 (D9.2.1 1) (fun m => D9.2.2.2.2.2.1 (6 + m))), aI cI xwm 10 (blk D9.2.2.2.2.2.2.1 0 (D9.2.2.1 1) (fun m => D9.2.2.2.2.2.2.1 (5 + m))), aI cI xnd 60 (blk D9.2.2.2.2.2.2.2 0 (6 * D9.2.2.1 1) (fun m => D9.2.2.2.2.2.2.2 (30 + m))), aI cI xnw 729 (updN (tdN (blk nw 0 22 (fun _ => 0)) D9.2.2.2.1 D9.2.2.2.2.1 (D9.2.1 1)) 22 0), aZ cZ xkp 2 (updB (updB kp 0 false) 1 false)] H := hP
        have hD : va_D A [oM q tr xtx 0 xdc xdl xdb xar xac xwm xnd D9.1.1 D9.1.2.1 D9.1.2.2.1 D9.1.2.2.2.1 D9.1.2.2.2.2 xnw xkp xta xtw 0 xhg, aB cB xtx 150 tx, aI cI xdc 2 (updN D9.2.1 0 (D9.2.1 1)), aI cI xac 2 (updN D9.2.2.1 0 (D9.2.2.1 1)), aI cI xdl 6 D9.2.2.2.1, aI cI xdb 6 D9.2.2.2.2.1, aI cI xar 12 (blk D9.2.2.2.2.2.1 0 (D9.2.1 1) (fun m => D9.2.2.2.2.2.1 (6 + m))), aI cI xwm 10 (blk D9.2.2.2.2.2.2.1 0 (D9.2.2.1 1) (fun m => D9.2.2.2.2.2.2.1 (5 + m))), aI cI xnd 60 (blk D9.2.2.2.2.2.2.2 0 (6 * D9.2.2.1 1) (fun m => D9.2.2.2.2.2.2.2 (30 + m))), aI cI xnw 729 (updN (tdN (blk nw 0 22 (fun _ => 0)) D9.2.2.2.1 D9.2.2.2.2.1 (D9.2.1 1)) 22 0), aZ cZ xkp 2 (updB (updB kp 0 false) 1 false)] := hD
        refine lv_iload_n hx hb dX4_sideboard_117 rfl (lv_at hl 1 rfl) ?_
        exact zw_i hC hr hlk hA h0 (by rw [show E9 = (c9, D9) from hq9.symm.trans (sbF_n (fun h => h.2 c35))]; exact hP) hS (by rw [show E9 = (c9, D9) from hq9.symm.trans (sbF_n (fun h => h.2 c35))]) dX4_sideboard_118
      · skip
        refine lv_aload_n hx hb dX4_sideboard_38 rfl (lv_at hl 0 rfl) ?_
        refine z_get (k := 12) zcX4 hC hK hP 0 rfl (by decide) lF_X4_78 rfl dX4_sideboard_39 ?_
        refine lv_istore_n (lv' := [(2, .int (nI D9.1.2.2.1)), (0, .ref q), (1, .int (nI c9))]) hx hb dX4_sideboard_42 rfl hl (by decide) rfl (fun ls hl => ?_)
        refine lv_aload_n hx hb dX4_sideboard_43 rfl (lv_at hl 1 rfl) ?_
        refine lv_aload_n hx hb dX4_sideboard_44 rfl (lv_at hl 1 rfl) ?_
        refine lv_iload_n hx hb dX4_sideboard_45 rfl (lv_at hl 0 rfl) ?_
        refine zRV (As := [.int (nI D9.1.2.2.1)]) (b := q) (rest := [.ref q]) hC (c_X4_mayBe (l := l) (hx9 := hw.1.2.2.1) (hn1 := hw.2.1) (ha1 := hw.2.2)) lM_X4_101 vM_X4_mayBe (by decide) hK hP [0, 2, 3] rfl ⟨rfl, rfl, rfl⟩ rfl hl.1 rfl (Nat.le_of_ble_eq_true rfl) dX4_sideboard_46 (by decide) ?_
        show W _ _ _ _ _ _ _ _ _ _ _ _ _ _ _ (F0 m 49 ls [.int (bI (mbF (D9.2.1 1) (D9.2.2.1 1) D9.1.2.2.1)), .ref q])
        obtain ⟨F9, hF9⟩ : ∃ F, dueF by_ ty (mbF (D9.2.1 1) (D9.2.2.1 1) D9.1.2.2.1) D9.1 = F := ⟨_, rfl⟩
        have wF := dM_wfV hF9 hw
        refine zXV (As := [.int (bI (mbF (D9.2.1 1) (D9.2.2.1 1) D9.1.2.2.1))]) (b := q) (rest := []) hC (c_X4_dueV (l := l) (u := D9.1) (ok9 := mbF (D9.2.1 1) (D9.2.2.1 1) D9.1.2.2.1) (F9 := F9) (hlen := hlen) (htx := htx) (hby := hby) (hu := hw.1) (hF9 := hF9)) lM_X4_87 vM_X4_due (by decide) hK hP hD hS [0, 1] [q, xtx] rfl (by decide) rfl rfl ⟨rfl, rfl, rfl⟩ rfl hl.1 rfl (Nat.le_of_ble_eq_true rfl) dX4_sideboard_49 (by decide) (fun H locs hP hD hS => ?_)
        have hP : va_P D vwCl [oM q tr xtx ty xdc xdl xdb xar xac xwm xnd F9.1 F9.2.1 F9.2.2.1 F9.2.2.2.1 F9.2.2.2.2 xnw xkp xta xtw td xhg, aB cB xtx 150 tx, aI cI xdc 2 D9.2.1, aI cI xac 2 D9.2.2.1, aI cI xdl 6 D9.2.2.2.1, aI cI xdb 6 D9.2.2.2.2.1, aI cI xar 12 D9.2.2.2.2.2.1, aI cI xwm 10 D9.2.2.2.2.2.2.1, aI cI xnd 60 D9.2.2.2.2.2.2.2, aI cI xnw 729 nw, aZ cZ xkp 2 kp] H := hP
        have hD : va_D A [oM q tr xtx ty xdc xdl xdb xar xac xwm xnd F9.1 F9.2.1 F9.2.2.1 F9.2.2.2.1 F9.2.2.2.2 xnw xkp xta xtw td xhg, aB cB xtx 150 tx, aI cI xdc 2 D9.2.1, aI cI xac 2 D9.2.2.1, aI cI xdl 6 D9.2.2.2.1, aI cI xdb 6 D9.2.2.2.2.1, aI cI xar 12 D9.2.2.2.2.2.1, aI cI xwm 10 D9.2.2.2.2.2.2.1, aI cI xnd 60 D9.2.2.2.2.2.2.2, aI cI xnw 729 nw, aZ cZ xkp 2 kp] := hD
        show W _ _ _ _ _ _ _ _ _ _ _ _ _ _ _ (F0 m 52 ls [.int (nI D9.1.2.2.2.1)])
        refine lv_pop hx hb dX4_sideboard_52 rfl ?_
        refine lv_aload_n hx hb dX4_sideboard_53 rfl (lv_at hl 1 rfl) ?_
        refine z_get (k := 14) zcX4 hC hK hP 0 rfl (by decide) lF_X4_81 rfl dX4_sideboard_54 ?_
        refine lv_bipush (v := (-9)) hx hb dX4_sideboard_57 (by decide) ?_
        refine lv_icmp_ne (tgt := 88) hx hb dX4_sideboard_59 (by decide) (fun c59 => ?_) (fun c59 => ?_)
        · skip
          have b59 : mu ty (F9, D9.2).1 < mu ty D9.1 := mu_dV (by_ := by_) (len := ty) c27 hF9 c59
          refine lv_goto (tgt := 21) hx hb dX4_sideboard_88 (by decide) ?_
          exact ih21 (mu ty (F9, D9.2).1) (by omega) c9 (F9, D9.2) (k9 - 1) rfl (by exact wF) (by exact Nat.lt_of_lt_of_le b59 (by omega)) (by rw [← hq9]; exact (sbF_dV (by omega) ⟨c27, c35⟩ hF9 c59).symm) _ _ hP hD hS ls (lv_sub hl [1, 2] rfl)
        · skip
          refine lv_aload_n hx hb dX4_sideboard_62 rfl (lv_at hl 1 rfl) ?_
          refine lv_iload_n hx hb dX4_sideboard_63 rfl (lv_at hl 0 rfl) ?_
          have h64s := mbF_ok (dueF_ok hlen hw.1 (by rw [hF9]; exact c59)).1
          rcases h64s with h64 | h64 | h64
          · skip
            refine z_top (show (nI D9.1.2.2.1) = nI 97 from by rw [h64.1]) ?_
            obtain ⟨R9, hR9⟩ : ∃ R, rowA by_ ty (F9, D9.2) = R := ⟨_, rfl⟩
            refine zXV (As := [.int (nI 97)]) (b := q) (rest := []) hC (c_X4_readRow_aV (l := l) (F9 := F9) (X9 := D9.2) (R9 := R9) (hlen := hlen) (htx := htx) (hby := hby) (hu := wF.1) (hn1 := wF.2.1) (ha1 := h64.2) (hR9 := hR9)) lM_X4_105 vM_X4_readRow (by decide) hK hP hD hS [0, 1, 2, 3, 4, 5, 6, 7, 8] [q, xtx, xdc, xac, xdl, xdb, xar, xwm, xnd] rfl (by decide) rfl rfl ⟨rfl, rfl, rfl⟩ rfl hl.1 rfl (Nat.le_of_ble_eq_true rfl) dX4_sideboard_64 (by decide) (fun H locs hP hD hS => ?_)
            have hP : va_P D vwCl [oM q tr xtx ty xdc xdl xdb xar xac xwm xnd R9.1.1 R9.1.2.1 R9.1.2.2.1 R9.1.2.2.2.1 R9.1.2.2.2.2 xnw xkp xta xtw td xhg, aB cB xtx 150 tx, aI cI xdc 2 R9.2.1, aI cI xac 2 R9.2.2.1, aI cI xdl 6 R9.2.2.2.1, aI cI xdb 6 R9.2.2.2.2.1, aI cI xar 12 R9.2.2.2.2.2.1, aI cI xwm 10 R9.2.2.2.2.2.2.1, aI cI xnd 60 R9.2.2.2.2.2.2.2, aI cI xnw 729 nw, aZ cZ xkp 2 kp] H := hP
            have hD : va_D A [oM q tr xtx ty xdc xdl xdb xar xac xwm xnd R9.1.1 R9.1.2.1 R9.1.2.2.1 R9.1.2.2.2.1 R9.1.2.2.2.2 xnw xkp xta xtw td xhg, aB cB xtx 150 tx, aI cI xdc 2 R9.2.1, aI cI xac 2 R9.2.2.1, aI cI xdl 6 R9.2.2.2.1, aI cI xdb 6 R9.2.2.2.2.1, aI cI xar 12 R9.2.2.2.2.2.1, aI cI xwm 10 R9.2.2.2.2.2.2.1, aI cI xnd 60 R9.2.2.2.2.2.2.2, aI cI xnw 729 nw, aZ cZ xkp 2 kp] := hD
            show W _ _ _ _ _ _ _ _ _ _ _ _ _ _ _ (F0 m 67 ls [])
            refine lv_aload_n hx hb dX4_sideboard_67 rfl (lv_at hl 1 rfl) ?_
            refine lv_aload_n hx hb dX4_sideboard_68 rfl (lv_at hl 1 rfl) ?_
            refine z_get (k := 12) zcX4 hC hK hP 0 rfl (by decide) lF_X4_78 rfl dX4_sideboard_69 ?_
            refine lv_iconst (v := nI 2) hx hb dX4_sideboard_72 (by decide) ?_
            have w73 : wfD ty R9 := by rw [← hR9]; exact rowA_wf (by_ := by_) wF h64.2
            have b73 := w73.1.2.2.1
            refine zc_ne (tgt := 80) hC dX4_sideboard_73 (by decide) (by omega) (by omega) (fun c73 => ?_) (fun c73 => ?_)
            · skip
              refine lv_iconst (v := nI 0) hx hb dX4_sideboard_80 (by decide) ?_
              refine z_top (show (nI 0) = bI false from by rfl) ?_
              obtain ⟨G9, hG9⟩ : ∃ G, dueF by_ ty false R9.1 = G := ⟨_, rfl⟩
              refine zXV (As := [.int (bI false)]) (b := q) (rest := []) hC (c_X4_dueV (l := l) (u := R9.1) (ok9 := false) (F9 := G9) (hlen := hlen) (htx := htx) (hby := hby) (hu := w73.1) (hF9 := hG9)) lM_X4_87 vM_X4_due (by decide) hK hP hD hS [0, 1] [q, xtx] rfl (by decide) rfl rfl ⟨rfl, rfl, rfl⟩ rfl hl.1 rfl (Nat.le_of_ble_eq_true rfl) dX4_sideboard_81 (by decide) (fun H locs hP hD hS => ?_)
              have hP : va_P D vwCl [oM q tr xtx ty xdc xdl xdb xar xac xwm xnd G9.1 G9.2.1 G9.2.2.1 G9.2.2.2.1 G9.2.2.2.2 xnw xkp xta xtw td xhg, aB cB xtx 150 tx, aI cI xdc 2 R9.2.1, aI cI xac 2 R9.2.2.1, aI cI xdl 6 R9.2.2.2.1, aI cI xdb 6 R9.2.2.2.2.1, aI cI xar 12 R9.2.2.2.2.2.1, aI cI xwm 10 R9.2.2.2.2.2.2.1, aI cI xnd 60 R9.2.2.2.2.2.2.2, aI cI xnw 729 nw, aZ cZ xkp 2 kp] H := hP
              have hD : va_D A [oM q tr xtx ty xdc xdl xdb xar xac xwm xnd G9.1 G9.2.1 G9.2.2.1 G9.2.2.2.1 G9.2.2.2.2 xnw xkp xta xtw td xhg, aB cB xtx 150 tx, aI cI xdc 2 R9.2.1, aI cI xac 2 R9.2.2.1, aI cI xdl 6 R9.2.2.2.1, aI cI xdb 6 R9.2.2.2.2.1, aI cI xar 12 R9.2.2.2.2.2.1, aI cI xwm 10 R9.2.2.2.2.2.2.1, aI cI xnd 60 R9.2.2.2.2.2.2.2, aI cI xnw 729 nw, aZ cZ xkp 2 kp] := hD
              show W _ _ _ _ _ _ _ _ _ _ _ _ _ _ _ (F0 m 84 ls [.int (nI R9.1.2.2.2.1)])
              refine lv_pop hx hb dX4_sideboard_84 rfl ?_
              have b85 : mu ty (G9, R9.2).1 < mu ty D9.1 := mu_AV (by_ := by_) (b := false) hlen hw c27 h64.2 hF9 hR9 hG9
              refine lv_iinc (v := nI (c9 + 1)) (lv' := [(1, .int (nI (c9 + 1))), (2, .int (nI D9.1.2.2.1)), (0, .ref q)]) hx hb dX4_sideboard_85 hl (k := 2) rfl (z_inc c9 1) (by decide) rfl (fun ls hl => ?_)
              refine lv_goto (tgt := 21) hx hb dX4_sideboard_88 (by decide) ?_
              exact ih21 (mu ty (G9, R9.2).1) (by omega) (c9 + 1) (G9, R9.2) (k9 - 1) rfl (by exact eM_wfV hG9 w73) (by exact Nat.lt_of_lt_of_le b85 (by omega)) (by rw [← hq9]; exact (sbF_rV (by omega) ⟨c27, c35⟩ hF9 c59 ((if_pos h64.1).trans hR9) (decide_eq_false c73) hG9).symm) _ _ hP hD hS ls (lv_sub hl [2, 0] rfl)
            · skip
              refine lv_iconst (v := nI 1) hx hb dX4_sideboard_76 (by decide) ?_
              refine lv_goto (tgt := 81) hx hb dX4_sideboard_77 (by decide) ?_
              refine z_top (show (nI 1) = bI true from by rfl) ?_
              obtain ⟨G9, hG9⟩ : ∃ G, dueF by_ ty true R9.1 = G := ⟨_, rfl⟩
              refine zXV (As := [.int (bI true)]) (b := q) (rest := []) hC (c_X4_dueV (l := l) (u := R9.1) (ok9 := true) (F9 := G9) (hlen := hlen) (htx := htx) (hby := hby) (hu := w73.1) (hF9 := hG9)) lM_X4_87 vM_X4_due (by decide) hK hP hD hS [0, 1] [q, xtx] rfl (by decide) rfl rfl ⟨rfl, rfl, rfl⟩ rfl hl.1 rfl (Nat.le_of_ble_eq_true rfl) dX4_sideboard_81 (by decide) (fun H locs hP hD hS => ?_)
              have hP : va_P D vwCl [oM q tr xtx ty xdc xdl xdb xar xac xwm xnd G9.1 G9.2.1 G9.2.2.1 G9.2.2.2.1 G9.2.2.2.2 xnw xkp xta xtw td xhg, aB cB xtx 150 tx, aI cI xdc 2 R9.2.1, aI cI xac 2 R9.2.2.1, aI cI xdl 6 R9.2.2.2.1, aI cI xdb 6 R9.2.2.2.2.1, aI cI xar 12 R9.2.2.2.2.2.1, aI cI xwm 10 R9.2.2.2.2.2.2.1, aI cI xnd 60 R9.2.2.2.2.2.2.2, aI cI xnw 729 nw, aZ cZ xkp 2 kp] H := hP
              have hD : va_D A [oM q tr xtx ty xdc xdl xdb xar xac xwm xnd G9.1 G9.2.1 G9.2.2.1 G9.2.2.2.1 G9.2.2.2.2 xnw xkp xta xtw td xhg, aB cB xtx 150 tx, aI cI xdc 2 R9.2.1, aI cI xac 2 R9.2.2.1, aI cI xdl 6 R9.2.2.2.1, aI cI xdb 6 R9.2.2.2.2.1, aI cI xar 12 R9.2.2.2.2.2.1, aI cI xwm 10 R9.2.2.2.2.2.2.1, aI cI xnd 60 R9.2.2.2.2.2.2.2, aI cI xnw 729 nw, aZ cZ xkp 2 kp] := hD
              show W _ _ _ _ _ _ _ _ _ _ _ _ _ _ _ (F0 m 84 ls [.int (nI R9.1.2.2.2.1)])
              refine lv_pop hx hb dX4_sideboard_84 rfl ?_
              have b85 : mu ty (G9, R9.2).1 < mu ty D9.1 := mu_AV (by_ := by_) (b := true) hlen hw c27 h64.2 hF9 hR9 hG9
              refine lv_iinc (v := nI (c9 + 1)) (lv' := [(1, .int (nI (c9 + 1))), (2, .int (nI D9.1.2.2.1)), (0, .ref q)]) hx hb dX4_sideboard_85 hl (k := 2) rfl (z_inc c9 1) (by decide) rfl (fun ls hl => ?_)
              refine lv_goto (tgt := 21) hx hb dX4_sideboard_88 (by decide) ?_
              exact ih21 (mu ty (G9, R9.2).1) (by omega) (c9 + 1) (G9, R9.2) (k9 - 1) rfl (by exact eM_wfV hG9 w73) (by exact Nat.lt_of_lt_of_le b85 (by omega)) (by rw [← hq9]; exact (sbF_rV (by omega) ⟨c27, c35⟩ hF9 c59 ((if_pos h64.1).trans hR9) (decide_eq_true c73) hG9).symm) _ _ hP hD hS ls (lv_sub hl [2, 0] rfl)
          · skip
            refine z_top (show (nI D9.1.2.2.1) = nI 100 from by rw [h64.1]) ?_
            obtain ⟨R9, hR9⟩ : ∃ R, rowD by_ ty (F9, D9.2) = R := ⟨_, rfl⟩
            refine zXV (As := [.int (nI 100)]) (b := q) (rest := []) hC (c_X4_readRow_dV (l := l) (F9 := F9) (X9 := D9.2) (R9 := R9) (hlen := hlen) (htx := htx) (hby := hby) (hu := wF.1) (hn1 := h64.2) (hR9 := hR9)) lM_X4_105 vM_X4_readRow (by decide) hK hP hD hS [0, 1, 2, 3, 4, 5, 6, 7, 8] [q, xtx, xdc, xac, xdl, xdb, xar, xwm, xnd] rfl (by decide) rfl rfl ⟨rfl, rfl, rfl⟩ rfl hl.1 rfl (Nat.le_of_ble_eq_true rfl) dX4_sideboard_64 (by decide) (fun H locs hP hD hS => ?_)
            have hP : va_P D vwCl [oM q tr xtx ty xdc xdl xdb xar xac xwm xnd R9.1.1 R9.1.2.1 R9.1.2.2.1 R9.1.2.2.2.1 R9.1.2.2.2.2 xnw xkp xta xtw td xhg, aB cB xtx 150 tx, aI cI xdc 2 R9.2.1, aI cI xac 2 R9.2.2.1, aI cI xdl 6 R9.2.2.2.1, aI cI xdb 6 R9.2.2.2.2.1, aI cI xar 12 R9.2.2.2.2.2.1, aI cI xwm 10 R9.2.2.2.2.2.2.1, aI cI xnd 60 R9.2.2.2.2.2.2.2, aI cI xnw 729 nw, aZ cZ xkp 2 kp] H := hP
            have hD : va_D A [oM q tr xtx ty xdc xdl xdb xar xac xwm xnd R9.1.1 R9.1.2.1 R9.1.2.2.1 R9.1.2.2.2.1 R9.1.2.2.2.2 xnw xkp xta xtw td xhg, aB cB xtx 150 tx, aI cI xdc 2 R9.2.1, aI cI xac 2 R9.2.2.1, aI cI xdl 6 R9.2.2.2.1, aI cI xdb 6 R9.2.2.2.2.1, aI cI xar 12 R9.2.2.2.2.2.1, aI cI xwm 10 R9.2.2.2.2.2.2.1, aI cI xnd 60 R9.2.2.2.2.2.2.2, aI cI xnw 729 nw, aZ cZ xkp 2 kp] := hD
            show W _ _ _ _ _ _ _ _ _ _ _ _ _ _ _ (F0 m 67 ls [])
            refine lv_aload_n hx hb dX4_sideboard_67 rfl (lv_at hl 1 rfl) ?_
            refine lv_aload_n hx hb dX4_sideboard_68 rfl (lv_at hl 1 rfl) ?_
            refine z_get (k := 12) zcX4 hC hK hP 0 rfl (by decide) lF_X4_78 rfl dX4_sideboard_69 ?_
            refine lv_iconst (v := nI 2) hx hb dX4_sideboard_72 (by decide) ?_
            have w73 : wfD ty R9 := by rw [← hR9]; exact rowD_wf (by_ := by_) wF h64.2
            have b73 := w73.1.2.2.1
            refine zc_ne (tgt := 80) hC dX4_sideboard_73 (by decide) (by omega) (by omega) (fun c73 => ?_) (fun c73 => ?_)
            · skip
              refine lv_iconst (v := nI 0) hx hb dX4_sideboard_80 (by decide) ?_
              refine z_top (show (nI 0) = bI false from by rfl) ?_
              obtain ⟨G9, hG9⟩ : ∃ G, dueF by_ ty false R9.1 = G := ⟨_, rfl⟩
              refine zXV (As := [.int (bI false)]) (b := q) (rest := []) hC (c_X4_dueV (l := l) (u := R9.1) (ok9 := false) (F9 := G9) (hlen := hlen) (htx := htx) (hby := hby) (hu := w73.1) (hF9 := hG9)) lM_X4_87 vM_X4_due (by decide) hK hP hD hS [0, 1] [q, xtx] rfl (by decide) rfl rfl ⟨rfl, rfl, rfl⟩ rfl hl.1 rfl (Nat.le_of_ble_eq_true rfl) dX4_sideboard_81 (by decide) (fun H locs hP hD hS => ?_)
              have hP : va_P D vwCl [oM q tr xtx ty xdc xdl xdb xar xac xwm xnd G9.1 G9.2.1 G9.2.2.1 G9.2.2.2.1 G9.2.2.2.2 xnw xkp xta xtw td xhg, aB cB xtx 150 tx, aI cI xdc 2 R9.2.1, aI cI xac 2 R9.2.2.1, aI cI xdl 6 R9.2.2.2.1, aI cI xdb 6 R9.2.2.2.2.1, aI cI xar 12 R9.2.2.2.2.2.1, aI cI xwm 10 R9.2.2.2.2.2.2.1, aI cI xnd 60 R9.2.2.2.2.2.2.2, aI cI xnw 729 nw, aZ cZ xkp 2 kp] H := hP
              have hD : va_D A [oM q tr xtx ty xdc xdl xdb xar xac xwm xnd G9.1 G9.2.1 G9.2.2.1 G9.2.2.2.1 G9.2.2.2.2 xnw xkp xta xtw td xhg, aB cB xtx 150 tx, aI cI xdc 2 R9.2.1, aI cI xac 2 R9.2.2.1, aI cI xdl 6 R9.2.2.2.1, aI cI xdb 6 R9.2.2.2.2.1, aI cI xar 12 R9.2.2.2.2.2.1, aI cI xwm 10 R9.2.2.2.2.2.2.1, aI cI xnd 60 R9.2.2.2.2.2.2.2, aI cI xnw 729 nw, aZ cZ xkp 2 kp] := hD
              show W _ _ _ _ _ _ _ _ _ _ _ _ _ _ _ (F0 m 84 ls [.int (nI R9.1.2.2.2.1)])
              refine lv_pop hx hb dX4_sideboard_84 rfl ?_
              have b85 : mu ty (G9, R9.2).1 < mu ty D9.1 := mu_DV (by_ := by_) (b := false) hlen hw c27 h64.2 hF9 hR9 hG9
              refine lv_iinc (v := nI (c9 + 1)) (lv' := [(1, .int (nI (c9 + 1))), (2, .int (nI D9.1.2.2.1)), (0, .ref q)]) hx hb dX4_sideboard_85 hl (k := 2) rfl (z_inc c9 1) (by decide) rfl (fun ls hl => ?_)
              refine lv_goto (tgt := 21) hx hb dX4_sideboard_88 (by decide) ?_
              exact ih21 (mu ty (G9, R9.2).1) (by omega) (c9 + 1) (G9, R9.2) (k9 - 1) rfl (by exact eM_wfV hG9 w73) (by exact Nat.lt_of_lt_of_le b85 (by omega)) (by rw [← hq9]; exact (sbF_rV (by omega) ⟨c27, c35⟩ hF9 c59 (((if_neg (by omega)).trans (if_pos h64.1)).trans hR9) (decide_eq_false c73) hG9).symm) _ _ hP hD hS ls (lv_sub hl [2, 0] rfl)
            · skip
              refine lv_iconst (v := nI 1) hx hb dX4_sideboard_76 (by decide) ?_
              refine lv_goto (tgt := 81) hx hb dX4_sideboard_77 (by decide) ?_
              refine z_top (show (nI 1) = bI true from by rfl) ?_
              obtain ⟨G9, hG9⟩ : ∃ G, dueF by_ ty true R9.1 = G := ⟨_, rfl⟩
              refine zXV (As := [.int (bI true)]) (b := q) (rest := []) hC (c_X4_dueV (l := l) (u := R9.1) (ok9 := true) (F9 := G9) (hlen := hlen) (htx := htx) (hby := hby) (hu := w73.1) (hF9 := hG9)) lM_X4_87 vM_X4_due (by decide) hK hP hD hS [0, 1] [q, xtx] rfl (by decide) rfl rfl ⟨rfl, rfl, rfl⟩ rfl hl.1 rfl (Nat.le_of_ble_eq_true rfl) dX4_sideboard_81 (by decide) (fun H locs hP hD hS => ?_)
              have hP : va_P D vwCl [oM q tr xtx ty xdc xdl xdb xar xac xwm xnd G9.1 G9.2.1 G9.2.2.1 G9.2.2.2.1 G9.2.2.2.2 xnw xkp xta xtw td xhg, aB cB xtx 150 tx, aI cI xdc 2 R9.2.1, aI cI xac 2 R9.2.2.1, aI cI xdl 6 R9.2.2.2.1, aI cI xdb 6 R9.2.2.2.2.1, aI cI xar 12 R9.2.2.2.2.2.1, aI cI xwm 10 R9.2.2.2.2.2.2.1, aI cI xnd 60 R9.2.2.2.2.2.2.2, aI cI xnw 729 nw, aZ cZ xkp 2 kp] H := hP
              have hD : va_D A [oM q tr xtx ty xdc xdl xdb xar xac xwm xnd G9.1 G9.2.1 G9.2.2.1 G9.2.2.2.1 G9.2.2.2.2 xnw xkp xta xtw td xhg, aB cB xtx 150 tx, aI cI xdc 2 R9.2.1, aI cI xac 2 R9.2.2.1, aI cI xdl 6 R9.2.2.2.1, aI cI xdb 6 R9.2.2.2.2.1, aI cI xar 12 R9.2.2.2.2.2.1, aI cI xwm 10 R9.2.2.2.2.2.2.1, aI cI xnd 60 R9.2.2.2.2.2.2.2, aI cI xnw 729 nw, aZ cZ xkp 2 kp] := hD
              show W _ _ _ _ _ _ _ _ _ _ _ _ _ _ _ (F0 m 84 ls [.int (nI R9.1.2.2.2.1)])
              refine lv_pop hx hb dX4_sideboard_84 rfl ?_
              have b85 : mu ty (G9, R9.2).1 < mu ty D9.1 := mu_DV (by_ := by_) (b := true) hlen hw c27 h64.2 hF9 hR9 hG9
              refine lv_iinc (v := nI (c9 + 1)) (lv' := [(1, .int (nI (c9 + 1))), (2, .int (nI D9.1.2.2.1)), (0, .ref q)]) hx hb dX4_sideboard_85 hl (k := 2) rfl (z_inc c9 1) (by decide) rfl (fun ls hl => ?_)
              refine lv_goto (tgt := 21) hx hb dX4_sideboard_88 (by decide) ?_
              exact ih21 (mu ty (G9, R9.2).1) (by omega) (c9 + 1) (G9, R9.2) (k9 - 1) rfl (by exact eM_wfV hG9 w73) (by exact Nat.lt_of_lt_of_le b85 (by omega)) (by rw [← hq9]; exact (sbF_rV (by omega) ⟨c27, c35⟩ hF9 c59 (((if_neg (by omega)).trans (if_pos h64.1)).trans hR9) (decide_eq_true c73) hG9).symm) _ _ hP hD hS ls (lv_sub hl [2, 0] rfl)
          · skip
            refine z_top (show (nI D9.1.2.2.1) = nI 120 from by rw [h64]) ?_
            obtain ⟨R9, hR9⟩ : ∃ R, rowX by_ ty (F9, D9.2) = R := ⟨_, rfl⟩
            refine zXV (As := [.int (nI 120)]) (b := q) (rest := []) hC (c_X4_readRow_xV (l := l) (F9 := F9) (X9 := D9.2) (R9 := R9) (hlen := hlen) (htx := htx) (hby := hby) (hu := wF.1) (hn1 := wF.2.1) (hR9 := hR9)) lM_X4_105 vM_X4_readRow (by decide) hK hP hD hS [0, 1, 2, 3, 4, 5, 6, 7, 8] [q, xtx, xdc, xac, xdl, xdb, xar, xwm, xnd] rfl (by decide) rfl rfl ⟨rfl, rfl, rfl⟩ rfl hl.1 rfl (Nat.le_of_ble_eq_true rfl) dX4_sideboard_64 (by decide) (fun H locs hP hD hS => ?_)
            have hP : va_P D vwCl [oM q tr xtx ty xdc xdl xdb xar xac xwm xnd R9.1.1 R9.1.2.1 R9.1.2.2.1 R9.1.2.2.2.1 R9.1.2.2.2.2 xnw xkp xta xtw td xhg, aB cB xtx 150 tx, aI cI xdc 2 R9.2.1, aI cI xac 2 R9.2.2.1, aI cI xdl 6 R9.2.2.2.1, aI cI xdb 6 R9.2.2.2.2.1, aI cI xar 12 R9.2.2.2.2.2.1, aI cI xwm 10 R9.2.2.2.2.2.2.1, aI cI xnd 60 R9.2.2.2.2.2.2.2, aI cI xnw 729 nw, aZ cZ xkp 2 kp] H := hP
            have hD : va_D A [oM q tr xtx ty xdc xdl xdb xar xac xwm xnd R9.1.1 R9.1.2.1 R9.1.2.2.1 R9.1.2.2.2.1 R9.1.2.2.2.2 xnw xkp xta xtw td xhg, aB cB xtx 150 tx, aI cI xdc 2 R9.2.1, aI cI xac 2 R9.2.2.1, aI cI xdl 6 R9.2.2.2.1, aI cI xdb 6 R9.2.2.2.2.1, aI cI xar 12 R9.2.2.2.2.2.1, aI cI xwm 10 R9.2.2.2.2.2.2.1, aI cI xnd 60 R9.2.2.2.2.2.2.2, aI cI xnw 729 nw, aZ cZ xkp 2 kp] := hD
            show W _ _ _ _ _ _ _ _ _ _ _ _ _ _ _ (F0 m 67 ls [])
            refine lv_aload_n hx hb dX4_sideboard_67 rfl (lv_at hl 1 rfl) ?_
            refine lv_aload_n hx hb dX4_sideboard_68 rfl (lv_at hl 1 rfl) ?_
            refine z_get (k := 12) zcX4 hC hK hP 0 rfl (by decide) lF_X4_78 rfl dX4_sideboard_69 ?_
            refine lv_iconst (v := nI 2) hx hb dX4_sideboard_72 (by decide) ?_
            have w73 : wfD ty R9 := by rw [← hR9]; exact rowX_wf (by_ := by_) wF
            have b73 := w73.1.2.2.1
            refine zc_ne (tgt := 80) hC dX4_sideboard_73 (by decide) (by omega) (by omega) (fun c73 => ?_) (fun c73 => ?_)
            · skip
              refine lv_iconst (v := nI 0) hx hb dX4_sideboard_80 (by decide) ?_
              refine z_top (show (nI 0) = bI false from by rfl) ?_
              obtain ⟨G9, hG9⟩ : ∃ G, dueF by_ ty false R9.1 = G := ⟨_, rfl⟩
              refine zXV (As := [.int (bI false)]) (b := q) (rest := []) hC (c_X4_dueV (l := l) (u := R9.1) (ok9 := false) (F9 := G9) (hlen := hlen) (htx := htx) (hby := hby) (hu := w73.1) (hF9 := hG9)) lM_X4_87 vM_X4_due (by decide) hK hP hD hS [0, 1] [q, xtx] rfl (by decide) rfl rfl ⟨rfl, rfl, rfl⟩ rfl hl.1 rfl (Nat.le_of_ble_eq_true rfl) dX4_sideboard_81 (by decide) (fun H locs hP hD hS => ?_)
              have hP : va_P D vwCl [oM q tr xtx ty xdc xdl xdb xar xac xwm xnd G9.1 G9.2.1 G9.2.2.1 G9.2.2.2.1 G9.2.2.2.2 xnw xkp xta xtw td xhg, aB cB xtx 150 tx, aI cI xdc 2 R9.2.1, aI cI xac 2 R9.2.2.1, aI cI xdl 6 R9.2.2.2.1, aI cI xdb 6 R9.2.2.2.2.1, aI cI xar 12 R9.2.2.2.2.2.1, aI cI xwm 10 R9.2.2.2.2.2.2.1, aI cI xnd 60 R9.2.2.2.2.2.2.2, aI cI xnw 729 nw, aZ cZ xkp 2 kp] H := hP
              have hD : va_D A [oM q tr xtx ty xdc xdl xdb xar xac xwm xnd G9.1 G9.2.1 G9.2.2.1 G9.2.2.2.1 G9.2.2.2.2 xnw xkp xta xtw td xhg, aB cB xtx 150 tx, aI cI xdc 2 R9.2.1, aI cI xac 2 R9.2.2.1, aI cI xdl 6 R9.2.2.2.1, aI cI xdb 6 R9.2.2.2.2.1, aI cI xar 12 R9.2.2.2.2.2.1, aI cI xwm 10 R9.2.2.2.2.2.2.1, aI cI xnd 60 R9.2.2.2.2.2.2.2, aI cI xnw 729 nw, aZ cZ xkp 2 kp] := hD
              show W _ _ _ _ _ _ _ _ _ _ _ _ _ _ _ (F0 m 84 ls [.int (nI R9.1.2.2.2.1)])
              refine lv_pop hx hb dX4_sideboard_84 rfl ?_
              have b85 : mu ty (G9, R9.2).1 < mu ty D9.1 := mu_XV (by_ := by_) (b := false) hlen hw c27 hF9 hR9 hG9
              refine lv_iinc (v := nI (c9 + 1)) (lv' := [(1, .int (nI (c9 + 1))), (2, .int (nI D9.1.2.2.1)), (0, .ref q)]) hx hb dX4_sideboard_85 hl (k := 2) rfl (z_inc c9 1) (by decide) rfl (fun ls hl => ?_)
              refine lv_goto (tgt := 21) hx hb dX4_sideboard_88 (by decide) ?_
              exact ih21 (mu ty (G9, R9.2).1) (by omega) (c9 + 1) (G9, R9.2) (k9 - 1) rfl (by exact eM_wfV hG9 w73) (by exact Nat.lt_of_lt_of_le b85 (by omega)) (by rw [← hq9]; exact (sbF_rV (by omega) ⟨c27, c35⟩ hF9 c59 (((if_neg (by omega)).trans (if_neg (by omega))).trans hR9) (decide_eq_false c73) hG9).symm) _ _ hP hD hS ls (lv_sub hl [2, 0] rfl)
            · skip
              refine lv_iconst (v := nI 1) hx hb dX4_sideboard_76 (by decide) ?_
              refine lv_goto (tgt := 81) hx hb dX4_sideboard_77 (by decide) ?_
              refine z_top (show (nI 1) = bI true from by rfl) ?_
              obtain ⟨G9, hG9⟩ : ∃ G, dueF by_ ty true R9.1 = G := ⟨_, rfl⟩
              refine zXV (As := [.int (bI true)]) (b := q) (rest := []) hC (c_X4_dueV (l := l) (u := R9.1) (ok9 := true) (F9 := G9) (hlen := hlen) (htx := htx) (hby := hby) (hu := w73.1) (hF9 := hG9)) lM_X4_87 vM_X4_due (by decide) hK hP hD hS [0, 1] [q, xtx] rfl (by decide) rfl rfl ⟨rfl, rfl, rfl⟩ rfl hl.1 rfl (Nat.le_of_ble_eq_true rfl) dX4_sideboard_81 (by decide) (fun H locs hP hD hS => ?_)
              have hP : va_P D vwCl [oM q tr xtx ty xdc xdl xdb xar xac xwm xnd G9.1 G9.2.1 G9.2.2.1 G9.2.2.2.1 G9.2.2.2.2 xnw xkp xta xtw td xhg, aB cB xtx 150 tx, aI cI xdc 2 R9.2.1, aI cI xac 2 R9.2.2.1, aI cI xdl 6 R9.2.2.2.1, aI cI xdb 6 R9.2.2.2.2.1, aI cI xar 12 R9.2.2.2.2.2.1, aI cI xwm 10 R9.2.2.2.2.2.2.1, aI cI xnd 60 R9.2.2.2.2.2.2.2, aI cI xnw 729 nw, aZ cZ xkp 2 kp] H := hP
              have hD : va_D A [oM q tr xtx ty xdc xdl xdb xar xac xwm xnd G9.1 G9.2.1 G9.2.2.1 G9.2.2.2.1 G9.2.2.2.2 xnw xkp xta xtw td xhg, aB cB xtx 150 tx, aI cI xdc 2 R9.2.1, aI cI xac 2 R9.2.2.1, aI cI xdl 6 R9.2.2.2.1, aI cI xdb 6 R9.2.2.2.2.1, aI cI xar 12 R9.2.2.2.2.2.1, aI cI xwm 10 R9.2.2.2.2.2.2.1, aI cI xnd 60 R9.2.2.2.2.2.2.2, aI cI xnw 729 nw, aZ cZ xkp 2 kp] := hD
              show W _ _ _ _ _ _ _ _ _ _ _ _ _ _ _ (F0 m 84 ls [.int (nI R9.1.2.2.2.1)])
              refine lv_pop hx hb dX4_sideboard_84 rfl ?_
              have b85 : mu ty (G9, R9.2).1 < mu ty D9.1 := mu_XV (by_ := by_) (b := true) hlen hw c27 hF9 hR9 hG9
              refine lv_iinc (v := nI (c9 + 1)) (lv' := [(1, .int (nI (c9 + 1))), (2, .int (nI D9.1.2.2.1)), (0, .ref q)]) hx hb dX4_sideboard_85 hl (k := 2) rfl (z_inc c9 1) (by decide) rfl (fun ls hl => ?_)
              refine lv_goto (tgt := 21) hx hb dX4_sideboard_88 (by decide) ?_
              exact ih21 (mu ty (G9, R9.2).1) (by omega) (c9 + 1) (G9, R9.2) (k9 - 1) rfl (by exact eM_wfV hG9 w73) (by exact Nat.lt_of_lt_of_le b85 (by omega)) (by rw [← hq9]; exact (sbF_rV (by omega) ⟨c27, c35⟩ hF9 c59 (((if_neg (by omega)).trans (if_neg (by omega))).trans hR9) (decide_eq_true c73) hG9).symm) _ _ hP hD hS ls (lv_sub hl [2, 0] rfl)
  exact hL21 _ 0 (((stp by_ ty 0).1, (stp by_ ty 0).2.1, (stp by_ ty 0).2.2.1, (stp by_ ty 0).2.2.2, -9), updN dc 1 0, updN acn 1 0, dl, db, ar, wm, nd) 400 rfl (by exact ⟨stp_wf (Nat.zero_le _), by show updN dc 1 0 1 ≤ 6; rw [updN_s]; omega, by show updN acn 1 0 1 ≤ 5; rw [updN_s]; omega⟩) (by exact Nat.lt_of_le_of_lt mu_le (by omega)) (by exact hE9) _ _ hP hD hS ls (lv_sub hl [1, 0] rfl)
