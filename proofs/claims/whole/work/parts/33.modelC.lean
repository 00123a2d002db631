set_option maxHeartbeats 1000000 in
set_option maxRecDepth 100000 in
theorem c_X4_type_bad {l : Launch} {D : va_G} {cI cZ cB cR : ClassId} {q xtx ty xdc xdl xdb xar xac xwm xnd at9 sta sor val xnw xkp xta xtw td xhg : Nat} {tr : Int64} {fau : Int32} {x : Int32} (hbi : ¬ (nI 0 ≤ x ∧ x ≤ nI 255))  : mR l yX4_type cX4_type 2 (some .int) 1 22 D cI cZ cB cR [oM q tr xtx ty xdc xdl xdb xar xac xwm xnd at9 sta sor val fau xnw xkp xta xtw td xhg] [.ref q, .int x] (some (.int (-1))) := by
  refine mR_of rfl (Nat.le_of_ble_eq_true rfl) ?_
  intro p e s m args below meth c hC hr hlk hK hP ls hl
  have hl : lv_has ls 2 [(0, .ref q), (1, .int x)] := hl
  obtain ⟨hx, hb, hml, hown, hts⟩ := id hC
  refine lv_iload_n hx hb dX4_type_0 rfl (lv_at hl 1 rfl) ?_
  refine lv_iconst (v := nI 0) hx hb dX4_type_1 (by decide) ?_
  refine lv_sipush (v := nI 255) hx hb dX4_type_2 (by decide) ?_
  refine zRS (As := [.int x, .int (nI 0), .int (nI 255)]) (rest := []) hC (c_X4_in (l := l) (g := false) (hg := ⟨fun h => (by cases h), fun h => absurd h hbi⟩)) lM_X4_57 sM_X4_in (by decide) hK rfl hl.1 rfl (Nat.le_of_ble_eq_true rfl) dX4_type_5 (by decide) ?_
  show W _ _ _ _ _ _ _ _ _ _ _ _ _ _ _ (F0 m 8 ls [.int (bI false)])
  refine zb_ne (tgt := 13) hC dX4_type_8 (by decide) (fun c8 => by exfalso; cases c8) (fun c8 => ?_)
  refine lv_iconst (v := (-1)) hx hb dX4_type_11 (by decide) ?_
  exact zr_i hC hr hlk (by first | rfl | omega) dX4_type_12
set_option maxHeartbeats 1000000 in
set_option maxRecDepth 100000 in
theorem c_X4_type_full {l : Launch} {D : va_G} {cI cZ cB cR : ClassId} {q xtx xdc xdl xdb xar xac xwm xnd at9 sta sor val xnw xkp xta xtw td xhg : Nat} {tr : Int64} {fau : Int32} {c9 : Nat} (hc : c9 < 256) : mR l yX4_type cX4_type 2 (some .int) 1 22 D cI cZ cB cR [oM q tr xtx 150 xdc xdl xdb xar xac xwm xnd at9 sta sor val fau xnw xkp xta xtw td xhg] [.ref q, .int (nI c9)] (some (.int (-3))) := by
  refine mR_of rfl (Nat.le_of_ble_eq_true rfl) ?_
  intro p e s m args below meth c hC hr hlk hK hP ls hl
  have hl : lv_has ls 2 [(0, .ref q), (1, .int (nI c9))] := hl
  obtain ⟨hx, hb, hml, hown, hts⟩ := id hC
  refine lv_iload_n hx hb dX4_type_0 rfl (lv_at hl 1 rfl) ?_
  refine lv_iconst (v := nI 0) hx hb dX4_type_1 (by decide) ?_
  refine lv_sipush (v := nI 255) hx hb dX4_type_2 (by decide) ?_
  refine zRS (As := [.int (nI c9), .int (nI 0), .int (nI 255)]) (rest := []) hC (c_X4_in (l := l) (g := true) (hg := ⟨fun _ => ⟨(nI_leI (by omega) (by omega)).mpr (by omega), (nI_leI (by omega) (by omega)).mpr (by omega)⟩, fun _ => rfl⟩)) lM_X4_57 sM_X4_in (by decide) hK rfl hl.1 rfl (Nat.le_of_ble_eq_true rfl) dX4_type_5 (by decide) ?_
  show W _ _ _ _ _ _ _ _ _ _ _ _ _ _ _ (F0 m 8 ls [.int (bI true)])
  refine zb_ne (tgt := 13) hC dX4_type_8 (by decide) (fun c8 => ?_) (fun c8 => by exfalso; cases c8)
  refine lv_aload_n hx hb dX4_type_13 rfl (lv_at hl 0 rfl) ?_
  refine z_get (k := 2) zcX4 hC hK hP 0 rfl (by decide) lF_X4_61 rfl dX4_type_14 ?_
  refine lv_sipush (v := nI 150) hx hb dX4_type_17 (by decide) ?_
  refine zc_ne (tgt := 26) hC dX4_type_20 (by decide) (by omega) (by omega) (fun c20 => by exfalso; omega) (fun c20 => ?_)
  refine lv_bipush (v := (-3)) hx hb dX4_type_23 (by decide) ?_
  exact zr_i hC hr hlk (by first | rfl | omega) dX4_type_25
set_option maxHeartbeats 1000000 in
set_option maxRecDepth 100000 in
theorem c_X4_type {l : Launch} {D : va_G} {cI cZ cB cR : ClassId} {q xtx ty xdc xdl xdb xar xac xwm xnd at9 sta sor val xnw xkp xta xtw td xhg : Nat} {tr : Int64} {fau : Int32} {tx : Nat → Int32} {c9 : Nat} (hc : c9 < 256) (hty : ty < 150) : mW l yX4_type cX4_type 2 (some .int) 1 22 D cI cZ cB cR [oM q tr xtx ty xdc xdl xdb xar xac xwm xnd at9 sta sor val fau xnw xkp xta xtw td xhg, aB cB xtx 150 tx] [oM q tr xtx (ty + 1) xdc xdl xdb xar xac xwm xnd at9 sta sor val fau xnw xkp xta xtw td xhg, aB cB xtx 150 (upd tx ty (nI c9).toInt8.toInt32)] [.ref q, .int (nI c9)] (some (.int (nI (ty + 1)))) := by
  refine mW_of rfl (Nat.le_of_ble_eq_true rfl) ?_
  intro p e s m args below meth c hC hr hlk hK A hA hD H0 h0 hP hS ls hl
  have hP : va_P D vwCl [oM q tr xtx ty xdc xdl xdb xar xac xwm xnd at9 sta sor val fau xnw xkp xta xtw td xhg, aB cB xtx 150 tx] H0 := hP
  have hl : lv_has ls 2 [(0, .ref q), (1, .int (nI c9))] := hl
  obtain ⟨hx, hb, hml, hown, hts⟩ := id hC
  refine lv_iload_n hx hb dX4_type_0 rfl (lv_at hl 1 rfl) ?_
  refine lv_iconst (v := nI 0) hx hb dX4_type_1 (by decide) ?_
  refine lv_sipush (v := nI 255) hx hb dX4_type_2 (by decide) ?_
  refine zRS (As := [.int (nI c9), .int (nI 0), .int (nI 255)]) (rest := []) hC (c_X4_in (l := l) (g := true) (hg := ⟨fun _ => ⟨(nI_leI (by omega) (by omega)).mpr (by omega), (nI_leI (by omega) (by omega)).mpr (by omega)⟩, fun _ => rfl⟩)) lM_X4_57 sM_X4_in (by decide) hK rfl hl.1 rfl (Nat.le_of_ble_eq_true rfl) dX4_type_5 (by decide) ?_
  show W _ _ _ _ _ _ _ _ _ _ _ _ _ _ _ (F0 m 8 ls [.int (bI true)])
  refine zb_ne (tgt := 13) hC dX4_type_8 (by decide) (fun c8 => ?_) (fun c8 => by exfalso; cases c8)
  refine lv_aload_n hx hb dX4_type_13 rfl (lv_at hl 0 rfl) ?_
  refine z_get (k := 2) zcX4 hC hK hP 0 rfl (by decide) lF_X4_61 rfl dX4_type_14 ?_
  refine lv_sipush (v := nI 150) hx hb dX4_type_17 (by decide) ?_
  refine zc_ne (tgt := 26) hC dX4_type_20 (by decide) (by omega) (by omega) (fun c20 => ?_) (fun c20 => by exfalso; omega)
  refine lv_aload_n hx hb dX4_type_26 rfl (lv_at hl 0 rfl) ?_
  refine z_get (k := 1) zcX4 hC hK hP 0 rfl (by decide) lF_X4_7 rfl dX4_type_27 ?_
  refine lv_aload_n hx hb dX4_type_30 rfl (lv_at hl 0 rfl) ?_
  refine z_get (k := 2) zcX4 hC hK hP 0 rfl (by decide) lF_X4_61 rfl dX4_type_31 ?_
  refine lv_iload_n hx hb dX4_type_34 rfl (lv_at hl 1 rfl) ?_
  refine lv_i2b hx hb dX4_type_35 rfl ?_
  refine z_bst hC hK hP hD hS 1 rfl (by omega) (by decide) dX4_type_36 (fun H locs hP hD hS => ?_)
  have hP : va_P D vwCl [oM q tr xtx ty xdc xdl xdb xar xac xwm xnd at9 sta sor val fau xnw xkp xta xtw td xhg, aB cB xtx 150 (upd tx ty ((nI c9).toInt8.toInt32).toInt8.toInt32)] H := hP
  have hD : va_D A [oM q tr xtx ty xdc xdl xdb xar xac xwm xnd at9 sta sor val fau xnw xkp xta xtw td xhg, aB cB xtx 150 (upd tx ty ((nI c9).toInt8.toInt32).toInt8.toInt32)] := hD
  refine lv_aload_n hx hb dX4_type_37 rfl (lv_at hl 0 rfl) ?_
  refine lv_dup hx hb dX4_type_38 rfl ?_
  refine z_get (k := 2) zcX4 hC hK hP 0 rfl (by decide) lF_X4_61 rfl dX4_type_39 ?_
  refine lv_iconst (v := nI 1) hx hb dX4_type_42 (by decide) ?_
  refine zi_add hC dX4_type_43 ?_
  refine z_put (k := 2) zcX4 hC hK hP hD hS 0 rfl (by decide) lF_X4_61 rfl rfl rfl (Nat.le_of_ble_eq_true rfl) dX4_type_44 (fun H locs hP hD hS => ?_)
  have hP : va_P D vwCl [oM q tr xtx (ty + 1) xdc xdl xdb xar xac xwm xnd at9 sta sor val fau xnw xkp xta xtw td xhg, aB cB xtx 150 (upd tx ty ((nI c9).toInt8.toInt32).toInt8.toInt32)] H := hP
  have hD : va_D A [oM q tr xtx (ty + 1) xdc xdl xdb xar xac xwm xnd at9 sta sor val fau xnw xkp xta xtw td xhg, aB cB xtx 150 (upd tx ty ((nI c9).toInt8.toInt32).toInt8.toInt32)] := hD
  refine lv_aload_n hx hb dX4_type_47 rfl (lv_at hl 0 rfl) ?_
  refine z_get (k := 2) zcX4 hC hK hP 0 rfl (by decide) lF_X4_61 rfl dX4_type_48 ?_
  exact zw_i hC hr hlk hA h0 (by rw [show (nI c9).toInt8.toInt32.toInt8.toInt32 = (nI c9).toInt8.toInt32 from by simp] at hP; exact hP) hS (by first | rfl | omega) dX4_type_51
set_option maxHeartbeats 1000000 in
set_option maxRecDepth 100000 in
theorem c_X4_clear {l : Launch} {D : va_G} {cI cZ cB cR : ClassId} {q xtx ty xdc xdl xdb xar xac xwm xnd at9 sta sor val xnw xkp xta xtw td xhg : Nat} {tr : Int64} {fau : Int32}   : mW l yX4_clear cX4_clear 2 (some .int) 0 0 D cI cZ cB cR [oM q tr xtx ty xdc xdl xdb xar xac xwm xnd at9 sta sor val fau xnw xkp xta xtw td xhg] [oM q tr xtx 0 xdc xdl xdb xar xac xwm xnd at9 sta sor val fau xnw xkp xta xtw td xhg] [.ref q] (some (.int (nI ty))) := by
  refine mW_of rfl (Nat.le_of_ble_eq_true rfl) ?_
  intro p e s m args below meth c hC hr hlk hK A hA hD H0 h0 hP hS ls hl
  have hP : va_P D vwCl [oM q tr xtx ty xdc xdl xdb xar xac xwm xnd at9 sta sor val fau xnw xkp xta xtw td xhg] H0 := hP
  have hl : lv_has ls 2 [(0, .ref q)] := hl
  obtain ⟨hx, hb, hml, hown, hts⟩ := id hC
  refine lv_aload_n hx hb dX4_clear_0 rfl (lv_at hl 0 rfl) ?_
  refine z_get (k := 2) zcX4 hC hK hP 0 rfl (by decide) lF_X4_61 rfl dX4_clear_1 ?_
  refine lv_istore_n (lv' := [(1, .int (nI ty)), (0, .ref q)]) hx hb dX4_clear_4 rfl hl (by decide) rfl (fun ls hl => ?_)
  refine lv_aload_n hx hb dX4_clear_5 rfl (lv_at hl 1 rfl) ?_
  refine lv_iconst (v := nI 0) hx hb dX4_clear_6 (by decide) ?_
  refine z_put (k := 2) zcX4 hC hK hP hD hS 0 rfl (by decide) lF_X4_61 rfl rfl rfl (Nat.le_of_ble_eq_true rfl) dX4_clear_7 (fun H locs hP hD hS => ?_)
  have hP : va_P D vwCl [oM q tr xtx 0 xdc xdl xdb xar xac xwm xnd at9 sta sor val fau xnw xkp xta xtw td xhg] H := hP
  have hD : va_D A [oM q tr xtx 0 xdc xdl xdb xar xac xwm xnd at9 sta sor val fau xnw xkp xta xtw td xhg] := hD
  refine lv_iload_n hx hb dX4_clear_10 rfl (lv_at hl 0 rfl) ?_
  exact zw_i hC hr hlk hA h0 hP hS (by first | rfl | omega) dX4_clear_11
set_option maxHeartbeats 1000000 in
set_option maxRecDepth 100000 in
theorem c_X4_decanter_bad {l : Launch} {D : va_G} {cI cZ cB cR : ClassId} {q xtx ty xdc xdl xdb xar xac xwm xnd at9 sta sor val xnw xkp xta xtw td xhg : Nat} {tr : Int64} {fau : Int32} {dc : Nat → Nat} {x w : Int32} (hn : dc 0 ≤ 6) (hbad : ¬ vp_in x (dc 0)) : mR l yX4_decanter cX4_decanter 3 (some .int) 2 43 D cI cZ cB cR [oM q tr xtx ty xdc xdl xdb xar xac xwm xnd at9 sta sor val fau xnw xkp xta xtw td xhg, aI cI xdc 2 dc] [.ref q, .int x, .int w] (some (.int (-1))) := by
  refine mR_of rfl (Nat.le_of_ble_eq_true rfl) ?_
  intro p e s m args below meth c hC hr hlk hK hP ls hl
  have hl : lv_has ls 3 [(0, .ref q), (1, .int x), (2, .int w)] := hl
  obtain ⟨hx, hb, hml, hown, hts⟩ := id hC
  refine lv_aload_n hx hb dX4_decanter_0 rfl (lv_at hl 0 rfl) ?_
  refine lv_iload_n hx hb dX4_decanter_1 rfl (lv_at hl 1 rfl) ?_
  refine zRV (As := [.int x]) (b := q) (rest := []) hC (c_X4_isDecanter (l := l) (g := false) (hn := by omega) (hg := ⟨fun h => (by cases h), fun h => absurd h hbad⟩)) lM_X4_126 vM_X4_isDecanter (by decide) hK hP [0, 1] rfl ⟨rfl, rfl, rfl⟩ rfl hl.1 rfl (Nat.le_of_ble_eq_true rfl) dX4_decanter_2 (by decide) ?_
  show W _ _ _ _ _ _ _ _ _ _ _ _ _ _ _ (F0 m 5 ls [.int (bI false)])
  refine zb_ne (tgt := 10) hC dX4_decanter_5 (by decide) (fun c5 => by exfalso; cases c5) (fun c5 => ?_)
  refine lv_iconst (v := (-1)) hx hb dX4_decanter_8 (by decide) ?_
  exact zr_i hC hr hlk (by first | rfl | omega) dX4_decanter_9
set_option maxHeartbeats 1000000 in
set_option maxRecDepth 100000 in
theorem c_X4_decanter_0 {l : Launch} {D : va_G} {cI cZ cB cR : ClassId} {q xtx ty xdc xdl xdb xar xac xwm xnd at9 sta sor val xnw xkp xta xtw td xhg : Nat} {tr : Int64} {fau : Int32} {dc nw : Nat → Nat} {d : Nat} (hn : dc 0 ≤ 6) (hd : d < dc 0)  : mR l yX4_decanter cX4_decanter 3 (some .int) 2 43 D cI cZ cB cR [oM q tr xtx ty xdc xdl xdb xar xac xwm xnd at9 sta sor val fau xnw xkp xta xtw td xhg, aI cI xdc 2 dc, aI cI xnw 729 nw] [.ref q, .int (nI d), .int (nI 0)] (some (.int (nI (nw d)))) := by
  refine mR_of rfl (Nat.le_of_ble_eq_true rfl) ?_
  intro p e s m args below meth c hC hr hlk hK hP ls hl
  have hl : lv_has ls 3 [(0, .ref q), (1, .int (nI d)), (2, .int (nI 0))] := hl
  obtain ⟨hx, hb, hml, hown, hts⟩ := id hC
  refine lv_aload_n hx hb dX4_decanter_0 rfl (lv_at hl 0 rfl) ?_
  refine lv_iload_n hx hb dX4_decanter_1 rfl (lv_at hl 1 rfl) ?_
  refine zRV (As := [.int (nI d)]) (b := q) (rest := []) hC (c_X4_isDecanter (l := l) (g := true) (hn := by omega) (hg := ⟨fun _ => vp_in_nI (by omega) (by omega), fun _ => rfl⟩)) lM_X4_126 vM_X4_isDecanter (by decide) hK hP [0, 1] rfl ⟨rfl, rfl, rfl⟩ rfl hl.1 rfl (Nat.le_of_ble_eq_true rfl) dX4_decanter_2 (by decide) ?_
  show W _ _ _ _ _ _ _ _ _ _ _ _ _ _ _ (F0 m 5 ls [.int (bI true)])
  refine zb_ne (tgt := 10) hC dX4_decanter_5 (by decide) (fun c5 => ?_) (fun c5 => by exfalso; cases c5)
  refine lv_iload_n hx hb dX4_decanter_10 rfl (lv_at hl 2 rfl) ?_
  refine lv_tableIn (off := 33) (tgt := 44) hx hb dX4_decanter_11 (by decide) (by decide) (by decide) (by decide) ?_
  refine lv_aload_n hx hb dX4_decanter_44 rfl (lv_at hl 0 rfl) ?_
  refine z_get (k := 15) zcX4 hC hK hP 0 rfl (by decide) lF_X4_35 rfl dX4_decanter_45 ?_
  refine lv_iload_n hx hb dX4_decanter_48 rfl (lv_at hl 1 rfl) ?_
  refine z_ald hC hK hP 2 rfl (by omega) (by decide) dX4_decanter_49 ?_
  exact zr_i hC hr hlk (by first | rfl | omega) dX4_decanter_50
set_option maxHeartbeats 1000000 in
set_option maxRecDepth 100000 in
theorem c_X4_decanter_1 {l : Launch} {D : va_G} {cI cZ cB cR : ClassId} {q xtx ty xdc xdl xdb xar xac xwm xnd at9 sta sor val xnw xkp xta xtw td xhg : Nat} {tr : Int64} {fau : Int32} {dc ar : Nat → Nat} {d : Nat} (hn : dc 0 ≤ 6) (hd : d < dc 0)  : mR l yX4_decanter cX4_decanter 3 (some .int) 2 43 D cI cZ cB cR [oM q tr xtx ty xdc xdl xdb xar xac xwm xnd at9 sta sor val fau xnw xkp xta xtw td xhg, aI cI xdc 2 dc, aI cI xar 12 ar] [.ref q, .int (nI d), .int (nI 1)] (some (.int (nI (ar d)))) := by
  refine mR_of rfl (Nat.le_of_ble_eq_true rfl) ?_
  intro p e s m args below meth c hC hr hlk hK hP ls hl
  have hl : lv_has ls 3 [(0, .ref q), (1, .int (nI d)), (2, .int (nI 1))] := hl
  obtain ⟨hx, hb, hml, hown, hts⟩ := id hC
  refine lv_aload_n hx hb dX4_decanter_0 rfl (lv_at hl 0 rfl) ?_
  refine lv_iload_n hx hb dX4_decanter_1 rfl (lv_at hl 1 rfl) ?_
  refine zRV (As := [.int (nI d)]) (b := q) (rest := []) hC (c_X4_isDecanter (l := l) (g := true) (hn := by omega) (hg := ⟨fun _ => vp_in_nI (by omega) (by omega), fun _ => rfl⟩)) lM_X4_126 vM_X4_isDecanter (by decide) hK hP [0, 1] rfl ⟨rfl, rfl, rfl⟩ rfl hl.1 rfl (Nat.le_of_ble_eq_true rfl) dX4_decanter_2 (by decide) ?_
  show W _ _ _ _ _ _ _ _ _ _ _ _ _ _ _ (F0 m 5 ls [.int (bI true)])
  refine zb_ne (tgt := 10) hC dX4_decanter_5 (by decide) (fun c5 => ?_) (fun c5 => by exfalso; cases c5)
  refine lv_iload_n hx hb dX4_decanter_10 rfl (lv_at hl 2 rfl) ?_
  refine lv_tableIn (off := 40) (tgt := 51) hx hb dX4_decanter_11 (by decide) (by decide) (by decide) (by decide) ?_
  refine lv_aload_n hx hb dX4_decanter_51 rfl (lv_at hl 0 rfl) ?_
  refine z_get (k := 6) zcX4 hC hK hP 0 rfl (by decide) lF_X4_23 rfl dX4_decanter_52 ?_
  refine lv_iload_n hx hb dX4_decanter_55 rfl (lv_at hl 1 rfl) ?_
  refine z_ald hC hK hP 2 rfl (by omega) (by decide) dX4_decanter_56 ?_
  exact zr_i hC hr hlk (by first | rfl | omega) dX4_decanter_57
set_option maxHeartbeats 1000000 in
set_option maxRecDepth 100000 in
theorem c_X4_decanter_2 {l : Launch} {D : va_G} {cI cZ cB cR : ClassId} {q xtx ty xdc xdl xdb xar xac xwm xnd at9 sta sor val xnw xkp xta xtw td xhg : Nat} {tr : Int64} {fau : Int32} {dc nw : Nat → Nat} {d : Nat} (hn : dc 0 ≤ 6) (hd : d < dc 0)  : mR l yX4_decanter cX4_decanter 3 (some .int) 2 43 D cI cZ cB cR [oM q tr xtx ty xdc xdl xdb xar xac xwm xnd at9 sta sor val fau xnw xkp xta xtw td xhg, aI cI xdc 2 dc, aI cI xnw 729 nw] [.ref q, .int (nI d), .int (nI 2)] (some (.int (nI (nw (6 + d))))) := by
  refine mR_of rfl (Nat.le_of_ble_eq_true rfl) ?_
  intro p e s m args below meth c hC hr hlk hK hP ls hl
  have hl : lv_has ls 3 [(0, .ref q), (1, .int (nI d)), (2, .int (nI 2))] := hl
  obtain ⟨hx, hb, hml, hown, hts⟩ := id hC
  refine lv_aload_n hx hb dX4_decanter_0 rfl (lv_at hl 0 rfl) ?_
  refine lv_iload_n hx hb dX4_decanter_1 rfl (lv_at hl 1 rfl) ?_
  refine zRV (As := [.int (nI d)]) (b := q) (rest := []) hC (c_X4_isDecanter (l := l) (g := true) (hn := by omega) (hg := ⟨fun _ => vp_in_nI (by omega) (by omega), fun _ => rfl⟩)) lM_X4_126 vM_X4_isDecanter (by decide) hK hP [0, 1] rfl ⟨rfl, rfl, rfl⟩ rfl hl.1 rfl (Nat.le_of_ble_eq_true rfl) dX4_decanter_2 (by decide) ?_
  show W _ _ _ _ _ _ _ _ _ _ _ _ _ _ _ (F0 m 5 ls [.int (bI true)])
  refine zb_ne (tgt := 10) hC dX4_decanter_5 (by decide) (fun c5 => ?_) (fun c5 => by exfalso; cases c5)
  refine lv_iload_n hx hb dX4_decanter_10 rfl (lv_at hl 2 rfl) ?_
  refine lv_tableIn (off := 47) (tgt := 58) hx hb dX4_decanter_11 (by decide) (by decide) (by decide) (by decide) ?_
  refine lv_aload_n hx hb dX4_decanter_58 rfl (lv_at hl 0 rfl) ?_
  refine z_get (k := 15) zcX4 hC hK hP 0 rfl (by decide) lF_X4_35 rfl dX4_decanter_59 ?_
  refine lv_bipush (v := nI 6) hx hb dX4_decanter_62 (by decide) ?_
  refine lv_iload_n hx hb dX4_decanter_64 rfl (lv_at hl 1 rfl) ?_
  refine zi_add hC dX4_decanter_65 ?_
  refine z_ald hC hK hP 2 rfl (by omega) (by decide) dX4_decanter_66 ?_
  exact zr_i hC hr hlk (by first | rfl | omega) dX4_decanter_67
set_option maxHeartbeats 1000000 in
set_option maxRecDepth 100000 in
theorem c_X4_decanter_3 {l : Launch} {D : va_G} {cI cZ cB cR : ClassId} {q xtx ty xdc xdl xdb xar xac xwm xnd at9 sta sor val xnw xkp xta xtw td xhg : Nat} {tr : Int64} {fau : Int32} {dc nw : Nat → Nat} {d : Nat} (hn : dc 0 ≤ 6) (hd : d < dc 0)  : mR l yX4_decanter cX4_decanter 3 (some .int) 2 43 D cI cZ cB cR [oM q tr xtx ty xdc xdl xdb xar xac xwm xnd at9 sta sor val fau xnw xkp xta xtw td xhg, aI cI xdc 2 dc, aI cI xnw 729 nw] [.ref q, .int (nI d), .int (nI 3)] (some (.int (nI (nw (12 + d))))) := by
  refine mR_of rfl (Nat.le_of_ble_eq_true rfl) ?_
  intro p e s m args below meth c hC hr hlk hK hP ls hl
  have hl : lv_has ls 3 [(0, .ref q), (1, .int (nI d)), (2, .int (nI 3))] := hl
  obtain ⟨hx, hb, hml, hown, hts⟩ := id hC
  refine lv_aload_n hx hb dX4_decanter_0 rfl (lv_at hl 0 rfl) ?_
  refine lv_iload_n hx hb dX4_decanter_1 rfl (lv_at hl 1 rfl) ?_
  refine zRV (As := [.int (nI d)]) (b := q) (rest := []) hC (c_X4_isDecanter (l := l) (g := true) (hn := by omega) (hg := ⟨fun _ => vp_in_nI (by omega) (by omega), fun _ => rfl⟩)) lM_X4_126 vM_X4_isDecanter (by decide) hK hP [0, 1] rfl ⟨rfl, rfl, rfl⟩ rfl hl.1 rfl (Nat.le_of_ble_eq_true rfl) dX4_decanter_2 (by decide) ?_
  show W _ _ _ _ _ _ _ _ _ _ _ _ _ _ _ (F0 m 5 ls [.int (bI true)])
  refine zb_ne (tgt := 10) hC dX4_decanter_5 (by decide) (fun c5 => ?_) (fun c5 => by exfalso; cases c5)
  refine lv_iload_n hx hb dX4_decanter_10 rfl (lv_at hl 2 rfl) ?_
  refine lv_tableIn (off := 57) (tgt := 68) hx hb dX4_decanter_11 (by decide) (by decide) (by decide) (by decide) ?_
  refine lv_aload_n hx hb dX4_decanter_68 rfl (lv_at hl 0 rfl) ?_
  refine z_get (k := 15) zcX4 hC hK hP 0 rfl (by decide) lF_X4_35 rfl dX4_decanter_69 ?_
  refine lv_bipush (v := nI 12) hx hb dX4_decanter_72 (by decide) ?_
  refine lv_iload_n hx hb dX4_decanter_74 rfl (lv_at hl 1 rfl) ?_
  refine zi_add hC dX4_decanter_75 ?_
  refine z_ald hC hK hP 2 rfl (by omega) (by decide) dX4_decanter_76 ?_
  exact zr_i hC hr hlk (by first | rfl | omega) dX4_decanter_77
set_option maxHeartbeats 1000000 in
set_option maxRecDepth 100000 in
theorem c_X4_decanter_4 {l : Launch} {D : va_G} {cI cZ cB cR : ClassId} {q xtx ty xdc xdl xdb xar xac xwm xnd at9 sta sor val xnw xkp xta xtw td xhg : Nat} {tr : Int64} {fau : Int32} {dc nw ar : Nat → Nat} {d : Nat} (hn : dc 0 ≤ 6) (hd : d < dc 0) (hlv : ∀ j, j < 6 → nw j ≤ 40) (har : ∀ i, i < 6 → ar i ≤ 5)  : mR l yX4_decanter cX4_decanter 3 (some .int) 2 43 D cI cZ cB cR [oM q tr xtx ty xdc xdl xdb xar xac xwm xnd at9 sta sor val fau xnw xkp xta xtw td xhg, aI cI xdc 2 dc, aI cI xnw 729 nw, aI cI xar 12 ar] [.ref q, .int (nI d), .int (nI 4)] (some (.int (spanF (nw d) (ar d)))) := by
  refine mR_of rfl (Nat.le_of_ble_eq_true rfl) ?_
  intro p e s m args below meth c hC hr hlk hK hP ls hl
  have hl : lv_has ls 3 [(0, .ref q), (1, .int (nI d)), (2, .int (nI 4))] := hl
  obtain ⟨hx, hb, hml, hown, hts⟩ := id hC
  refine lv_aload_n hx hb dX4_decanter_0 rfl (lv_at hl 0 rfl) ?_
  refine lv_iload_n hx hb dX4_decanter_1 rfl (lv_at hl 1 rfl) ?_
  refine zRV (As := [.int (nI d)]) (b := q) (rest := []) hC (c_X4_isDecanter (l := l) (g := true) (hn := by omega) (hg := ⟨fun _ => vp_in_nI (by omega) (by omega), fun _ => rfl⟩)) lM_X4_126 vM_X4_isDecanter (by decide) hK hP [0, 1] rfl ⟨rfl, rfl, rfl⟩ rfl hl.1 rfl (Nat.le_of_ble_eq_true rfl) dX4_decanter_2 (by decide) ?_
  show W _ _ _ _ _ _ _ _ _ _ _ _ _ _ _ (F0 m 5 ls [.int (bI true)])
  refine zb_ne (tgt := 10) hC dX4_decanter_5 (by decide) (fun c5 => ?_) (fun c5 => by exfalso; cases c5)
  refine lv_iload_n hx hb dX4_decanter_10 rfl (lv_at hl 2 rfl) ?_
  refine lv_tableIn (off := 67) (tgt := 78) hx hb dX4_decanter_11 (by decide) (by decide) (by decide) (by decide) ?_
  refine lv_aload_n hx hb dX4_decanter_78 rfl (lv_at hl 0 rfl) ?_
  refine lv_iload_n hx hb dX4_decanter_79 rfl (lv_at hl 1 rfl) ?_
  refine zRV (As := [.int (nI d)]) (b := q) (rest := []) hC (c_X4_span (l := l) (hlv := hlv) (har := har) (hd := by omega)) lM_X4_129 vM_X4_span (by decide) hK hP [0, 2, 3] rfl ⟨rfl, rfl, rfl⟩ rfl hl.1 rfl (Nat.le_of_ble_eq_true rfl) dX4_decanter_80 (by decide) ?_
  show W _ _ _ _ _ _ _ _ _ _ _ _ _ _ _ (F0 m 83 ls [.int (spanF (nw d) (ar d))])
  exact zr_i hC hr hlk (by first | rfl | omega) dX4_decanter_83
set_option maxHeartbeats 1000000 in
set_option maxRecDepth 100000 in
theorem c_X4_decanter_out {l : Launch} {D : va_G} {cI cZ cB cR : ClassId} {q xtx ty xdc xdl xdb xar xac xwm xnd at9 sta sor val xnw xkp xta xtw td xhg : Nat} {tr : Int64} {fau : Int32} {dc : Nat → Nat} {d : Nat} {w : Int32} (hn : dc 0 ≤ 6) (hd : d < dc 0) (hwo : w.toInt < 0 ∨ 4 < w.toInt) : mR l yX4_decanter cX4_decanter 3 (some .int) 2 43 D cI cZ cB cR [oM q tr xtx ty xdc xdl xdb xar xac xwm xnd at9 sta sor val fau xnw xkp xta xtw td xhg, aI cI xdc 2 dc] [.ref q, .int (nI d), .int w] (some (.int (-1))) := by
  refine mR_of rfl (Nat.le_of_ble_eq_true rfl) ?_
  intro p e s m args below meth c hC hr hlk hK hP ls hl
  have hl : lv_has ls 3 [(0, .ref q), (1, .int (nI d)), (2, .int w)] := hl
  obtain ⟨hx, hb, hml, hown, hts⟩ := id hC
  refine lv_aload_n hx hb dX4_decanter_0 rfl (lv_at hl 0 rfl) ?_
  refine lv_iload_n hx hb dX4_decanter_1 rfl (lv_at hl 1 rfl) ?_
  refine zRV (As := [.int (nI d)]) (b := q) (rest := []) hC (c_X4_isDecanter (l := l) (g := true) (hn := by omega) (hg := ⟨fun _ => vp_in_nI (by omega) (by omega), fun _ => rfl⟩)) lM_X4_126 vM_X4_isDecanter (by decide) hK hP [0, 1] rfl ⟨rfl, rfl, rfl⟩ rfl hl.1 rfl (Nat.le_of_ble_eq_true rfl) dX4_decanter_2 (by decide) ?_
  show W _ _ _ _ _ _ _ _ _ _ _ _ _ _ _ (F0 m 5 ls [.int (bI true)])
  refine zb_ne (tgt := 10) hC dX4_decanter_5 (by decide) (fun c5 => ?_) (fun c5 => by exfalso; cases c5)
  refine lv_iload_n hx hb dX4_decanter_10 rfl (lv_at hl 2 rfl) ?_
  refine lv_tableOut (tgt := 84) hx hb dX4_decanter_11 hwo (by decide) ?_
  refine lv_iconst (v := (-1)) hx hb dX4_decanter_84 (by decide) ?_
  exact zr_i hC hr hlk (by first | rfl | omega) dX4_decanter_85
set_option maxHeartbeats 1000000 in
set_option maxRecDepth 100000 in
theorem c_X4_act_bad {l : Launch} {D : va_G} {cI cZ cB cR : ClassId} {q xtx ty xdc xdl xdb xar xac xwm xnd at9 sta sor val xnw xkp xta xtw td xhg : Nat} {tr : Int64} {fau : Int32} {acn : Nat → Nat} {x w : Int32} (hac : acn 0 ≤ 5) (hbad : ¬ vp_in x (acn 0)) : mR l yX4_act cX4_act 3 (some .int) 2 43 D cI cZ cB cR [oM q tr xtx ty xdc xdl xdb xar xac xwm xnd at9 sta sor val fau xnw xkp xta xtw td xhg, aI cI xac 2 acn] [.ref q, .int x, .int w] (some (.int (-1))) := by
  refine mR_of rfl (Nat.le_of_ble_eq_true rfl) ?_
  intro p e s m args below meth c hC hr hlk hK hP ls hl
  have hl : lv_has ls 3 [(0, .ref q), (1, .int x), (2, .int w)] := hl
  obtain ⟨hx, hb, hml, hown, hts⟩ := id hC
  refine lv_aload_n hx hb dX4_act_0 rfl (lv_at hl 0 rfl) ?_
  refine lv_iload_n hx hb dX4_act_1 rfl (lv_at hl 1 rfl) ?_
  refine zRV (As := [.int x]) (b := q) (rest := []) hC (c_X4_isAct (l := l) (g := false) (hn := by omega) (hg := ⟨fun h => (by cases h), fun h => absurd h hbad⟩)) lM_X4_132 vM_X4_isAct (by decide) hK hP [0, 1] rfl ⟨rfl, rfl, rfl⟩ rfl hl.1 rfl (Nat.le_of_ble_eq_true rfl) dX4_act_2 (by decide) ?_
  show W _ _ _ _ _ _ _ _ _ _ _ _ _ _ _ (F0 m 5 ls [.int (bI false)])
  refine zb_ne (tgt := 10) hC dX4_act_5 (by decide) (fun c5 => by exfalso; cases c5) (fun c5 => ?_)
  refine lv_iconst (v := (-1)) hx hb dX4_act_8 (by decide) ?_
  exact zr_i hC hr hlk (by first | rfl | omega) dX4_act_9
set_option maxHeartbeats 1000000 in
set_option maxRecDepth 100000 in
theorem c_X4_act_0 {l : Launch} {D : va_G} {cI cZ cB cR : ClassId} {q xtx ty xdc xdl xdb xar xac xwm xnd at9 sta sor val xnw xkp xta xtw td xhg : Nat} {tr : Int64} {fau : Int32} {acn wm : Nat → Nat} {a : Nat} (hac : acn 0 ≤ 5) (ha : a < acn 0)  : mR l yX4_act cX4_act 3 (some .int) 2 43 D cI cZ cB cR [oM q tr xtx ty xdc xdl xdb xar xac xwm xnd at9 sta sor val fau xnw xkp xta xtw td xhg, aI cI xac 2 acn, aI cI xwm 10 wm] [.ref q, .int (nI a), .int (nI 0)] (some (.int (nI (wm a)))) := by
  refine mR_of rfl (Nat.le_of_ble_eq_true rfl) ?_
  intro p e s m args below meth c hC hr hlk hK hP ls hl
  have hl : lv_has ls 3 [(0, .ref q), (1, .int (nI a)), (2, .int (nI 0))] := hl
  obtain ⟨hx, hb, hml, hown, hts⟩ := id hC
  refine lv_aload_n hx hb dX4_act_0 rfl (lv_at hl 0 rfl) ?_
  refine lv_iload_n hx hb dX4_act_1 rfl (lv_at hl 1 rfl) ?_
  refine zRV (As := [.int (nI a)]) (b := q) (rest := []) hC (c_X4_isAct (l := l) (g := true) (hn := by omega) (hg := ⟨fun _ => vp_in_nI (by omega) (by omega), fun _ => rfl⟩)) lM_X4_132 vM_X4_isAct (by decide) hK hP [0, 1] rfl ⟨rfl, rfl, rfl⟩ rfl hl.1 rfl (Nat.le_of_ble_eq_true rfl) dX4_act_2 (by decide) ?_
  show W _ _ _ _ _ _ _ _ _ _ _ _ _ _ _ (F0 m 5 ls [.int (bI true)])
  refine zb_ne (tgt := 10) hC dX4_act_5 (by decide) (fun c5 => ?_) (fun c5 => by exfalso; cases c5)
  refine lv_iload_n hx hb dX4_act_10 rfl (lv_at hl 2 rfl) ?_
  refine lv_tableIn (off := 29) (tgt := 40) hx hb dX4_act_11 (by decide) (by decide) (by decide) (by decide) ?_
  refine lv_aload_n hx hb dX4_act_40 rfl (lv_at hl 0 rfl) ?_
  refine z_get (k := 8) zcX4 hC hK hP 0 rfl (by decide) lF_X4_29 rfl dX4_act_41 ?_
  refine lv_iload_n hx hb dX4_act_44 rfl (lv_at hl 1 rfl) ?_
  refine z_ald hC hK hP 2 rfl (by omega) (by decide) dX4_act_45 ?_
  exact zr_i hC hr hlk (by first | rfl | omega) dX4_act_46
set_option maxHeartbeats 1000000 in
set_option maxRecDepth 100000 in
theorem c_X4_act_1 {l : Launch} {D : va_G} {cI cZ cB cR : ClassId} {q xtx ty xdc xdl xdb xar xac xwm xnd at9 sta sor val xnw xkp xta xtw td xhg : Nat} {tr : Int64} {fau : Int32} {acn dc nd : Nat → Nat} {a : Nat} (hac : acn 0 ≤ 5) (ha : a < acn 0) (hn : dc 0 ≤ 6) (hnd : ∀ i, nd i ≤ 9)  : mR l yX4_act cX4_act 3 (some .int) 2 45 D cI cZ cB cR [oM q tr xtx ty xdc xdl xdb xar xac xwm xnd at9 sta sor val fau xnw xkp xta xtw td xhg, aI cI xac 2 acn, aI cI xdc 2 dc, aI cI xnd 60 nd] [.ref q, .int (nI a), .int (nI 1)] (some (.int (nI (orr (fun i => decide (0 < nd (6 * a + i))) (dc 0))))) := by
  refine mR_of rfl (Nat.le_of_ble_eq_true rfl) ?_
  intro p e s m args below meth c hC hr hlk hK hP ls hl
  have hl : lv_has ls 3 [(0, .ref q), (1, .int (nI a)), (2, .int (nI 1))] := hl
  obtain ⟨hx, hb, hml, hown, hts⟩ := id hC
  refine lv_aload_n hx hb dX4_act_0 rfl (lv_at hl 0 rfl) ?_
  refine lv_iload_n hx hb dX4_act_1 rfl (lv_at hl 1 rfl) ?_
  refine zRV (As := [.int (nI a)]) (b := q) (rest := []) hC (c_X4_isAct (l := l) (g := true) (hn := by omega) (hg := ⟨fun _ => vp_in_nI (by omega) (by omega), fun _ => rfl⟩)) lM_X4_132 vM_X4_isAct (by decide) hK hP [0, 1] rfl ⟨rfl, rfl, rfl⟩ rfl hl.1 rfl (Nat.le_of_ble_eq_true rfl) dX4_act_2 (by decide) ?_
  show W _ _ _ _ _ _ _ _ _ _ _ _ _ _ _ (F0 m 5 ls [.int (bI true)])
  refine zb_ne (tgt := 10) hC dX4_act_5 (by decide) (fun c5 => ?_) (fun c5 => by exfalso; cases c5)
  refine lv_iload_n hx hb dX4_act_10 rfl (lv_at hl 2 rfl) ?_
  refine lv_tableIn (off := 36) (tgt := 47) hx hb dX4_act_11 (by decide) (by decide) (by decide) (by decide) ?_
  refine lv_aload_n hx hb dX4_act_47 rfl (lv_at hl 0 rfl) ?_
  refine lv_iload_n hx hb dX4_act_48 rfl (lv_at hl 1 rfl) ?_
  refine zRV (As := [.int (nI a)]) (b := q) (rest := []) hC (c_X4_qualities (l := l) (hn := hn) (hnd := hnd) (ha := by omega)) lM_X4_135 vM_X4_qualities (by decide) hK hP [0, 2, 3] rfl ⟨rfl, rfl, rfl⟩ rfl hl.1 rfl (Nat.le_of_ble_eq_true rfl) dX4_act_49 (by decide) ?_
  show W _ _ _ _ _ _ _ _ _ _ _ _ _ _ _ (F0 m 52 ls [.int (nI (orr (fun i => decide (0 < nd (6 * a + i))) (dc 0)))])
  exact zr_i hC hr hlk (by first | rfl | omega) dX4_act_52
set_option maxHeartbeats 1000000 in
set_option maxRecDepth 100000 in
theorem c_X4_act_2 {l : Launch} {D : va_G} {cI cZ cB cR : ClassId} {q xtx ty xdc xdl xdb xar xac xwm xnd at9 sta sor val xnw xkp xta xtw td xhg : Nat} {tr : Int64} {fau : Int32} {acn nw : Nat → Nat} {a : Nat} (hac : acn 0 ≤ 5) (ha : a < acn 0) (hdn : nw 19 < 32) : mR l yX4_act cX4_act 3 (some .int) 2 43 D cI cZ cB cR [oM q tr xtx ty xdc xdl xdb xar xac xwm xnd at9 sta sor val fau xnw xkp xta xtw td xhg, aI cI xac 2 acn, aI cI xnw 729 nw] [.ref q, .int (nI a), .int (nI 2)] (some (.int (bI (Nat.testBit (nw 19) a)))) := by
  refine mR_of rfl (Nat.le_of_ble_eq_true rfl) ?_
  intro p e s m args below meth c hC hr hlk hK hP ls hl
  have hl : lv_has ls 3 [(0, .ref q), (1, .int (nI a)), (2, .int (nI 2))] := hl
  obtain ⟨hx, hb, hml, hown, hts⟩ := id hC
  refine lv_aload_n hx hb dX4_act_0 rfl (lv_at hl 0 rfl) ?_
  refine lv_iload_n hx hb dX4_act_1 rfl (lv_at hl 1 rfl) ?_
  refine zRV (As := [.int (nI a)]) (b := q) (rest := []) hC (c_X4_isAct (l := l) (g := true) (hn := by omega) (hg := ⟨fun _ => vp_in_nI (by omega) (by omega), fun _ => rfl⟩)) lM_X4_132 vM_X4_isAct (by decide) hK hP [0, 1] rfl ⟨rfl, rfl, rfl⟩ rfl hl.1 rfl (Nat.le_of_ble_eq_true rfl) dX4_act_2 (by decide) ?_
  show W _ _ _ _ _ _ _ _ _ _ _ _ _ _ _ (F0 m 5 ls [.int (bI true)])
  refine zb_ne (tgt := 10) hC dX4_act_5 (by decide) (fun c5 => ?_) (fun c5 => by exfalso; cases c5)
  refine lv_iload_n hx hb dX4_act_10 rfl (lv_at hl 2 rfl) ?_
  refine lv_tableIn (off := 42) (tgt := 53) hx hb dX4_act_11 (by decide) (by decide) (by decide) (by decide) ?_
  refine lv_aload_n hx hb dX4_act_53 rfl (lv_at hl 0 rfl) ?_
  refine lv_iload_n hx hb dX4_act_54 rfl (lv_at hl 1 rfl) ?_
  refine zRV (As := [.int (nI a)]) (b := q) (rest := []) hC (c_X4_isDone (l := l) (a := a) (ha := by omega) (hdn := hdn)) lM_X4_119 vM_X4_isDone (by decide) hK hP [0, 2] rfl ⟨rfl, rfl, rfl⟩ rfl hl.1 rfl (Nat.le_of_ble_eq_true rfl) dX4_act_55 (by decide) ?_
  show W _ _ _ _ _ _ _ _ _ _ _ _ _ _ _ (F0 m 58 ls [.int (bI (Nat.testBit (nw 19) a))])
  refine zb_eq (tgt := 65) hC dX4_act_58 (by decide) (fun c58 => ?_) (fun c58 => ?_)
  · skip
    refine lv_iconst (v := nI 0) hx hb dX4_act_65 (by decide) ?_
    exact zr_i hC hr hlk (by rw [c58]; rfl) dX4_act_66
  · skip
    refine lv_iconst (v := nI 1) hx hb dX4_act_61 (by decide) ?_
    refine lv_goto (tgt := 66) hx hb dX4_act_62 (by decide) ?_
    exact zr_i hC hr hlk (by rw [c58]; rfl) dX4_act_66
set_option maxHeartbeats 1000000 in
set_option maxRecDepth 100000 in
theorem c_X4_act_3 {l : Launch} {D : va_G} {cI cZ cB cR : ClassId} {q xtx ty xdc xdl xdb xar xac xwm xnd at9 sta sor val xnw xkp xta xtw td xhg : Nat} {tr : Int64} {fau : Int32} {acn dc nw ar nd : Nat → Nat} {W9 : Nat → Nat} {a : Nat} {C9 : Nat → Bool} (hac : acn 0 ≤ 5) (ha : a < acn 0) (hn : dc 0 ≤ 6) (hlv : ∀ j, j < 6 → nw j ≤ 40) (hlb : ∀ j, j < 6 → nw (12 + j) < 6) (har : ∀ i, i < 6 → ar i ≤ 5) (hnd : ∀ i, nd i ≤ 9) (hW : ∀ j, j < dc 0 → W9 j < dc 0 ∧ nw (12 + W9 j) = j ∧ ∀ i, i < W9 j → nw (12 + i) ≠ j) (hC9 : ∀ m9, m9 ≤ 60 → (C9 m9 = true ↔ ∀ d, d < dc 0 → nd (6 * a + d) ≤ nw (W9 d) - m9 * ar (W9 d))) (hdn : nw 19 < 32)  : mR l yX4_act cX4_act 3 (some .int) 3 69 D cI cZ cB cR [oM q tr xtx ty xdc xdl xdb xar xac xwm xnd at9 sta sor val fau xnw xkp xta xtw td xhg, aI cI xac 2 acn, aI cI xdc 2 dc, aI cI xnw 729 nw, aI cI xar 12 ar, aI cI xnd 60 nd] [.ref q, .int (nI a), .int (nI 3)] (some (.int (if Nat.testBit (nw 19) a || !C9 0 then -9 else nI (lsc C9 60 0)))) := by
  refine mR_of rfl (Nat.le_of_ble_eq_true rfl) ?_
  intro p e s m args below meth c hC hr hlk hK hP ls hl
  have hl : lv_has ls 3 [(0, .ref q), (1, .int (nI a)), (2, .int (nI 3))] := hl
  obtain ⟨hx, hb, hml, hown, hts⟩ := id hC
  refine lv_aload_n hx hb dX4_act_0 rfl (lv_at hl 0 rfl) ?_
  refine lv_iload_n hx hb dX4_act_1 rfl (lv_at hl 1 rfl) ?_
  refine zRV (As := [.int (nI a)]) (b := q) (rest := []) hC (c_X4_isAct (l := l) (g := true) (hn := by omega) (hg := ⟨fun _ => vp_in_nI (by omega) (by omega), fun _ => rfl⟩)) lM_X4_132 vM_X4_isAct (by decide) hK hP [0, 1] rfl ⟨rfl, rfl, rfl⟩ rfl hl.1 rfl (Nat.le_of_ble_eq_true rfl) dX4_act_2 (by decide) ?_
  show W _ _ _ _ _ _ _ _ _ _ _ _ _ _ _ (F0 m 5 ls [.int (bI true)])
  refine zb_ne (tgt := 10) hC dX4_act_5 (by decide) (fun c5 => ?_) (fun c5 => by exfalso; cases c5)
  refine lv_iload_n hx hb dX4_act_10 rfl (lv_at hl 2 rfl) ?_
  refine lv_tableIn (off := 56) (tgt := 67) hx hb dX4_act_11 (by decide) (by decide) (by decide) (by decide) ?_
  refine lv_aload_n hx hb dX4_act_67 rfl (lv_at hl 0 rfl) ?_
  refine lv_iload_n hx hb dX4_act_68 rfl (lv_at hl 1 rfl) ?_
  refine zRV (As := [.int (nI a)]) (b := q) (rest := []) hC (c_X4_lastOf (l := l) (W9 := W9) (C9 := C9) (hn := hn) (hlv := hlv) (hlb := hlb) (har := har) (hnd := hnd) (hW := hW) (ha := by omega) (hC9 := hC9) (hdn := hdn)) lM_X4_138 vM_X4_lastOf (by decide) hK hP [0, 2, 3, 4, 5] rfl ⟨rfl, rfl, rfl⟩ rfl hl.1 rfl (Nat.le_of_ble_eq_true rfl) dX4_act_69 (by decide) ?_
  show W _ _ _ _ _ _ _ _ _ _ _ _ _ _ _ (F0 m 72 ls [.int (if Nat.testBit (nw 19) a || !C9 0 then -9 else nI (lsc C9 60 0))])
  exact zr_i hC hr hlk (by first | rfl | omega) dX4_act_72
set_option maxHeartbeats 1000000 in
set_option maxRecDepth 100000 in
theorem c_X4_act_out {l : Launch} {D : va_G} {cI cZ cB cR : ClassId} {q xtx ty xdc xdl xdb xar xac xwm xnd at9 sta sor val xnw xkp xta xtw td xhg : Nat} {tr : Int64} {fau : Int32} {acn : Nat → Nat} {a : Nat} {w : Int32} (hac : acn 0 ≤ 5) (ha : a < acn 0) (hwo : w.toInt < 0 ∨ 3 < w.toInt) : mR l yX4_act cX4_act 3 (some .int) 2 43 D cI cZ cB cR [oM q tr xtx ty xdc xdl xdb xar xac xwm xnd at9 sta sor val fau xnw xkp xta xtw td xhg, aI cI xac 2 acn] [.ref q, .int (nI a), .int w] (some (.int (-1))) := by
  refine mR_of rfl (Nat.le_of_ble_eq_true rfl) ?_
  intro p e s m args below meth c hC hr hlk hK hP ls hl
  have hl : lv_has ls 3 [(0, .ref q), (1, .int (nI a)), (2, .int w)] := hl
  obtain ⟨hx, hb, hml, hown, hts⟩ := id hC
  refine lv_aload_n hx hb dX4_act_0 rfl (lv_at hl 0 rfl) ?_
  refine lv_iload_n hx hb dX4_act_1 rfl (lv_at hl 1 rfl) ?_
  refine zRV (As := [.int (nI a)]) (b := q) (rest := []) hC (c_X4_isAct (l := l) (g := true) (hn := by omega) (hg := ⟨fun _ => vp_in_nI (by omega) (by omega), fun _ => rfl⟩)) lM_X4_132 vM_X4_isAct (by decide) hK hP [0, 1] rfl ⟨rfl, rfl, rfl⟩ rfl hl.1 rfl (Nat.le_of_ble_eq_true rfl) dX4_act_2 (by decide) ?_
  show W _ _ _ _ _ _ _ _ _ _ _ _ _ _ _ (F0 m 5 ls [.int (bI true)])
  refine zb_ne (tgt := 10) hC dX4_act_5 (by decide) (fun c5 => ?_) (fun c5 => by exfalso; cases c5)
  refine lv_iload_n hx hb dX4_act_10 rfl (lv_at hl 2 rfl) ?_
  refine lv_tableOut (tgt := 73) hx hb dX4_act_11 hwo (by decide) ?_
  refine lv_iconst (v := (-1)) hx hb dX4_act_73 (by decide) ?_
  exact zr_i hC hr hlk (by first | rfl | omega) dX4_act_74
set_option maxHeartbeats 1000000 in
set_option maxRecDepth 100000 in
theorem c_X4_needs_badA {l : Launch} {D : va_G} {cI cZ cB cR : ClassId} {q xtx ty xdc xdl xdb xar xac xwm xnd at9 sta sor val xnw xkp xta xtw td xhg : Nat} {tr : Int64} {fau : Int32} {acn : Nat → Nat} {x w : Int32} (hac : acn 0 ≤ 5) (hbad : ¬ vp_in x (acn 0)) : mR l yX4_needs cX4_needs 3 (some .int) 2 43 D cI cZ cB cR [oM q tr xtx ty xdc xdl xdb xar xac xwm xnd at9 sta sor val fau xnw xkp xta xtw td xhg, aI cI xac 2 acn] [.ref q, .int x, .int w] (some (.int (-1))) := by
  refine mR_of rfl (Nat.le_of_ble_eq_true rfl) ?_
  intro p e s m args below meth c hC hr hlk hK hP ls hl
  have hl : lv_has ls 3 [(0, .ref q), (1, .int x), (2, .int w)] := hl
  obtain ⟨hx, hb, hml, hown, hts⟩ := id hC
  refine lv_aload_n hx hb dX4_needs_0 rfl (lv_at hl 0 rfl) ?_
  refine lv_iload_n hx hb dX4_needs_1 rfl (lv_at hl 1 rfl) ?_
  refine zRV (As := [.int x]) (b := q) (rest := []) hC (c_X4_isAct (l := l) (g := false) (hn := by omega) (hg := ⟨fun h => (by cases h), fun h => absurd h hbad⟩)) lM_X4_132 vM_X4_isAct (by decide) hK hP [0, 1] rfl ⟨rfl, rfl, rfl⟩ rfl hl.1 rfl (Nat.le_of_ble_eq_true rfl) dX4_needs_2 (by decide) ?_
  show W _ _ _ _ _ _ _ _ _ _ _ _ _ _ _ (F0 m 5 ls [.int (bI false)])
  refine zb_eq (tgt := 25) hC dX4_needs_5 (by decide) (fun c5 => ?_) (fun c5 => by exfalso; cases c5)
  refine lv_iconst (v := (-1)) hx hb dX4_needs_25 (by decide) ?_
  exact zr_i hC hr hlk (by first | rfl | omega) dX4_needs_26
set_option maxHeartbeats 1000000 in
set_option maxRecDepth 100000 in
theorem c_X4_needs_badD {l : Launch} {D : va_G} {cI cZ cB cR : ClassId} {q xtx ty xdc xdl xdb xar xac xwm xnd at9 sta sor val xnw xkp xta xtw td xhg : Nat} {tr : Int64} {fau : Int32} {acn dc : Nat → Nat} {a : Nat} {w : Int32} (hac : acn 0 ≤ 5) (ha : a < acn 0) (hn : dc 0 ≤ 6) (hbad : ¬ vp_in w (dc 0)) : mR l yX4_needs cX4_needs 3 (some .int) 2 43 D cI cZ cB cR [oM q tr xtx ty xdc xdl xdb xar xac xwm xnd at9 sta sor val fau xnw xkp xta xtw td xhg, aI cI xac 2 acn, aI cI xdc 2 dc] [.ref q, .int (nI a), .int w] (some (.int (-1))) := by
  refine mR_of rfl (Nat.le_of_ble_eq_true rfl) ?_
  intro p e s m args below meth c hC hr hlk hK hP ls hl
  have hl : lv_has ls 3 [(0, .ref q), (1, .int (nI a)), (2, .int w)] := hl
  obtain ⟨hx, hb, hml, hown, hts⟩ := id hC
  refine lv_aload_n hx hb dX4_needs_0 rfl (lv_at hl 0 rfl) ?_
  refine lv_iload_n hx hb dX4_needs_1 rfl (lv_at hl 1 rfl) ?_
  refine zRV (As := [.int (nI a)]) (b := q) (rest := []) hC (c_X4_isAct (l := l) (g := true) (hn := by omega) (hg := ⟨fun _ => vp_in_nI (by omega) (by omega), fun _ => rfl⟩)) lM_X4_132 vM_X4_isAct (by decide) hK hP [0, 1] rfl ⟨rfl, rfl, rfl⟩ rfl hl.1 rfl (Nat.le_of_ble_eq_true rfl) dX4_needs_2 (by decide) ?_
  show W _ _ _ _ _ _ _ _ _ _ _ _ _ _ _ (F0 m 5 ls [.int (bI true)])
  refine zb_eq (tgt := 25) hC dX4_needs_5 (by decide) (fun c5 => by exfalso; cases c5) (fun c5 => ?_)
  refine lv_aload_n hx hb dX4_needs_8 rfl (lv_at hl 0 rfl) ?_
  refine lv_iload_n hx hb dX4_needs_9 rfl (lv_at hl 2 rfl) ?_
  refine zRV (As := [.int w]) (b := q) (rest := []) hC (c_X4_isDecanter (l := l) (g := false) (hn := by omega) (hg := ⟨fun h => (by cases h), fun h => absurd h hbad⟩)) lM_X4_126 vM_X4_isDecanter (by decide) hK hP [0, 2] rfl ⟨rfl, rfl, rfl⟩ rfl hl.1 rfl (Nat.le_of_ble_eq_true rfl) dX4_needs_10 (by decide) ?_
  show W _ _ _ _ _ _ _ _ _ _ _ _ _ _ _ (F0 m 13 ls [.int (bI false)])
  refine zb_eq (tgt := 25) hC dX4_needs_13 (by decide) (fun c13 => ?_) (fun c13 => by exfalso; cases c13)
  refine lv_iconst (v := (-1)) hx hb dX4_needs_25 (by decide) ?_
  exact zr_i hC hr hlk (by first | rfl | omega) dX4_needs_26
set_option maxHeartbeats 1000000 in
set_option maxRecDepth 100000 in
theorem c_X4_needs {l : Launch} {D : va_G} {cI cZ cB cR : ClassId} {q xtx ty xdc xdl xdb xar xac xwm xnd at9 sta sor val xnw xkp xta xtw td xhg : Nat} {tr : Int64} {fau : Int32} {acn dc nd : Nat → Nat} {a d : Nat} (hac : acn 0 ≤ 5) (ha : a < acn 0) (hn : dc 0 ≤ 6) (hd : d < dc 0)  : mR l yX4_needs cX4_needs 3 (some .int) 2 43 D cI cZ cB cR [oM q tr xtx ty xdc xdl xdb xar xac xwm xnd at9 sta sor val fau xnw xkp xta xtw td xhg, aI cI xac 2 acn, aI cI xdc 2 dc, aI cI xnd 60 nd] [.ref q, .int (nI a), .int (nI d)] (some (.int (nI (nd (6 * a + d))))) := by
  refine mR_of rfl (Nat.le_of_ble_eq_true rfl) ?_
  intro p e s m args below meth c hC hr hlk hK hP ls hl
  have hl : lv_has ls 3 [(0, .ref q), (1, .int (nI a)), (2, .int (nI d))] := hl
  obtain ⟨hx, hb, hml, hown, hts⟩ := id hC
  refine lv_aload_n hx hb dX4_needs_0 rfl (lv_at hl 0 rfl) ?_
  refine lv_iload_n hx hb dX4_needs_1 rfl (lv_at hl 1 rfl) ?_
  refine zRV (As := [.int (nI a)]) (b := q) (rest := []) hC (c_X4_isAct (l := l) (g := true) (hn := by omega) (hg := ⟨fun _ => vp_in_nI (by omega) (by omega), fun _ => rfl⟩)) lM_X4_132 vM_X4_isAct (by decide) hK hP [0, 1] rfl ⟨rfl, rfl, rfl⟩ rfl hl.1 rfl (Nat.le_of_ble_eq_true rfl) dX4_needs_2 (by decide) ?_
  show W _ _ _ _ _ _ _ _ _ _ _ _ _ _ _ (F0 m 5 ls [.int (bI true)])
  refine zb_eq (tgt := 25) hC dX4_needs_5 (by decide) (fun c5 => by exfalso; cases c5) (fun c5 => ?_)
  refine lv_aload_n hx hb dX4_needs_8 rfl (lv_at hl 0 rfl) ?_
  refine lv_iload_n hx hb dX4_needs_9 rfl (lv_at hl 2 rfl) ?_
  refine zRV (As := [.int (nI d)]) (b := q) (rest := []) hC (c_X4_isDecanter (l := l) (g := true) (hn := by omega) (hg := ⟨fun _ => vp_in_nI (by omega) (by omega), fun _ => rfl⟩)) lM_X4_126 vM_X4_isDecanter (by decide) hK hP [0, 2] rfl ⟨rfl, rfl, rfl⟩ rfl hl.1 rfl (Nat.le_of_ble_eq_true rfl) dX4_needs_10 (by decide) ?_
  show W _ _ _ _ _ _ _ _ _ _ _ _ _ _ _ (F0 m 13 ls [.int (bI true)])
  refine zb_eq (tgt := 25) hC dX4_needs_13 (by decide) (fun c13 => by exfalso; cases c13) (fun c13 => ?_)
  refine lv_aload_n hx hb dX4_needs_16 rfl (lv_at hl 0 rfl) ?_
  refine lv_iload_n hx hb dX4_needs_17 rfl (lv_at hl 1 rfl) ?_
  refine lv_iload_n hx hb dX4_needs_18 rfl (lv_at hl 2 rfl) ?_
  refine zRV (As := [.int (nI a), .int (nI d)]) (b := q) (rest := []) hC (c_X4_needOf (l := l) (ha := by omega) (hd := by omega)) lM_X4_116 vM_X4_needOf (by decide) hK hP [0, 3] rfl ⟨rfl, rfl, rfl⟩ rfl hl.1 rfl (Nat.le_of_ble_eq_true rfl) dX4_needs_19 (by decide) ?_
  show W _ _ _ _ _ _ _ _ _ _ _ _ _ _ _ (F0 m 22 ls [.int (nI (nd (6 * a + d)))])
  refine lv_goto (tgt := 26) hx hb dX4_needs_22 (by decide) ?_
  exact zr_i hC hr hlk (by first | rfl | omega) dX4_needs_26
set_option maxHeartbeats 1000000 in
set_option maxRecDepth 100000 in
theorem c_X4_tells_badA {l : Launch} {D : va_G} {cI cZ cB cR : ClassId} {q xtx ty xdc xdl xdb xar xac xwm xnd at9 sta sor val xnw xkp xta xtw td xhg : Nat} {tr : Int64} {fau : Int32} {acn : Nat → Nat} {x w : Int32} (hac : acn 0 ≤ 5) (hbad : ¬ vp_in x (acn 0)) : mR l yX4_tells cX4_tells 3 (some .int) 2 43 D cI cZ cB cR [oM q tr xtx ty xdc xdl xdb xar xac xwm xnd at9 sta sor val fau xnw xkp xta xtw td xhg, aI cI xac 2 acn] [.ref q, .int x, .int w] (some (.int (-1))) := by
  refine mR_of rfl (Nat.le_of_ble_eq_true rfl) ?_
  intro p e s m args below meth c hC hr hlk hK hP ls hl
  have hl : lv_has ls 3 [(0, .ref q), (1, .int x), (2, .int w)] := hl
  obtain ⟨hx, hb, hml, hown, hts⟩ := id hC
  refine lv_aload_n hx hb dX4_tells_0 rfl (lv_at hl 0 rfl) ?_
  refine lv_iload_n hx hb dX4_tells_1 rfl (lv_at hl 1 rfl) ?_
  refine zRV (As := [.int x]) (b := q) (rest := []) hC (c_X4_isAct (l := l) (g := false) (hn := by omega) (hg := ⟨fun h => (by cases h), fun h => absurd h hbad⟩)) lM_X4_132 vM_X4_isAct (by decide) hK hP [0, 1] rfl ⟨rfl, rfl, rfl⟩ rfl hl.1 rfl (Nat.le_of_ble_eq_true rfl) dX4_tells_2 (by decide) ?_
  show W _ _ _ _ _ _ _ _ _ _ _ _ _ _ _ (F0 m 5 ls [.int (bI false)])
  refine zb_eq (tgt := 17) hC dX4_tells_5 (by decide) (fun c5 => ?_) (fun c5 => by exfalso; cases c5)
  refine lv_iconst (v := (-1)) hx hb dX4_tells_17 (by decide) ?_
  exact zr_i hC hr hlk (by first | rfl | omega) dX4_tells_18
set_option maxHeartbeats 1000000 in
set_option maxRecDepth 100000 in
theorem c_X4_tells_badW {l : Launch} {D : va_G} {cI cZ cB cR : ClassId} {q xtx ty xdc xdl xdb xar xac xwm xnd at9 sta sor val xnw xkp xta xtw td xhg : Nat} {tr : Int64} {fau : Int32} {acn : Nat → Nat} {a : Nat} {x : Int32} (hac : acn 0 ≤ 5) (ha : a < acn 0) (hbi : ¬ (nI 0 ≤ x ∧ x ≤ nI 1))  : mR l yX4_tells cX4_tells 3 (some .int) 2 43 D cI cZ cB cR [oM q tr xtx ty xdc xdl xdb xar xac xwm xnd at9 sta sor val fau xnw xkp xta xtw td xhg, aI cI xac 2 acn] [.ref q, .int (nI a), .int x] (some (.int (-1))) := by
  refine mR_of rfl (Nat.le_of_ble_eq_true rfl) ?_
  intro p e s m args below meth c hC hr hlk hK hP ls hl
  have hl : lv_has ls 3 [(0, .ref q), (1, .int (nI a)), (2, .int x)] := hl
  obtain ⟨hx, hb, hml, hown, hts⟩ := id hC
  refine lv_aload_n hx hb dX4_tells_0 rfl (lv_at hl 0 rfl) ?_
  refine lv_iload_n hx hb dX4_tells_1 rfl (lv_at hl 1 rfl) ?_
  refine zRV (As := [.int (nI a)]) (b := q) (rest := []) hC (c_X4_isAct (l := l) (g := true) (hn := by omega) (hg := ⟨fun _ => vp_in_nI (by omega) (by omega), fun _ => rfl⟩)) lM_X4_132 vM_X4_isAct (by decide) hK hP [0, 1] rfl ⟨rfl, rfl, rfl⟩ rfl hl.1 rfl (Nat.le_of_ble_eq_true rfl) dX4_tells_2 (by decide) ?_
  show W _ _ _ _ _ _ _ _ _ _ _ _ _ _ _ (F0 m 5 ls [.int (bI true)])
  refine zb_eq (tgt := 17) hC dX4_tells_5 (by decide) (fun c5 => by exfalso; cases c5) (fun c5 => ?_)
  refine lv_iload_n hx hb dX4_tells_8 rfl (lv_at hl 2 rfl) ?_
  refine lv_iconst (v := nI 0) hx hb dX4_tells_9 (by decide) ?_
  refine lv_iconst (v := nI 1) hx hb dX4_tells_10 (by decide) ?_
  refine zRS (As := [.int x, .int (nI 0), .int (nI 1)]) (rest := []) hC (c_X4_in (l := l) (g := false) (hg := ⟨fun h => (by cases h), fun h => absurd h hbi⟩)) lM_X4_57 sM_X4_in (by decide) hK rfl hl.1 rfl (Nat.le_of_ble_eq_true rfl) dX4_tells_11 (by decide) ?_
  show W _ _ _ _ _ _ _ _ _ _ _ _ _ _ _ (F0 m 14 ls [.int (bI false)])
  refine zb_ne (tgt := 19) hC dX4_tells_14 (by decide) (fun c14 => by exfalso; cases c14) (fun c14 => ?_)
  refine lv_iconst (v := (-1)) hx hb dX4_tells_17 (by decide) ?_
  exact zr_i hC hr hlk (by first | rfl | omega) dX4_tells_18
set_option maxHeartbeats 1000000 in
set_option maxRecDepth 100000 in
theorem c_X4_tells_full {l : Launch} {D : va_G} {cI cZ cB cR : ClassId} {q xtx ty xdc xdl xdb xar xac xwm xnd at9 sta sor val xnw xkp xta xtw xhg : Nat} {tr : Int64} {fau : Int32} {acn : Nat → Nat} {a w9 : Nat} (hac : acn 0 ≤ 5) (ha : a < acn 0) (hw : w9 < 2) : mR l yX4_tells cX4_tells 3 (some .int) 2 43 D cI cZ cB cR [oM q tr xtx ty xdc xdl xdb xar xac xwm xnd at9 sta sor val fau xnw xkp xta xtw 6 xhg, aI cI xac 2 acn] [.ref q, .int (nI a), .int (nI w9)] (some (.int (-3))) := by
  refine mR_of rfl (Nat.le_of_ble_eq_true rfl) ?_
  intro p e s m args below meth c hC hr hlk hK hP ls hl
  have hl : lv_has ls 3 [(0, .ref q), (1, .int (nI a)), (2, .int (nI w9))] := hl
  obtain ⟨hx, hb, hml, hown, hts⟩ := id hC
  refine lv_aload_n hx hb dX4_tells_0 rfl (lv_at hl 0 rfl) ?_
  refine lv_iload_n hx hb dX4_tells_1 rfl (lv_at hl 1 rfl) ?_
  refine zRV (As := [.int (nI a)]) (b := q) (rest := []) hC (c_X4_isAct (l := l) (g := true) (hn := by omega) (hg := ⟨fun _ => vp_in_nI (by omega) (by omega), fun _ => rfl⟩)) lM_X4_132 vM_X4_isAct (by decide) hK hP [0, 1] rfl ⟨rfl, rfl, rfl⟩ rfl hl.1 rfl (Nat.le_of_ble_eq_true rfl) dX4_tells_2 (by decide) ?_
  show W _ _ _ _ _ _ _ _ _ _ _ _ _ _ _ (F0 m 5 ls [.int (bI true)])
  refine zb_eq (tgt := 17) hC dX4_tells_5 (by decide) (fun c5 => by exfalso; cases c5) (fun c5 => ?_)
  refine lv_iload_n hx hb dX4_tells_8 rfl (lv_at hl 2 rfl) ?_
  refine lv_iconst (v := nI 0) hx hb dX4_tells_9 (by decide) ?_
  refine lv_iconst (v := nI 1) hx hb dX4_tells_10 (by decide) ?_
  refine zRS (As := [.int (nI w9), .int (nI 0), .int (nI 1)]) (rest := []) hC (c_X4_in (l := l) (g := true) (hg := ⟨fun _ => ⟨(nI_leI (by omega) (by omega)).mpr (by omega), (nI_leI (by omega) (by omega)).mpr (by omega)⟩, fun _ => rfl⟩)) lM_X4_57 sM_X4_in (by decide) hK rfl hl.1 rfl (Nat.le_of_ble_eq_true rfl) dX4_tells_11 (by decide) ?_
  show W _ _ _ _ _ _ _ _ _ _ _ _ _ _ _ (F0 m 14 ls [.int (bI true)])
  refine zb_ne (tgt := 19) hC dX4_tells_14 (by decide) (fun c14 => ?_) (fun c14 => by exfalso; cases c14)
  refine lv_aload_n hx hb dX4_tells_19 rfl (lv_at hl 0 rfl) ?_
  refine z_get (k := 19) zcX4 hC hK hP 0 rfl (by decide) lF_X4_98 rfl dX4_tells_20 ?_
  refine lv_bipush (v := nI 6) hx hb dX4_tells_23 (by decide) ?_
  refine zc_ne (tgt := 31) hC dX4_tells_25 (by decide) (by omega) (by omega) (fun c25 => by exfalso; omega) (fun c25 => ?_)
  refine lv_bipush (v := (-3)) hx hb dX4_tells_28 (by decide) ?_
  exact zr_i hC hr hlk (by first | rfl | omega) dX4_tells_30
set_option maxHeartbeats 1000000 in
set_option maxRecDepth 100000 in
theorem c_X4_tells {l : Launch} {D : va_G} {cI cZ cB cR : ClassId} {q xtx ty xdc xdl xdb xar xac xwm xnd at9 sta sor val xnw xkp xta xtw td xhg : Nat} {tr : Int64} {fau : Int32} {acn ta tw : Nat → Nat} {a w9 : Nat} (hac : acn 0 ≤ 5) (ha : a < acn 0) (hw : w9 < 2) (htd : td < 6) : mW l yX4_tells cX4_tells 3 (some .int) 2 43 D cI cZ cB cR [oM q tr xtx ty xdc xdl xdb xar xac xwm xnd at9 sta sor val fau xnw xkp xta xtw td xhg, aI cI xac 2 acn, aI cI xta 6 ta, aI cI xtw 6 tw] [oM q tr xtx ty xdc xdl xdb xar xac xwm xnd at9 sta sor val fau xnw xkp xta xtw (td + 1) xhg, aI cI xac 2 acn, aI cI xta 6 (updN ta td a), aI cI xtw 6 (updN tw td w9)] [.ref q, .int (nI a), .int (nI w9)] (some (.int (nI (td + 1)))) := by
  refine mW_of rfl (Nat.le_of_ble_eq_true rfl) ?_
  intro p e s m args below meth c hC hr hlk hK A hA hD H0 h0 hP hS ls hl
  have hP : va_P D vwCl [oM q tr xtx ty xdc xdl xdb xar xac xwm xnd at9 sta sor val fau xnw xkp xta xtw td xhg, aI cI xac 2 acn, aI cI xta 6 ta, aI cI xtw 6 tw] H0 := hP
  have hl : lv_has ls 3 [(0, .ref q), (1, .int (nI a)), (2, .int (nI w9))] := hl
  obtain ⟨hx, hb, hml, hown, hts⟩ := id hC
  refine lv_aload_n hx hb dX4_tells_0 rfl (lv_at hl 0 rfl) ?_
  refine lv_iload_n hx hb dX4_tells_1 rfl (lv_at hl 1 rfl) ?_
  refine zRV (As := [.int (nI a)]) (b := q) (rest := []) hC (c_X4_isAct (l := l) (g := true) (hn := by omega) (hg := ⟨fun _ => vp_in_nI (by omega) (by omega), fun _ => rfl⟩)) lM_X4_132 vM_X4_isAct (by decide) hK hP [0, 1] rfl ⟨rfl, rfl, rfl⟩ rfl hl.1 rfl (Nat.le_of_ble_eq_true rfl) dX4_tells_2 (by decide) ?_
  show W _ _ _ _ _ _ _ _ _ _ _ _ _ _ _ (F0 m 5 ls [.int (bI true)])
  refine zb_eq (tgt := 17) hC dX4_tells_5 (by decide) (fun c5 => by exfalso; cases c5) (fun c5 => ?_)
  refine lv_iload_n hx hb dX4_tells_8 rfl (lv_at hl 2 rfl) ?_
  refine lv_iconst (v := nI 0) hx hb dX4_tells_9 (by decide) ?_
  refine lv_iconst (v := nI 1) hx hb dX4_tells_10 (by decide) ?_
  refine zRS (As := [.int (nI w9), .int (nI 0), .int (nI 1)]) (rest := []) hC (c_X4_in (l := l) (g := true) (hg := ⟨fun _ => ⟨(nI_leI (by omega) (by omega)).mpr (by omega), (nI_leI (by omega) (by omega)).mpr (by omega)⟩, fun _ => rfl⟩)) lM_X4_57 sM_X4_in (by decide) hK rfl hl.1 rfl (Nat.le_of_ble_eq_true rfl) dX4_tells_11 (by decide) ?_
  show W _ _ _ _ _ _ _ _ _ _ _ _ _ _ _ (F0 m 14 ls [.int (bI true)])
  refine zb_ne (tgt := 19) hC dX4_tells_14 (by decide) (fun c14 => ?_) (fun c14 => by exfalso; cases c14)
  refine lv_aload_n hx hb dX4_tells_19 rfl (lv_at hl 0 rfl) ?_
  refine z_get (k := 19) zcX4 hC hK hP 0 rfl (by decide) lF_X4_98 rfl dX4_tells_20 ?_
  refine lv_bipush (v := nI 6) hx hb dX4_tells_23 (by decide) ?_
  refine zc_ne (tgt := 31) hC dX4_tells_25 (by decide) (by omega) (by omega) (fun c25 => ?_) (fun c25 => by exfalso; omega)
  refine lv_aload_n hx hb dX4_tells_31 rfl (lv_at hl 0 rfl) ?_
  refine z_get (k := 17) zcX4 hC hK hP 0 rfl (by decide) lF_X4_42 rfl dX4_tells_32 ?_
  refine lv_aload_n hx hb dX4_tells_35 rfl (lv_at hl 0 rfl) ?_
  refine z_get (k := 19) zcX4 hC hK hP 0 rfl (by decide) lF_X4_98 rfl dX4_tells_36 ?_
  refine lv_iload_n hx hb dX4_tells_39 rfl (lv_at hl 1 rfl) ?_
  refine z_ast hC hK hP hD hS 2 rfl (by omega) (by decide) dX4_tells_40 (fun H locs hP hD hS => ?_)
  have hP : va_P D vwCl [oM q tr xtx ty xdc xdl xdb xar xac xwm xnd at9 sta sor val fau xnw xkp xta xtw td xhg, aI cI xac 2 acn, aI cI xta 6 (updN ta td a), aI cI xtw 6 tw] H := hP
  have hD : va_D A [oM q tr xtx ty xdc xdl xdb xar xac xwm xnd at9 sta sor val fau xnw xkp xta xtw td xhg, aI cI xac 2 acn, aI cI xta 6 (updN ta td a), aI cI xtw 6 tw] := hD
  refine lv_aload_n hx hb dX4_tells_41 rfl (lv_at hl 0 rfl) ?_
  refine z_get (k := 18) zcX4 hC hK hP 0 rfl (by decide) lF_X4_45 rfl dX4_tells_42 ?_
  refine lv_aload_n hx hb dX4_tells_45 rfl (lv_at hl 0 rfl) ?_
  refine z_get (k := 19) zcX4 hC hK hP 0 rfl (by decide) lF_X4_98 rfl dX4_tells_46 ?_
  refine lv_iload_n hx hb dX4_tells_49 rfl (lv_at hl 2 rfl) ?_
  refine z_ast hC hK hP hD hS 3 rfl (by omega) (by decide) dX4_tells_50 (fun H locs hP hD hS => ?_)
  have hP : va_P D vwCl [oM q tr xtx ty xdc xdl xdb xar xac xwm xnd at9 sta sor val fau xnw xkp xta xtw td xhg, aI cI xac 2 acn, aI cI xta 6 (updN ta td a), aI cI xtw 6 (updN tw td w9)] H := hP
  have hD : va_D A [oM q tr xtx ty xdc xdl xdb xar xac xwm xnd at9 sta sor val fau xnw xkp xta xtw td xhg, aI cI xac 2 acn, aI cI xta 6 (updN ta td a), aI cI xtw 6 (updN tw td w9)] := hD
  refine lv_aload_n hx hb dX4_tells_51 rfl (lv_at hl 0 rfl) ?_
  refine lv_dup hx hb dX4_tells_52 rfl ?_
  refine z_get (k := 19) zcX4 hC hK hP 0 rfl (by decide) lF_X4_98 rfl dX4_tells_53 ?_
  refine lv_iconst (v := nI 1) hx hb dX4_tells_56 (by decide) ?_
  refine zi_add hC dX4_tells_57 ?_
  refine z_put (k := 19) zcX4 hC hK hP hD hS 0 rfl (by decide) lF_X4_98 rfl rfl rfl (Nat.le_of_ble_eq_true rfl) dX4_tells_58 (fun H locs hP hD hS => ?_)
  have hP : va_P D vwCl [oM q tr xtx ty xdc xdl xdb xar xac xwm xnd at9 sta sor val fau xnw xkp xta xtw (td + 1) xhg, aI cI xac 2 acn, aI cI xta 6 (updN ta td a), aI cI xtw 6 (updN tw td w9)] H := hP
  have hD : va_D A [oM q tr xtx ty xdc xdl xdb xar xac xwm xnd at9 sta sor val fau xnw xkp xta xtw (td + 1) xhg, aI cI xac 2 acn, aI cI xta 6 (updN ta td a), aI cI xtw 6 (updN tw td w9)] := hD
  refine lv_aload_n hx hb dX4_tells_61 rfl (lv_at hl 0 rfl) ?_
  refine z_get (k := 19) zcX4 hC hK hP 0 rfl (by decide) lF_X4_98 rfl dX4_tells_62 ?_
  exact zw_i hC hr hlk hA h0 hP hS (by first | rfl | omega) dX4_tells_65
set_option maxHeartbeats 1000000 in
set_option maxRecDepth 100000 in
theorem c_X4_forget {l : Launch} {D : va_G} {cI cZ cB cR : ClassId} {q xtx ty xdc xdl xdb xar xac xwm xnd at9 sta sor val xnw xkp xta xtw td xhg : Nat} {tr : Int64} {fau : Int32}   : mW l yX4_forget cX4_forget 2 (some .int) 0 0 D cI cZ cB cR [oM q tr xtx ty xdc xdl xdb xar xac xwm xnd at9 sta sor val fau xnw xkp xta xtw td xhg] [oM q tr xtx ty xdc xdl xdb xar xac xwm xnd at9 sta sor val fau xnw xkp xta xtw 0 xhg] [.ref q] (some (.int (nI td))) := by
  refine mW_of rfl (Nat.le_of_ble_eq_true rfl) ?_
  intro p e s m args below meth c hC hr hlk hK A hA hD H0 h0 hP hS ls hl
  have hP : va_P D vwCl [oM q tr xtx ty xdc xdl xdb xar xac xwm xnd at9 sta sor val fau xnw xkp xta xtw td xhg] H0 := hP
  have hl : lv_has ls 2 [(0, .ref q)] := hl
  obtain ⟨hx, hb, hml, hown, hts⟩ := id hC
  refine lv_aload_n hx hb dX4_forget_0 rfl (lv_at hl 0 rfl) ?_
  refine z_get (k := 19) zcX4 hC hK hP 0 rfl (by decide) lF_X4_98 rfl dX4_forget_1 ?_
  refine lv_istore_n (lv' := [(1, .int (nI td)), (0, .ref q)]) hx hb dX4_forget_4 rfl hl (by decide) rfl (fun ls hl => ?_)
  refine lv_aload_n hx hb dX4_forget_5 rfl (lv_at hl 1 rfl) ?_
  refine lv_iconst (v := nI 0) hx hb dX4_forget_6 (by decide) ?_
  refine z_put (k := 19) zcX4 hC hK hP hD hS 0 rfl (by decide) lF_X4_98 rfl rfl rfl (Nat.le_of_ble_eq_true rfl) dX4_forget_7 (fun H locs hP hD hS => ?_)
  have hP : va_P D vwCl [oM q tr xtx ty xdc xdl xdb xar xac xwm xnd at9 sta sor val fau xnw xkp xta xtw 0 xhg] H := hP
  have hD : va_D A [oM q tr xtx ty xdc xdl xdb xar xac xwm xnd at9 sta sor val fau xnw xkp xta xtw 0 xhg] := hD
  refine lv_iload_n hx hb dX4_forget_10 rfl (lv_at hl 0 rfl) ?_
  exact zw_i hC hr hlk hA h0 hP hS (by first | rfl | omega) dX4_forget_11
set_option maxHeartbeats 1000000 in
set_option maxRecDepth 100000 in
theorem c_X4_tray_bad {l : Launch} {D : va_G} {cI cZ cB cR : ClassId} {q xtx ty xdc xdl xdb xar xac xwm xnd at9 sta sor val xnw xkp xta xtw td xhg : Nat} {tr : Int64} {fau : Int32} {x : Int32} (hbi : ¬ (nI 0 ≤ x ∧ x ≤ nI 1))  : mR l yX4_tray cX4_tray 6 (some .int) 1 22 D cI cZ cB cR [oM q tr xtx ty xdc xdl xdb xar xac xwm xnd at9 sta sor val fau xnw xkp xta xtw td xhg] [.ref q, .int x] (some (.int (-1))) := by
  refine mR_of rfl (Nat.le_of_ble_eq_true rfl) ?_
  intro p e s m args below meth c hC hr hlk hK hP ls hl
  have hl : lv_has ls 6 [(0, .ref q), (1, .int x)] := hl
  obtain ⟨hx, hb, hml, hown, hts⟩ := id hC
  refine lv_iload_n hx hb dX4_tray_0 rfl (lv_at hl 1 rfl) ?_
  refine lv_iconst (v := nI 0) hx hb dX4_tray_1 (by decide) ?_
  refine lv_iconst (v := nI 1) hx hb dX4_tray_2 (by decide) ?_
  refine zRS (As := [.int x, .int (nI 0), .int (nI 1)]) (rest := []) hC (c_X4_in (l := l) (g := false) (hg := ⟨fun h => (by cases h), fun h => absurd h hbi⟩)) lM_X4_57 sM_X4_in (by decide) hK rfl hl.1 rfl (Nat.le_of_ble_eq_true rfl) dX4_tray_3 (by decide) ?_
  show W _ _ _ _ _ _ _ _ _ _ _ _ _ _ _ (F0 m 6 ls [.int (bI false)])
  refine zb_ne (tgt := 11) hC dX4_tray_6 (by decide) (fun c6 => by exfalso; cases c6) (fun c6 => ?_)
  refine lv_iconst (v := (-1)) hx hb dX4_tray_9 (by decide) ?_
  exact zr_i hC hr hlk (by first | rfl | omega) dX4_tray_10
set_option maxHeartbeats 1000000 in
set_option maxRecDepth 100000 in
theorem c_X4_right_bad {l : Launch} {D : va_G} {cI cZ cB cR : ClassId} {q xtx ty xdc xdl xdb xar xac xwm xnd at9 sta sor val xnw xkp xta xtw td xhg : Nat} {tr : Int64} {fau : Int32} {x : Int32} (hbi : ¬ (nI 0 ≤ x ∧ x ≤ nI 1))  : mR l yX4_right cX4_right 7 (some .int) 1 22 D cI cZ cB cR [oM q tr xtx ty xdc xdl xdb xar xac xwm xnd at9 sta sor val fau xnw xkp xta xtw td xhg] [.ref q, .int x] (some (.int (-1))) := by
  refine mR_of rfl (Nat.le_of_ble_eq_true rfl) ?_
  intro p e s m args below meth c hC hr hlk hK hP ls hl
  have hl : lv_has ls 7 [(0, .ref q), (1, .int x)] := hl
  obtain ⟨hx, hb, hml, hown, hts⟩ := id hC
  refine lv_iload_n hx hb dX4_right_0 rfl (lv_at hl 1 rfl) ?_
  refine lv_iconst (v := nI 0) hx hb dX4_right_1 (by decide) ?_
  refine lv_iconst (v := nI 1) hx hb dX4_right_2 (by decide) ?_
  refine zRS (As := [.int x, .int (nI 0), .int (nI 1)]) (rest := []) hC (c_X4_in (l := l) (g := false) (hg := ⟨fun h => (by cases h), fun h => absurd h hbi⟩)) lM_X4_57 sM_X4_in (by decide) hK rfl hl.1 rfl (Nat.le_of_ble_eq_true rfl) dX4_right_3 (by decide) ?_
  show W _ _ _ _ _ _ _ _ _ _ _ _ _ _ _ (F0 m 6 ls [.int (bI false)])
  refine zb_ne (tgt := 11) hC dX4_right_6 (by decide) (fun c6 => by exfalso; cases c6) (fun c6 => ?_)
  refine lv_iconst (v := (-1)) hx hb dX4_right_9 (by decide) ?_
  exact zr_i hC hr hlk (by first | rfl | omega) dX4_right_10
set_option maxHeartbeats 1000000 in
set_option maxRecDepth 100000 in
theorem c_X4_share_bad {l : Launch} {D : va_G} {cI cZ cB cR : ClassId} {q xtx ty xdc xdl xdb xar xac xwm xnd at9 sta sor val xnw xkp xta xtw td xhg : Nat} {tr : Int64} {fau : Int32} {x : Int32} (hbi : ¬ (nI 0 ≤ x ∧ x ≤ nI 1))  : mR l yX4_share cX4_share 7 (some .int) 1 22 D cI cZ cB cR [oM q tr xtx ty xdc xdl xdb xar xac xwm xnd at9 sta sor val fau xnw xkp xta xtw td xhg] [.ref q, .int x] (some (.int (-1))) := by
  refine mR_of rfl (Nat.le_of_ble_eq_true rfl) ?_
  intro p e s m args below meth c hC hr hlk hK hP ls hl
  have hl : lv_has ls 7 [(0, .ref q), (1, .int x)] := hl
  obtain ⟨hx, hb, hml, hown, hts⟩ := id hC
  refine lv_iload_n hx hb dX4_share_0 rfl (lv_at hl 1 rfl) ?_
  refine lv_iconst (v := nI 0) hx hb dX4_share_1 (by decide) ?_
  refine lv_iconst (v := nI 1) hx hb dX4_share_2 (by decide) ?_
  refine zRS (As := [.int x, .int (nI 0), .int (nI 1)]) (rest := []) hC (c_X4_in (l := l) (g := false) (hg := ⟨fun h => (by cases h), fun h => absurd h hbi⟩)) lM_X4_57 sM_X4_in (by decide) hK rfl hl.1 rfl (Nat.le_of_ble_eq_true rfl) dX4_share_3 (by decide) ?_
  show W _ _ _ _ _ _ _ _ _ _ _ _ _ _ _ (F0 m 6 ls [.int (bI false)])
  refine zb_ne (tgt := 11) hC dX4_share_6 (by decide) (fun c6 => by exfalso; cases c6) (fun c6 => ?_)
  refine lv_iconst (v := (-1)) hx hb dX4_share_9 (by decide) ?_
  exact zr_i hC hr hlk (by first | rfl | omega) dX4_share_10
set_option maxHeartbeats 1000000 in
set_option maxRecDepth 100000 in
theorem c_X4_keep_bad {l : Launch} {D : va_G} {cI cZ cB cR : ClassId} {q xtx ty xdc xdl xdb xar xac xwm xnd at9 sta sor val xnw xkp xta xtw td xhg : Nat} {tr : Int64} {fau : Int32} {x : Int32} (hbi : ¬ (nI 0 ≤ x ∧ x ≤ nI 1))  : mR l yX4_keep cX4_keep 3 (some .int) 1 22 D cI cZ cB cR [oM q tr xtx ty xdc xdl xdb xar xac xwm xnd at9 sta sor val fau xnw xkp xta xtw td xhg] [.ref q, .int x] (some (.int (-1))) := by
  refine mR_of rfl (Nat.le_of_ble_eq_true rfl) ?_
  intro p e s m args below meth c hC hr hlk hK hP ls hl
  have hl : lv_has ls 3 [(0, .ref q), (1, .int x)] := hl
  obtain ⟨hx, hb, hml, hown, hts⟩ := id hC
  refine lv_iload_n hx hb dX4_keep_0 rfl (lv_at hl 1 rfl) ?_
  refine lv_iconst (v := nI 0) hx hb dX4_keep_1 (by decide) ?_
  refine lv_iconst (v := nI 1) hx hb dX4_keep_2 (by decide) ?_
  refine zRS (As := [.int x, .int (nI 0), .int (nI 1)]) (rest := []) hC (c_X4_in (l := l) (g := false) (hg := ⟨fun h => (by cases h), fun h => absurd h hbi⟩)) lM_X4_57 sM_X4_in (by decide) hK rfl hl.1 rfl (Nat.le_of_ble_eq_true rfl) dX4_keep_3 (by decide) ?_
  show W _ _ _ _ _ _ _ _ _ _ _ _ _ _ _ (F0 m 6 ls [.int (bI false)])
  refine zb_ne (tgt := 11) hC dX4_keep_6 (by decide) (fun c6 => by exfalso; cases c6) (fun c6 => ?_)
  refine lv_iconst (v := (-1)) hx hb dX4_keep_9 (by decide) ?_
  exact zr_i hC hr hlk (by first | rfl | omega) dX4_keep_10
set_option maxHeartbeats 1000000 in
set_option maxRecDepth 100000 in
theorem c_X4_back_bad {l : Launch} {D : va_G} {cI cZ cB cR : ClassId} {q xtx ty xdc xdl xdb xar xac xwm xnd at9 sta sor val xnw xkp xta xtw td xhg : Nat} {tr : Int64} {fau : Int32} {x : Int32} (hbi : ¬ (nI 0 ≤ x ∧ x ≤ nI 1))  : mR l yX4_back cX4_back 3 (some .int) 1 22 D cI cZ cB cR [oM q tr xtx ty xdc xdl xdb xar xac xwm xnd at9 sta sor val fau xnw xkp xta xtw td xhg] [.ref q, .int x] (some (.int (-1))) := by
  refine mR_of rfl (Nat.le_of_ble_eq_true rfl) ?_
  intro p e s m args below meth c hC hr hlk hK hP ls hl
  have hl : lv_has ls 3 [(0, .ref q), (1, .int x)] := hl
  obtain ⟨hx, hb, hml, hown, hts⟩ := id hC
  refine lv_iload_n hx hb dX4_back_0 rfl (lv_at hl 1 rfl) ?_
  refine lv_iconst (v := nI 0) hx hb dX4_back_1 (by decide) ?_
  refine lv_iconst (v := nI 1) hx hb dX4_back_2 (by decide) ?_
  refine zRS (As := [.int x, .int (nI 0), .int (nI 1)]) (rest := []) hC (c_X4_in (l := l) (g := false) (hg := ⟨fun h => (by cases h), fun h => absurd h hbi⟩)) lM_X4_57 sM_X4_in (by decide) hK rfl hl.1 rfl (Nat.le_of_ble_eq_true rfl) dX4_back_3 (by decide) ?_
  show W _ _ _ _ _ _ _ _ _ _ _ _ _ _ _ (F0 m 6 ls [.int (bI false)])
  refine zb_ne (tgt := 11) hC dX4_back_6 (by decide) (fun c6 => by exfalso; cases c6) (fun c6 => ?_)
  refine lv_iconst (v := (-1)) hx hb dX4_back_9 (by decide) ?_
  exact zr_i hC hr hlk (by first | rfl | omega) dX4_back_10
set_option maxHeartbeats 1000000 in
set_option maxRecDepth 100000 in
theorem c_X4_keep {l : Launch} {D : va_G} {cI cZ cB cR : ClassId} {q xtx ty xdc xdl xdb xar xac xwm xnd at9 sta sor val xnw xkp xta xtw td xhg : Nat} {tr : Int64} {fau : Int32} {nw : Nat → Nat} {kp : Nat → Bool} {im : Nat} (him : im < 2) : mW l yX4_keep cX4_keep 3 (some .int) 1 22 D cI cZ cB cR [oM q tr xtx ty xdc xdl xdb xar xac xwm xnd at9 sta sor val fau xnw xkp xta xtw td xhg, aI cI xnw 729 nw, aZ cZ xkp 2 kp] [oM q tr xtx ty xdc xdl xdb xar xac xwm xnd at9 sta sor val fau xnw xkp xta xtw td xhg, aI cI xnw 729 (blk nw (243 * (1 + im)) 243 nw), aZ cZ xkp 2 (updB kp im true)] [.ref q, .int (nI im)] (some (.int (nI (nw 18)))) := by
  refine mW_of rfl (Nat.le_of_ble_eq_true rfl) ?_
  intro p e s m args below meth c hC hr hlk hK A hA hD H0 h0 hP hS ls hl
  have hP : va_P D vwCl [oM q tr xtx ty xdc xdl xdb xar xac xwm xnd at9 sta sor val fau xnw xkp xta xtw td xhg, aI cI xnw 729 nw, aZ cZ xkp 2 kp] H0 := hP
  have hl : lv_has ls 3 [(0, .ref q), (1, .int (nI im))] := hl
  obtain ⟨hx, hb, hml, hown, hts⟩ := id hC
  refine lv_iload_n hx hb dX4_keep_0 rfl (lv_at hl 1 rfl) ?_
  refine lv_iconst (v := nI 0) hx hb dX4_keep_1 (by decide) ?_
  refine lv_iconst (v := nI 1) hx hb dX4_keep_2 (by decide) ?_
  refine zRS (As := [.int (nI im), .int (nI 0), .int (nI 1)]) (rest := []) hC (c_X4_in (l := l) (g := true) (hg := ⟨fun _ => ⟨(nI_leI (by omega) (by omega)).mpr (by omega), (nI_leI (by omega) (by omega)).mpr (by omega)⟩, fun _ => rfl⟩)) lM_X4_57 sM_X4_in (by decide) hK rfl hl.1 rfl (Nat.le_of_ble_eq_true rfl) dX4_keep_3 (by decide) ?_
  show W _ _ _ _ _ _ _ _ _ _ _ _ _ _ _ (F0 m 6 ls [.int (bI true)])
  refine zb_ne (tgt := 11) hC dX4_keep_6 (by decide) (fun c6 => ?_) (fun c6 => by exfalso; cases c6)
  refine lv_iconst (v := nI 0) hx hb dX4_keep_11 (by decide) ?_
  refine lv_istore_n (lv' := [(2, .int (nI 0)), (0, .ref q), (1, .int (nI im))]) hx hb dX4_keep_12 rfl hl (by decide) rfl (fun ls hl => ?_)
  have hL13 : ∀ (z13 : Nat) (i9 : Nat) (n8 : Nat → Nat), 243 - i9 = z13 → (i9 ≤ 243) → (n8 = blk nw (243 * (1 + im)) i9 nw) → ∀ (H : Heap) (locs : List Loc), va_P D vwCl [oM q tr xtx ty xdc xdl xdb xar xac xwm xnd at9 sta sor val fau xnw xkp xta xtw td xhg, aI cI xnw 729 n8, aZ cZ xkp 2 kp] H → va_D A [oM q tr xtx ty xdc xdl xdb xar xac xwm xnd at9 sta sor val fau xnw xkp xta xtw td xhg, aI cI xnw 729 n8, aZ cZ xkp 2 kp] → va_S A H0 H locs → ∀ ls : Array Slot, lv_has ls 3 [(0, .ref q), (1, .int (nI im)), (2, .int (nI i9))] → W p l e { frames := 1, cells := 0, slots := 0, locals := 22 } s m args below meth c H locs 0 0 (MQ below (qW D [oM q tr xtx ty xdc xdl xdb xar xac xwm xnd at9 sta sor val fau xnw xkp xta xtw td xhg, aI cI xnw 729 nw, aZ cZ xkp 2 kp] [oM q tr xtx ty xdc xdl xdb xar xac xwm xnd at9 sta sor val fau xnw xkp xta xtw td xhg, aI cI xnw 729 (blk nw (243 * (1 + im)) 243 nw), aZ cZ xkp 2 (updB kp im true)] (some (.int (nI (nw 18))))) args s 0 0 (zA [oM q tr xtx ty xdc xdl xdb xar xac xwm xnd at9 sta sor val fau xnw xkp xta xtw td xhg, aI cI xnw 729 nw, aZ cZ xkp 2 kp])) (F0 m 13 ls []) := by
    intro z13
    induction z13 using Nat.strongRecOn with
    | _ z13 ih13 =>
    intro i9 n8 hz13 hi hn8 H locs hP hD hS ls hl
    refine lv_iload_n hx hb dX4_keep_13 rfl (lv_at hl 2 rfl) ?_
    refine lv_sipush (v := nI 243) hx hb dX4_keep_14 (by decide) ?_
    refine zc_ge (tgt := 46) hC dX4_keep_17 (by decide) (by omega) (by omega) (fun c17 => ?_) (fun c17 => ?_)
    · skip
      refine lv_aload_n hx hb dX4_keep_46 rfl (lv_at hl 0 rfl) ?_
      refine z_get (k := 16) zcX4 hC hK hP 0 rfl (by decide) lF_X4_38 rfl dX4_keep_47 ?_
      refine lv_iload_n hx hb dX4_keep_50 rfl (lv_at hl 1 rfl) ?_
      refine lv_iconst (v := nI 1) hx hb dX4_keep_51 (by decide) ?_
      refine z_top (show (nI 1) = bI true from by rfl) ?_
      refine z_zst hC hK hP hD hS 2 rfl (by omega) (by decide) dX4_keep_52 (fun H locs hP hD hS => ?_)
      have hP : va_P D vwCl [oM q tr xtx ty xdc xdl xdb xar xac xwm xnd at9 sta sor val fau xnw xkp xta xtw td xhg, aI cI xnw 729 n8, aZ cZ xkp 2 (updB kp im true)] H := hP
      have hD : va_D A [oM q tr xtx ty xdc xdl xdb xar xac xwm xnd at9 sta sor val fau xnw xkp xta xtw td xhg, aI cI xnw 729 n8, aZ cZ xkp 2 (updB kp im true)] := hD
      refine lv_aload_n hx hb dX4_keep_53 rfl (lv_at hl 0 rfl) ?_
      refine z_get (k := 15) zcX4 hC hK hP 0 rfl (by decide) lF_X4_35 rfl dX4_keep_54 ?_
      refine lv_bipush (v := nI 18) hx hb dX4_keep_57 (by decide) ?_
      refine z_ald hC hK hP 1 rfl (by omega) (by decide) dX4_keep_59 ?_
      exact zw_i hC hr hlk hA h0 (by rw [hn8, show i9 = 243 by omega] at hP; exact hP) hS (by rw [hn8, blk_lo (by omega)]) dX4_keep_60
    · skip
      refine lv_aload_n hx hb dX4_keep_20 rfl (lv_at hl 0 rfl) ?_
      refine z_get (k := 15) zcX4 hC hK hP 0 rfl (by decide) lF_X4_35 rfl dX4_keep_21 ?_
      refine lv_sipush (v := nI 243) hx hb dX4_keep_24 (by decide) ?_
      refine lv_iconst (v := nI 1) hx hb dX4_keep_27 (by decide) ?_
      refine lv_iload_n hx hb dX4_keep_28 rfl (lv_at hl 1 rfl) ?_
      refine zi_add hC dX4_keep_29 ?_
      refine zi_mul hC dX4_keep_30 ?_
      refine lv_iload_n hx hb dX4_keep_31 rfl (lv_at hl 2 rfl) ?_
      refine zi_add hC dX4_keep_32 ?_
      refine lv_aload_n hx hb dX4_keep_33 rfl (lv_at hl 0 rfl) ?_
      refine z_get (k := 15) zcX4 hC hK hP 0 rfl (by decide) lF_X4_35 rfl dX4_keep_34 ?_
      refine lv_iload_n hx hb dX4_keep_37 rfl (lv_at hl 2 rfl) ?_
      refine z_ald hC hK hP 1 rfl (by omega) (by decide) dX4_keep_38 ?_
      refine z_ast hC hK hP hD hS 1 rfl (by omega) (by decide) dX4_keep_39 (fun H locs hP hD hS => ?_)
      have hP : va_P D vwCl [oM q tr xtx ty xdc xdl xdb xar xac xwm xnd at9 sta sor val fau xnw xkp xta xtw td xhg, aI cI xnw 729 (updN n8 ((243 * (1 + im)) + i9) (n8 i9)), aZ cZ xkp 2 kp] H := hP
      have hD : va_D A [oM q tr xtx ty xdc xdl xdb xar xac xwm xnd at9 sta sor val fau xnw xkp xta xtw td xhg, aI cI xnw 729 (updN n8 ((243 * (1 + im)) + i9) (n8 i9)), aZ cZ xkp 2 kp] := hD
      refine lv_iinc (v := nI (i9 + 1)) (lv' := [(2, .int (nI (i9 + 1))), (0, .ref q), (1, .int (nI im))]) hx hb dX4_keep_40 hl (k := 2) rfl (z_inc i9 1) (by decide) rfl (fun ls hl => ?_)
      refine lv_goto (tgt := 13) hx hb dX4_keep_43 (by decide) ?_
      exact ih13 (243 - (i9 + 1)) (by omega) (i9 + 1) (updN n8 ((243 * (1 + im)) + i9) (n8 i9)) rfl (by omega) (by rw [show n8 i9 = nw i9 by rw [hn8, blk_lo (by omega)], hn8]; exact blk_s nw (243 * (1 + im)) i9 nw) _ _ hP hD hS ls (lv_sub hl [1, 2, 0] rfl)
  exact hL13 _ 0 nw rfl (by omega) (by exact (blk_0 _ _ _).symm) _ _ hP hD hS ls (lv_sub hl [1, 2, 0] rfl)
set_option maxHeartbeats 1000000 in
set_option maxRecDepth 100000 in
theorem c_X4_back_state {l : Launch} {D : va_G} {cI cZ cB cR : ClassId} {q xtx ty xdc xdl xdb xar xac xwm xnd at9 sta sor val xnw xkp xta xtw td xhg : Nat} {tr : Int64} {fau : Int32} {kp : Nat → Bool} {im : Nat} (him : im < 2) (hbt : kp im = false) : mR l yX4_back cX4_back 3 (some .int) 1 22 D cI cZ cB cR [oM q tr xtx ty xdc xdl xdb xar xac xwm xnd at9 sta sor val fau xnw xkp xta xtw td xhg, aZ cZ xkp 2 kp] [.ref q, .int (nI im)] (some (.int (-2))) := by
  refine mR_of rfl (Nat.le_of_ble_eq_true rfl) ?_
  intro p e s m args below meth c hC hr hlk hK hP ls hl
  have hl : lv_has ls 3 [(0, .ref q), (1, .int (nI im))] := hl
  obtain ⟨hx, hb, hml, hown, hts⟩ := id hC
  refine lv_iload_n hx hb dX4_back_0 rfl (lv_at hl 1 rfl) ?_
  refine lv_iconst (v := nI 0) hx hb dX4_back_1 (by decide) ?_
  refine lv_iconst (v := nI 1) hx hb dX4_back_2 (by decide) ?_
  refine zRS (As := [.int (nI im), .int (nI 0), .int (nI 1)]) (rest := []) hC (c_X4_in (l := l) (g := true) (hg := ⟨fun _ => ⟨(nI_leI (by omega) (by omega)).mpr (by omega), (nI_leI (by omega) (by omega)).mpr (by omega)⟩, fun _ => rfl⟩)) lM_X4_57 sM_X4_in (by decide) hK rfl hl.1 rfl (Nat.le_of_ble_eq_true rfl) dX4_back_3 (by decide) ?_
  show W _ _ _ _ _ _ _ _ _ _ _ _ _ _ _ (F0 m 6 ls [.int (bI true)])
  refine zb_ne (tgt := 11) hC dX4_back_6 (by decide) (fun c6 => ?_) (fun c6 => by exfalso; cases c6)
  refine lv_aload_n hx hb dX4_back_11 rfl (lv_at hl 0 rfl) ?_
  refine z_get (k := 16) zcX4 hC hK hP 0 rfl (by decide) lF_X4_38 rfl dX4_back_12 ?_
  refine lv_iload_n hx hb dX4_back_15 rfl (lv_at hl 1 rfl) ?_
  refine z_zld hC hK hP 1 rfl (by omega) (by decide) dX4_back_16 ?_
  refine zb_ne (tgt := 23) hC dX4_back_17 (by decide) (fun c17 => by exfalso; exact absurd (hbt.symm.trans c17) (by decide)) (fun c17 => ?_)
  refine lv_bipush (v := (-2)) hx hb dX4_back_20 (by decide) ?_
  exact zr_i hC hr hlk (by first | rfl | omega) dX4_back_22
set_option maxHeartbeats 1000000 in
set_option maxRecDepth 100000 in
theorem c_X4_back {l : Launch} {D : va_G} {cI cZ cB cR : ClassId} {q xtx ty xdc xdl xdb xar xac xwm xnd at9 sta sor val xnw xkp xta xtw td xhg : Nat} {tr : Int64} {fau : Int32} {nw : Nat → Nat} {kp : Nat → Bool} {im : Nat} (him : im < 2) (hbt : kp im = true) : mW l yX4_back cX4_back 3 (some .int) 1 22 D cI cZ cB cR [oM q tr xtx ty xdc xdl xdb xar xac xwm xnd at9 sta sor val fau xnw xkp xta xtw td xhg, aI cI xnw 729 nw, aZ cZ xkp 2 kp] [oM q tr xtx ty xdc xdl xdb xar xac xwm xnd at9 sta sor val fau xnw xkp xta xtw td xhg, aI cI xnw 729 (blk nw 0 243 (fun m => nw (243 * (1 + im) + m))), aZ cZ xkp 2 kp] [.ref q, .int (nI im)] (some (.int (nI (nw (243 * (1 + im) + 18))))) := by
  refine mW_of rfl (Nat.le_of_ble_eq_true rfl) ?_
  intro p e s m args below meth c hC hr hlk hK A hA hD H0 h0 hP hS ls hl
  have hP : va_P D vwCl [oM q tr xtx ty xdc xdl xdb xar xac xwm xnd at9 sta sor val fau xnw xkp xta xtw td xhg, aI cI xnw 729 nw, aZ cZ xkp 2 kp] H0 := hP
  have hl : lv_has ls 3 [(0, .ref q), (1, .int (nI im))] := hl
  obtain ⟨hx, hb, hml, hown, hts⟩ := id hC
  refine lv_iload_n hx hb dX4_back_0 rfl (lv_at hl 1 rfl) ?_
  refine lv_iconst (v := nI 0) hx hb dX4_back_1 (by decide) ?_
  refine lv_iconst (v := nI 1) hx hb dX4_back_2 (by decide) ?_
  refine zRS (As := [.int (nI im), .int (nI 0), .int (nI 1)]) (rest := []) hC (c_X4_in (l := l) (g := true) (hg := ⟨fun _ => ⟨(nI_leI (by omega) (by omega)).mpr (by omega), (nI_leI (by omega) (by omega)).mpr (by omega)⟩, fun _ => rfl⟩)) lM_X4_57 sM_X4_in (by decide) hK rfl hl.1 rfl (Nat.le_of_ble_eq_true rfl) dX4_back_3 (by decide) ?_
  show W _ _ _ _ _ _ _ _ _ _ _ _ _ _ _ (F0 m 6 ls [.int (bI true)])
  refine zb_ne (tgt := 11) hC dX4_back_6 (by decide) (fun c6 => ?_) (fun c6 => by exfalso; cases c6)
  refine lv_aload_n hx hb dX4_back_11 rfl (lv_at hl 0 rfl) ?_
  refine z_get (k := 16) zcX4 hC hK hP 0 rfl (by decide) lF_X4_38 rfl dX4_back_12 ?_
  refine lv_iload_n hx hb dX4_back_15 rfl (lv_at hl 1 rfl) ?_
  refine z_zld hC hK hP 2 rfl (by omega) (by decide) dX4_back_16 ?_
  refine zb_ne (tgt := 23) hC dX4_back_17 (by decide) (fun c17 => ?_) (fun c17 => by exfalso; exact absurd (hbt.symm.trans c17) (by decide))
  refine lv_iconst (v := nI 0) hx hb dX4_back_23 (by decide) ?_
  refine lv_istore_n (lv' := [(2, .int (nI 0)), (0, .ref q), (1, .int (nI im))]) hx hb dX4_back_24 rfl hl (by decide) rfl (fun ls hl => ?_)
  have hL25 : ∀ (z25 : Nat) (i9 : Nat) (n8 : Nat → Nat), 243 - i9 = z25 → (i9 ≤ 243) → (n8 = blk nw 0 i9 (fun m => nw (243 * (1 + im) + m))) → ∀ (H : Heap) (locs : List Loc), va_P D vwCl [oM q tr xtx ty xdc xdl xdb xar xac xwm xnd at9 sta sor val fau xnw xkp xta xtw td xhg, aI cI xnw 729 n8, aZ cZ xkp 2 kp] H → va_D A [oM q tr xtx ty xdc xdl xdb xar xac xwm xnd at9 sta sor val fau xnw xkp xta xtw td xhg, aI cI xnw 729 n8, aZ cZ xkp 2 kp] → va_S A H0 H locs → ∀ ls : Array Slot, lv_has ls 3 [(0, .ref q), (1, .int (nI im)), (2, .int (nI i9))] → W p l e { frames := 1, cells := 0, slots := 0, locals := 22 } s m args below meth c H locs 0 0 (MQ below (qW D [oM q tr xtx ty xdc xdl xdb xar xac xwm xnd at9 sta sor val fau xnw xkp xta xtw td xhg, aI cI xnw 729 nw, aZ cZ xkp 2 kp] [oM q tr xtx ty xdc xdl xdb xar xac xwm xnd at9 sta sor val fau xnw xkp xta xtw td xhg, aI cI xnw 729 (blk nw 0 243 (fun m => nw (243 * (1 + im) + m))), aZ cZ xkp 2 kp] (some (.int (nI (nw (243 * (1 + im) + 18)))))) args s 0 0 (zA [oM q tr xtx ty xdc xdl xdb xar xac xwm xnd at9 sta sor val fau xnw xkp xta xtw td xhg, aI cI xnw 729 nw, aZ cZ xkp 2 kp])) (F0 m 25 ls []) := by
    intro z25
    induction z25 using Nat.strongRecOn with
    | _ z25 ih25 =>
    intro i9 n8 hz25 hi hn8 H locs hP hD hS ls hl
    refine lv_iload_n hx hb dX4_back_25 rfl (lv_at hl 2 rfl) ?_
    refine lv_sipush (v := nI 243) hx hb dX4_back_26 (by decide) ?_
    refine zc_ge (tgt := 58) hC dX4_back_29 (by decide) (by omega) (by omega) (fun c29 => ?_) (fun c29 => ?_)
    · skip
      refine lv_aload_n hx hb dX4_back_58 rfl (lv_at hl 0 rfl) ?_
      refine z_get (k := 15) zcX4 hC hK hP 0 rfl (by decide) lF_X4_35 rfl dX4_back_59 ?_
      refine lv_bipush (v := nI 18) hx hb dX4_back_62 (by decide) ?_
      refine z_ald hC hK hP 1 rfl (by omega) (by decide) dX4_back_64 ?_
      exact zw_i hC hr hlk hA h0 (by rw [hn8, show i9 = 243 by omega] at hP; exact hP) hS (by rw [hn8, show i9 = 243 by omega]; exact congrArg nI (blk_in (off := 0) (m := 18) (by omega))) dX4_back_65
    · skip
      refine lv_aload_n hx hb dX4_back_32 rfl (lv_at hl 0 rfl) ?_
      refine z_get (k := 15) zcX4 hC hK hP 0 rfl (by decide) lF_X4_35 rfl dX4_back_33 ?_
      refine lv_iload_n hx hb dX4_back_36 rfl (lv_at hl 2 rfl) ?_
      refine lv_aload_n hx hb dX4_back_37 rfl (lv_at hl 0 rfl) ?_
      refine z_get (k := 15) zcX4 hC hK hP 0 rfl (by decide) lF_X4_35 rfl dX4_back_38 ?_
      refine lv_sipush (v := nI 243) hx hb dX4_back_41 (by decide) ?_
      refine lv_iconst (v := nI 1) hx hb dX4_back_44 (by decide) ?_
      refine lv_iload_n hx hb dX4_back_45 rfl (lv_at hl 1 rfl) ?_
      refine zi_add hC dX4_back_46 ?_
      refine zi_mul hC dX4_back_47 ?_
      refine lv_iload_n hx hb dX4_back_48 rfl (lv_at hl 2 rfl) ?_
      refine zi_add hC dX4_back_49 ?_
      refine z_ald hC hK hP 1 rfl (by omega) (by decide) dX4_back_50 ?_
      refine z_ast hC hK hP hD hS 1 rfl (by omega) (by decide) dX4_back_51 (fun H locs hP hD hS => ?_)
      have hP : va_P D vwCl [oM q tr xtx ty xdc xdl xdb xar xac xwm xnd at9 sta sor val fau xnw xkp xta xtw td xhg, aI cI xnw 729 (updN n8 i9 (n8 ((243 * (1 + im)) + i9))), aZ cZ xkp 2 kp] H := hP
      have hD : va_D A [oM q tr xtx ty xdc xdl xdb xar xac xwm xnd at9 sta sor val fau xnw xkp xta xtw td xhg, aI cI xnw 729 (updN n8 i9 (n8 ((243 * (1 + im)) + i9))), aZ cZ xkp 2 kp] := hD
      refine lv_iinc (v := nI (i9 + 1)) (lv' := [(2, .int (nI (i9 + 1))), (0, .ref q), (1, .int (nI im))]) hx hb dX4_back_52 hl (k := 2) rfl (z_inc i9 1) (by decide) rfl (fun ls hl => ?_)
      refine lv_goto (tgt := 25) hx hb dX4_back_55 (by decide) ?_
      exact ih25 (243 - (i9 + 1)) (by omega) (i9 + 1) (updN n8 i9 (n8 ((243 * (1 + im)) + i9))) rfl (by omega) (by rw [show n8 (243 * (1 + im) + i9) = nw (243 * (1 + im) + i9) by rw [hn8, blk_hi (by omega)], hn8, ← blk_s, Nat.zero_add]) _ _ hP hD hS ls (lv_sub hl [1, 2, 0] rfl)
  exact hL25 _ 0 nw rfl (by omega) (by exact (blk_0 _ _ _).symm) _ _ hP hD hS ls (lv_sub hl [1, 2, 0] rfl)
set_option maxHeartbeats 1000000 in
set_option maxRecDepth 100000 in
theorem c_X4_count_0 {l : Launch} {D : va_G} {cI cZ cB cR : ClassId} {q xtx ty xdc xdl xdb xar xac xwm xnd at9 sta sor val xnw xkp xta xtw td xhg : Nat} {tr : Int64} {fau : Int32} {dc : Nat → Nat}   : mR l yX4_count cX4_count 2 (some .int) 0 0 D cI cZ cB cR [oM q tr xtx ty xdc xdl xdb xar xac xwm xnd at9 sta sor val fau xnw xkp xta xtw td xhg, aI cI xdc 2 dc] [.ref q, .int (nI 0)] (some (.int (nI (dc 0)))) := by
  refine mR_of rfl (Nat.le_of_ble_eq_true rfl) ?_
  intro p e s m args below meth c hC hr hlk hK hP ls hl
  have hl : lv_has ls 2 [(0, .ref q), (1, .int (nI 0))] := hl
  obtain ⟨hx, hb, hml, hown, hts⟩ := id hC
  refine lv_iload_n hx hb dX4_count_0 rfl (lv_at hl 1 rfl) ?_
  refine lv_tableIn (off := 35) (tgt := 36) hx hb dX4_count_1 (by decide) (by decide) (by decide) (by decide) ?_
  refine lv_aload_n hx hb dX4_count_36 rfl (lv_at hl 0 rfl) ?_
  refine z_get (k := 3) zcX4 hC hK hP 0 rfl (by decide) lF_X4_13 rfl dX4_count_37 ?_
  refine lv_iconst (v := nI 0) hx hb dX4_count_40 (by decide) ?_
  refine z_ald hC hK hP 1 rfl (by omega) (by decide) dX4_count_41 ?_
  exact zr_i hC hr hlk (by first | rfl | omega) dX4_count_42
set_option maxHeartbeats 1000000 in
set_option maxRecDepth 100000 in
theorem c_X4_count_1 {l : Launch} {D : va_G} {cI cZ cB cR : ClassId} {q xtx ty xdc xdl xdb xar xac xwm xnd at9 sta sor val xnw xkp xta xtw td xhg : Nat} {tr : Int64} {fau : Int32} {acn : Nat → Nat}   : mR l yX4_count cX4_count 2 (some .int) 0 0 D cI cZ cB cR [oM q tr xtx ty xdc xdl xdb xar xac xwm xnd at9 sta sor val fau xnw xkp xta xtw td xhg, aI cI xac 2 acn] [.ref q, .int (nI 1)] (some (.int (nI (acn 0)))) := by
  refine mR_of rfl (Nat.le_of_ble_eq_true rfl) ?_
  intro p e s m args below meth c hC hr hlk hK hP ls hl
  have hl : lv_has ls 2 [(0, .ref q), (1, .int (nI 1))] := hl
  obtain ⟨hx, hb, hml, hown, hts⟩ := id hC
  refine lv_iload_n hx hb dX4_count_0 rfl (lv_at hl 1 rfl) ?_
  refine lv_tableIn (off := 42) (tgt := 43) hx hb dX4_count_1 (by decide) (by decide) (by decide) (by decide) ?_
  refine lv_aload_n hx hb dX4_count_43 rfl (lv_at hl 0 rfl) ?_
  refine z_get (k := 7) zcX4 hC hK hP 0 rfl (by decide) lF_X4_26 rfl dX4_count_44 ?_
  refine lv_iconst (v := nI 0) hx hb dX4_count_47 (by decide) ?_
  refine z_ald hC hK hP 1 rfl (by omega) (by decide) dX4_count_48 ?_
  exact zr_i hC hr hlk (by first | rfl | omega) dX4_count_49
set_option maxHeartbeats 1000000 in
set_option maxRecDepth 100000 in
theorem c_X4_count_2 {l : Launch} {D : va_G} {cI cZ cB cR : ClassId} {q xtx ty xdc xdl xdb xar xac xwm xnd at9 sta sor val xnw xkp xta xtw td xhg : Nat} {tr : Int64} {fau : Int32}   : mR l yX4_count cX4_count 2 (some .int) 0 0 D cI cZ cB cR [oM q tr xtx ty xdc xdl xdb xar xac xwm xnd at9 sta sor val fau xnw xkp xta xtw td xhg] [.ref q, .int (nI 2)] (some (.int (nI (td)))) := by
  refine mR_of rfl (Nat.le_of_ble_eq_true rfl) ?_
  intro p e s m args below meth c hC hr hlk hK hP ls hl
  have hl : lv_has ls 2 [(0, .ref q), (1, .int (nI 2))] := hl
  obtain ⟨hx, hb, hml, hown, hts⟩ := id hC
  refine lv_iload_n hx hb dX4_count_0 rfl (lv_at hl 1 rfl) ?_
  refine lv_tableIn (off := 49) (tgt := 50) hx hb dX4_count_1 (by decide) (by decide) (by decide) (by decide) ?_
  refine lv_aload_n hx hb dX4_count_50 rfl (lv_at hl 0 rfl) ?_
  refine z_get (k := 19) zcX4 hC hK hP 0 rfl (by decide) lF_X4_98 rfl dX4_count_51 ?_
  exact zr_i hC hr hlk (by first | rfl | omega) dX4_count_54
set_option maxHeartbeats 1000000 in
set_option maxRecDepth 100000 in
theorem c_X4_count_3 {l : Launch} {D : va_G} {cI cZ cB cR : ClassId} {q xtx ty xdc xdl xdb xar xac xwm xnd at9 sta sor val xnw xkp xta xtw td xhg : Nat} {tr : Int64} {fau : Int32} {nw : Nat → Nat}   : mR l yX4_count cX4_count 2 (some .int) 0 0 D cI cZ cB cR [oM q tr xtx ty xdc xdl xdb xar xac xwm xnd at9 sta sor val fau xnw xkp xta xtw td xhg, aI cI xnw 729 nw] [.ref q, .int (nI 3)] (some (.int (nI (nw 22)))) := by
  refine mR_of rfl (Nat.le_of_ble_eq_true rfl) ?_
  intro p e s m args below meth c hC hr hlk hK hP ls hl
  have hl : lv_has ls 2 [(0, .ref q), (1, .int (nI 3))] := hl
  obtain ⟨hx, hb, hml, hown, hts⟩ := id hC
  refine lv_iload_n hx hb dX4_count_0 rfl (lv_at hl 1 rfl) ?_
  refine lv_tableIn (off := 54) (tgt := 55) hx hb dX4_count_1 (by decide) (by decide) (by decide) (by decide) ?_
  refine lv_aload_n hx hb dX4_count_55 rfl (lv_at hl 0 rfl) ?_
  refine z_get (k := 15) zcX4 hC hK hP 0 rfl (by decide) lF_X4_35 rfl dX4_count_56 ?_
  refine lv_bipush (v := nI 22) hx hb dX4_count_59 (by decide) ?_
  refine z_ald hC hK hP 1 rfl (by omega) (by decide) dX4_count_61 ?_
  exact zr_i hC hr hlk (by first | rfl | omega) dX4_count_62
set_option maxHeartbeats 1000000 in
set_option maxRecDepth 100000 in
theorem c_X4_count_4 {l : Launch} {D : va_G} {cI cZ cB cR : ClassId} {q xtx ty xdc xdl xdb xar xac xwm xnd at9 sta sor val xnw xkp xta xtw td xhg : Nat} {tr : Int64} {fau : Int32}   : mR l yX4_count cX4_count 2 (some .int) 0 0 D cI cZ cB cR [oM q tr xtx ty xdc xdl xdb xar xac xwm xnd at9 sta sor val fau xnw xkp xta xtw td xhg] [.ref q, .int (nI 4)] (some (.int (nI (ty)))) := by
  refine mR_of rfl (Nat.le_of_ble_eq_true rfl) ?_
  intro p e s m args below meth c hC hr hlk hK hP ls hl
  have hl : lv_has ls 2 [(0, .ref q), (1, .int (nI 4))] := hl
  obtain ⟨hx, hb, hml, hown, hts⟩ := id hC
  refine lv_iload_n hx hb dX4_count_0 rfl (lv_at hl 1 rfl) ?_
  refine lv_tableIn (off := 62) (tgt := 63) hx hb dX4_count_1 (by decide) (by decide) (by decide) (by decide) ?_
  refine lv_aload_n hx hb dX4_count_63 rfl (lv_at hl 0 rfl) ?_
  refine z_get (k := 2) zcX4 hC hK hP 0 rfl (by decide) lF_X4_61 rfl dX4_count_64 ?_
  exact zr_i hC hr hlk (by first | rfl | omega) dX4_count_67
set_option maxHeartbeats 1000000 in
set_option maxRecDepth 100000 in
theorem c_X4_count_out {l : Launch} {D : va_G} {cI cZ cB cR : ClassId} {q xtx ty xdc xdl xdb xar xac xwm xnd at9 sta sor val xnw xkp xta xtw td xhg : Nat} {tr : Int64} {fau : Int32} {w : Int32} (hwo : w.toInt < 0 ∨ 4 < w.toInt) : mR l yX4_count cX4_count 2 (some .int) 0 0 D cI cZ cB cR [oM q tr xtx ty xdc xdl xdb xar xac xwm xnd at9 sta sor val fau xnw xkp xta xtw td xhg] [.ref q, .int w] (some (.int (-1))) := by
  refine mR_of rfl (Nat.le_of_ble_eq_true rfl) ?_
  intro p e s m args below meth c hC hr hlk hK hP ls hl
  have hl : lv_has ls 2 [(0, .ref q), (1, .int w)] := hl
  obtain ⟨hx, hb, hml, hown, hts⟩ := id hC
  refine lv_iload_n hx hb dX4_count_0 rfl (lv_at hl 1 rfl) ?_
  refine lv_tableOut (tgt := 68) hx hb dX4_count_1 hwo (by decide) ?_
  refine lv_iconst (v := (-1)) hx hb dX4_count_68 (by decide) ?_
  exact zr_i hC hr hlk (by first | rfl | omega) dX4_count_69
set_option maxHeartbeats 1000000 in
set_option maxRecDepth 100000 in
theorem c_X4_trace {l : Launch} {D : va_G} {cI cZ cB cR : ClassId} {q xtx ty xdc xdl xdb xar xac xwm xnd at9 sta sor val xnw xkp xta xtw td xhg : Nat} {tr : Int64} {fau : Int32}   : mR l yX4_trace cX4_trace 1 (some .long) 0 0 D cI cZ cB cR [oM q tr xtx ty xdc xdl xdb xar xac xwm xnd at9 sta sor val fau xnw xkp xta xtw td xhg] [.ref q] (some (.long tr)) := by
  refine mR_of rfl (Nat.le_of_ble_eq_true rfl) ?_
  intro p e s m args below meth c hC hr hlk hK hP ls hl
  have hl : lv_has ls 1 [(0, .ref q)] := hl
  obtain ⟨hx, hb, hml, hown, hts⟩ := id hC
  refine lv_aload_n hx hb dX4_trace_0 rfl (lv_at hl 0 rfl) ?_
  refine z_get (k := 0) zcX4 hC hK hP 0 rfl (by decide) lF_X4_164 rfl dX4_trace_1 ?_
  exact zr_l hC hr hlk (by first | rfl | omega) dX4_trace_4
set_option maxHeartbeats 1000000 in
set_option maxRecDepth 100000 in
theorem c_X4_mark_out {l : Launch} {D : va_G} {cI cZ cB cR : ClassId} {q xtx ty xdc xdl xdb xar xac xwm xnd at9 sta sor val xnw xkp xta xtw td xhg : Nat} {tr : Int64} {fau : Int32} {x w : Int32} (hbi : ¬ (nI 0 ≤ x ∧ x ≤ nI 5))  : mR l yX4_mark cX4_mark 6 (some .int) 1 22 D cI cZ cB cR [oM q tr xtx ty xdc xdl xdb xar xac xwm xnd at9 sta sor val fau xnw xkp xta xtw td xhg] [.ref q, .int x, .int w] (some (.int (-1000000))) := by
  refine mR_of rfl (Nat.le_of_ble_eq_true rfl) ?_
  intro p e s m args below meth c hC hr hlk hK hP ls hl
  have hl : lv_has ls 6 [(0, .ref q), (1, .int x), (2, .int w)] := hl
  obtain ⟨hx, hb, hml, hown, hts⟩ := id hC
  refine lv_iload_n hx hb dX4_mark_0 rfl (lv_at hl 1 rfl) ?_
  refine lv_iconst (v := nI 0) hx hb dX4_mark_1 (by decide) ?_
  refine lv_iconst (v := nI 5) hx hb dX4_mark_2 (by decide) ?_
  refine zRS (As := [.int x, .int (nI 0), .int (nI 5)]) (rest := []) hC (c_X4_in (l := l) (g := false) (hg := ⟨fun h => (by cases h), fun h => absurd h hbi⟩)) lM_X4_57 sM_X4_in (by decide) hK rfl hl.1 rfl (Nat.le_of_ble_eq_true rfl) dX4_mark_3 (by decide) ?_
  show W _ _ _ _ _ _ _ _ _ _ _ _ _ _ _ (F0 m 6 ls [.int (bI false)])
  refine zb_eq (tgt := 17) hC dX4_mark_6 (by decide) (fun c6 => ?_) (fun c6 => by exfalso; cases c6)
  refine lv_ldc (v := (-1000000)) hx hb hown (hts _ lK_X4_160) dX4_mark_17 ?_
  exact zr_i hC hr hlk (by first | rfl | omega) dX4_mark_19
set_option maxHeartbeats 1000000 in
set_option maxRecDepth 100000 in
theorem c_X4_mark_badA {l : Launch} {D : va_G} {cI cZ cB cR : ClassId} {q xtx ty xdc xdl xdb xar xac xwm xnd at9 sta sor val xnw xkp xta xtw td xhg : Nat} {tr : Int64} {fau : Int32} {acn : Nat → Nat} {k8 : Nat} {x : Int32} (hk8 : k8 < 6) (hac : acn 0 ≤ 5) (hbad : ¬ vp_in x (acn 0)) : mR l yX4_mark cX4_mark 6 (some .int) 2 43 D cI cZ cB cR [oM q tr xtx ty xdc xdl xdb xar xac xwm xnd at9 sta sor val fau xnw xkp xta xtw td xhg, aI cI xac 2 acn] [.ref q, .int (nI k8), .int x] (some (.int (-1000000))) := by
  refine mR_of rfl (Nat.le_of_ble_eq_true rfl) ?_
  intro p e s m args below meth c hC hr hlk hK hP ls hl
  have hl : lv_has ls 6 [(0, .ref q), (1, .int (nI k8)), (2, .int x)] := hl
  obtain ⟨hx, hb, hml, hown, hts⟩ := id hC
  refine lv_iload_n hx hb dX4_mark_0 rfl (lv_at hl 1 rfl) ?_
  refine lv_iconst (v := nI 0) hx hb dX4_mark_1 (by decide) ?_
  refine lv_iconst (v := nI 5) hx hb dX4_mark_2 (by decide) ?_
  refine zRS (As := [.int (nI k8), .int (nI 0), .int (nI 5)]) (rest := []) hC (c_X4_in (l := l) (g := true) (hg := ⟨fun _ => ⟨(nI_leI (by omega) (by omega)).mpr (by omega), (nI_leI (by omega) (by omega)).mpr (by omega)⟩, fun _ => rfl⟩)) lM_X4_57 sM_X4_in (by decide) hK rfl hl.1 rfl (Nat.le_of_ble_eq_true rfl) dX4_mark_3 (by decide) ?_
  show W _ _ _ _ _ _ _ _ _ _ _ _ _ _ _ (F0 m 6 ls [.int (bI true)])
  refine zb_eq (tgt := 17) hC dX4_mark_6 (by decide) (fun c6 => by exfalso; cases c6) (fun c6 => ?_)
  refine lv_aload_n hx hb dX4_mark_9 rfl (lv_at hl 0 rfl) ?_
  refine lv_iload_n hx hb dX4_mark_10 rfl (lv_at hl 2 rfl) ?_
  refine zRV (As := [.int x]) (b := q) (rest := []) hC (c_X4_isAct (l := l) (g := false) (hn := by omega) (hg := ⟨fun h => (by cases h), fun h => absurd h hbad⟩)) lM_X4_132 vM_X4_isAct (by decide) hK hP [0, 1] rfl ⟨rfl, rfl, rfl⟩ rfl hl.1 rfl (Nat.le_of_ble_eq_true rfl) dX4_mark_11 (by decide) ?_
  show W _ _ _ _ _ _ _ _ _ _ _ _ _ _ _ (F0 m 14 ls [.int (bI false)])
  refine zb_ne (tgt := 20) hC dX4_mark_14 (by decide) (fun c14 => by exfalso; cases c14) (fun c14 => ?_)
  refine lv_ldc (v := (-1000000)) hx hb hown (hts _ lK_X4_160) dX4_mark_17 ?_
  exact zr_i hC hr hlk (by first | rfl | omega) dX4_mark_19
set_option maxHeartbeats 1000000 in
set_option maxRecDepth 100000 in
theorem c_X4_mark_0 {l : Launch} {D : va_G} {cI cZ cB cR : ClassId} {q xtx ty xdc xdl xdb xar xac xwm xnd at9 sta sor val xnw xkp xta xtw td xhg : Nat} {tr : Int64} {fau : Int32} {acn dc nd wm nw : Nat → Nat} {a : Nat} (hac : acn 0 ≤ 5) (ha : a < acn 0) (hn : dc 0 ≤ 6) (hnd : ∀ i, nd i ≤ 9)  : mW l yX4_mark cX4_mark 6 (some .int) 2 45 D cI cZ cB cR [oM q tr xtx ty xdc xdl xdb xar xac xwm xnd at9 sta sor val fau xnw xkp xta xtw td xhg, aI cI xac 2 acn, aI cI xdc 2 dc, aI cI xnd 60 nd, aI cI xwm 10 wm, aI cI xnw 729 nw] [oM q (tr + 1) xtx ty xdc xdl xdb xar xac xwm xnd at9 sta sor val fau xnw xkp xta xtw td xhg, aI cI xac 2 acn, aI cI xdc 2 dc, aI cI xnd 60 nd, aI cI xwm 10 wm, aI cI xnw 729 nw] [.ref q, .int (nI 0), .int (nI a)] (some (.int (nI (wm a)))) := by
  refine mW_of rfl (Nat.le_of_ble_eq_true rfl) ?_
  intro p e s m args below meth c hC hr hlk hK A hA hD H0 h0 hP hS ls hl
  have hP : va_P D vwCl [oM q tr xtx ty xdc xdl xdb xar xac xwm xnd at9 sta sor val fau xnw xkp xta xtw td xhg, aI cI xac 2 acn, aI cI xdc 2 dc, aI cI xnd 60 nd, aI cI xwm 10 wm, aI cI xnw 729 nw] H0 := hP
  have hl : lv_has ls 6 [(0, .ref q), (1, .int (nI 0)), (2, .int (nI a))] := hl
  obtain ⟨hx, hb, hml, hown, hts⟩ := id hC
  refine lv_iload_n hx hb dX4_mark_0 rfl (lv_at hl 1 rfl) ?_
  refine lv_iconst (v := nI 0) hx hb dX4_mark_1 (by decide) ?_
  refine lv_iconst (v := nI 5) hx hb dX4_mark_2 (by decide) ?_
  refine zRS (As := [.int (nI 0), .int (nI 0), .int (nI 5)]) (rest := []) hC (c_X4_in (l := l) (g := true) (hg := ⟨fun _ => ⟨(nI_leI (by omega) (by omega)).mpr (by omega), (nI_leI (by omega) (by omega)).mpr (by omega)⟩, fun _ => rfl⟩)) lM_X4_57 sM_X4_in (by decide) hK rfl hl.1 rfl (Nat.le_of_ble_eq_true rfl) dX4_mark_3 (by decide) ?_
  show W _ _ _ _ _ _ _ _ _ _ _ _ _ _ _ (F0 m 6 ls [.int (bI true)])
  refine zb_eq (tgt := 17) hC dX4_mark_6 (by decide) (fun c6 => by exfalso; cases c6) (fun c6 => ?_)
  refine lv_aload_n hx hb dX4_mark_9 rfl (lv_at hl 0 rfl) ?_
  refine lv_iload_n hx hb dX4_mark_10 rfl (lv_at hl 2 rfl) ?_
  refine zRV (As := [.int (nI a)]) (b := q) (rest := []) hC (c_X4_isAct (l := l) (g := true) (hn := by omega) (hg := ⟨fun _ => vp_in_nI (by omega) (by omega), fun _ => rfl⟩)) lM_X4_132 vM_X4_isAct (by decide) hK hP [0, 1] rfl ⟨rfl, rfl, rfl⟩ rfl hl.1 rfl (Nat.le_of_ble_eq_true rfl) dX4_mark_11 (by decide) ?_
  show W _ _ _ _ _ _ _ _ _ _ _ _ _ _ _ (F0 m 14 ls [.int (bI true)])
  refine zb_ne (tgt := 20) hC dX4_mark_14 (by decide) (fun c14 => ?_) (fun c14 => by exfalso; cases c14)
  refine lv_aload_n hx hb dX4_mark_20 rfl (lv_at hl 0 rfl) ?_
  refine z_get (k := 8) zcX4 hC hK hP 0 rfl (by decide) lF_X4_29 rfl dX4_mark_21 ?_
  refine lv_iload_n hx hb dX4_mark_24 rfl (lv_at hl 2 rfl) ?_
  refine z_ald hC hK hP 4 rfl (by omega) (by decide) dX4_mark_25 ?_
  refine lv_aload_n hx hb dX4_mark_26 rfl (lv_at hl 0 rfl) ?_
  refine lv_iload_n hx hb dX4_mark_27 rfl (lv_at hl 2 rfl) ?_
  refine zRV (As := [.int (nI a)]) (b := q) (rest := [.int (nI (wm a))]) hC (c_X4_qualities (l := l) (hn := hn) (hnd := hnd) (ha := by omega)) lM_X4_135 vM_X4_qualities (by decide) hK hP [0, 2, 3] rfl ⟨rfl, rfl, rfl⟩ rfl hl.1 rfl (Nat.le_of_ble_eq_true rfl) dX4_mark_28 (by decide) ?_
  show W _ _ _ _ _ _ _ _ _ _ _ _ _ _ _ (F0 m 31 ls [.int (nI (orr (fun i => decide (0 < nd (6 * a + i))) (dc 0))), .int (nI (wm a))])
  refine zRS (As := [.int (nI (orr (fun i => decide (0 < nd (6 * a + i))) (dc 0)))]) (rest := [.int (nI (wm a))]) hC (c_X4_manyOf (l := l) (hs := Nat.lt_of_lt_of_le (orr_lt _ (dc 0)) (z_powL6 hn))) lM_X4_161 sM_X4_manyOf (by decide) hK rfl hl.1 rfl (Nat.le_of_ble_eq_true rfl) dX4_mark_31 (by decide) ?_
  show W _ _ _ _ _ _ _ _ _ _ _ _ _ _ _ (F0 m 34 ls [.int (nI (popc (orr (fun i => decide (0 < nd (6 * a + i))) (dc 0)))), .int (nI (wm a))])
  refine zi_add hC dX4_mark_34 ?_
  refine lv_istore_n (lv' := [(3, .int (nI ((wm a) + (popc (orr (fun i => decide (0 < nd (6 * a + i))) (dc 0)))))), (0, .ref q), (1, .int (nI 0)), (2, .int (nI a))]) hx hb dX4_mark_35 rfl hl (by decide) rfl (fun ls hl => ?_)
  refine lv_aload_n hx hb dX4_mark_36 rfl (lv_at hl 1 rfl) ?_
  refine z_get (k := 8) zcX4 hC hK hP 0 rfl (by decide) lF_X4_29 rfl dX4_mark_37 ?_
  refine lv_iload_n hx hb dX4_mark_40 rfl (lv_at hl 3 rfl) ?_
  refine z_ald hC hK hP 4 rfl (by omega) (by decide) dX4_mark_41 ?_
  refine z_top (show (nI (wm a)) = nI (wm a) - nI (sm (fun i => nd (6 * a + i)) 0) from by exact (by show nI (wm a) = nI (wm a) - nI 0; rw [nI_0]; grind)) ?_
  refine lv_istore (lv' := [(4, .int (nI (wm a) - nI (sm (fun i => nd (6 * a + i)) 0))), (3, .int (nI ((wm a) + (popc (orr (fun i => decide (0 < nd (6 * a + i))) (dc 0)))))), (0, .ref q), (1, .int (nI 0)), (2, .int (nI a))]) hx hb dX4_mark_42 hl (by decide) rfl (fun ls hl => ?_)
  refine lv_iconst (v := nI 0) hx hb dX4_mark_44 (by decide) ?_
  refine lv_istore (lv' := [(5, .int (nI 0)), (4, .int (nI (wm a) - nI (sm (fun i => nd (6 * a + i)) 0))), (3, .int (nI ((wm a) + (popc (orr (fun i => decide (0 < nd (6 * a + i))) (dc 0)))))), (0, .ref q), (1, .int (nI 0)), (2, .int (nI a))]) hx hb dX4_mark_45 hl (by decide) rfl (fun ls hl => ?_)
  have hL47 : ∀ (z47 : Nat) (d : Nat), dc 0 - d = z47 → (d ≤ dc 0) → ∀ ls : Array Slot, lv_has ls 6 [(0, .ref q), (1, .int (nI 0)), (2, .int (nI a)), (3, .int (nI ((wm a) + (popc (orr (fun i => decide (0 < nd (6 * a + i))) (dc 0)))))), (4, .int (nI (wm a) - nI (sm (fun i => nd (6 * a + i)) d))), (5, .int (nI d))] → W p l e { frames := 2, cells := 0, slots := 0, locals := 45 } s m args below meth c H0 [] 0 0 (MQ below (qW D [oM q tr xtx ty xdc xdl xdb xar xac xwm xnd at9 sta sor val fau xnw xkp xta xtw td xhg, aI cI xac 2 acn, aI cI xdc 2 dc, aI cI xnd 60 nd, aI cI xwm 10 wm, aI cI xnw 729 nw] [oM q (tr + 1) xtx ty xdc xdl xdb xar xac xwm xnd at9 sta sor val fau xnw xkp xta xtw td xhg, aI cI xac 2 acn, aI cI xdc 2 dc, aI cI xnd 60 nd, aI cI xwm 10 wm, aI cI xnw 729 nw] (some (.int (nI (wm a))))) args s 0 0 (zA [oM q tr xtx ty xdc xdl xdb xar xac xwm xnd at9 sta sor val fau xnw xkp xta xtw td xhg, aI cI xac 2 acn, aI cI xdc 2 dc, aI cI xnd 60 nd, aI cI xwm 10 wm, aI cI xnw 729 nw])) (F0 m 47 ls []) := by
    intro z47
    induction z47 using Nat.strongRecOn with
    | _ z47 ih47 =>
    intro d hz47 hd ls hl
    refine lv_iload hx hb dX4_mark_47 (lv_at hl 5 rfl) ?_
    refine lv_aload_n hx hb dX4_mark_49 rfl (lv_at hl 0 rfl) ?_
    refine z_get (k := 3) zcX4 hC hK hP 0 rfl (by decide) lF_X4_13 rfl dX4_mark_50 ?_
    refine lv_iconst (v := nI 0) hx hb dX4_mark_53 (by decide) ?_
    refine z_ald hC hK hP 2 rfl (by omega) (by decide) dX4_mark_54 ?_
    refine zc_ge (tgt := 76) hC dX4_mark_55 (by decide) (by omega) (by omega) (fun c55 => ?_) (fun c55 => ?_)
    · skip
      have e55 : d = dc 0 := by omega
      rw [e55] at hl
      refine lv_iload_n hx hb dX4_mark_76 rfl (lv_at hl 1 rfl) ?_
      refine lv_tableIn (off := 35) (tgt := 112) hx hb dX4_mark_77 (by decide) (by decide) (by decide) (by decide) ?_
      refine lv_aload_n hx hb dX4_mark_112 rfl (lv_at hl 0 rfl) ?_
      refine lv_dup hx hb dX4_mark_113 rfl ?_
      refine z_get (k := 0) zcX4 hC hK hP 0 rfl (by decide) lF_X4_164 rfl dX4_mark_114 ?_
      refine lv_lconst (v := 1) hx hb dX4_mark_117 (by decide) ?_
      refine lv_ladd hx hb dX4_mark_118 ?_
      refine z_put (k := 0) zcX4 hC hK hP hD hS 0 rfl (by decide) lF_X4_164 rfl rfl rfl (Nat.le_of_ble_eq_true rfl) dX4_mark_119 (fun H locs hP hD hS => ?_)
      have hP : va_P D vwCl [oM q (tr + 1) xtx ty xdc xdl xdb xar xac xwm xnd at9 sta sor val fau xnw xkp xta xtw td xhg, aI cI xac 2 acn, aI cI xdc 2 dc, aI cI xnd 60 nd, aI cI xwm 10 wm, aI cI xnw 729 nw] H := hP
      have hD : va_D A [oM q (tr + 1) xtx ty xdc xdl xdb xar xac xwm xnd at9 sta sor val fau xnw xkp xta xtw td xhg, aI cI xac 2 acn, aI cI xdc 2 dc, aI cI xnd 60 nd, aI cI xwm 10 wm, aI cI xnw 729 nw] := hD
      refine lv_aload_n hx hb dX4_mark_122 rfl (lv_at hl 0 rfl) ?_
      refine z_get (k := 8) zcX4 hC hK hP 0 rfl (by decide) lF_X4_29 rfl dX4_mark_123 ?_
      refine lv_iload_n hx hb dX4_mark_126 rfl (lv_at hl 2 rfl) ?_
      refine z_ald hC hK hP 4 rfl (by omega) (by decide) dX4_mark_127 ?_
      exact zw_i hC hr hlk hA h0 hP hS (by first | rfl | omega) dX4_mark_128
    · skip
      refine lv_iload hx hb dX4_mark_58 (lv_at hl 4 rfl) ?_
      refine lv_aload_n hx hb dX4_mark_60 rfl (lv_at hl 0 rfl) ?_
      refine lv_iload_n hx hb dX4_mark_61 rfl (lv_at hl 2 rfl) ?_
      refine lv_iload hx hb dX4_mark_62 (lv_at hl 5 rfl) ?_
      refine zRV (As := [.int (nI a), .int (nI d)]) (b := q) (rest := [.int (nI (wm a) - nI (sm (fun i => nd (6 * a + i)) d))]) hC (c_X4_needOf (l := l) (ha := by omega) (hd := by omega)) lM_X4_116 vM_X4_needOf (by decide) hK hP [0, 3] rfl ⟨rfl, rfl, rfl⟩ rfl hl.1 rfl (Nat.le_of_ble_eq_true rfl) dX4_mark_64 (by decide) ?_
      show W _ _ _ _ _ _ _ _ _ _ _ _ _ _ _ (F0 m 67 ls [.int (nI (nd (6 * a + d))), .int (nI (wm a) - nI (sm (fun i => nd (6 * a + i)) d))])
      refine lv_isub hx hb dX4_mark_67 ?_
      refine z_top (show ((nI (wm a) - nI (sm (fun i => nd (6 * a + i)) d)) - (nI (nd (6 * a + d)))) = nI (wm a) - nI (sm (fun i => nd (6 * a + i)) (d + 1)) from by rw [sm_s, ← nI_add]; grind) ?_
      refine lv_istore (lv' := [(4, .int (nI (wm a) - nI (sm (fun i => nd (6 * a + i)) (d + 1)))), (0, .ref q), (1, .int (nI 0)), (2, .int (nI a)), (3, .int (nI ((wm a) + (popc (orr (fun i => decide (0 < nd (6 * a + i))) (dc 0)))))), (5, .int (nI d))]) hx hb dX4_mark_68 hl (by decide) rfl (fun ls hl => ?_)
      refine lv_iinc (v := nI (d + 1)) (lv' := [(5, .int (nI (d + 1))), (4, .int (nI (wm a) - nI (sm (fun i => nd (6 * a + i)) (d + 1)))), (0, .ref q), (1, .int (nI 0)), (2, .int (nI a)), (3, .int (nI ((wm a) + (popc (orr (fun i => decide (0 < nd (6 * a + i))) (dc 0))))))]) hx hb dX4_mark_70 hl (k := 5) rfl (z_inc d 1) (by decide) rfl (fun ls hl => ?_)
      refine lv_goto (tgt := 47) hx hb dX4_mark_73 (by decide) ?_
      exact ih47 (dc 0 - (d + 1)) (by omega) (d + 1) rfl (by omega) ls (lv_sub hl [2, 3, 4, 5, 1, 0] rfl)
  exact hL47 _ 0 rfl (by omega) ls (lv_sub hl [3, 4, 5, 2, 1, 0] rfl)
set_option maxHeartbeats 1000000 in
set_option maxRecDepth 100000 in
theorem c_X4_mark_1 {l : Launch} {D : va_G} {cI cZ cB cR : ClassId} {q xtx ty xdc xdl xdb xar xac xwm xnd at9 sta sor val xnw xkp xta xtw td xhg : Nat} {tr : Int64} {fau : Int32} {acn dc nd wm nw : Nat → Nat} {a : Nat} {k9 : Int64} (hac : acn 0 ≤ 5) (ha : a < acn 0) (hn : dc 0 ≤ 6) (hnd : ∀ i, nd i ≤ 9) (hk9 : k9 = 11) : mW l yX4_mark cX4_mark 6 (some .int) 2 45 D cI cZ cB cR [oM q tr xtx ty xdc xdl xdb xar xac xwm xnd at9 sta sor val fau xnw xkp xta xtw td xhg, aI cI xac 2 acn, aI cI xdc 2 dc, aI cI xnd 60 nd, aI cI xwm 10 wm, aI cI xnw 729 nw] [oM q (tr + k9) xtx ty xdc xdl xdb xar xac xwm xnd at9 sta sor val fau xnw xkp xta xtw td xhg, aI cI xac 2 acn, aI cI xdc 2 dc, aI cI xnd 60 nd, aI cI xwm 10 wm, aI cI xnw 729 nw] [.ref q, .int (nI 1), .int (nI a)] (some (.int (nI (wm a + popc (orr (fun i => decide (0 < nd (6 * a + i))) (dc 0)))))) := by
  refine mW_of rfl (Nat.le_of_ble_eq_true rfl) ?_
  intro p e s m args below meth c hC hr hlk hK A hA hD H0 h0 hP hS ls hl
  have hP : va_P D vwCl [oM q tr xtx ty xdc xdl xdb xar xac xwm xnd at9 sta sor val fau xnw xkp xta xtw td xhg, aI cI xac 2 acn, aI cI xdc 2 dc, aI cI xnd 60 nd, aI cI xwm 10 wm, aI cI xnw 729 nw] H0 := hP
  have hl : lv_has ls 6 [(0, .ref q), (1, .int (nI 1)), (2, .int (nI a))] := hl
  obtain ⟨hx, hb, hml, hown, hts⟩ := id hC
  refine lv_iload_n hx hb dX4_mark_0 rfl (lv_at hl 1 rfl) ?_
  refine lv_iconst (v := nI 0) hx hb dX4_mark_1 (by decide) ?_
  refine lv_iconst (v := nI 5) hx hb dX4_mark_2 (by decide) ?_
  refine zRS (As := [.int (nI 1), .int (nI 0), .int (nI 5)]) (rest := []) hC (c_X4_in (l := l) (g := true) (hg := ⟨fun _ => ⟨(nI_leI (by omega) (by omega)).mpr (by omega), (nI_leI (by omega) (by omega)).mpr (by omega)⟩, fun _ => rfl⟩)) lM_X4_57 sM_X4_in (by decide) hK rfl hl.1 rfl (Nat.le_of_ble_eq_true rfl) dX4_mark_3 (by decide) ?_
  show W _ _ _ _ _ _ _ _ _ _ _ _ _ _ _ (F0 m 6 ls [.int (bI true)])
  refine zb_eq (tgt := 17) hC dX4_mark_6 (by decide) (fun c6 => by exfalso; cases c6) (fun c6 => ?_)
  refine lv_aload_n hx hb dX4_mark_9 rfl (lv_at hl 0 rfl) ?_
  refine lv_iload_n hx hb dX4_mark_10 rfl (lv_at hl 2 rfl) ?_
  refine zRV (As := [.int (nI a)]) (b := q) (rest := []) hC (c_X4_isAct (l := l) (g := true) (hn := by omega) (hg := ⟨fun _ => vp_in_nI (by omega) (by omega), fun _ => rfl⟩)) lM_X4_132 vM_X4_isAct (by decide) hK hP [0, 1] rfl ⟨rfl, rfl, rfl⟩ rfl hl.1 rfl (Nat.le_of_ble_eq_true rfl) dX4_mark_11 (by decide) ?_
  show W _ _ _ _ _ _ _ _ _ _ _ _ _ _ _ (F0 m 14 ls [.int (bI true)])
  refine zb_ne (tgt := 20) hC dX4_mark_14 (by decide) (fun c14 => ?_) (fun c14 => by exfalso; cases c14)
  refine lv_aload_n hx hb dX4_mark_20 rfl (lv_at hl 0 rfl) ?_
  refine z_get (k := 8) zcX4 hC hK hP 0 rfl (by decide) lF_X4_29 rfl dX4_mark_21 ?_
  refine lv_iload_n hx hb dX4_mark_24 rfl (lv_at hl 2 rfl) ?_
  refine z_ald hC hK hP 4 rfl (by omega) (by decide) dX4_mark_25 ?_
  refine lv_aload_n hx hb dX4_mark_26 rfl (lv_at hl 0 rfl) ?_
  refine lv_iload_n hx hb dX4_mark_27 rfl (lv_at hl 2 rfl) ?_
  refine zRV (As := [.int (nI a)]) (b := q) (rest := [.int (nI (wm a))]) hC (c_X4_qualities (l := l) (hn := hn) (hnd := hnd) (ha := by omega)) lM_X4_135 vM_X4_qualities (by decide) hK hP [0, 2, 3] rfl ⟨rfl, rfl, rfl⟩ rfl hl.1 rfl (Nat.le_of_ble_eq_true rfl) dX4_mark_28 (by decide) ?_
  show W _ _ _ _ _ _ _ _ _ _ _ _ _ _ _ (F0 m 31 ls [.int (nI (orr (fun i => decide (0 < nd (6 * a + i))) (dc 0))), .int (nI (wm a))])
  refine zRS (As := [.int (nI (orr (fun i => decide (0 < nd (6 * a + i))) (dc 0)))]) (rest := [.int (nI (wm a))]) hC (c_X4_manyOf (l := l) (hs := Nat.lt_of_lt_of_le (orr_lt _ (dc 0)) (z_powL6 hn))) lM_X4_161 sM_X4_manyOf (by decide) hK rfl hl.1 rfl (Nat.le_of_ble_eq_true rfl) dX4_mark_31 (by decide) ?_
  show W _ _ _ _ _ _ _ _ _ _ _ _ _ _ _ (F0 m 34 ls [.int (nI (popc (orr (fun i => decide (0 < nd (6 * a + i))) (dc 0)))), .int (nI (wm a))])
  refine zi_add hC dX4_mark_34 ?_
  refine lv_istore_n (lv' := [(3, .int (nI ((wm a) + (popc (orr (fun i => decide (0 < nd (6 * a + i))) (dc 0)))))), (0, .ref q), (1, .int (nI 1)), (2, .int (nI a))]) hx hb dX4_mark_35 rfl hl (by decide) rfl (fun ls hl => ?_)
  refine lv_aload_n hx hb dX4_mark_36 rfl (lv_at hl 1 rfl) ?_
  refine z_get (k := 8) zcX4 hC hK hP 0 rfl (by decide) lF_X4_29 rfl dX4_mark_37 ?_
  refine lv_iload_n hx hb dX4_mark_40 rfl (lv_at hl 3 rfl) ?_
  refine z_ald hC hK hP 4 rfl (by omega) (by decide) dX4_mark_41 ?_
  refine z_top (show (nI (wm a)) = nI (wm a) - nI (sm (fun i => nd (6 * a + i)) 0) from by exact (by show nI (wm a) = nI (wm a) - nI 0; rw [nI_0]; grind)) ?_
  refine lv_istore (lv' := [(4, .int (nI (wm a) - nI (sm (fun i => nd (6 * a + i)) 0))), (3, .int (nI ((wm a) + (popc (orr (fun i => decide (0 < nd (6 * a + i))) (dc 0)))))), (0, .ref q), (1, .int (nI 1)), (2, .int (nI a))]) hx hb dX4_mark_42 hl (by decide) rfl (fun ls hl => ?_)
  refine lv_iconst (v := nI 0) hx hb dX4_mark_44 (by decide) ?_
  refine lv_istore (lv' := [(5, .int (nI 0)), (4, .int (nI (wm a) - nI (sm (fun i => nd (6 * a + i)) 0))), (3, .int (nI ((wm a) + (popc (orr (fun i => decide (0 < nd (6 * a + i))) (dc 0)))))), (0, .ref q), (1, .int (nI 1)), (2, .int (nI a))]) hx hb dX4_mark_45 hl (by decide) rfl (fun ls hl => ?_)
  have hL47 : ∀ (z47 : Nat) (d : Nat), dc 0 - d = z47 → (d ≤ dc 0) → ∀ ls : Array Slot, lv_has ls 6 [(0, .ref q), (1, .int (nI 1)), (2, .int (nI a)), (3, .int (nI ((wm a) + (popc (orr (fun i => decide (0 < nd (6 * a + i))) (dc 0)))))), (4, .int (nI (wm a) - nI (sm (fun i => nd (6 * a + i)) d))), (5, .int (nI d))] → W p l e { frames := 2, cells := 0, slots := 0, locals := 45 } s m args below meth c H0 [] 0 0 (MQ below (qW D [oM q tr xtx ty xdc xdl xdb xar xac xwm xnd at9 sta sor val fau xnw xkp xta xtw td xhg, aI cI xac 2 acn, aI cI xdc 2 dc, aI cI xnd 60 nd, aI cI xwm 10 wm, aI cI xnw 729 nw] [oM q (tr + k9) xtx ty xdc xdl xdb xar xac xwm xnd at9 sta sor val fau xnw xkp xta xtw td xhg, aI cI xac 2 acn, aI cI xdc 2 dc, aI cI xnd 60 nd, aI cI xwm 10 wm, aI cI xnw 729 nw] (some (.int (nI (wm a + popc (orr (fun i => decide (0 < nd (6 * a + i))) (dc 0))))))) args s 0 0 (zA [oM q tr xtx ty xdc xdl xdb xar xac xwm xnd at9 sta sor val fau xnw xkp xta xtw td xhg, aI cI xac 2 acn, aI cI xdc 2 dc, aI cI xnd 60 nd, aI cI xwm 10 wm, aI cI xnw 729 nw])) (F0 m 47 ls []) := by
    intro z47
    induction z47 using Nat.strongRecOn with
    | _ z47 ih47 =>
    intro d hz47 hd ls hl
    refine lv_iload hx hb dX4_mark_47 (lv_at hl 5 rfl) ?_
    refine lv_aload_n hx hb dX4_mark_49 rfl (lv_at hl 0 rfl) ?_
    refine z_get (k := 3) zcX4 hC hK hP 0 rfl (by decide) lF_X4_13 rfl dX4_mark_50 ?_
    refine lv_iconst (v := nI 0) hx hb dX4_mark_53 (by decide) ?_
    refine z_ald hC hK hP 2 rfl (by omega) (by decide) dX4_mark_54 ?_
    refine zc_ge (tgt := 76) hC dX4_mark_55 (by decide) (by omega) (by omega) (fun c55 => ?_) (fun c55 => ?_)
    · skip
      have e55 : d = dc 0 := by omega
      rw [e55] at hl
      refine lv_iload_n hx hb dX4_mark_76 rfl (lv_at hl 1 rfl) ?_
      refine lv_tableIn (off := 52) (tgt := 129) hx hb dX4_mark_77 (by decide) (by decide) (by decide) (by decide) ?_
      refine lv_aload_n hx hb dX4_mark_129 rfl (lv_at hl 0 rfl) ?_
      refine lv_dup hx hb dX4_mark_130 rfl ?_
      refine z_get (k := 0) zcX4 hC hK hP 0 rfl (by decide) lF_X4_164 rfl dX4_mark_131 ?_
      refine lv_ldc2 (v := (11)) hx hb hown (hts _ lK_X4_168) dX4_mark_134 ?_
      refine z_topl (show (11) = k9 from by exact hk9.symm) ?_
      refine lv_ladd hx hb dX4_mark_137 ?_
      refine z_put (k := 0) zcX4 hC hK hP hD hS 0 rfl (by decide) lF_X4_164 rfl rfl rfl (Nat.le_of_ble_eq_true rfl) dX4_mark_138 (fun H locs hP hD hS => ?_)
      have hP : va_P D vwCl [oM q (tr + k9) xtx ty xdc xdl xdb xar xac xwm xnd at9 sta sor val fau xnw xkp xta xtw td xhg, aI cI xac 2 acn, aI cI xdc 2 dc, aI cI xnd 60 nd, aI cI xwm 10 wm, aI cI xnw 729 nw] H := hP
      have hD : va_D A [oM q (tr + k9) xtx ty xdc xdl xdb xar xac xwm xnd at9 sta sor val fau xnw xkp xta xtw td xhg, aI cI xac 2 acn, aI cI xdc 2 dc, aI cI xnd 60 nd, aI cI xwm 10 wm, aI cI xnw 729 nw] := hD
      refine lv_iload_n hx hb dX4_mark_141 rfl (lv_at hl 3 rfl) ?_
      exact zw_i hC hr hlk hA h0 hP hS (by first | rfl | omega) dX4_mark_142
    · skip
      refine lv_iload hx hb dX4_mark_58 (lv_at hl 4 rfl) ?_
      refine lv_aload_n hx hb dX4_mark_60 rfl (lv_at hl 0 rfl) ?_
      refine lv_iload_n hx hb dX4_mark_61 rfl (lv_at hl 2 rfl) ?_
      refine lv_iload hx hb dX4_mark_62 (lv_at hl 5 rfl) ?_
      refine zRV (As := [.int (nI a), .int (nI d)]) (b := q) (rest := [.int (nI (wm a) - nI (sm (fun i => nd (6 * a + i)) d))]) hC (c_X4_needOf (l := l) (ha := by omega) (hd := by omega)) lM_X4_116 vM_X4_needOf (by decide) hK hP [0, 3] rfl ⟨rfl, rfl, rfl⟩ rfl hl.1 rfl (Nat.le_of_ble_eq_true rfl) dX4_mark_64 (by decide) ?_
      show W _ _ _ _ _ _ _ _ _ _ _ _ _ _ _ (F0 m 67 ls [.int (nI (nd (6 * a + d))), .int (nI (wm a) - nI (sm (fun i => nd (6 * a + i)) d))])
      refine lv_isub hx hb dX4_mark_67 ?_
      refine z_top (show ((nI (wm a) - nI (sm (fun i => nd (6 * a + i)) d)) - (nI (nd (6 * a + d)))) = nI (wm a) - nI (sm (fun i => nd (6 * a + i)) (d + 1)) from by rw [sm_s, ← nI_add]; grind) ?_
      refine lv_istore (lv' := [(4, .int (nI (wm a) - nI (sm (fun i => nd (6 * a + i)) (d + 1)))), (0, .ref q), (1, .int (nI 1)), (2, .int (nI a)), (3, .int (nI ((wm a) + (popc (orr (fun i => decide (0 < nd (6 * a + i))) (dc 0)))))), (5, .int (nI d))]) hx hb dX4_mark_68 hl (by decide) rfl (fun ls hl => ?_)
      refine lv_iinc (v := nI (d + 1)) (lv' := [(5, .int (nI (d + 1))), (4, .int (nI (wm a) - nI (sm (fun i => nd (6 * a + i)) (d + 1)))), (0, .ref q), (1, .int (nI 1)), (2, .int (nI a)), (3, .int (nI ((wm a) + (popc (orr (fun i => decide (0 < nd (6 * a + i))) (dc 0))))))]) hx hb dX4_mark_70 hl (k := 5) rfl (z_inc d 1) (by decide) rfl (fun ls hl => ?_)
      refine lv_goto (tgt := 47) hx hb dX4_mark_73 (by decide) ?_
      exact ih47 (dc 0 - (d + 1)) (by omega) (d + 1) rfl (by omega) ls (lv_sub hl [2, 3, 4, 5, 1, 0] rfl)
  exact hL47 _ 0 rfl (by omega) ls (lv_sub hl [3, 4, 5, 2, 1, 0] rfl)
set_option maxHeartbeats 1000000 in
set_option maxRecDepth 100000 in
theorem c_X4_mark_2 {l : Launch} {D : va_G} {cI cZ cB cR : ClassId} {q xtx ty xdc xdl xdb xar xac xwm xnd at9 sta sor val xnw xkp xta xtw td xhg : Nat} {tr : Int64} {fau : Int32} {acn dc nd wm nw : Nat → Nat} {a : Nat} {k9 : Int64} (hac : acn 0 ≤ 5) (ha : a < acn 0) (hn : dc 0 ≤ 6) (hnd : ∀ i, nd i ≤ 9) (hk9 : k9 = 101) : mW l yX4_mark cX4_mark 6 (some .int) 2 45 D cI cZ cB cR [oM q tr xtx ty xdc xdl xdb xar xac xwm xnd at9 sta sor val fau xnw xkp xta xtw td xhg, aI cI xac 2 acn, aI cI xdc 2 dc, aI cI xnd 60 nd, aI cI xwm 10 wm, aI cI xnw 729 nw] [oM q (tr + k9) xtx ty xdc xdl xdb xar xac xwm xnd at9 sta sor val fau xnw xkp xta xtw td xhg, aI cI xac 2 acn, aI cI xdc 2 dc, aI cI xnd 60 nd, aI cI xwm 10 wm, aI cI xnw 729 nw] [.ref q, .int (nI 2), .int (nI a)] (some (.int (nI (wm a) - nI (sm (fun i => nd (6 * a + i)) (dc 0))))) := by
  refine mW_of rfl (Nat.le_of_ble_eq_true rfl) ?_
  intro p e s m args below meth c hC hr hlk hK A hA hD H0 h0 hP hS ls hl
  have hP : va_P D vwCl [oM q tr xtx ty xdc xdl xdb xar xac xwm xnd at9 sta sor val fau xnw xkp xta xtw td xhg, aI cI xac 2 acn, aI cI xdc 2 dc, aI cI xnd 60 nd, aI cI xwm 10 wm, aI cI xnw 729 nw] H0 := hP
  have hl : lv_has ls 6 [(0, .ref q), (1, .int (nI 2)), (2, .int (nI a))] := hl
  obtain ⟨hx, hb, hml, hown, hts⟩ := id hC
  refine lv_iload_n hx hb dX4_mark_0 rfl (lv_at hl 1 rfl) ?_
  refine lv_iconst (v := nI 0) hx hb dX4_mark_1 (by decide) ?_
  refine lv_iconst (v := nI 5) hx hb dX4_mark_2 (by decide) ?_
  refine zRS (As := [.int (nI 2), .int (nI 0), .int (nI 5)]) (rest := []) hC (c_X4_in (l := l) (g := true) (hg := ⟨fun _ => ⟨(nI_leI (by omega) (by omega)).mpr (by omega), (nI_leI (by omega) (by omega)).mpr (by omega)⟩, fun _ => rfl⟩)) lM_X4_57 sM_X4_in (by decide) hK rfl hl.1 rfl (Nat.le_of_ble_eq_true rfl) dX4_mark_3 (by decide) ?_
  show W _ _ _ _ _ _ _ _ _ _ _ _ _ _ _ (F0 m 6 ls [.int (bI true)])
  refine zb_eq (tgt := 17) hC dX4_mark_6 (by decide) (fun c6 => by exfalso; cases c6) (fun c6 => ?_)
  refine lv_aload_n hx hb dX4_mark_9 rfl (lv_at hl 0 rfl) ?_
  refine lv_iload_n hx hb dX4_mark_10 rfl (lv_at hl 2 rfl) ?_
  refine zRV (As := [.int (nI a)]) (b := q) (rest := []) hC (c_X4_isAct (l := l) (g := true) (hn := by omega) (hg := ⟨fun _ => vp_in_nI (by omega) (by omega), fun _ => rfl⟩)) lM_X4_132 vM_X4_isAct (by decide) hK hP [0, 1] rfl ⟨rfl, rfl, rfl⟩ rfl hl.1 rfl (Nat.le_of_ble_eq_true rfl) dX4_mark_11 (by decide) ?_
  show W _ _ _ _ _ _ _ _ _ _ _ _ _ _ _ (F0 m 14 ls [.int (bI true)])
  refine zb_ne (tgt := 20) hC dX4_mark_14 (by decide) (fun c14 => ?_) (fun c14 => by exfalso; cases c14)
  refine lv_aload_n hx hb dX4_mark_20 rfl (lv_at hl 0 rfl) ?_
  refine z_get (k := 8) zcX4 hC hK hP 0 rfl (by decide) lF_X4_29 rfl dX4_mark_21 ?_
  refine lv_iload_n hx hb dX4_mark_24 rfl (lv_at hl 2 rfl) ?_
  refine z_ald hC hK hP 4 rfl (by omega) (by decide) dX4_mark_25 ?_
  refine lv_aload_n hx hb dX4_mark_26 rfl (lv_at hl 0 rfl) ?_
  refine lv_iload_n hx hb dX4_mark_27 rfl (lv_at hl 2 rfl) ?_
  refine zRV (As := [.int (nI a)]) (b := q) (rest := [.int (nI (wm a))]) hC (c_X4_qualities (l := l) (hn := hn) (hnd := hnd) (ha := by omega)) lM_X4_135 vM_X4_qualities (by decide) hK hP [0, 2, 3] rfl ⟨rfl, rfl, rfl⟩ rfl hl.1 rfl (Nat.le_of_ble_eq_true rfl) dX4_mark_28 (by decide) ?_
  show W _ _ _ _ _ _ _ _ _ _ _ _ _ _ _ (F0 m 31 ls [.int (nI (orr (fun i => decide (0 < nd (6 * a + i))) (dc 0))), .int (nI (wm a))])
  refine zRS (As := [.int (nI (orr (fun i => decide (0 < nd (6 * a + i))) (dc 0)))]) (rest := [.int (nI (wm a))]) hC (c_X4_manyOf (l := l) (hs := Nat.lt_of_lt_of_le (orr_lt _ (dc 0)) (z_powL6 hn))) lM_X4_161 sM_X4_manyOf (by decide) hK rfl hl.1 rfl (Nat.le_of_ble_eq_true rfl) dX4_mark_31 (by decide) ?_
  show W _ _ _ _ _ _ _ _ _ _ _ _ _ _ _ (F0 m 34 ls [.int (nI (popc (orr (fun i => decide (0 < nd (6 * a + i))) (dc 0)))), .int (nI (wm a))])
  refine zi_add hC dX4_mark_34 ?_
  refine lv_istore_n (lv' := [(3, .int (nI ((wm a) + (popc (orr (fun i => decide (0 < nd (6 * a + i))) (dc 0)))))), (0, .ref q), (1, .int (nI 2)), (2, .int (nI a))]) hx hb dX4_mark_35 rfl hl (by decide) rfl (fun ls hl => ?_)
  refine lv_aload_n hx hb dX4_mark_36 rfl (lv_at hl 1 rfl) ?_
  refine z_get (k := 8) zcX4 hC hK hP 0 rfl (by decide) lF_X4_29 rfl dX4_mark_37 ?_
  refine lv_iload_n hx hb dX4_mark_40 rfl (lv_at hl 3 rfl) ?_
  refine z_ald hC hK hP 4 rfl (by omega) (by decide) dX4_mark_41 ?_
  refine z_top (show (nI (wm a)) = nI (wm a) - nI (sm (fun i => nd (6 * a + i)) 0) from by exact (by show nI (wm a) = nI (wm a) - nI 0; rw [nI_0]; grind)) ?_
  refine lv_istore (lv' := [(4, .int (nI (wm a) - nI (sm (fun i => nd (6 * a + i)) 0))), (3, .int (nI ((wm a) + (popc (orr (fun i => decide (0 < nd (6 * a + i))) (dc 0)))))), (0, .ref q), (1, .int (nI 2)), (2, .int (nI a))]) hx hb dX4_mark_42 hl (by decide) rfl (fun ls hl => ?_)
  refine lv_iconst (v := nI 0) hx hb dX4_mark_44 (by decide) ?_
  refine lv_istore (lv' := [(5, .int (nI 0)), (4, .int (nI (wm a) - nI (sm (fun i => nd (6 * a + i)) 0))), (3, .int (nI ((wm a) + (popc (orr (fun i => decide (0 < nd (6 * a + i))) (dc 0)))))), (0, .ref q), (1, .int (nI 2)), (2, .int (nI a))]) hx hb dX4_mark_45 hl (by decide) rfl (fun ls hl => ?_)
  have hL47 : ∀ (z47 : Nat) (d : Nat), dc 0 - d = z47 → (d ≤ dc 0) → ∀ ls : Array Slot, lv_has ls 6 [(0, .ref q), (1, .int (nI 2)), (2, .int (nI a)), (3, .int (nI ((wm a) + (popc (orr (fun i => decide (0 < nd (6 * a + i))) (dc 0)))))), (4, .int (nI (wm a) - nI (sm (fun i => nd (6 * a + i)) d))), (5, .int (nI d))] → W p l e { frames := 2, cells := 0, slots := 0, locals := 45 } s m args below meth c H0 [] 0 0 (MQ below (qW D [oM q tr xtx ty xdc xdl xdb xar xac xwm xnd at9 sta sor val fau xnw xkp xta xtw td xhg, aI cI xac 2 acn, aI cI xdc 2 dc, aI cI xnd 60 nd, aI cI xwm 10 wm, aI cI xnw 729 nw] [oM q (tr + k9) xtx ty xdc xdl xdb xar xac xwm xnd at9 sta sor val fau xnw xkp xta xtw td xhg, aI cI xac 2 acn, aI cI xdc 2 dc, aI cI xnd 60 nd, aI cI xwm 10 wm, aI cI xnw 729 nw] (some (.int (nI (wm a) - nI (sm (fun i => nd (6 * a + i)) (dc 0)))))) args s 0 0 (zA [oM q tr xtx ty xdc xdl xdb xar xac xwm xnd at9 sta sor val fau xnw xkp xta xtw td xhg, aI cI xac 2 acn, aI cI xdc 2 dc, aI cI xnd 60 nd, aI cI xwm 10 wm, aI cI xnw 729 nw])) (F0 m 47 ls []) := by
    intro z47
    induction z47 using Nat.strongRecOn with
    | _ z47 ih47 =>
    intro d hz47 hd ls hl
    refine lv_iload hx hb dX4_mark_47 (lv_at hl 5 rfl) ?_
    refine lv_aload_n hx hb dX4_mark_49 rfl (lv_at hl 0 rfl) ?_
    refine z_get (k := 3) zcX4 hC hK hP 0 rfl (by decide) lF_X4_13 rfl dX4_mark_50 ?_
    refine lv_iconst (v := nI 0) hx hb dX4_mark_53 (by decide) ?_
    refine z_ald hC hK hP 2 rfl (by omega) (by decide) dX4_mark_54 ?_
    refine zc_ge (tgt := 76) hC dX4_mark_55 (by decide) (by omega) (by omega) (fun c55 => ?_) (fun c55 => ?_)
    · skip
      have e55 : d = dc 0 := by omega
      rw [e55] at hl
      refine lv_iload_n hx hb dX4_mark_76 rfl (lv_at hl 1 rfl) ?_
      refine lv_tableIn (off := 66) (tgt := 143) hx hb dX4_mark_77 (by decide) (by decide) (by decide) (by decide) ?_
      refine lv_aload_n hx hb dX4_mark_143 rfl (lv_at hl 0 rfl) ?_
      refine lv_dup hx hb dX4_mark_144 rfl ?_
      refine z_get (k := 0) zcX4 hC hK hP 0 rfl (by decide) lF_X4_164 rfl dX4_mark_145 ?_
      refine lv_ldc2 (v := (101)) hx hb hown (hts _ lK_X4_170) dX4_mark_148 ?_
      refine z_topl (show (101) = k9 from by exact hk9.symm) ?_
      refine lv_ladd hx hb dX4_mark_151 ?_
      refine z_put (k := 0) zcX4 hC hK hP hD hS 0 rfl (by decide) lF_X4_164 rfl rfl rfl (Nat.le_of_ble_eq_true rfl) dX4_mark_152 (fun H locs hP hD hS => ?_)
      have hP : va_P D vwCl [oM q (tr + k9) xtx ty xdc xdl xdb xar xac xwm xnd at9 sta sor val fau xnw xkp xta xtw td xhg, aI cI xac 2 acn, aI cI xdc 2 dc, aI cI xnd 60 nd, aI cI xwm 10 wm, aI cI xnw 729 nw] H := hP
      have hD : va_D A [oM q (tr + k9) xtx ty xdc xdl xdb xar xac xwm xnd at9 sta sor val fau xnw xkp xta xtw td xhg, aI cI xac 2 acn, aI cI xdc 2 dc, aI cI xnd 60 nd, aI cI xwm 10 wm, aI cI xnw 729 nw] := hD
      refine lv_iload hx hb dX4_mark_155 (lv_at hl 4 rfl) ?_
      exact zw_i hC hr hlk hA h0 hP hS (by first | rfl | omega) dX4_mark_157
    · skip
      refine lv_iload hx hb dX4_mark_58 (lv_at hl 4 rfl) ?_
      refine lv_aload_n hx hb dX4_mark_60 rfl (lv_at hl 0 rfl) ?_
      refine lv_iload_n hx hb dX4_mark_61 rfl (lv_at hl 2 rfl) ?_
      refine lv_iload hx hb dX4_mark_62 (lv_at hl 5 rfl) ?_
      refine zRV (As := [.int (nI a), .int (nI d)]) (b := q) (rest := [.int (nI (wm a) - nI (sm (fun i => nd (6 * a + i)) d))]) hC (c_X4_needOf (l := l) (ha := by omega) (hd := by omega)) lM_X4_116 vM_X4_needOf (by decide) hK hP [0, 3] rfl ⟨rfl, rfl, rfl⟩ rfl hl.1 rfl (Nat.le_of_ble_eq_true rfl) dX4_mark_64 (by decide) ?_
      show W _ _ _ _ _ _ _ _ _ _ _ _ _ _ _ (F0 m 67 ls [.int (nI (nd (6 * a + d))), .int (nI (wm a) - nI (sm (fun i => nd (6 * a + i)) d))])
      refine lv_isub hx hb dX4_mark_67 ?_
      refine z_top (show ((nI (wm a) - nI (sm (fun i => nd (6 * a + i)) d)) - (nI (nd (6 * a + d)))) = nI (wm a) - nI (sm (fun i => nd (6 * a + i)) (d + 1)) from by rw [sm_s, ← nI_add]; grind) ?_
      refine lv_istore (lv' := [(4, .int (nI (wm a) - nI (sm (fun i => nd (6 * a + i)) (d + 1)))), (0, .ref q), (1, .int (nI 2)), (2, .int (nI a)), (3, .int (nI ((wm a) + (popc (orr (fun i => decide (0 < nd (6 * a + i))) (dc 0)))))), (5, .int (nI d))]) hx hb dX4_mark_68 hl (by decide) rfl (fun ls hl => ?_)
      refine lv_iinc (v := nI (d + 1)) (lv' := [(5, .int (nI (d + 1))), (4, .int (nI (wm a) - nI (sm (fun i => nd (6 * a + i)) (d + 1)))), (0, .ref q), (1, .int (nI 2)), (2, .int (nI a)), (3, .int (nI ((wm a) + (popc (orr (fun i => decide (0 < nd (6 * a + i))) (dc 0))))))]) hx hb dX4_mark_70 hl (k := 5) rfl (z_inc d 1) (by decide) rfl (fun ls hl => ?_)
      refine lv_goto (tgt := 47) hx hb dX4_mark_73 (by decide) ?_
      exact ih47 (dc 0 - (d + 1)) (by omega) (d + 1) rfl (by omega) ls (lv_sub hl [2, 3, 4, 5, 1, 0] rfl)
  exact hL47 _ 0 rfl (by omega) ls (lv_sub hl [3, 4, 5, 2, 1, 0] rfl)
set_option maxHeartbeats 1000000 in
set_option maxRecDepth 100000 in
theorem c_X4_mark_3 {l : Launch} {D : va_G} {cI cZ cB cR : ClassId} {q xtx ty xdc xdl xdb xar xac xwm xnd at9 sta sor val xnw xkp xta xtw td xhg : Nat} {tr : Int64} {fau : Int32} {acn dc nd wm nw : Nat → Nat} {a : Nat} {k9 : Int64} (hac : acn 0 ≤ 5) (ha : a < acn 0) (hn : dc 0 ≤ 6) (hnd : ∀ i, nd i ≤ 9) (hk9 : k9 = 1011) : mW l yX4_mark cX4_mark 6 (some .int) 2 45 D cI cZ cB cR [oM q tr xtx ty xdc xdl xdb xar xac xwm xnd at9 sta sor val fau xnw xkp xta xtw td xhg, aI cI xac 2 acn, aI cI xdc 2 dc, aI cI xnd 60 nd, aI cI xwm 10 wm, aI cI xnw 729 nw] [oM q (tr + k9) xtx ty xdc xdl xdb xar xac xwm xnd at9 sta sor val fau xnw xkp xta xtw td xhg, aI cI xac 2 acn, aI cI xdc 2 dc, aI cI xnd 60 nd, aI cI xwm 10 wm, aI cI xnw 729 nw] [.ref q, .int (nI 3), .int (nI a)] (some (.int (nI (2 * (wm a + popc (orr (fun i => decide (0 < nd (6 * a + i))) (dc 0))))))) := by
  refine mW_of rfl (Nat.le_of_ble_eq_true rfl) ?_
  intro p e s m args below meth c hC hr hlk hK A hA hD H0 h0 hP hS ls hl
  have hP : va_P D vwCl [oM q tr xtx ty xdc xdl xdb xar xac xwm xnd at9 sta sor val fau xnw xkp xta xtw td xhg, aI cI xac 2 acn, aI cI xdc 2 dc, aI cI xnd 60 nd, aI cI xwm 10 wm, aI cI xnw 729 nw] H0 := hP
  have hl : lv_has ls 6 [(0, .ref q), (1, .int (nI 3)), (2, .int (nI a))] := hl
  obtain ⟨hx, hb, hml, hown, hts⟩ := id hC
  refine lv_iload_n hx hb dX4_mark_0 rfl (lv_at hl 1 rfl) ?_
  refine lv_iconst (v := nI 0) hx hb dX4_mark_1 (by decide) ?_
  refine lv_iconst (v := nI 5) hx hb dX4_mark_2 (by decide) ?_
  refine zRS (As := [.int (nI 3), .int (nI 0), .int (nI 5)]) (rest := []) hC (c_X4_in (l := l) (g := true) (hg := ⟨fun _ => ⟨(nI_leI (by omega) (by omega)).mpr (by omega), (nI_leI (by omega) (by omega)).mpr (by omega)⟩, fun _ => rfl⟩)) lM_X4_57 sM_X4_in (by decide) hK rfl hl.1 rfl (Nat.le_of_ble_eq_true rfl) dX4_mark_3 (by decide) ?_
  show W _ _ _ _ _ _ _ _ _ _ _ _ _ _ _ (F0 m 6 ls [.int (bI true)])
  refine zb_eq (tgt := 17) hC dX4_mark_6 (by decide) (fun c6 => by exfalso; cases c6) (fun c6 => ?_)
  refine lv_aload_n hx hb dX4_mark_9 rfl (lv_at hl 0 rfl) ?_
  refine lv_iload_n hx hb dX4_mark_10 rfl (lv_at hl 2 rfl) ?_
  refine zRV (As := [.int (nI a)]) (b := q) (rest := []) hC (c_X4_isAct (l := l) (g := true) (hn := by omega) (hg := ⟨fun _ => vp_in_nI (by omega) (by omega), fun _ => rfl⟩)) lM_X4_132 vM_X4_isAct (by decide) hK hP [0, 1] rfl ⟨rfl, rfl, rfl⟩ rfl hl.1 rfl (Nat.le_of_ble_eq_true rfl) dX4_mark_11 (by decide) ?_
  show W _ _ _ _ _ _ _ _ _ _ _ _ _ _ _ (F0 m 14 ls [.int (bI true)])
  refine zb_ne (tgt := 20) hC dX4_mark_14 (by decide) (fun c14 => ?_) (fun c14 => by exfalso; cases c14)
  refine lv_aload_n hx hb dX4_mark_20 rfl (lv_at hl 0 rfl) ?_
  refine z_get (k := 8) zcX4 hC hK hP 0 rfl (by decide) lF_X4_29 rfl dX4_mark_21 ?_
  refine lv_iload_n hx hb dX4_mark_24 rfl (lv_at hl 2 rfl) ?_
  refine z_ald hC hK hP 4 rfl (by omega) (by decide) dX4_mark_25 ?_
  refine lv_aload_n hx hb dX4_mark_26 rfl (lv_at hl 0 rfl) ?_
  refine lv_iload_n hx hb dX4_mark_27 rfl (lv_at hl 2 rfl) ?_
  refine zRV (As := [.int (nI a)]) (b := q) (rest := [.int (nI (wm a))]) hC (c_X4_qualities (l := l) (hn := hn) (hnd := hnd) (ha := by omega)) lM_X4_135 vM_X4_qualities (by decide) hK hP [0, 2, 3] rfl ⟨rfl, rfl, rfl⟩ rfl hl.1 rfl (Nat.le_of_ble_eq_true rfl) dX4_mark_28 (by decide) ?_
  show W _ _ _ _ _ _ _ _ _ _ _ _ _ _ _ (F0 m 31 ls [.int (nI (orr (fun i => decide (0 < nd (6 * a + i))) (dc 0))), .int (nI (wm a))])
  refine zRS (As := [.int (nI (orr (fun i => decide (0 < nd (6 * a + i))) (dc 0)))]) (rest := [.int (nI (wm a))]) hC (c_X4_manyOf (l := l) (hs := Nat.lt_of_lt_of_le (orr_lt _ (dc 0)) (z_powL6 hn))) lM_X4_161 sM_X4_manyOf (by decide) hK rfl hl.1 rfl (Nat.le_of_ble_eq_true rfl) dX4_mark_31 (by decide) ?_
  show W _ _ _ _ _ _ _ _ _ _ _ _ _ _ _ (F0 m 34 ls [.int (nI (popc (orr (fun i => decide (0 < nd (6 * a + i))) (dc 0)))), .int (nI (wm a))])
  refine zi_add hC dX4_mark_34 ?_
  refine lv_istore_n (lv' := [(3, .int (nI ((wm a) + (popc (orr (fun i => decide (0 < nd (6 * a + i))) (dc 0)))))), (0, .ref q), (1, .int (nI 3)), (2, .int (nI a))]) hx hb dX4_mark_35 rfl hl (by decide) rfl (fun ls hl => ?_)
  refine lv_aload_n hx hb dX4_mark_36 rfl (lv_at hl 1 rfl) ?_
  refine z_get (k := 8) zcX4 hC hK hP 0 rfl (by decide) lF_X4_29 rfl dX4_mark_37 ?_
  refine lv_iload_n hx hb dX4_mark_40 rfl (lv_at hl 3 rfl) ?_
  refine z_ald hC hK hP 4 rfl (by omega) (by decide) dX4_mark_41 ?_
  refine z_top (show (nI (wm a)) = nI (wm a) - nI (sm (fun i => nd (6 * a + i)) 0) from by exact (by show nI (wm a) = nI (wm a) - nI 0; rw [nI_0]; grind)) ?_
  refine lv_istore (lv' := [(4, .int (nI (wm a) - nI (sm (fun i => nd (6 * a + i)) 0))), (3, .int (nI ((wm a) + (popc (orr (fun i => decide (0 < nd (6 * a + i))) (dc 0)))))), (0, .ref q), (1, .int (nI 3)), (2, .int (nI a))]) hx hb dX4_mark_42 hl (by decide) rfl (fun ls hl => ?_)
  refine lv_iconst (v := nI 0) hx hb dX4_mark_44 (by decide) ?_
  refine lv_istore (lv' := [(5, .int (nI 0)), (4, .int (nI (wm a) - nI (sm (fun i => nd (6 * a + i)) 0))), (3, .int (nI ((wm a) + (popc (orr (fun i => decide (0 < nd (6 * a + i))) (dc 0)))))), (0, .ref q), (1, .int (nI 3)), (2, .int (nI a))]) hx hb dX4_mark_45 hl (by decide) rfl (fun ls hl => ?_)
  have hL47 : ∀ (z47 : Nat) (d : Nat), dc 0 - d = z47 → (d ≤ dc 0) → ∀ ls : Array Slot, lv_has ls 6 [(0, .ref q), (1, .int (nI 3)), (2, .int (nI a)), (3, .int (nI ((wm a) + (popc (orr (fun i => decide (0 < nd (6 * a + i))) (dc 0)))))), (4, .int (nI (wm a) - nI (sm (fun i => nd (6 * a + i)) d))), (5, .int (nI d))] → W p l e { frames := 2, cells := 0, slots := 0, locals := 45 } s m args below meth c H0 [] 0 0 (MQ below (qW D [oM q tr xtx ty xdc xdl xdb xar xac xwm xnd at9 sta sor val fau xnw xkp xta xtw td xhg, aI cI xac 2 acn, aI cI xdc 2 dc, aI cI xnd 60 nd, aI cI xwm 10 wm, aI cI xnw 729 nw] [oM q (tr + k9) xtx ty xdc xdl xdb xar xac xwm xnd at9 sta sor val fau xnw xkp xta xtw td xhg, aI cI xac 2 acn, aI cI xdc 2 dc, aI cI xnd 60 nd, aI cI xwm 10 wm, aI cI xnw 729 nw] (some (.int (nI (2 * (wm a + popc (orr (fun i => decide (0 < nd (6 * a + i))) (dc 0)))))))) args s 0 0 (zA [oM q tr xtx ty xdc xdl xdb xar xac xwm xnd at9 sta sor val fau xnw xkp xta xtw td xhg, aI cI xac 2 acn, aI cI xdc 2 dc, aI cI xnd 60 nd, aI cI xwm 10 wm, aI cI xnw 729 nw])) (F0 m 47 ls []) := by
    intro z47
    induction z47 using Nat.strongRecOn with
    | _ z47 ih47 =>
    intro d hz47 hd ls hl
    refine lv_iload hx hb dX4_mark_47 (lv_at hl 5 rfl) ?_
    refine lv_aload_n hx hb dX4_mark_49 rfl (lv_at hl 0 rfl) ?_
    refine z_get (k := 3) zcX4 hC hK hP 0 rfl (by decide) lF_X4_13 rfl dX4_mark_50 ?_
    refine lv_iconst (v := nI 0) hx hb dX4_mark_53 (by decide) ?_
    refine z_ald hC hK hP 2 rfl (by omega) (by decide) dX4_mark_54 ?_
    refine zc_ge (tgt := 76) hC dX4_mark_55 (by decide) (by omega) (by omega) (fun c55 => ?_) (fun c55 => ?_)
    · skip
      have e55 : d = dc 0 := by omega
      rw [e55] at hl
      refine lv_iload_n hx hb dX4_mark_76 rfl (lv_at hl 1 rfl) ?_
      refine lv_tableIn (off := 81) (tgt := 158) hx hb dX4_mark_77 (by decide) (by decide) (by decide) (by decide) ?_
      refine lv_aload_n hx hb dX4_mark_158 rfl (lv_at hl 0 rfl) ?_
      refine lv_dup hx hb dX4_mark_159 rfl ?_
      refine z_get (k := 0) zcX4 hC hK hP 0 rfl (by decide) lF_X4_164 rfl dX4_mark_160 ?_
      refine lv_ldc2 (v := (1011)) hx hb hown (hts _ lK_X4_172) dX4_mark_163 ?_
      refine z_topl (show (1011) = k9 from by exact hk9.symm) ?_
      refine lv_ladd hx hb dX4_mark_166 ?_
      refine z_put (k := 0) zcX4 hC hK hP hD hS 0 rfl (by decide) lF_X4_164 rfl rfl rfl (Nat.le_of_ble_eq_true rfl) dX4_mark_167 (fun H locs hP hD hS => ?_)
      have hP : va_P D vwCl [oM q (tr + k9) xtx ty xdc xdl xdb xar xac xwm xnd at9 sta sor val fau xnw xkp xta xtw td xhg, aI cI xac 2 acn, aI cI xdc 2 dc, aI cI xnd 60 nd, aI cI xwm 10 wm, aI cI xnw 729 nw] H := hP
      have hD : va_D A [oM q (tr + k9) xtx ty xdc xdl xdb xar xac xwm xnd at9 sta sor val fau xnw xkp xta xtw td xhg, aI cI xac 2 acn, aI cI xdc 2 dc, aI cI xnd 60 nd, aI cI xwm 10 wm, aI cI xnw 729 nw] := hD
      refine lv_iconst (v := nI 2) hx hb dX4_mark_170 (by decide) ?_
      refine lv_iload_n hx hb dX4_mark_171 rfl (lv_at hl 3 rfl) ?_
      refine zi_mul hC dX4_mark_172 ?_
      exact zw_i hC hr hlk hA h0 hP hS (by first | rfl | omega) dX4_mark_173
    · skip
      refine lv_iload hx hb dX4_mark_58 (lv_at hl 4 rfl) ?_
      refine lv_aload_n hx hb dX4_mark_60 rfl (lv_at hl 0 rfl) ?_
      refine lv_iload_n hx hb dX4_mark_61 rfl (lv_at hl 2 rfl) ?_
      refine lv_iload hx hb dX4_mark_62 (lv_at hl 5 rfl) ?_
      refine zRV (As := [.int (nI a), .int (nI d)]) (b := q) (rest := [.int (nI (wm a) - nI (sm (fun i => nd (6 * a + i)) d))]) hC (c_X4_needOf (l := l) (ha := by omega) (hd := by omega)) lM_X4_116 vM_X4_needOf (by decide) hK hP [0, 3] rfl ⟨rfl, rfl, rfl⟩ rfl hl.1 rfl (Nat.le_of_ble_eq_true rfl) dX4_mark_64 (by decide) ?_
      show W _ _ _ _ _ _ _ _ _ _ _ _ _ _ _ (F0 m 67 ls [.int (nI (nd (6 * a + d))), .int (nI (wm a) - nI (sm (fun i => nd (6 * a + i)) d))])
      refine lv_isub hx hb dX4_mark_67 ?_
      refine z_top (show ((nI (wm a) - nI (sm (fun i => nd (6 * a + i)) d)) - (nI (nd (6 * a + d)))) = nI (wm a) - nI (sm (fun i => nd (6 * a + i)) (d + 1)) from by rw [sm_s, ← nI_add]; grind) ?_
      refine lv_istore (lv' := [(4, .int (nI (wm a) - nI (sm (fun i => nd (6 * a + i)) (d + 1)))), (0, .ref q), (1, .int (nI 3)), (2, .int (nI a)), (3, .int (nI ((wm a) + (popc (orr (fun i => decide (0 < nd (6 * a + i))) (dc 0)))))), (5, .int (nI d))]) hx hb dX4_mark_68 hl (by decide) rfl (fun ls hl => ?_)
      refine lv_iinc (v := nI (d + 1)) (lv' := [(5, .int (nI (d + 1))), (4, .int (nI (wm a) - nI (sm (fun i => nd (6 * a + i)) (d + 1)))), (0, .ref q), (1, .int (nI 3)), (2, .int (nI a)), (3, .int (nI ((wm a) + (popc (orr (fun i => decide (0 < nd (6 * a + i))) (dc 0))))))]) hx hb dX4_mark_70 hl (k := 5) rfl (z_inc d 1) (by decide) rfl (fun ls hl => ?_)
      refine lv_goto (tgt := 47) hx hb dX4_mark_73 (by decide) ?_
      exact ih47 (dc 0 - (d + 1)) (by omega) (d + 1) rfl (by omega) ls (lv_sub hl [2, 3, 4, 5, 1, 0] rfl)
  exact hL47 _ 0 rfl (by omega) ls (lv_sub hl [3, 4, 5, 2, 1, 0] rfl)
set_option maxHeartbeats 1000000 in
set_option maxRecDepth 100000 in
theorem c_X4_mark_4 {l : Launch} {D : va_G} {cI cZ cB cR : ClassId} {q xtx ty xdc xdl xdb xar xac xwm xnd at9 sta sor val xnw xkp xta xtw td xhg : Nat} {tr : Int64} {fau : Int32} {acn dc nd wm nw : Nat → Nat} {a : Nat} {k9 : Int64} (hac : acn 0 ≤ 5) (ha : a < acn 0) (hn : dc 0 ≤ 6) (hnd : ∀ i, nd i ≤ 9) (hk9 : k9 = 10101) : mW l yX4_mark cX4_mark 6 (some .int) 2 45 D cI cZ cB cR [oM q tr xtx ty xdc xdl xdb xar xac xwm xnd at9 sta sor val fau xnw xkp xta xtw td xhg, aI cI xac 2 acn, aI cI xdc 2 dc, aI cI xnd 60 nd, aI cI xwm 10 wm, aI cI xnw 729 nw] [oM q (tr + k9) xtx ty xdc xdl xdb xar xac xwm xnd at9 sta sor val fau xnw xkp xta xtw td xhg, aI cI xac 2 acn, aI cI xdc 2 dc, aI cI xnd 60 nd, aI cI xwm 10 wm, aI cI xnw 729 nw] [.ref q, .int (nI 4), .int (nI a)] (some (.int (nI (wm a) - nI (sm (fun i => nd (6 * a + i)) (dc 0)) + nI (nw 21)))) := by
  refine mW_of rfl (Nat.le_of_ble_eq_true rfl) ?_
  intro p e s m args below meth c hC hr hlk hK A hA hD H0 h0 hP hS ls hl
  have hP : va_P D vwCl [oM q tr xtx ty xdc xdl xdb xar xac xwm xnd at9 sta sor val fau xnw xkp xta xtw td xhg, aI cI xac 2 acn, aI cI xdc 2 dc, aI cI xnd 60 nd, aI cI xwm 10 wm, aI cI xnw 729 nw] H0 := hP
  have hl : lv_has ls 6 [(0, .ref q), (1, .int (nI 4)), (2, .int (nI a))] := hl
  obtain ⟨hx, hb, hml, hown, hts⟩ := id hC
  refine lv_iload_n hx hb dX4_mark_0 rfl (lv_at hl 1 rfl) ?_
  refine lv_iconst (v := nI 0) hx hb dX4_mark_1 (by decide) ?_
  refine lv_iconst (v := nI 5) hx hb dX4_mark_2 (by decide) ?_
  refine zRS (As := [.int (nI 4), .int (nI 0), .int (nI 5)]) (rest := []) hC (c_X4_in (l := l) (g := true) (hg := ⟨fun _ => ⟨(nI_leI (by omega) (by omega)).mpr (by omega), (nI_leI (by omega) (by omega)).mpr (by omega)⟩, fun _ => rfl⟩)) lM_X4_57 sM_X4_in (by decide) hK rfl hl.1 rfl (Nat.le_of_ble_eq_true rfl) dX4_mark_3 (by decide) ?_
  show W _ _ _ _ _ _ _ _ _ _ _ _ _ _ _ (F0 m 6 ls [.int (bI true)])
  refine zb_eq (tgt := 17) hC dX4_mark_6 (by decide) (fun c6 => by exfalso; cases c6) (fun c6 => ?_)
  refine lv_aload_n hx hb dX4_mark_9 rfl (lv_at hl 0 rfl) ?_
  refine lv_iload_n hx hb dX4_mark_10 rfl (lv_at hl 2 rfl) ?_
  refine zRV (As := [.int (nI a)]) (b := q) (rest := []) hC (c_X4_isAct (l := l) (g := true) (hn := by omega) (hg := ⟨fun _ => vp_in_nI (by omega) (by omega), fun _ => rfl⟩)) lM_X4_132 vM_X4_isAct (by decide) hK hP [0, 1] rfl ⟨rfl, rfl, rfl⟩ rfl hl.1 rfl (Nat.le_of_ble_eq_true rfl) dX4_mark_11 (by decide) ?_
  show W _ _ _ _ _ _ _ _ _ _ _ _ _ _ _ (F0 m 14 ls [.int (bI true)])
  refine zb_ne (tgt := 20) hC dX4_mark_14 (by decide) (fun c14 => ?_) (fun c14 => by exfalso; cases c14)
  refine lv_aload_n hx hb dX4_mark_20 rfl (lv_at hl 0 rfl) ?_
  refine z_get (k := 8) zcX4 hC hK hP 0 rfl (by decide) lF_X4_29 rfl dX4_mark_21 ?_
  refine lv_iload_n hx hb dX4_mark_24 rfl (lv_at hl 2 rfl) ?_
  refine z_ald hC hK hP 4 rfl (by omega) (by decide) dX4_mark_25 ?_
  refine lv_aload_n hx hb dX4_mark_26 rfl (lv_at hl 0 rfl) ?_
  refine lv_iload_n hx hb dX4_mark_27 rfl (lv_at hl 2 rfl) ?_
  refine zRV (As := [.int (nI a)]) (b := q) (rest := [.int (nI (wm a))]) hC (c_X4_qualities (l := l) (hn := hn) (hnd := hnd) (ha := by omega)) lM_X4_135 vM_X4_qualities (by decide) hK hP [0, 2, 3] rfl ⟨rfl, rfl, rfl⟩ rfl hl.1 rfl (Nat.le_of_ble_eq_true rfl) dX4_mark_28 (by decide) ?_
  show W _ _ _ _ _ _ _ _ _ _ _ _ _ _ _ (F0 m 31 ls [.int (nI (orr (fun i => decide (0 < nd (6 * a + i))) (dc 0))), .int (nI (wm a))])
  refine zRS (As := [.int (nI (orr (fun i => decide (0 < nd (6 * a + i))) (dc 0)))]) (rest := [.int (nI (wm a))]) hC (c_X4_manyOf (l := l) (hs := Nat.lt_of_lt_of_le (orr_lt _ (dc 0)) (z_powL6 hn))) lM_X4_161 sM_X4_manyOf (by decide) hK rfl hl.1 rfl (Nat.le_of_ble_eq_true rfl) dX4_mark_31 (by decide) ?_
  show W _ _ _ _ _ _ _ _ _ _ _ _ _ _ _ (F0 m 34 ls [.int (nI (popc (orr (fun i => decide (0 < nd (6 * a + i))) (dc 0)))), .int (nI (wm a))])
  refine zi_add hC dX4_mark_34 ?_
  refine lv_istore_n (lv' := [(3, .int (nI ((wm a) + (popc (orr (fun i => decide (0 < nd (6 * a + i))) (dc 0)))))), (0, .ref q), (1, .int (nI 4)), (2, .int (nI a))]) hx hb dX4_mark_35 rfl hl (by decide) rfl (fun ls hl => ?_)
  refine lv_aload_n hx hb dX4_mark_36 rfl (lv_at hl 1 rfl) ?_
  refine z_get (k := 8) zcX4 hC hK hP 0 rfl (by decide) lF_X4_29 rfl dX4_mark_37 ?_
  refine lv_iload_n hx hb dX4_mark_40 rfl (lv_at hl 3 rfl) ?_
  refine z_ald hC hK hP 4 rfl (by omega) (by decide) dX4_mark_41 ?_
  refine z_top (show (nI (wm a)) = nI (wm a) - nI (sm (fun i => nd (6 * a + i)) 0) from by exact (by show nI (wm a) = nI (wm a) - nI 0; rw [nI_0]; grind)) ?_
  refine lv_istore (lv' := [(4, .int (nI (wm a) - nI (sm (fun i => nd (6 * a + i)) 0))), (3, .int (nI ((wm a) + (popc (orr (fun i => decide (0 < nd (6 * a + i))) (dc 0)))))), (0, .ref q), (1, .int (nI 4)), (2, .int (nI a))]) hx hb dX4_mark_42 hl (by decide) rfl (fun ls hl => ?_)
  refine lv_iconst (v := nI 0) hx hb dX4_mark_44 (by decide) ?_
  refine lv_istore (lv' := [(5, .int (nI 0)), (4, .int (nI (wm a) - nI (sm (fun i => nd (6 * a + i)) 0))), (3, .int (nI ((wm a) + (popc (orr (fun i => decide (0 < nd (6 * a + i))) (dc 0)))))), (0, .ref q), (1, .int (nI 4)), (2, .int (nI a))]) hx hb dX4_mark_45 hl (by decide) rfl (fun ls hl => ?_)
  have hL47 : ∀ (z47 : Nat) (d : Nat), dc 0 - d = z47 → (d ≤ dc 0) → ∀ ls : Array Slot, lv_has ls 6 [(0, .ref q), (1, .int (nI 4)), (2, .int (nI a)), (3, .int (nI ((wm a) + (popc (orr (fun i => decide (0 < nd (6 * a + i))) (dc 0)))))), (4, .int (nI (wm a) - nI (sm (fun i => nd (6 * a + i)) d))), (5, .int (nI d))] → W p l e { frames := 2, cells := 0, slots := 0, locals := 45 } s m args below meth c H0 [] 0 0 (MQ below (qW D [oM q tr xtx ty xdc xdl xdb xar xac xwm xnd at9 sta sor val fau xnw xkp xta xtw td xhg, aI cI xac 2 acn, aI cI xdc 2 dc, aI cI xnd 60 nd, aI cI xwm 10 wm, aI cI xnw 729 nw] [oM q (tr + k9) xtx ty xdc xdl xdb xar xac xwm xnd at9 sta sor val fau xnw xkp xta xtw td xhg, aI cI xac 2 acn, aI cI xdc 2 dc, aI cI xnd 60 nd, aI cI xwm 10 wm, aI cI xnw 729 nw] (some (.int (nI (wm a) - nI (sm (fun i => nd (6 * a + i)) (dc 0)) + nI (nw 21))))) args s 0 0 (zA [oM q tr xtx ty xdc xdl xdb xar xac xwm xnd at9 sta sor val fau xnw xkp xta xtw td xhg, aI cI xac 2 acn, aI cI xdc 2 dc, aI cI xnd 60 nd, aI cI xwm 10 wm, aI cI xnw 729 nw])) (F0 m 47 ls []) := by
    intro z47
    induction z47 using Nat.strongRecOn with
    | _ z47 ih47 =>
    intro d hz47 hd ls hl
    refine lv_iload hx hb dX4_mark_47 (lv_at hl 5 rfl) ?_
    refine lv_aload_n hx hb dX4_mark_49 rfl (lv_at hl 0 rfl) ?_
    refine z_get (k := 3) zcX4 hC hK hP 0 rfl (by decide) lF_X4_13 rfl dX4_mark_50 ?_
    refine lv_iconst (v := nI 0) hx hb dX4_mark_53 (by decide) ?_
    refine z_ald hC hK hP 2 rfl (by omega) (by decide) dX4_mark_54 ?_
    refine zc_ge (tgt := 76) hC dX4_mark_55 (by decide) (by omega) (by omega) (fun c55 => ?_) (fun c55 => ?_)
    · skip
      have e55 : d = dc 0 := by omega
      rw [e55] at hl
      refine lv_iload_n hx hb dX4_mark_76 rfl (lv_at hl 1 rfl) ?_
      refine lv_tableIn (off := 97) (tgt := 174) hx hb dX4_mark_77 (by decide) (by decide) (by decide) (by decide) ?_
      refine lv_aload_n hx hb dX4_mark_174 rfl (lv_at hl 0 rfl) ?_
      refine lv_dup hx hb dX4_mark_175 rfl ?_
      refine z_get (k := 0) zcX4 hC hK hP 0 rfl (by decide) lF_X4_164 rfl dX4_mark_176 ?_
      refine lv_ldc2 (v := (10101)) hx hb hown (hts _ lK_X4_174) dX4_mark_179 ?_
      refine z_topl (show (10101) = k9 from by exact hk9.symm) ?_
      refine lv_ladd hx hb dX4_mark_182 ?_
      refine z_put (k := 0) zcX4 hC hK hP hD hS 0 rfl (by decide) lF_X4_164 rfl rfl rfl (Nat.le_of_ble_eq_true rfl) dX4_mark_183 (fun H locs hP hD hS => ?_)
      have hP : va_P D vwCl [oM q (tr + k9) xtx ty xdc xdl xdb xar xac xwm xnd at9 sta sor val fau xnw xkp xta xtw td xhg, aI cI xac 2 acn, aI cI xdc 2 dc, aI cI xnd 60 nd, aI cI xwm 10 wm, aI cI xnw 729 nw] H := hP
      have hD : va_D A [oM q (tr + k9) xtx ty xdc xdl xdb xar xac xwm xnd at9 sta sor val fau xnw xkp xta xtw td xhg, aI cI xac 2 acn, aI cI xdc 2 dc, aI cI xnd 60 nd, aI cI xwm 10 wm, aI cI xnw 729 nw] := hD
      refine lv_iload hx hb dX4_mark_186 (lv_at hl 4 rfl) ?_
      refine lv_aload_n hx hb dX4_mark_188 rfl (lv_at hl 0 rfl) ?_
      refine z_get (k := 15) zcX4 hC hK hP 0 rfl (by decide) lF_X4_35 rfl dX4_mark_189 ?_
      refine lv_bipush (v := nI 21) hx hb dX4_mark_192 (by decide) ?_
      refine z_ald hC hK hP 5 rfl (by omega) (by decide) dX4_mark_194 ?_
      refine lv_iadd hx hb dX4_mark_195 ?_
      exact zw_i hC hr hlk hA h0 hP hS (by first | rfl | omega) dX4_mark_196
    · skip
      refine lv_iload hx hb dX4_mark_58 (lv_at hl 4 rfl) ?_
      refine lv_aload_n hx hb dX4_mark_60 rfl (lv_at hl 0 rfl) ?_
      refine lv_iload_n hx hb dX4_mark_61 rfl (lv_at hl 2 rfl) ?_
      refine lv_iload hx hb dX4_mark_62 (lv_at hl 5 rfl) ?_
      refine zRV (As := [.int (nI a), .int (nI d)]) (b := q) (rest := [.int (nI (wm a) - nI (sm (fun i => nd (6 * a + i)) d))]) hC (c_X4_needOf (l := l) (ha := by omega) (hd := by omega)) lM_X4_116 vM_X4_needOf (by decide) hK hP [0, 3] rfl ⟨rfl, rfl, rfl⟩ rfl hl.1 rfl (Nat.le_of_ble_eq_true rfl) dX4_mark_64 (by decide) ?_
      show W _ _ _ _ _ _ _ _ _ _ _ _ _ _ _ (F0 m 67 ls [.int (nI (nd (6 * a + d))), .int (nI (wm a) - nI (sm (fun i => nd (6 * a + i)) d))])
      refine lv_isub hx hb dX4_mark_67 ?_
      refine z_top (show ((nI (wm a) - nI (sm (fun i => nd (6 * a + i)) d)) - (nI (nd (6 * a + d)))) = nI (wm a) - nI (sm (fun i => nd (6 * a + i)) (d + 1)) from by rw [sm_s, ← nI_add]; grind) ?_
      refine lv_istore (lv' := [(4, .int (nI (wm a) - nI (sm (fun i => nd (6 * a + i)) (d + 1)))), (0, .ref q), (1, .int (nI 4)), (2, .int (nI a)), (3, .int (nI ((wm a) + (popc (orr (fun i => decide (0 < nd (6 * a + i))) (dc 0)))))), (5, .int (nI d))]) hx hb dX4_mark_68 hl (by decide) rfl (fun ls hl => ?_)
      refine lv_iinc (v := nI (d + 1)) (lv' := [(5, .int (nI (d + 1))), (4, .int (nI (wm a) - nI (sm (fun i => nd (6 * a + i)) (d + 1)))), (0, .ref q), (1, .int (nI 4)), (2, .int (nI a)), (3, .int (nI ((wm a) + (popc (orr (fun i => decide (0 < nd (6 * a + i))) (dc 0))))))]) hx hb dX4_mark_70 hl (k := 5) rfl (z_inc d 1) (by decide) rfl (fun ls hl => ?_)
      refine lv_goto (tgt := 47) hx hb dX4_mark_73 (by decide) ?_
      exact ih47 (dc 0 - (d + 1)) (by omega) (d + 1) rfl (by omega) ls (lv_sub hl [2, 3, 4, 5, 1, 0] rfl)
  exact hL47 _ 0 rfl (by omega) ls (lv_sub hl [3, 4, 5, 2, 1, 0] rfl)
set_option maxHeartbeats 1000000 in
set_option maxRecDepth 100000 in
theorem c_X4_mark_5 {l : Launch} {D : va_G} {cI cZ cB cR : ClassId} {q xtx ty xdc xdl xdb xar xac xwm xnd at9 sta sor val xnw xkp xta xtw td xhg : Nat} {tr : Int64} {fau : Int32} {acn dc nd wm nw : Nat → Nat} {a : Nat} {k9 : Int64} (hac : acn 0 ≤ 5) (ha : a < acn 0) (hn : dc 0 ≤ 6) (hnd : ∀ i, nd i ≤ 9) (hk9 : k9 = 100001) : mW l yX4_mark cX4_mark 6 (some .int) 2 45 D cI cZ cB cR [oM q tr xtx ty xdc xdl xdb xar xac xwm xnd at9 sta sor val fau xnw xkp xta xtw td xhg, aI cI xac 2 acn, aI cI xdc 2 dc, aI cI xnd 60 nd, aI cI xwm 10 wm, aI cI xnw 729 nw] [oM q (tr + k9) xtx ty xdc xdl xdb xar xac xwm xnd at9 sta sor val fau xnw xkp xta xtw td xhg, aI cI xac 2 acn, aI cI xdc 2 dc, aI cI xnd 60 nd, aI cI xwm 10 wm, aI cI xnw 729 nw] [.ref q, .int (nI 5), .int (nI a)] (some (.int (nI (wm a + nw 18)))) := by
  refine mW_of rfl (Nat.le_of_ble_eq_true rfl) ?_
  intro p e s m args below meth c hC hr hlk hK A hA hD H0 h0 hP hS ls hl
  have hP : va_P D vwCl [oM q tr xtx ty xdc xdl xdb xar xac xwm xnd at9 sta sor val fau xnw xkp xta xtw td xhg, aI cI xac 2 acn, aI cI xdc 2 dc, aI cI xnd 60 nd, aI cI xwm 10 wm, aI cI xnw 729 nw] H0 := hP
  have hl : lv_has ls 6 [(0, .ref q), (1, .int (nI 5)), (2, .int (nI a))] := hl
  obtain ⟨hx, hb, hml, hown, hts⟩ := id hC
  refine lv_iload_n hx hb dX4_mark_0 rfl (lv_at hl 1 rfl) ?_
  refine lv_iconst (v := nI 0) hx hb dX4_mark_1 (by decide) ?_
  refine lv_iconst (v := nI 5) hx hb dX4_mark_2 (by decide) ?_
  refine zRS (As := [.int (nI 5), .int (nI 0), .int (nI 5)]) (rest := []) hC (c_X4_in (l := l) (g := true) (hg := ⟨fun _ => ⟨(nI_leI (by omega) (by omega)).mpr (by omega), (nI_leI (by omega) (by omega)).mpr (by omega)⟩, fun _ => rfl⟩)) lM_X4_57 sM_X4_in (by decide) hK rfl hl.1 rfl (Nat.le_of_ble_eq_true rfl) dX4_mark_3 (by decide) ?_
  show W _ _ _ _ _ _ _ _ _ _ _ _ _ _ _ (F0 m 6 ls [.int (bI true)])
  refine zb_eq (tgt := 17) hC dX4_mark_6 (by decide) (fun c6 => by exfalso; cases c6) (fun c6 => ?_)
  refine lv_aload_n hx hb dX4_mark_9 rfl (lv_at hl 0 rfl) ?_
  refine lv_iload_n hx hb dX4_mark_10 rfl (lv_at hl 2 rfl) ?_
  refine zRV (As := [.int (nI a)]) (b := q) (rest := []) hC (c_X4_isAct (l := l) (g := true) (hn := by omega) (hg := ⟨fun _ => vp_in_nI (by omega) (by omega), fun _ => rfl⟩)) lM_X4_132 vM_X4_isAct (by decide) hK hP [0, 1] rfl ⟨rfl, rfl, rfl⟩ rfl hl.1 rfl (Nat.le_of_ble_eq_true rfl) dX4_mark_11 (by decide) ?_
  show W _ _ _ _ _ _ _ _ _ _ _ _ _ _ _ (F0 m 14 ls [.int (bI true)])
  refine zb_ne (tgt := 20) hC dX4_mark_14 (by decide) (fun c14 => ?_) (fun c14 => by exfalso; cases c14)
  refine lv_aload_n hx hb dX4_mark_20 rfl (lv_at hl 0 rfl) ?_
  refine z_get (k := 8) zcX4 hC hK hP 0 rfl (by decide) lF_X4_29 rfl dX4_mark_21 ?_
  refine lv_iload_n hx hb dX4_mark_24 rfl (lv_at hl 2 rfl) ?_
  refine z_ald hC hK hP 4 rfl (by omega) (by decide) dX4_mark_25 ?_
  refine lv_aload_n hx hb dX4_mark_26 rfl (lv_at hl 0 rfl) ?_
  refine lv_iload_n hx hb dX4_mark_27 rfl (lv_at hl 2 rfl) ?_
  refine zRV (As := [.int (nI a)]) (b := q) (rest := [.int (nI (wm a))]) hC (c_X4_qualities (l := l) (hn := hn) (hnd := hnd) (ha := by omega)) lM_X4_135 vM_X4_qualities (by decide) hK hP [0, 2, 3] rfl ⟨rfl, rfl, rfl⟩ rfl hl.1 rfl (Nat.le_of_ble_eq_true rfl) dX4_mark_28 (by decide) ?_
  show W _ _ _ _ _ _ _ _ _ _ _ _ _ _ _ (F0 m 31 ls [.int (nI (orr (fun i => decide (0 < nd (6 * a + i))) (dc 0))), .int (nI (wm a))])
  refine zRS (As := [.int (nI (orr (fun i => decide (0 < nd (6 * a + i))) (dc 0)))]) (rest := [.int (nI (wm a))]) hC (c_X4_manyOf (l := l) (hs := Nat.lt_of_lt_of_le (orr_lt _ (dc 0)) (z_powL6 hn))) lM_X4_161 sM_X4_manyOf (by decide) hK rfl hl.1 rfl (Nat.le_of_ble_eq_true rfl) dX4_mark_31 (by decide) ?_
  show W _ _ _ _ _ _ _ _ _ _ _ _ _ _ _ (F0 m 34 ls [.int (nI (popc (orr (fun i => decide (0 < nd (6 * a + i))) (dc 0)))), .int (nI (wm a))])
  refine zi_add hC dX4_mark_34 ?_
  refine lv_istore_n (lv' := [(3, .int (nI ((wm a) + (popc (orr (fun i => decide (0 < nd (6 * a + i))) (dc 0)))))), (0, .ref q), (1, .int (nI 5)), (2, .int (nI a))]) hx hb dX4_mark_35 rfl hl (by decide) rfl (fun ls hl => ?_)
  refine lv_aload_n hx hb dX4_mark_36 rfl (lv_at hl 1 rfl) ?_
  refine z_get (k := 8) zcX4 hC hK hP 0 rfl (by decide) lF_X4_29 rfl dX4_mark_37 ?_
  refine lv_iload_n hx hb dX4_mark_40 rfl (lv_at hl 3 rfl) ?_
  refine z_ald hC hK hP 4 rfl (by omega) (by decide) dX4_mark_41 ?_
  refine z_top (show (nI (wm a)) = nI (wm a) - nI (sm (fun i => nd (6 * a + i)) 0) from by exact (by show nI (wm a) = nI (wm a) - nI 0; rw [nI_0]; grind)) ?_
  refine lv_istore (lv' := [(4, .int (nI (wm a) - nI (sm (fun i => nd (6 * a + i)) 0))), (3, .int (nI ((wm a) + (popc (orr (fun i => decide (0 < nd (6 * a + i))) (dc 0)))))), (0, .ref q), (1, .int (nI 5)), (2, .int (nI a))]) hx hb dX4_mark_42 hl (by decide) rfl (fun ls hl => ?_)
  refine lv_iconst (v := nI 0) hx hb dX4_mark_44 (by decide) ?_
  refine lv_istore (lv' := [(5, .int (nI 0)), (4, .int (nI (wm a) - nI (sm (fun i => nd (6 * a + i)) 0))), (3, .int (nI ((wm a) + (popc (orr (fun i => decide (0 < nd (6 * a + i))) (dc 0)))))), (0, .ref q), (1, .int (nI 5)), (2, .int (nI a))]) hx hb dX4_mark_45 hl (by decide) rfl (fun ls hl => ?_)
  have hL47 : ∀ (z47 : Nat) (d : Nat), dc 0 - d = z47 → (d ≤ dc 0) → ∀ ls : Array Slot, lv_has ls 6 [(0, .ref q), (1, .int (nI 5)), (2, .int (nI a)), (3, .int (nI ((wm a) + (popc (orr (fun i => decide (0 < nd (6 * a + i))) (dc 0)))))), (4, .int (nI (wm a) - nI (sm (fun i => nd (6 * a + i)) d))), (5, .int (nI d))] → W p l e { frames := 2, cells := 0, slots := 0, locals := 45 } s m args below meth c H0 [] 0 0 (MQ below (qW D [oM q tr xtx ty xdc xdl xdb xar xac xwm xnd at9 sta sor val fau xnw xkp xta xtw td xhg, aI cI xac 2 acn, aI cI xdc 2 dc, aI cI xnd 60 nd, aI cI xwm 10 wm, aI cI xnw 729 nw] [oM q (tr + k9) xtx ty xdc xdl xdb xar xac xwm xnd at9 sta sor val fau xnw xkp xta xtw td xhg, aI cI xac 2 acn, aI cI xdc 2 dc, aI cI xnd 60 nd, aI cI xwm 10 wm, aI cI xnw 729 nw] (some (.int (nI (wm a + nw 18))))) args s 0 0 (zA [oM q tr xtx ty xdc xdl xdb xar xac xwm xnd at9 sta sor val fau xnw xkp xta xtw td xhg, aI cI xac 2 acn, aI cI xdc 2 dc, aI cI xnd 60 nd, aI cI xwm 10 wm, aI cI xnw 729 nw])) (F0 m 47 ls []) := by
    intro z47
    induction z47 using Nat.strongRecOn with
    | _ z47 ih47 =>
    intro d hz47 hd ls hl
    refine lv_iload hx hb dX4_mark_47 (lv_at hl 5 rfl) ?_
    refine lv_aload_n hx hb dX4_mark_49 rfl (lv_at hl 0 rfl) ?_
    refine z_get (k := 3) zcX4 hC hK hP 0 rfl (by decide) lF_X4_13 rfl dX4_mark_50 ?_
    refine lv_iconst (v := nI 0) hx hb dX4_mark_53 (by decide) ?_
    refine z_ald hC hK hP 2 rfl (by omega) (by decide) dX4_mark_54 ?_
    refine zc_ge (tgt := 76) hC dX4_mark_55 (by decide) (by omega) (by omega) (fun c55 => ?_) (fun c55 => ?_)
    · skip
      have e55 : d = dc 0 := by omega
      rw [e55] at hl
      refine lv_iload_n hx hb dX4_mark_76 rfl (lv_at hl 1 rfl) ?_
      have hwo : (nI 5).toInt < 0 ∨ 4 < (nI 5).toInt := by decide
      refine lv_tableOut (tgt := 197) hx hb dX4_mark_77 hwo (by decide) ?_
      refine lv_aload_n hx hb dX4_mark_197 rfl (lv_at hl 0 rfl) ?_
      refine lv_dup hx hb dX4_mark_198 rfl ?_
      refine z_get (k := 0) zcX4 hC hK hP 0 rfl (by decide) lF_X4_164 rfl dX4_mark_199 ?_
      refine lv_ldc2 (v := (100001)) hx hb hown (hts _ lK_X4_176) dX4_mark_202 ?_
      refine z_topl (show (100001) = k9 from by exact hk9.symm) ?_
      refine lv_ladd hx hb dX4_mark_205 ?_
      refine z_put (k := 0) zcX4 hC hK hP hD hS 0 rfl (by decide) lF_X4_164 rfl rfl rfl (Nat.le_of_ble_eq_true rfl) dX4_mark_206 (fun H locs hP hD hS => ?_)
      have hP : va_P D vwCl [oM q (tr + k9) xtx ty xdc xdl xdb xar xac xwm xnd at9 sta sor val fau xnw xkp xta xtw td xhg, aI cI xac 2 acn, aI cI xdc 2 dc, aI cI xnd 60 nd, aI cI xwm 10 wm, aI cI xnw 729 nw] H := hP
      have hD : va_D A [oM q (tr + k9) xtx ty xdc xdl xdb xar xac xwm xnd at9 sta sor val fau xnw xkp xta xtw td xhg, aI cI xac 2 acn, aI cI xdc 2 dc, aI cI xnd 60 nd, aI cI xwm 10 wm, aI cI xnw 729 nw] := hD
      refine lv_aload_n hx hb dX4_mark_209 rfl (lv_at hl 0 rfl) ?_
      refine z_get (k := 8) zcX4 hC hK hP 0 rfl (by decide) lF_X4_29 rfl dX4_mark_210 ?_
      refine lv_iload_n hx hb dX4_mark_213 rfl (lv_at hl 2 rfl) ?_
      refine z_ald hC hK hP 4 rfl (by omega) (by decide) dX4_mark_214 ?_
      refine lv_aload_n hx hb dX4_mark_215 rfl (lv_at hl 0 rfl) ?_
      refine z_get (k := 15) zcX4 hC hK hP 0 rfl (by decide) lF_X4_35 rfl dX4_mark_216 ?_
      refine lv_bipush (v := nI 18) hx hb dX4_mark_219 (by decide) ?_
      refine z_ald hC hK hP 5 rfl (by omega) (by decide) dX4_mark_221 ?_
      refine zi_add hC dX4_mark_222 ?_
      exact zw_i hC hr hlk hA h0 hP hS (by first | rfl | omega) dX4_mark_223
    · skip
      refine lv_iload hx hb dX4_mark_58 (lv_at hl 4 rfl) ?_
      refine lv_aload_n hx hb dX4_mark_60 rfl (lv_at hl 0 rfl) ?_
      refine lv_iload_n hx hb dX4_mark_61 rfl (lv_at hl 2 rfl) ?_
      refine lv_iload hx hb dX4_mark_62 (lv_at hl 5 rfl) ?_
      refine zRV (As := [.int (nI a), .int (nI d)]) (b := q) (rest := [.int (nI (wm a) - nI (sm (fun i => nd (6 * a + i)) d))]) hC (c_X4_needOf (l := l) (ha := by omega) (hd := by omega)) lM_X4_116 vM_X4_needOf (by decide) hK hP [0, 3] rfl ⟨rfl, rfl, rfl⟩ rfl hl.1 rfl (Nat.le_of_ble_eq_true rfl) dX4_mark_64 (by decide) ?_
      show W _ _ _ _ _ _ _ _ _ _ _ _ _ _ _ (F0 m 67 ls [.int (nI (nd (6 * a + d))), .int (nI (wm a) - nI (sm (fun i => nd (6 * a + i)) d))])
      refine lv_isub hx hb dX4_mark_67 ?_
      refine z_top (show ((nI (wm a) - nI (sm (fun i => nd (6 * a + i)) d)) - (nI (nd (6 * a + d)))) = nI (wm a) - nI (sm (fun i => nd (6 * a + i)) (d + 1)) from by rw [sm_s, ← nI_add]; grind) ?_
      refine lv_istore (lv' := [(4, .int (nI (wm a) - nI (sm (fun i => nd (6 * a + i)) (d + 1)))), (0, .ref q), (1, .int (nI 5)), (2, .int (nI a)), (3, .int (nI ((wm a) + (popc (orr (fun i => decide (0 < nd (6 * a + i))) (dc 0)))))), (5, .int (nI d))]) hx hb dX4_mark_68 hl (by decide) rfl (fun ls hl => ?_)
      refine lv_iinc (v := nI (d + 1)) (lv' := [(5, .int (nI (d + 1))), (4, .int (nI (wm a) - nI (sm (fun i => nd (6 * a + i)) (d + 1)))), (0, .ref q), (1, .int (nI 5)), (2, .int (nI a)), (3, .int (nI ((wm a) + (popc (orr (fun i => decide (0 < nd (6 * a + i))) (dc 0))))))]) hx hb dX4_mark_70 hl (k := 5) rfl (z_inc d 1) (by decide) rfl (fun ls hl => ?_)
      refine lv_goto (tgt := 47) hx hb dX4_mark_73 (by decide) ?_
      exact ih47 (dc 0 - (d + 1)) (by omega) (d + 1) rfl (by omega) ls (lv_sub hl [2, 3, 4, 5, 1, 0] rfl)
  exact hL47 _ 0 rfl (by omega) ls (lv_sub hl [3, 4, 5, 2, 1, 0] rfl)
