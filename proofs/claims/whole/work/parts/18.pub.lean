set_option maxHeartbeats 1000000 in
set_option maxRecDepth 100000 in
theorem c_X3_type_bad {l : Launch} {D : va_G} {cI cZ cB cR : ClassId} {q t b b2 pp i1 i2 kept tn tw td : Nat} {tr : Int64} {x : Int32} (hbad : x < 0 ∨ nI 255 < x) : mR l yX3_type cX3_type 2 (some .int) 0 0 D cI cZ cB cR [oK q t b b2 pp i1 i2 kept tn tw td tr] [.ref q, .int x] (some (.int (-1))) := by
  refine mR_of rfl (Nat.le_of_ble_eq_true rfl) ?_
  intro p e s m args below meth c hC hr hlk hK hP ls hl
  have hl : lv_has ls 2 [(0, .ref q), (1, .int x)] := hl
  obtain ⟨hx, hb, hml, hown, hts⟩ := id hC
  refine lv_iload_n hx hb dX3_type_0 rfl (lv_at hl 1 rfl) ?_
  refine lv_if_lt (tgt := 11) hx hb dX3_type_1 (by decide) (fun c1 => ?_) (fun c1 => ?_)
  · skip
    refine lv_iconst (v := (-1)) hx hb dX3_type_11 (by decide) ?_
    exact zr_i hC hr hlk (by first | rfl | omega) dX3_type_12
  · skip
    refine lv_iload_n hx hb dX3_type_4 rfl (lv_at hl 1 rfl) ?_
    refine lv_sipush (v := nI 255) hx hb dX3_type_5 (by decide) ?_
    refine lv_icmp_le (tgt := 13) hx hb dX3_type_8 (by decide) (fun c8 => by exfalso; rcases hbad with h | h; exact c1 h; exact absurd c8 (Int32.not_le.mpr h)) (fun c8 => ?_)
    refine lv_iconst (v := (-1)) hx hb dX3_type_11 (by decide) ?_
    exact zr_i hC hr hlk (by first | rfl | omega) dX3_type_12
set_option maxHeartbeats 1000000 in
set_option maxRecDepth 100000 in
theorem c_X2_takes_full {l : Launch} {D : va_G} {cI cZ cB cR : ClassId} {t byA pl tk ta : Nat} {va : Int32} {c9 : Nat}  : mR l yX2_takes cX2_takes 2 (some .boolean) 0 0 D cI cZ cB cR [oT t byA 150 pl tk ta va] [.ref t, .int (nI c9)] (some (.int (bI false))) := by
  refine mR_of rfl (Nat.le_of_ble_eq_true rfl) ?_
  intro p e s m args below meth c hC hr hlk hK hP ls hl
  have hl : lv_has ls 2 [(0, .ref t), (1, .int (nI c9))] := hl
  obtain ⟨hx, hb, hml, hown, hts⟩ := id hC
  refine lv_aload_n hx hb dX2_takes_0 rfl (lv_at hl 0 rfl) ?_
  refine z_get (k := 1) zcX2 hC hK hP 0 rfl (by decide) lF_X2_15 rfl dX2_takes_1 ?_
  refine z0_lt (tgt := 17) hC dX2_takes_4 (by decide) (by omega) ?_
  refine lv_aload_n hx hb dX2_takes_7 rfl (lv_at hl 0 rfl) ?_
  refine z_get (k := 1) zcX2 hC hK hP 0 rfl (by decide) lF_X2_15 rfl dX2_takes_8 ?_
  refine lv_sipush (v := nI 150) hx hb dX2_takes_11 (by decide) ?_
  refine zc_lt (tgt := 19) hC dX2_takes_14 (by decide) (by omega) (by omega) (fun c14 => by exfalso; omega) (fun c14 => ?_)
  refine lv_iconst (v := nI 0) hx hb dX2_takes_17 (by decide) ?_
  refine z_top (y := bI false) rfl ?_
  exact zr_z hC hr hlk (by first | rfl | omega) dX2_takes_18
set_option maxHeartbeats 1000000 in
set_option maxRecDepth 100000 in
theorem c_X2_takes {l : Launch} {D : va_G} {cI cZ cB cR : ClassId} {t byA len pl tk ta : Nat} {va : Int32} {by_ : Nat → Nat} {c9 : Nat} (hlen : len < 150) : mW l yX2_takes cX2_takes 2 (some .boolean) 0 0 D cI cZ cB cR [oT t byA len pl tk ta va, aI cI byA 150 by_] [oT t byA (len + 1) pl tk ta va, aI cI byA 150 (updN by_ len c9)] [.ref t, .int (nI c9)] (some (.int (bI true))) := by
  refine mW_of rfl (Nat.le_of_ble_eq_true rfl) ?_
  intro p e s m args below meth c hC hr hlk hK A hA hD H0 h0 hP hS ls hl
  have hP : va_P D vwCl [oT t byA len pl tk ta va, aI cI byA 150 by_] H0 := hP
  have hl : lv_has ls 2 [(0, .ref t), (1, .int (nI c9))] := hl
  obtain ⟨hx, hb, hml, hown, hts⟩ := id hC
  refine lv_aload_n hx hb dX2_takes_0 rfl (lv_at hl 0 rfl) ?_
  refine z_get (k := 1) zcX2 hC hK hP 0 rfl (by decide) lF_X2_15 rfl dX2_takes_1 ?_
  refine z0_lt (tgt := 17) hC dX2_takes_4 (by decide) (by omega) ?_
  refine lv_aload_n hx hb dX2_takes_7 rfl (lv_at hl 0 rfl) ?_
  refine z_get (k := 1) zcX2 hC hK hP 0 rfl (by decide) lF_X2_15 rfl dX2_takes_8 ?_
  refine lv_sipush (v := nI 150) hx hb dX2_takes_11 (by decide) ?_
  refine zc_lt (tgt := 19) hC dX2_takes_14 (by decide) (by omega) (by omega) (fun c14 => ?_) (fun c14 => by exfalso; omega)
  refine lv_aload_n hx hb dX2_takes_19 rfl (lv_at hl 0 rfl) ?_
  refine z_get (k := 0) zcX2 hC hK hP 0 rfl (by decide) lF_X2_9 rfl dX2_takes_20 ?_
  refine lv_aload_n hx hb dX2_takes_23 rfl (lv_at hl 0 rfl) ?_
  refine z_get (k := 1) zcX2 hC hK hP 0 rfl (by decide) lF_X2_15 rfl dX2_takes_24 ?_
  refine lv_iload_n hx hb dX2_takes_27 rfl (lv_at hl 1 rfl) ?_
  refine z_ast hC hK hP hD hS 1 rfl (by omega) (by decide) dX2_takes_28 (fun H locs hP hD hS => ?_)
  have hP : va_P D vwCl [oT t byA len pl tk ta va, aI cI byA 150 (updN by_ len c9)] H := hP
  have hD : va_D A [oT t byA len pl tk ta va, aI cI byA 150 (updN by_ len c9)] := hD
  refine lv_aload_n hx hb dX2_takes_29 rfl (lv_at hl 0 rfl) ?_
  refine lv_dup hx hb dX2_takes_30 rfl ?_
  refine z_get (k := 1) zcX2 hC hK hP 0 rfl (by decide) lF_X2_15 rfl dX2_takes_31 ?_
  refine lv_iconst (v := nI 1) hx hb dX2_takes_34 (by decide) ?_
  refine zi_add hC dX2_takes_35 ?_
  refine z_put (k := 1) zcX2 hC hK hP hD hS 0 rfl (by decide) lF_X2_15 rfl rfl rfl (Nat.le_of_ble_eq_true rfl) dX2_takes_36 (fun H locs hP hD hS => ?_)
  have hP : va_P D vwCl [oT t byA (len + 1) pl tk ta va, aI cI byA 150 (updN by_ len c9)] H := hP
  have hD : va_D A [oT t byA (len + 1) pl tk ta va, aI cI byA 150 (updN by_ len c9)] := hD
  refine lv_iconst (v := nI 1) hx hb dX2_takes_39 (by decide) ?_
  refine z_top (y := bI true) rfl ?_
  exact zw_z hC hr hlk hA h0 hP hS (by first | rfl | omega) dX2_takes_40
set_option maxHeartbeats 1000000 in
set_option maxRecDepth 100000 in
theorem c_X3_type_full {l : Launch} {D : va_G} {cI cZ cB cR : ClassId} {q t b b2 pp i1 i2 kept tn tw td : Nat} {tr : Int64} {byA pl tk ta : Nat} {va : Int32} {c9 : Nat} (hc : c9 < 256) : mR l yX3_type cX3_type 2 (some .int) 1 21 D cI cZ cB cR [oK q t b b2 pp i1 i2 kept tn tw td tr, oT t byA 150 pl tk ta va] [.ref q, .int (nI c9)] (some (.int (-3))) := by
  refine mR_of rfl (Nat.le_of_ble_eq_true rfl) ?_
  intro p e s m args below meth c hC hr hlk hK hP ls hl
  have hl : lv_has ls 2 [(0, .ref q), (1, .int (nI c9))] := hl
  obtain ⟨hx, hb, hml, hown, hts⟩ := id hC
  refine lv_iload_n hx hb dX3_type_0 rfl (lv_at hl 1 rfl) ?_
  refine z0_lt (tgt := 11) hC dX3_type_1 (by decide) (by omega) ?_
  refine lv_iload_n hx hb dX3_type_4 rfl (lv_at hl 1 rfl) ?_
  refine lv_sipush (v := nI 255) hx hb dX3_type_5 (by decide) ?_
  refine zc_le (tgt := 13) hC dX3_type_8 (by decide) (by omega) (by omega) (fun c8 => ?_) (fun c8 => by exfalso; omega)
  refine lv_aload_n hx hb dX3_type_13 rfl (lv_at hl 0 rfl) ?_
  refine z_get (k := 0) zcX3 hC hK hP 0 rfl (by decide) lF_X3_10 rfl dX3_type_14 ?_
  refine lv_iload_n hx hb dX3_type_17 rfl (lv_at hl 1 rfl) ?_
  refine zRVN (As := [.int (nI c9)]) (b := t) (rest := []) hC (c_X2_takes_full (l := l) ) lM_X3_58 vM_X2_takes (by decide) hK hP [1] rfl ⟨rfl, rfl, rfl⟩ rfl hl.1 rfl (Nat.le_of_ble_eq_true rfl) dX3_type_18 (by decide) ?_
  show W _ _ _ _ _ _ _ _ _ _ _ _ _ _ _ (F0 m 21 ls [.int (bI false)])
  refine zb_eq (tgt := 34) hC dX3_type_21 (by decide) (fun c21 => ?_) (fun c21 => by exfalso; cases c21)
  refine lv_bipush (v := (-3)) hx hb dX3_type_34 (by decide) ?_
  exact zr_i hC hr hlk (by first | rfl | omega) dX3_type_36
set_option maxHeartbeats 1000000 in
set_option maxRecDepth 100000 in
theorem c_X3_type {l : Launch} {D : va_G} {cI cZ cB cR : ClassId} {q t b b2 pp i1 i2 kept tn tw td : Nat} {tr : Int64} {byA len pl tk ta : Nat} {va : Int32} {by_ : Nat → Nat} {c9 : Nat} (hc : c9 < 256) (hlen : len < 150) : mW l yX3_type cX3_type 2 (some .int) 1 21 D cI cZ cB cR [oK q t b b2 pp i1 i2 kept tn tw td tr, oT t byA len pl tk ta va, aI cI byA 150 by_] [oK q t b b2 pp i1 i2 kept tn tw td tr, oT t byA (len + 1) pl tk ta va, aI cI byA 150 (updN by_ len c9)] [.ref q, .int (nI c9)] (some (.int (nI (len + 1)))) := by
  refine mW_of rfl (Nat.le_of_ble_eq_true rfl) ?_
  intro p e s m args below meth c hC hr hlk hK A hA hD H0 h0 hP hS ls hl
  have hP : va_P D vwCl [oK q t b b2 pp i1 i2 kept tn tw td tr, oT t byA len pl tk ta va, aI cI byA 150 by_] H0 := hP
  have hl : lv_has ls 2 [(0, .ref q), (1, .int (nI c9))] := hl
  obtain ⟨hx, hb, hml, hown, hts⟩ := id hC
  refine lv_iload_n hx hb dX3_type_0 rfl (lv_at hl 1 rfl) ?_
  refine z0_lt (tgt := 11) hC dX3_type_1 (by decide) (by omega) ?_
  refine lv_iload_n hx hb dX3_type_4 rfl (lv_at hl 1 rfl) ?_
  refine lv_sipush (v := nI 255) hx hb dX3_type_5 (by decide) ?_
  refine zc_le (tgt := 13) hC dX3_type_8 (by decide) (by omega) (by omega) (fun c8 => ?_) (fun c8 => by exfalso; omega)
  refine lv_aload_n hx hb dX3_type_13 rfl (lv_at hl 0 rfl) ?_
  refine z_get (k := 0) zcX3 hC hK hP 0 rfl (by decide) lF_X3_10 rfl dX3_type_14 ?_
  refine lv_iload_n hx hb dX3_type_17 rfl (lv_at hl 1 rfl) ?_
  refine zXVN (As := [.int (nI c9)]) (b := t) (rest := []) hC (c_X2_takes (l := l) (hlen := hlen)) lM_X3_58 vM_X2_takes (by decide) hK hP hD hS [1, 2] [t, byA] rfl (by decide) rfl rfl ⟨rfl, rfl, rfl⟩ rfl hl.1 rfl (Nat.le_of_ble_eq_true rfl) dX3_type_18 (by decide) (fun H locs hP hD hS => ?_)
  have hP : va_P D vwCl [oK q t b b2 pp i1 i2 kept tn tw td tr, oT t byA (len + 1) pl tk ta va, aI cI byA 150 (updN by_ len c9)] H := hP
  have hD : va_D A [oK q t b b2 pp i1 i2 kept tn tw td tr, oT t byA (len + 1) pl tk ta va, aI cI byA 150 (updN by_ len c9)] := hD
  show W _ _ _ _ _ _ _ _ _ _ _ _ _ _ _ (F0 m 21 ls [.int (bI true)])
  refine zb_eq (tgt := 34) hC dX3_type_21 (by decide) (fun c21 => by exfalso; cases c21) (fun c21 => ?_)
  refine lv_aload_n hx hb dX3_type_24 rfl (lv_at hl 0 rfl) ?_
  refine z_get (k := 0) zcX3 hC hK hP 0 rfl (by decide) lF_X3_10 rfl dX3_type_25 ?_
  refine z_get (k := 1) zcX2 hC hK hP 1 rfl (by decide) lF_X3_62 rfl dX3_type_28 ?_
  refine lv_goto (tgt := 36) hx hb dX3_type_31 (by decide) ?_
  exact zw_i hC hr hlk hA h0 hP hS (by first | rfl | omega) dX3_type_36
set_option maxHeartbeats 1000000 in
set_option maxRecDepth 100000 in
theorem c_X3_clear {l : Launch} {D : va_G} {cI cZ cB cR : ClassId} {q t b b2 pp i1 i2 kept tn tw td : Nat} {tr : Int64} {byA len pl tk ta : Nat} {va : Int32}  : mW l yX3_clear cX3_clear 2 (some .int) 0 0 D cI cZ cB cR [oK q t b b2 pp i1 i2 kept tn tw td tr, oT t byA len pl tk ta va] [oK q t b b2 pp i1 i2 kept tn tw td tr, oT t byA 0 pl tk ta va] [.ref q] (some (.int (nI len))) := by
  refine mW_of rfl (Nat.le_of_ble_eq_true rfl) ?_
  intro p e s m args below meth c hC hr hlk hK A hA hD H0 h0 hP hS ls hl
  have hP : va_P D vwCl [oK q t b b2 pp i1 i2 kept tn tw td tr, oT t byA len pl tk ta va] H0 := hP
  have hl : lv_has ls 2 [(0, .ref q)] := hl
  obtain ⟨hx, hb, hml, hown, hts⟩ := id hC
  refine lv_aload_n hx hb dX3_clear_0 rfl (lv_at hl 0 rfl) ?_
  refine z_get (k := 0) zcX3 hC hK hP 0 rfl (by decide) lF_X3_10 rfl dX3_clear_1 ?_
  refine z_get (k := 1) zcX2 hC hK hP 1 rfl (by decide) lF_X3_62 rfl dX3_clear_4 ?_
  refine lv_istore_n (lv' := [(1, .int (nI len)), (0, .ref q)]) hx hb dX3_clear_7 rfl hl (by decide) rfl (fun ls hl => ?_)
  refine lv_aload_n hx hb dX3_clear_8 rfl (lv_at hl 1 rfl) ?_
  refine z_get (k := 0) zcX3 hC hK hP 0 rfl (by decide) lF_X3_10 rfl dX3_clear_9 ?_
  refine lv_iconst (v := nI 0) hx hb dX3_clear_12 (by decide) ?_
  refine z_put (k := 1) zcX2 hC hK hP hD hS 1 rfl (by decide) lF_X3_62 rfl rfl rfl (Nat.le_of_ble_eq_true rfl) dX3_clear_13 (fun H locs hP hD hS => ?_)
  have hP : va_P D vwCl [oK q t b b2 pp i1 i2 kept tn tw td tr, oT t byA 0 pl tk ta va] H := hP
  have hD : va_D A [oK q t b b2 pp i1 i2 kept tn tw td tr, oT t byA 0 pl tk ta va] := hD
  refine lv_iload_n hx hb dX3_clear_16 rfl (lv_at hl 0 rfl) ?_
  exact zw_i hC hr hlk hA h0 hP hS (by first | rfl | omega) dX3_clear_17
set_option maxHeartbeats 1000000 in
set_option maxRecDepth 100000 in
theorem c_X3_decanter_bad {l : Launch} {D : va_G} {cI cZ cB cR : ClassId} {q t b b2 pp i1 i2 kept tn tw td : Nat} {tr : Int64} {n lvA aiA laA ac woA drA : Nat} {x w : Int32} (hn : n ≤ 6) (hbad : ¬ vp_in x n) : mR l yX3_decanter cX3_decanter 3 (some .int) 1 21 D cI cZ cB cR [oK q t b b2 pp i1 i2 kept tn tw td tr, oB b n lvA aiA laA ac woA drA] [.ref q, .int x, .int w] (some (.int (-1))) := by
  refine mR_of rfl (Nat.le_of_ble_eq_true rfl) ?_
  intro p e s m args below meth c hC hr hlk hK hP ls hl
  have hl : lv_has ls 3 [(0, .ref q), (1, .int x), (2, .int w)] := hl
  obtain ⟨hx, hb, hml, hown, hts⟩ := id hC
  refine lv_aload_n hx hb dX3_decanter_0 rfl (lv_at hl 0 rfl) ?_
  refine lv_iload_n hx hb dX3_decanter_1 rfl (lv_at hl 1 rfl) ?_
  refine zRV (As := [.int x]) (b := q) (rest := []) hC (c_X3_isDecanter (l := l) (g := false) (hn := by omega) (hg := ⟨fun h => (by cases h), fun h => absurd h hbad⟩)) lM_X3_76 vM_X3_isDecanter (by decide) hK hP [0, 1] rfl ⟨rfl, rfl, rfl⟩ rfl hl.1 rfl (Nat.le_of_ble_eq_true rfl) dX3_decanter_2 (by decide) ?_
  show W _ _ _ _ _ _ _ _ _ _ _ _ _ _ _ (F0 m 5 ls [.int (bI false)])
  refine zb_ne (tgt := 10) hC dX3_decanter_5 (by decide) (fun c5 => by exfalso; cases c5) (fun c5 => ?_)
  refine lv_iconst (v := (-1)) hx hb dX3_decanter_8 (by decide) ?_
  exact zr_i hC hr hlk (by first | rfl | omega) dX3_decanter_9
set_option maxHeartbeats 1000000 in
set_option maxRecDepth 100000 in
theorem c_X3_decanter_0 {l : Launch} {D : va_G} {cI cZ cB cR : ClassId} {q t b b2 pp i1 i2 kept tn tw td : Nat} {tr : Int64} {n lvA aiA laA ac woA drA : Nat} {pl pt pa mo dn ea bn stA k : Nat} {lv : Nat → Nat} {d : Nat} (hn : n ≤ 6) (hd : d < n)  : mR l yX3_decanter cX3_decanter 3 (some .int) 1 21 D cI cZ cB cR [oK q t b b2 pp i1 i2 kept tn tw td tr, oB b n lvA aiA laA ac woA drA, oP pp pl pt pa mo dn ea bn stA k, aI cI pl 6 lv] [.ref q, .int (nI d), .int (nI 0)] (some (.int (nI (lv d)))) := by
  refine mR_of rfl (Nat.le_of_ble_eq_true rfl) ?_
  intro p e s m args below meth c hC hr hlk hK hP ls hl
  have hl : lv_has ls 3 [(0, .ref q), (1, .int (nI d)), (2, .int (nI 0))] := hl
  obtain ⟨hx, hb, hml, hown, hts⟩ := id hC
  refine lv_aload_n hx hb dX3_decanter_0 rfl (lv_at hl 0 rfl) ?_
  refine lv_iload_n hx hb dX3_decanter_1 rfl (lv_at hl 1 rfl) ?_
  refine zRV (As := [.int (nI d)]) (b := q) (rest := []) hC (c_X3_isDecanter (l := l) (g := true) (hn := by omega) (hg := ⟨fun _ => vp_in_nI (by omega) (by omega), fun _ => rfl⟩)) lM_X3_76 vM_X3_isDecanter (by decide) hK hP [0, 1] rfl ⟨rfl, rfl, rfl⟩ rfl hl.1 rfl (Nat.le_of_ble_eq_true rfl) dX3_decanter_2 (by decide) ?_
  show W _ _ _ _ _ _ _ _ _ _ _ _ _ _ _ (F0 m 5 ls [.int (bI true)])
  refine zb_ne (tgt := 10) hC dX3_decanter_5 (by decide) (fun c5 => ?_) (fun c5 => by exfalso; cases c5)
  refine lv_iload_n hx hb dX3_decanter_10 rfl (lv_at hl 2 rfl) ?_
  refine lv_tableIn (off := 33) (tgt := 44) hx hb dX3_decanter_11 (by decide) (by decide) (by decide) (by decide) ?_
  refine lv_aload_n hx hb dX3_decanter_44 rfl (lv_at hl 0 rfl) ?_
  refine z_get (k := 3) zcX3 hC hK hP 0 rfl (by decide) lF_X3_29 rfl dX3_decanter_45 ?_
  refine z_get (k := 0) zcX0 hC hK hP 2 rfl (by decide) lF_X3_79 rfl dX3_decanter_48 ?_
  refine lv_iload_n hx hb dX3_decanter_51 rfl (lv_at hl 1 rfl) ?_
  refine z_ald hC hK hP 3 rfl (by omega) (by decide) dX3_decanter_52 ?_
  exact zr_i hC hr hlk (by first | rfl | omega) dX3_decanter_53
set_option maxHeartbeats 1000000 in
set_option maxRecDepth 100000 in
theorem c_X3_decanter_1 {l : Launch} {D : va_G} {cI cZ cB cR : ClassId} {q t b b2 pp i1 i2 kept tn tw td : Nat} {tr : Int64} {n lvA aiA laA ac woA drA : Nat} {ai : Nat → Nat} {d : Nat} (hn : n ≤ 6) (hd : d < n)  : mR l yX3_decanter cX3_decanter 3 (some .int) 1 21 D cI cZ cB cR [oK q t b b2 pp i1 i2 kept tn tw td tr, oB b n lvA aiA laA ac woA drA, aI cI aiA 6 ai] [.ref q, .int (nI d), .int (nI 1)] (some (.int (nI (ai d)))) := by
  refine mR_of rfl (Nat.le_of_ble_eq_true rfl) ?_
  intro p e s m args below meth c hC hr hlk hK hP ls hl
  have hl : lv_has ls 3 [(0, .ref q), (1, .int (nI d)), (2, .int (nI 1))] := hl
  obtain ⟨hx, hb, hml, hown, hts⟩ := id hC
  refine lv_aload_n hx hb dX3_decanter_0 rfl (lv_at hl 0 rfl) ?_
  refine lv_iload_n hx hb dX3_decanter_1 rfl (lv_at hl 1 rfl) ?_
  refine zRV (As := [.int (nI d)]) (b := q) (rest := []) hC (c_X3_isDecanter (l := l) (g := true) (hn := by omega) (hg := ⟨fun _ => vp_in_nI (by omega) (by omega), fun _ => rfl⟩)) lM_X3_76 vM_X3_isDecanter (by decide) hK hP [0, 1] rfl ⟨rfl, rfl, rfl⟩ rfl hl.1 rfl (Nat.le_of_ble_eq_true rfl) dX3_decanter_2 (by decide) ?_
  show W _ _ _ _ _ _ _ _ _ _ _ _ _ _ _ (F0 m 5 ls [.int (bI true)])
  refine zb_ne (tgt := 10) hC dX3_decanter_5 (by decide) (fun c5 => ?_) (fun c5 => by exfalso; cases c5)
  refine lv_iload_n hx hb dX3_decanter_10 rfl (lv_at hl 2 rfl) ?_
  refine lv_tableIn (off := 43) (tgt := 54) hx hb dX3_decanter_11 (by decide) (by decide) (by decide) (by decide) ?_
  refine lv_aload_n hx hb dX3_decanter_54 rfl (lv_at hl 0 rfl) ?_
  refine z_get (k := 1) zcX3 hC hK hP 0 rfl (by decide) lF_X3_19 rfl dX3_decanter_55 ?_
  refine z_get (k := 2) zcX1 hC hK hP 1 rfl (by decide) lF_X3_82 rfl dX3_decanter_58 ?_
  refine lv_iload_n hx hb dX3_decanter_61 rfl (lv_at hl 1 rfl) ?_
  refine z_ald hC hK hP 2 rfl (by omega) (by decide) dX3_decanter_62 ?_
  exact zr_i hC hr hlk (by first | rfl | omega) dX3_decanter_63
set_option maxHeartbeats 1000000 in
set_option maxRecDepth 100000 in
theorem c_X3_decanter_2 {l : Launch} {D : va_G} {cI cZ cB cR : ClassId} {q t b b2 pp i1 i2 kept tn tw td : Nat} {tr : Int64} {n lvA aiA laA ac woA drA : Nat} {pl pt pa mo dn ea bn stA k : Nat} {te : Nat → Nat} {d : Nat} (hn : n ≤ 6) (hd : d < n)  : mR l yX3_decanter cX3_decanter 3 (some .int) 1 21 D cI cZ cB cR [oK q t b b2 pp i1 i2 kept tn tw td tr, oB b n lvA aiA laA ac woA drA, oP pp pl pt pa mo dn ea bn stA k, aI cI pt 6 te] [.ref q, .int (nI d), .int (nI 2)] (some (.int (nI (te d)))) := by
  refine mR_of rfl (Nat.le_of_ble_eq_true rfl) ?_
  intro p e s m args below meth c hC hr hlk hK hP ls hl
  have hl : lv_has ls 3 [(0, .ref q), (1, .int (nI d)), (2, .int (nI 2))] := hl
  obtain ⟨hx, hb, hml, hown, hts⟩ := id hC
  refine lv_aload_n hx hb dX3_decanter_0 rfl (lv_at hl 0 rfl) ?_
  refine lv_iload_n hx hb dX3_decanter_1 rfl (lv_at hl 1 rfl) ?_
  refine zRV (As := [.int (nI d)]) (b := q) (rest := []) hC (c_X3_isDecanter (l := l) (g := true) (hn := by omega) (hg := ⟨fun _ => vp_in_nI (by omega) (by omega), fun _ => rfl⟩)) lM_X3_76 vM_X3_isDecanter (by decide) hK hP [0, 1] rfl ⟨rfl, rfl, rfl⟩ rfl hl.1 rfl (Nat.le_of_ble_eq_true rfl) dX3_decanter_2 (by decide) ?_
  show W _ _ _ _ _ _ _ _ _ _ _ _ _ _ _ (F0 m 5 ls [.int (bI true)])
  refine zb_ne (tgt := 10) hC dX3_decanter_5 (by decide) (fun c5 => ?_) (fun c5 => by exfalso; cases c5)
  refine lv_iload_n hx hb dX3_decanter_10 rfl (lv_at hl 2 rfl) ?_
  refine lv_tableIn (off := 53) (tgt := 64) hx hb dX3_decanter_11 (by decide) (by decide) (by decide) (by decide) ?_
  refine lv_aload_n hx hb dX3_decanter_64 rfl (lv_at hl 0 rfl) ?_
  refine z_get (k := 3) zcX3 hC hK hP 0 rfl (by decide) lF_X3_29 rfl dX3_decanter_65 ?_
  refine z_get (k := 1) zcX0 hC hK hP 2 rfl (by decide) lF_X3_85 rfl dX3_decanter_68 ?_
  refine lv_iload_n hx hb dX3_decanter_71 rfl (lv_at hl 1 rfl) ?_
  refine z_ald hC hK hP 3 rfl (by omega) (by decide) dX3_decanter_72 ?_
  exact zr_i hC hr hlk (by first | rfl | omega) dX3_decanter_73
set_option maxHeartbeats 1000000 in
set_option maxRecDepth 100000 in
theorem c_X3_decanter_3 {l : Launch} {D : va_G} {cI cZ cB cR : ClassId} {q t b b2 pp i1 i2 kept tn tw td : Nat} {tr : Int64} {n lvA aiA laA ac woA drA : Nat} {pl pt pa mo dn ea bn stA k : Nat} {la : Nat → Nat} {d : Nat} (hn : n ≤ 6) (hd : d < n)  : mR l yX3_decanter cX3_decanter 3 (some .int) 1 21 D cI cZ cB cR [oK q t b b2 pp i1 i2 kept tn tw td tr, oB b n lvA aiA laA ac woA drA, oP pp pl pt pa mo dn ea bn stA k, aI cI pa 6 la] [.ref q, .int (nI d), .int (nI 3)] (some (.int (nI (la d)))) := by
  refine mR_of rfl (Nat.le_of_ble_eq_true rfl) ?_
  intro p e s m args below meth c hC hr hlk hK hP ls hl
  have hl : lv_has ls 3 [(0, .ref q), (1, .int (nI d)), (2, .int (nI 3))] := hl
  obtain ⟨hx, hb, hml, hown, hts⟩ := id hC
  refine lv_aload_n hx hb dX3_decanter_0 rfl (lv_at hl 0 rfl) ?_
  refine lv_iload_n hx hb dX3_decanter_1 rfl (lv_at hl 1 rfl) ?_
  refine zRV (As := [.int (nI d)]) (b := q) (rest := []) hC (c_X3_isDecanter (l := l) (g := true) (hn := by omega) (hg := ⟨fun _ => vp_in_nI (by omega) (by omega), fun _ => rfl⟩)) lM_X3_76 vM_X3_isDecanter (by decide) hK hP [0, 1] rfl ⟨rfl, rfl, rfl⟩ rfl hl.1 rfl (Nat.le_of_ble_eq_true rfl) dX3_decanter_2 (by decide) ?_
  show W _ _ _ _ _ _ _ _ _ _ _ _ _ _ _ (F0 m 5 ls [.int (bI true)])
  refine zb_ne (tgt := 10) hC dX3_decanter_5 (by decide) (fun c5 => ?_) (fun c5 => by exfalso; cases c5)
  refine lv_iload_n hx hb dX3_decanter_10 rfl (lv_at hl 2 rfl) ?_
  refine lv_tableIn (off := 63) (tgt := 74) hx hb dX3_decanter_11 (by decide) (by decide) (by decide) (by decide) ?_
  refine lv_aload_n hx hb dX3_decanter_74 rfl (lv_at hl 0 rfl) ?_
  refine z_get (k := 3) zcX3 hC hK hP 0 rfl (by decide) lF_X3_29 rfl dX3_decanter_75 ?_
  refine z_get (k := 2) zcX0 hC hK hP 2 rfl (by decide) lF_X3_88 rfl dX3_decanter_78 ?_
  refine lv_iload_n hx hb dX3_decanter_81 rfl (lv_at hl 1 rfl) ?_
  refine z_ald hC hK hP 3 rfl (by omega) (by decide) dX3_decanter_82 ?_
  exact zr_i hC hr hlk (by first | rfl | omega) dX3_decanter_83
set_option maxHeartbeats 1000000 in
set_option maxRecDepth 100000 in
theorem c_X3_decanter_4 {l : Launch} {D : va_G} {cI cZ cB cR : ClassId} {q t b b2 pp i1 i2 kept tn tw td : Nat} {tr : Int64} {n lvA aiA laA ac woA drA : Nat} {pl pt pa mo dn ea bn stA k : Nat} {lv : Nat → Nat} {ai : Nat → Nat} {d : Nat} (hn : n ≤ 6) (hd : d < n) (hlv : ∀ i, lv i ≤ 40) (hai : ∀ i, ai i ≤ 5) : mR l yX3_decanter cX3_decanter 3 (some .int) 1 23 D cI cZ cB cR [oK q t b b2 pp i1 i2 kept tn tw td tr, oB b n lvA aiA laA ac woA drA, aI cI aiA 6 ai, oP pp pl pt pa mo dn ea bn stA k, aI cI pl 6 lv] [.ref q, .int (nI d), .int (nI 4)] (some (.int (spanF (lv d) (ai d)))) := by
  refine mR_of rfl (Nat.le_of_ble_eq_true rfl) ?_
  intro p e s m args below meth c hC hr hlk hK hP ls hl
  have hl : lv_has ls 3 [(0, .ref q), (1, .int (nI d)), (2, .int (nI 4))] := hl
  obtain ⟨hx, hb, hml, hown, hts⟩ := id hC
  refine lv_aload_n hx hb dX3_decanter_0 rfl (lv_at hl 0 rfl) ?_
  refine lv_iload_n hx hb dX3_decanter_1 rfl (lv_at hl 1 rfl) ?_
  refine zRV (As := [.int (nI d)]) (b := q) (rest := []) hC (c_X3_isDecanter (l := l) (g := true) (hn := by omega) (hg := ⟨fun _ => vp_in_nI (by omega) (by omega), fun _ => rfl⟩)) lM_X3_76 vM_X3_isDecanter (by decide) hK hP [0, 1] rfl ⟨rfl, rfl, rfl⟩ rfl hl.1 rfl (Nat.le_of_ble_eq_true rfl) dX3_decanter_2 (by decide) ?_
  show W _ _ _ _ _ _ _ _ _ _ _ _ _ _ _ (F0 m 5 ls [.int (bI true)])
  refine zb_ne (tgt := 10) hC dX3_decanter_5 (by decide) (fun c5 => ?_) (fun c5 => by exfalso; cases c5)
  refine lv_iload_n hx hb dX3_decanter_10 rfl (lv_at hl 2 rfl) ?_
  refine lv_tableIn (off := 73) (tgt := 84) hx hb dX3_decanter_11 (by decide) (by decide) (by decide) (by decide) ?_
  refine lv_aload_n hx hb dX3_decanter_84 rfl (lv_at hl 0 rfl) ?_
  refine lv_iload_n hx hb dX3_decanter_85 rfl (lv_at hl 1 rfl) ?_
  refine zRV (As := [.int (nI d)]) (b := q) (rest := []) hC (c_X3_span (l := l) (hn := hn) (hd := hd) (hlv := hlv) (hai := hai)) lM_X3_91 vM_X3_span (by decide) hK hP [0, 1, 2, 3, 4] rfl ⟨rfl, rfl, rfl⟩ rfl hl.1 rfl (Nat.le_of_ble_eq_true rfl) dX3_decanter_86 (by decide) ?_
  show W _ _ _ _ _ _ _ _ _ _ _ _ _ _ _ (F0 m 89 ls [.int (spanF (lv d) (ai d))])
  exact zr_i hC hr hlk (by first | rfl | omega) dX3_decanter_89
set_option maxHeartbeats 1000000 in
set_option maxRecDepth 100000 in
theorem c_X3_decanter_out {l : Launch} {D : va_G} {cI cZ cB cR : ClassId} {q t b b2 pp i1 i2 kept tn tw td : Nat} {tr : Int64} {n lvA aiA laA ac woA drA : Nat} {d : Nat} {w : Int32} (hn : n ≤ 6) (hd : d < n) (hwo : w.toInt < 0 ∨ 4 < w.toInt) : mR l yX3_decanter cX3_decanter 3 (some .int) 1 21 D cI cZ cB cR [oK q t b b2 pp i1 i2 kept tn tw td tr, oB b n lvA aiA laA ac woA drA] [.ref q, .int (nI d), .int w] (some (.int (-1))) := by
  refine mR_of rfl (Nat.le_of_ble_eq_true rfl) ?_
  intro p e s m args below meth c hC hr hlk hK hP ls hl
  have hl : lv_has ls 3 [(0, .ref q), (1, .int (nI d)), (2, .int w)] := hl
  obtain ⟨hx, hb, hml, hown, hts⟩ := id hC
  refine lv_aload_n hx hb dX3_decanter_0 rfl (lv_at hl 0 rfl) ?_
  refine lv_iload_n hx hb dX3_decanter_1 rfl (lv_at hl 1 rfl) ?_
  refine zRV (As := [.int (nI d)]) (b := q) (rest := []) hC (c_X3_isDecanter (l := l) (g := true) (hn := by omega) (hg := ⟨fun _ => vp_in_nI (by omega) (by omega), fun _ => rfl⟩)) lM_X3_76 vM_X3_isDecanter (by decide) hK hP [0, 1] rfl ⟨rfl, rfl, rfl⟩ rfl hl.1 rfl (Nat.le_of_ble_eq_true rfl) dX3_decanter_2 (by decide) ?_
  show W _ _ _ _ _ _ _ _ _ _ _ _ _ _ _ (F0 m 5 ls [.int (bI true)])
  refine zb_ne (tgt := 10) hC dX3_decanter_5 (by decide) (fun c5 => ?_) (fun c5 => by exfalso; cases c5)
  refine lv_iload_n hx hb dX3_decanter_10 rfl (lv_at hl 2 rfl) ?_
  refine lv_tableOut (tgt := 90) hx hb dX3_decanter_11 hwo (by decide) ?_
  refine lv_iconst (v := (-1)) hx hb dX3_decanter_90 (by decide) ?_
  exact zr_i hC hr hlk (by first | rfl | omega) dX3_decanter_91
set_option maxHeartbeats 1000000 in
set_option maxRecDepth 100000 in
theorem c_X3_act_bad {l : Launch} {D : va_G} {cI cZ cB cR : ClassId} {q t b b2 pp i1 i2 kept tn tw td : Nat} {tr : Int64} {n lvA aiA laA ac woA drA : Nat} {x w : Int32} (hac : ac ≤ 5) (hbad : ¬ vp_in x ac) : mR l yX3_act cX3_act 3 (some .int) 1 21 D cI cZ cB cR [oK q t b b2 pp i1 i2 kept tn tw td tr, oB b n lvA aiA laA ac woA drA] [.ref q, .int x, .int w] (some (.int (-1))) := by
  refine mR_of rfl (Nat.le_of_ble_eq_true rfl) ?_
  intro p e s m args below meth c hC hr hlk hK hP ls hl
  have hl : lv_has ls 3 [(0, .ref q), (1, .int x), (2, .int w)] := hl
  obtain ⟨hx, hb, hml, hown, hts⟩ := id hC
  refine lv_aload_n hx hb dX3_act_0 rfl (lv_at hl 0 rfl) ?_
  refine lv_iload_n hx hb dX3_act_1 rfl (lv_at hl 1 rfl) ?_
  refine zRV (As := [.int x]) (b := q) (rest := []) hC (c_X3_isAct (l := l) (g := false) (hn := by omega) (hg := ⟨fun h => (by cases h), fun h => absurd h hbad⟩)) lM_X3_95 vM_X3_isAct (by decide) hK hP [0, 1] rfl ⟨rfl, rfl, rfl⟩ rfl hl.1 rfl (Nat.le_of_ble_eq_true rfl) dX3_act_2 (by decide) ?_
  show W _ _ _ _ _ _ _ _ _ _ _ _ _ _ _ (F0 m 5 ls [.int (bI false)])
  refine zb_ne (tgt := 10) hC dX3_act_5 (by decide) (fun c5 => by exfalso; cases c5) (fun c5 => ?_)
  refine lv_iconst (v := (-1)) hx hb dX3_act_8 (by decide) ?_
  exact zr_i hC hr hlk (by first | rfl | omega) dX3_act_9
set_option maxHeartbeats 1000000 in
set_option maxRecDepth 100000 in
theorem c_X3_act_0 {l : Launch} {D : va_G} {cI cZ cB cR : ClassId} {q t b b2 pp i1 i2 kept tn tw td : Nat} {tr : Int64} {n lvA aiA laA ac woA drA : Nat} {wo : Nat → Nat} {a : Nat} (hac : ac ≤ 5) (ha : a < ac)  : mR l yX3_act cX3_act 3 (some .int) 1 21 D cI cZ cB cR [oK q t b b2 pp i1 i2 kept tn tw td tr, oB b n lvA aiA laA ac woA drA, aI cI woA 5 wo] [.ref q, .int (nI a), .int (nI 0)] (some (.int (nI (wo a)))) := by
  refine mR_of rfl (Nat.le_of_ble_eq_true rfl) ?_
  intro p e s m args below meth c hC hr hlk hK hP ls hl
  have hl : lv_has ls 3 [(0, .ref q), (1, .int (nI a)), (2, .int (nI 0))] := hl
  obtain ⟨hx, hb, hml, hown, hts⟩ := id hC
  refine lv_aload_n hx hb dX3_act_0 rfl (lv_at hl 0 rfl) ?_
  refine lv_iload_n hx hb dX3_act_1 rfl (lv_at hl 1 rfl) ?_
  refine zRV (As := [.int (nI a)]) (b := q) (rest := []) hC (c_X3_isAct (l := l) (g := true) (hn := by omega) (hg := ⟨fun _ => vp_in_nI (by omega) (by omega), fun _ => rfl⟩)) lM_X3_95 vM_X3_isAct (by decide) hK hP [0, 1] rfl ⟨rfl, rfl, rfl⟩ rfl hl.1 rfl (Nat.le_of_ble_eq_true rfl) dX3_act_2 (by decide) ?_
  show W _ _ _ _ _ _ _ _ _ _ _ _ _ _ _ (F0 m 5 ls [.int (bI true)])
  refine zb_ne (tgt := 10) hC dX3_act_5 (by decide) (fun c5 => ?_) (fun c5 => by exfalso; cases c5)
  refine lv_iload_n hx hb dX3_act_10 rfl (lv_at hl 2 rfl) ?_
  refine lv_tableIn (off := 29) (tgt := 40) hx hb dX3_act_11 (by decide) (by decide) (by decide) (by decide) ?_
  refine lv_aload_n hx hb dX3_act_40 rfl (lv_at hl 0 rfl) ?_
  refine z_get (k := 1) zcX3 hC hK hP 0 rfl (by decide) lF_X3_19 rfl dX3_act_41 ?_
  refine z_get (k := 5) zcX1 hC hK hP 1 rfl (by decide) lF_X3_98 rfl dX3_act_44 ?_
  refine lv_iload_n hx hb dX3_act_47 rfl (lv_at hl 1 rfl) ?_
  refine z_ald hC hK hP 2 rfl (by omega) (by decide) dX3_act_48 ?_
  exact zr_i hC hr hlk (by first | rfl | omega) dX3_act_49
set_option maxHeartbeats 1000000 in
set_option maxRecDepth 100000 in
theorem c_X3_act_1 {l : Launch} {D : va_G} {cI cZ cB cR : ClassId} {q t b b2 pp i1 i2 kept tn tw td : Nat} {tr : Int64} {n lvA aiA laA ac woA drA : Nat} {r : Nat → Nat} {dr : Nat → Nat → Nat} {a : Nat} (hn : n ≤ 6) (hac : ac ≤ 5) (hdr : ∀ i j, dr i j ≤ 9) (ha : a < ac) : mR l yX3_act cX3_act 3 (some .int) 2 45 D cI cZ cB cR [oK q t b b2 pp i1 i2 kept tn tw td tr, oB b n lvA aiA laA ac woA drA, aR cR drA 5 r, aI cI (r 0) 6 (dr 0), aI cI (r 1) 6 (dr 1), aI cI (r 2) 6 (dr 2), aI cI (r 3) 6 (dr 3), aI cI (r 4) 6 (dr 4)] [.ref q, .int (nI a), .int (nI 1)] (some (.int (nI (orr (fun i => decide (0 < dr a i)) n)))) := by
  refine mR_of rfl (Nat.le_of_ble_eq_true rfl) ?_
  intro p e s m args below meth c hC hr hlk hK hP ls hl
  have hl : lv_has ls 3 [(0, .ref q), (1, .int (nI a)), (2, .int (nI 1))] := hl
  obtain ⟨hx, hb, hml, hown, hts⟩ := id hC
  refine lv_aload_n hx hb dX3_act_0 rfl (lv_at hl 0 rfl) ?_
  refine lv_iload_n hx hb dX3_act_1 rfl (lv_at hl 1 rfl) ?_
  refine zRV (As := [.int (nI a)]) (b := q) (rest := []) hC (c_X3_isAct (l := l) (g := true) (hn := by omega) (hg := ⟨fun _ => vp_in_nI (by omega) (by omega), fun _ => rfl⟩)) lM_X3_95 vM_X3_isAct (by decide) hK hP [0, 1] rfl ⟨rfl, rfl, rfl⟩ rfl hl.1 rfl (Nat.le_of_ble_eq_true rfl) dX3_act_2 (by decide) ?_
  show W _ _ _ _ _ _ _ _ _ _ _ _ _ _ _ (F0 m 5 ls [.int (bI true)])
  refine zb_ne (tgt := 10) hC dX3_act_5 (by decide) (fun c5 => ?_) (fun c5 => by exfalso; cases c5)
  refine lv_iload_n hx hb dX3_act_10 rfl (lv_at hl 2 rfl) ?_
  refine lv_tableIn (off := 39) (tgt := 50) hx hb dX3_act_11 (by decide) (by decide) (by decide) (by decide) ?_
  refine lv_aload_n hx hb dX3_act_50 rfl (lv_at hl 0 rfl) ?_
  refine z_get (k := 1) zcX3 hC hK hP 0 rfl (by decide) lF_X3_19 rfl dX3_act_51 ?_
  refine lv_iload_n hx hb dX3_act_54 rfl (lv_at hl 1 rfl) ?_
  refine zRVN (As := [.int (nI a)]) (b := b) (rest := []) hC (c_X1_qualitiesNeeded (l := l) (hn := hn) (hac := hac) (hdr := hdr) (ha := ha)) lM_X3_101 vM_X1_qualitiesNeeded (by decide) hK hP [1, 2, 3, 4, 5, 6, 7] rfl ⟨rfl, rfl, rfl⟩ rfl hl.1 rfl (Nat.le_of_ble_eq_true rfl) dX3_act_55 (by decide) ?_
  show W _ _ _ _ _ _ _ _ _ _ _ _ _ _ _ (F0 m 58 ls [.int (nI (orr (fun i => decide (0 < dr a i)) n))])
  exact zr_i hC hr hlk (by first | rfl | omega) dX3_act_58
set_option maxHeartbeats 1000000 in
set_option maxRecDepth 100000 in
theorem c_X3_act_2 {l : Launch} {D : va_G} {cI cZ cB cR : ClassId} {q t b b2 pp i1 i2 kept tn tw td : Nat} {tr : Int64} {n lvA aiA laA ac woA drA : Nat} {pl pt pa mo dn ea bn stA k : Nat} {a : Nat} (hac : ac ≤ 5) (ha : a < ac) (hdn : dn < 32) : mR l yX3_act cX3_act 3 (some .int) 2 42 D cI cZ cB cR [oK q t b b2 pp i1 i2 kept tn tw td tr, oB b n lvA aiA laA ac woA drA, oP pp pl pt pa mo dn ea bn stA k] [.ref q, .int (nI a), .int (nI 2)] (some (.int (bI (dn.testBit a)))) := by
  refine mR_of rfl (Nat.le_of_ble_eq_true rfl) ?_
  intro p e s m args below meth c hC hr hlk hK hP ls hl
  have hl : lv_has ls 3 [(0, .ref q), (1, .int (nI a)), (2, .int (nI 2))] := hl
  obtain ⟨hx, hb, hml, hown, hts⟩ := id hC
  refine lv_aload_n hx hb dX3_act_0 rfl (lv_at hl 0 rfl) ?_
  refine lv_iload_n hx hb dX3_act_1 rfl (lv_at hl 1 rfl) ?_
  refine zRV (As := [.int (nI a)]) (b := q) (rest := []) hC (c_X3_isAct (l := l) (g := true) (hn := by omega) (hg := ⟨fun _ => vp_in_nI (by omega) (by omega), fun _ => rfl⟩)) lM_X3_95 vM_X3_isAct (by decide) hK hP [0, 1] rfl ⟨rfl, rfl, rfl⟩ rfl hl.1 rfl (Nat.le_of_ble_eq_true rfl) dX3_act_2 (by decide) ?_
  show W _ _ _ _ _ _ _ _ _ _ _ _ _ _ _ (F0 m 5 ls [.int (bI true)])
  refine zb_ne (tgt := 10) hC dX3_act_5 (by decide) (fun c5 => ?_) (fun c5 => by exfalso; cases c5)
  refine lv_iload_n hx hb dX3_act_10 rfl (lv_at hl 2 rfl) ?_
  refine lv_tableIn (off := 48) (tgt := 59) hx hb dX3_act_11 (by decide) (by decide) (by decide) (by decide) ?_
  refine lv_aload_n hx hb dX3_act_59 rfl (lv_at hl 0 rfl) ?_
  refine lv_iload_n hx hb dX3_act_60 rfl (lv_at hl 1 rfl) ?_
  refine zRV (As := [.int (nI a)]) (b := q) (rest := []) hC (c_X3_isDone (l := l) (a := a) (ha := by omega) (hdn := by omega)) lM_X3_104 vM_X3_isDone (by decide) hK hP [0, 2] rfl ⟨rfl, rfl, rfl⟩ rfl hl.1 rfl (Nat.le_of_ble_eq_true rfl) dX3_act_61 (by decide) ?_
  show W _ _ _ _ _ _ _ _ _ _ _ _ _ _ _ (F0 m 64 ls [.int (bI (dn.testBit a))])
  refine zb_eq (tgt := 71) hC dX3_act_64 (by decide) (fun c64 => ?_) (fun c64 => ?_)
  · skip
    refine lv_iconst (v := nI 0) hx hb dX3_act_71 (by decide) ?_
    exact zr_i hC hr hlk (by rw [c64]; rfl) dX3_act_72
  · skip
    refine lv_iconst (v := nI 1) hx hb dX3_act_67 (by decide) ?_
    refine lv_goto (tgt := 72) hx hb dX3_act_68 (by decide) ?_
    exact zr_i hC hr hlk (by rw [c64]; rfl) dX3_act_72
set_option maxHeartbeats 1000000 in
set_option maxRecDepth 100000 in
theorem c_X3_act_3 {l : Launch} {D : va_G} {cI cZ cB cR : ClassId} {q t b b2 pp i1 i2 kept tn tw td : Nat} {tr : Int64} {n lvA aiA laA ac woA drA : Nat} {r : Nat → Nat} {dr : Nat → Nat → Nat} {pl pt pa mo dn ea bn stA k : Nat} {la : Nat → Nat} {lv : Nat → Nat} {ai : Nat → Nat} {a : Nat} {E : Nat → Bool} (hn : n ≤ 6) (hac : ac ≤ 5) (hla : ∀ i, i < n → la i < n) (hdr : ∀ i j, dr i j ≤ 9) (hlv : ∀ i, lv i ≤ 40) (hai : ∀ i, ai i ≤ 5) (ha : a < ac) (hE : ∀ a, a < ac → (E a = true ↔ ∀ d, d < n → dr a (la d) ≤ lv d)) (hdn : dn < 32)  : mR l yX3_act cX3_act 3 (some .int) 5 114 D cI cZ cB cR [oK q t b b2 pp i1 i2 kept tn tw td tr, oB b n lvA aiA laA ac woA drA, aR cR drA 5 r, aI cI (r 0) 6 (dr 0), aI cI (r 1) 6 (dr 1), aI cI (r 2) 6 (dr 2), aI cI (r 3) 6 (dr 3), aI cI (r 4) 6 (dr 4), oP pp pl pt pa mo dn ea bn stA k, aI cI pa 6 la, aI cI pl 6 lv, aI cI aiA 6 ai] [.ref q, .int (nI a), .int (nI 3)] (some (.int (if dn.testBit a || !E a then -9 else nI (lmin lv ai (fun d => dr a (la d)) n)))) := by
  refine mR_of rfl (Nat.le_of_ble_eq_true rfl) ?_
  intro p e s m args below meth c hC hr hlk hK hP ls hl
  have hl : lv_has ls 3 [(0, .ref q), (1, .int (nI a)), (2, .int (nI 3))] := hl
  obtain ⟨hx, hb, hml, hown, hts⟩ := id hC
  refine lv_aload_n hx hb dX3_act_0 rfl (lv_at hl 0 rfl) ?_
  refine lv_iload_n hx hb dX3_act_1 rfl (lv_at hl 1 rfl) ?_
  refine zRV (As := [.int (nI a)]) (b := q) (rest := []) hC (c_X3_isAct (l := l) (g := true) (hn := by omega) (hg := ⟨fun _ => vp_in_nI (by omega) (by omega), fun _ => rfl⟩)) lM_X3_95 vM_X3_isAct (by decide) hK hP [0, 1] rfl ⟨rfl, rfl, rfl⟩ rfl hl.1 rfl (Nat.le_of_ble_eq_true rfl) dX3_act_2 (by decide) ?_
  show W _ _ _ _ _ _ _ _ _ _ _ _ _ _ _ (F0 m 5 ls [.int (bI true)])
  refine zb_ne (tgt := 10) hC dX3_act_5 (by decide) (fun c5 => ?_) (fun c5 => by exfalso; cases c5)
  refine lv_iload_n hx hb dX3_act_10 rfl (lv_at hl 2 rfl) ?_
  refine lv_tableIn (off := 62) (tgt := 73) hx hb dX3_act_11 (by decide) (by decide) (by decide) (by decide) ?_
  refine lv_aload_n hx hb dX3_act_73 rfl (lv_at hl 0 rfl) ?_
  refine lv_iload_n hx hb dX3_act_74 rfl (lv_at hl 1 rfl) ?_
  refine zRV (As := [.int (nI a)]) (b := q) (rest := []) hC (c_X3_lastMonth (l := l) (E := E) (hn := hn) (hac := hac) (hla := hla) (hdr := hdr) (hlv := hlv) (hai := hai) (ha := ha) (hE := hE) (hdn := hdn)) lM_X3_107 vM_X3_lastMonth (by decide) hK hP [0, 1, 2, 3, 4, 5, 6, 7, 8, 9, 10, 11] rfl ⟨rfl, rfl, rfl⟩ rfl hl.1 rfl (Nat.le_of_ble_eq_true rfl) dX3_act_75 (by decide) ?_
  show W _ _ _ _ _ _ _ _ _ _ _ _ _ _ _ (F0 m 78 ls [.int (if dn.testBit a || !E a then -9 else nI (lmin lv ai (fun d => dr a (la d)) n))])
  exact zr_i hC hr hlk (by first | rfl | omega) dX3_act_78
set_option maxHeartbeats 1000000 in
set_option maxRecDepth 100000 in
theorem c_X3_act_out {l : Launch} {D : va_G} {cI cZ cB cR : ClassId} {q t b b2 pp i1 i2 kept tn tw td : Nat} {tr : Int64} {n lvA aiA laA ac woA drA : Nat} {a : Nat} {w : Int32} (hac : ac ≤ 5) (ha : a < ac) (hwo : w.toInt < 0 ∨ 3 < w.toInt) : mR l yX3_act cX3_act 3 (some .int) 1 21 D cI cZ cB cR [oK q t b b2 pp i1 i2 kept tn tw td tr, oB b n lvA aiA laA ac woA drA] [.ref q, .int (nI a), .int w] (some (.int (-1))) := by
  refine mR_of rfl (Nat.le_of_ble_eq_true rfl) ?_
  intro p e s m args below meth c hC hr hlk hK hP ls hl
  have hl : lv_has ls 3 [(0, .ref q), (1, .int (nI a)), (2, .int w)] := hl
  obtain ⟨hx, hb, hml, hown, hts⟩ := id hC
  refine lv_aload_n hx hb dX3_act_0 rfl (lv_at hl 0 rfl) ?_
  refine lv_iload_n hx hb dX3_act_1 rfl (lv_at hl 1 rfl) ?_
  refine zRV (As := [.int (nI a)]) (b := q) (rest := []) hC (c_X3_isAct (l := l) (g := true) (hn := by omega) (hg := ⟨fun _ => vp_in_nI (by omega) (by omega), fun _ => rfl⟩)) lM_X3_95 vM_X3_isAct (by decide) hK hP [0, 1] rfl ⟨rfl, rfl, rfl⟩ rfl hl.1 rfl (Nat.le_of_ble_eq_true rfl) dX3_act_2 (by decide) ?_
  show W _ _ _ _ _ _ _ _ _ _ _ _ _ _ _ (F0 m 5 ls [.int (bI true)])
  refine zb_ne (tgt := 10) hC dX3_act_5 (by decide) (fun c5 => ?_) (fun c5 => by exfalso; cases c5)
  refine lv_iload_n hx hb dX3_act_10 rfl (lv_at hl 2 rfl) ?_
  refine lv_tableOut (tgt := 79) hx hb dX3_act_11 hwo (by decide) ?_
  refine lv_iconst (v := (-1)) hx hb dX3_act_79 (by decide) ?_
  exact zr_i hC hr hlk (by first | rfl | omega) dX3_act_80
set_option maxHeartbeats 1000000 in
set_option maxRecDepth 100000 in
theorem c_X3_needs_badA {l : Launch} {D : va_G} {cI cZ cB cR : ClassId} {q t b b2 pp i1 i2 kept tn tw td : Nat} {tr : Int64} {n lvA aiA laA ac woA drA : Nat} {x w : Int32} (hac : ac ≤ 5) (hbad : ¬ vp_in x ac) : mR l yX3_needs cX3_needs 3 (some .int) 1 21 D cI cZ cB cR [oK q t b b2 pp i1 i2 kept tn tw td tr, oB b n lvA aiA laA ac woA drA] [.ref q, .int x, .int w] (some (.int (-1))) := by
  refine mR_of rfl (Nat.le_of_ble_eq_true rfl) ?_
  intro p e s m args below meth c hC hr hlk hK hP ls hl
  have hl : lv_has ls 3 [(0, .ref q), (1, .int x), (2, .int w)] := hl
  obtain ⟨hx, hb, hml, hown, hts⟩ := id hC
  refine lv_aload_n hx hb dX3_needs_0 rfl (lv_at hl 0 rfl) ?_
  refine lv_iload_n hx hb dX3_needs_1 rfl (lv_at hl 1 rfl) ?_
  refine zRV (As := [.int x]) (b := q) (rest := []) hC (c_X3_isAct (l := l) (g := false) (hn := by omega) (hg := ⟨fun h => (by cases h), fun h => absurd h hbad⟩)) lM_X3_95 vM_X3_isAct (by decide) hK hP [0, 1] rfl ⟨rfl, rfl, rfl⟩ rfl hl.1 rfl (Nat.le_of_ble_eq_true rfl) dX3_needs_2 (by decide) ?_
  show W _ _ _ _ _ _ _ _ _ _ _ _ _ _ _ (F0 m 5 ls [.int (bI false)])
  refine zb_eq (tgt := 16) hC dX3_needs_5 (by decide) (fun c5 => ?_) (fun c5 => by exfalso; cases c5)
  refine lv_iconst (v := (-1)) hx hb dX3_needs_16 (by decide) ?_
  exact zr_i hC hr hlk (by first | rfl | omega) dX3_needs_17
set_option maxHeartbeats 1000000 in
set_option maxRecDepth 100000 in
theorem c_X3_needs_badD {l : Launch} {D : va_G} {cI cZ cB cR : ClassId} {q t b b2 pp i1 i2 kept tn tw td : Nat} {tr : Int64} {n lvA aiA laA ac woA drA : Nat} {a : Nat} {w : Int32} (hn : n ≤ 6) (hac : ac ≤ 5) (ha : a < ac) (hbad : ¬ vp_in w n) : mR l yX3_needs cX3_needs 3 (some .int) 1 21 D cI cZ cB cR [oK q t b b2 pp i1 i2 kept tn tw td tr, oB b n lvA aiA laA ac woA drA] [.ref q, .int (nI a), .int w] (some (.int (-1))) := by
  refine mR_of rfl (Nat.le_of_ble_eq_true rfl) ?_
  intro p e s m args below meth c hC hr hlk hK hP ls hl
  have hl : lv_has ls 3 [(0, .ref q), (1, .int (nI a)), (2, .int w)] := hl
  obtain ⟨hx, hb, hml, hown, hts⟩ := id hC
  refine lv_aload_n hx hb dX3_needs_0 rfl (lv_at hl 0 rfl) ?_
  refine lv_iload_n hx hb dX3_needs_1 rfl (lv_at hl 1 rfl) ?_
  refine zRV (As := [.int (nI a)]) (b := q) (rest := []) hC (c_X3_isAct (l := l) (g := true) (hn := by omega) (hg := ⟨fun _ => vp_in_nI (by omega) (by omega), fun _ => rfl⟩)) lM_X3_95 vM_X3_isAct (by decide) hK hP [0, 1] rfl ⟨rfl, rfl, rfl⟩ rfl hl.1 rfl (Nat.le_of_ble_eq_true rfl) dX3_needs_2 (by decide) ?_
  show W _ _ _ _ _ _ _ _ _ _ _ _ _ _ _ (F0 m 5 ls [.int (bI true)])
  refine zb_eq (tgt := 16) hC dX3_needs_5 (by decide) (fun c5 => by exfalso; cases c5) (fun c5 => ?_)
  refine lv_aload_n hx hb dX3_needs_8 rfl (lv_at hl 0 rfl) ?_
  refine lv_iload_n hx hb dX3_needs_9 rfl (lv_at hl 2 rfl) ?_
  refine zRV (As := [.int w]) (b := q) (rest := []) hC (c_X3_isDecanter (l := l) (g := false) (hn := by omega) (hg := ⟨fun h => (by cases h), fun h => absurd h hbad⟩)) lM_X3_76 vM_X3_isDecanter (by decide) hK hP [0, 1] rfl ⟨rfl, rfl, rfl⟩ rfl hl.1 rfl (Nat.le_of_ble_eq_true rfl) dX3_needs_10 (by decide) ?_
  show W _ _ _ _ _ _ _ _ _ _ _ _ _ _ _ (F0 m 13 ls [.int (bI false)])
  refine zb_ne (tgt := 18) hC dX3_needs_13 (by decide) (fun c13 => by exfalso; cases c13) (fun c13 => ?_)
  refine lv_iconst (v := (-1)) hx hb dX3_needs_16 (by decide) ?_
  exact zr_i hC hr hlk (by first | rfl | omega) dX3_needs_17
set_option maxHeartbeats 1000000 in
set_option maxRecDepth 100000 in
theorem c_X3_needs {l : Launch} {D : va_G} {cI cZ cB cR : ClassId} {q t b b2 pp i1 i2 kept tn tw td : Nat} {tr : Int64} {n lvA aiA laA ac woA drA : Nat} {r : Nat → Nat} {dr : Nat → Nat → Nat} {a d : Nat} (hn : n ≤ 6) (hac : ac ≤ 5) (ha : a < ac) (hd : d < n) : mR l yX3_needs cX3_needs 3 (some .int) 1 22 D cI cZ cB cR [oK q t b b2 pp i1 i2 kept tn tw td tr, oB b n lvA aiA laA ac woA drA, aR cR drA 5 r, aI cI (r 0) 6 (dr 0), aI cI (r 1) 6 (dr 1), aI cI (r 2) 6 (dr 2), aI cI (r 3) 6 (dr 3), aI cI (r 4) 6 (dr 4)] [.ref q, .int (nI a), .int (nI d)] (some (.int (nI (dr a d)))) := by
  refine mR_of rfl (Nat.le_of_ble_eq_true rfl) ?_
  intro p e s m args below meth c hC hr hlk hK hP ls hl
  have hl : lv_has ls 3 [(0, .ref q), (1, .int (nI a)), (2, .int (nI d))] := hl
  obtain ⟨hx, hb, hml, hown, hts⟩ := id hC
  refine lv_aload_n hx hb dX3_needs_0 rfl (lv_at hl 0 rfl) ?_
  refine lv_iload_n hx hb dX3_needs_1 rfl (lv_at hl 1 rfl) ?_
  refine zRV (As := [.int (nI a)]) (b := q) (rest := []) hC (c_X3_isAct (l := l) (g := true) (hn := by omega) (hg := ⟨fun _ => vp_in_nI (by omega) (by omega), fun _ => rfl⟩)) lM_X3_95 vM_X3_isAct (by decide) hK hP [0, 1] rfl ⟨rfl, rfl, rfl⟩ rfl hl.1 rfl (Nat.le_of_ble_eq_true rfl) dX3_needs_2 (by decide) ?_
  show W _ _ _ _ _ _ _ _ _ _ _ _ _ _ _ (F0 m 5 ls [.int (bI true)])
  refine zb_eq (tgt := 16) hC dX3_needs_5 (by decide) (fun c5 => by exfalso; cases c5) (fun c5 => ?_)
  refine lv_aload_n hx hb dX3_needs_8 rfl (lv_at hl 0 rfl) ?_
  refine lv_iload_n hx hb dX3_needs_9 rfl (lv_at hl 2 rfl) ?_
  refine zRV (As := [.int (nI d)]) (b := q) (rest := []) hC (c_X3_isDecanter (l := l) (g := true) (hn := by omega) (hg := ⟨fun _ => vp_in_nI (by omega) (by omega), fun _ => rfl⟩)) lM_X3_76 vM_X3_isDecanter (by decide) hK hP [0, 1] rfl ⟨rfl, rfl, rfl⟩ rfl hl.1 rfl (Nat.le_of_ble_eq_true rfl) dX3_needs_10 (by decide) ?_
  show W _ _ _ _ _ _ _ _ _ _ _ _ _ _ _ (F0 m 13 ls [.int (bI true)])
  refine zb_ne (tgt := 18) hC dX3_needs_13 (by decide) (fun c13 => ?_) (fun c13 => by exfalso; cases c13)
  refine lv_aload_n hx hb dX3_needs_18 rfl (lv_at hl 0 rfl) ?_
  refine z_get (k := 1) zcX3 hC hK hP 0 rfl (by decide) lF_X3_19 rfl dX3_needs_19 ?_
  refine lv_iload_n hx hb dX3_needs_22 rfl (lv_at hl 1 rfl) ?_
  refine lv_iload_n hx hb dX3_needs_23 rfl (lv_at hl 2 rfl) ?_
  refine zRVN (As := [.int (nI a), .int (nI d)]) (b := b) (rest := []) hC (c_X1_dropsNeeded (l := l) (hn := hn) (hac := hac) (ha := ha) (hd := hd)) lM_X3_110 vM_X1_dropsNeeded (by decide) hK hP [1, 2, 3, 4, 5, 6, 7] rfl ⟨rfl, rfl, rfl⟩ rfl hl.1 rfl (Nat.le_of_ble_eq_true rfl) dX3_needs_24 (by decide) ?_
  show W _ _ _ _ _ _ _ _ _ _ _ _ _ _ _ (F0 m 27 ls [.int (nI (dr a d))])
  exact zr_i hC hr hlk (by first | rfl | omega) dX3_needs_27
