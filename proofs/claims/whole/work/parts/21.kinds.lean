set_option maxHeartbeats 1000000 in
set_option maxRecDepth 100000 in
theorem c_X3_tells_badA {l : Launch} {D : va_G} {cI cZ cB cR : ClassId} {q t b b2 pp i1 i2 kept tn tw td : Nat} {tr : Int64} {n lvA aiA laA ac woA drA : Nat} {x w : Int32} (hac : ac ≤ 5) (hbad : ¬ vp_in x ac) : mR l yX3_tells cX3_tells 3 (some .int) 1 21 D cI cZ cB cR [oK q t b b2 pp i1 i2 kept tn tw td tr, oB b n lvA aiA laA ac woA drA] [.ref q, .int x, .int w] (some (.int (-1))) := by
  refine mR_of rfl (Nat.le_of_ble_eq_true rfl) ?_
  intro p e s m args below meth c hC hr hlk hK hP ls hl
  have hl : lv_has ls 3 [(0, .ref q), (1, .int x), (2, .int w)] := hl
  obtain ⟨hx, hb, hml, hown, hts⟩ := id hC
  refine lv_aload_n hx hb dX3_tells_0 rfl (lv_at hl 0 rfl) ?_
  refine lv_iload_n hx hb dX3_tells_1 rfl (lv_at hl 1 rfl) ?_
  refine zRV (As := [.int x]) (b := q) (rest := []) hC (c_X3_isAct (l := l) (g := false) (hn := by omega) (hg := ⟨fun h => (by cases h), fun h => absurd h hbad⟩)) lM_X3_95 vM_X3_isAct (by decide) hK hP [0, 1] rfl ⟨rfl, rfl, rfl⟩ rfl hl.1 rfl (Nat.le_of_ble_eq_true rfl) dX3_tells_2 (by decide) ?_
  show W _ _ _ _ _ _ _ _ _ _ _ _ _ _ _ (F0 m 5 ls [.int (bI false)])
  refine zb_eq (tgt := 15) hC dX3_tells_5 (by decide) (fun c5 => ?_) (fun c5 => by exfalso; cases c5)
  refine lv_iconst (v := (-1)) hx hb dX3_tells_15 (by decide) ?_
  exact zr_i hC hr hlk (by first | rfl | omega) dX3_tells_16
set_option maxHeartbeats 1000000 in
set_option maxRecDepth 100000 in
theorem c_X3_tells_badW {l : Launch} {D : va_G} {cI cZ cB cR : ClassId} {q t b b2 pp i1 i2 kept tn tw td : Nat} {tr : Int64} {n lvA aiA laA ac woA drA : Nat} {a : Nat} {x : Int32} (hac : ac ≤ 5) (ha : a < ac) (hw01 : ¬ (x = 0 ∨ x = nI 1))  : mR l yX3_tells cX3_tells 3 (some .int) 1 21 D cI cZ cB cR [oK q t b b2 pp i1 i2 kept tn tw td tr, oB b n lvA aiA laA ac woA drA] [.ref q, .int (nI a), .int x] (some (.int (-1))) := by
  refine mR_of rfl (Nat.le_of_ble_eq_true rfl) ?_
  intro p e s m args below meth c hC hr hlk hK hP ls hl
  have hl : lv_has ls 3 [(0, .ref q), (1, .int (nI a)), (2, .int x)] := hl
  obtain ⟨hx, hb, hml, hown, hts⟩ := id hC
  refine lv_aload_n hx hb dX3_tells_0 rfl (lv_at hl 0 rfl) ?_
  refine lv_iload_n hx hb dX3_tells_1 rfl (lv_at hl 1 rfl) ?_
  refine zRV (As := [.int (nI a)]) (b := q) (rest := []) hC (c_X3_isAct (l := l) (g := true) (hn := by omega) (hg := ⟨fun _ => vp_in_nI (by omega) (by omega), fun _ => rfl⟩)) lM_X3_95 vM_X3_isAct (by decide) hK hP [0, 1] rfl ⟨rfl, rfl, rfl⟩ rfl hl.1 rfl (Nat.le_of_ble_eq_true rfl) dX3_tells_2 (by decide) ?_
  show W _ _ _ _ _ _ _ _ _ _ _ _ _ _ _ (F0 m 5 ls [.int (bI true)])
  refine zb_eq (tgt := 15) hC dX3_tells_5 (by decide) (fun c5 => by exfalso; cases c5) (fun c5 => ?_)
  refine lv_iload_n hx hb dX3_tells_8 rfl (lv_at hl 2 rfl) ?_
  refine zRS (As := [.int x]) (rest := []) hC (c_X3_isNoughtOrOne (l := l) (b := false) (hb9 := ⟨fun h => (by cases h), fun h => absurd h hw01⟩)) lM_X3_159 sM_X3_isNoughtOrOne (by decide) hK rfl hl.1 rfl (Nat.le_of_ble_eq_true rfl) dX3_tells_9 (by decide) ?_
  show W _ _ _ _ _ _ _ _ _ _ _ _ _ _ _ (F0 m 12 ls [.int (bI false)])
  refine zb_ne (tgt := 17) hC dX3_tells_12 (by decide) (fun c12 => by exfalso; cases c12) (fun c12 => ?_)
  refine lv_iconst (v := (-1)) hx hb dX3_tells_15 (by decide) ?_
  exact zr_i hC hr hlk (by first | rfl | omega) dX3_tells_16
set_option maxHeartbeats 1000000 in
set_option maxRecDepth 100000 in
theorem c_X3_tells_full0 {l : Launch} {D : va_G} {cI cZ cB cR : ClassId} {q t b b2 pp i1 i2 kept tn tw  : Nat} {tr : Int64} {n lvA aiA laA ac woA drA : Nat} {a : Nat} (hac : ac ≤ 5) (ha : a < ac)  : mR l yX3_tells cX3_tells 3 (some .int) 1 21 D cI cZ cB cR [oK q t b b2 pp i1 i2 kept tn tw 6 tr, oB b n lvA aiA laA ac woA drA] [.ref q, .int (nI a), .int (nI 0)] (some (.int (-3))) := by
  refine mR_of rfl (Nat.le_of_ble_eq_true rfl) ?_
  intro p e s m args below meth c hC hr hlk hK hP ls hl
  have hl : lv_has ls 3 [(0, .ref q), (1, .int (nI a)), (2, .int (nI 0))] := hl
  obtain ⟨hx, hb, hml, hown, hts⟩ := id hC
  refine lv_aload_n hx hb dX3_tells_0 rfl (lv_at hl 0 rfl) ?_
  refine lv_iload_n hx hb dX3_tells_1 rfl (lv_at hl 1 rfl) ?_
  refine zRV (As := [.int (nI a)]) (b := q) (rest := []) hC (c_X3_isAct (l := l) (g := true) (hn := by omega) (hg := ⟨fun _ => vp_in_nI (by omega) (by omega), fun _ => rfl⟩)) lM_X3_95 vM_X3_isAct (by decide) hK hP [0, 1] rfl ⟨rfl, rfl, rfl⟩ rfl hl.1 rfl (Nat.le_of_ble_eq_true rfl) dX3_tells_2 (by decide) ?_
  show W _ _ _ _ _ _ _ _ _ _ _ _ _ _ _ (F0 m 5 ls [.int (bI true)])
  refine zb_eq (tgt := 15) hC dX3_tells_5 (by decide) (fun c5 => by exfalso; cases c5) (fun c5 => ?_)
  refine lv_iload_n hx hb dX3_tells_8 rfl (lv_at hl 2 rfl) ?_
  refine zRS (As := [.int (nI 0)]) (rest := []) hC (c_X3_isNoughtOrOne (l := l) (b := true) (hb9 := ⟨fun _ => by first | exact Or.inl rfl | exact Or.inr rfl, fun _ => rfl⟩)) lM_X3_159 sM_X3_isNoughtOrOne (by decide) hK rfl hl.1 rfl (Nat.le_of_ble_eq_true rfl) dX3_tells_9 (by decide) ?_
  show W _ _ _ _ _ _ _ _ _ _ _ _ _ _ _ (F0 m 12 ls [.int (bI true)])
  refine zb_ne (tgt := 17) hC dX3_tells_12 (by decide) (fun c12 => ?_) (fun c12 => by exfalso; cases c12)
  refine lv_aload_n hx hb dX3_tells_17 rfl (lv_at hl 0 rfl) ?_
  refine z_get (k := 9) zcX3 hC hK hP 0 rfl (by decide) lF_X3_51 rfl dX3_tells_18 ?_
  refine lv_bipush (v := nI 6) hx hb dX3_tells_21 (by decide) ?_
  refine zc_lt (tgt := 29) hC dX3_tells_23 (by decide) (by omega) (by omega) (fun c23 => by exfalso; omega) (fun c23 => ?_)
  refine lv_bipush (v := (-3)) hx hb dX3_tells_26 (by decide) ?_
  exact zr_i hC hr hlk (by first | rfl | omega) dX3_tells_28
set_option maxHeartbeats 1000000 in
set_option maxRecDepth 100000 in
theorem c_X3_tells_0 {l : Launch} {D : va_G} {cI cZ cB cR : ClassId} {q t b b2 pp i1 i2 kept tn tw td : Nat} {tr : Int64} {n lvA aiA laA ac woA drA : Nat} {r : Nat → Nat} {dr : Nat → Nat → Nat} {tnF : Nat → Nat} {twF : Nat → Bool} {a : Nat} (hn : n ≤ 6) (hac : ac ≤ 5) (hdr : ∀ i j, dr i j ≤ 9) (ha : a < ac) (htd : td < 6) : mW l yX3_tells cX3_tells 3 (some .int) 2 45 D cI cZ cB cR [oK q t b b2 pp i1 i2 kept tn tw td tr, oB b n lvA aiA laA ac woA drA, aR cR drA 5 r, aI cI (r 0) 6 (dr 0), aI cI (r 1) 6 (dr 1), aI cI (r 2) 6 (dr 2), aI cI (r 3) 6 (dr 3), aI cI (r 4) 6 (dr 4), aI cI tn 6 tnF, aZ cZ tw 6 twF] [oK q t b b2 pp i1 i2 kept tn tw (td + 1) tr, oB b n lvA aiA laA ac woA drA, aR cR drA 5 r, aI cI (r 0) 6 (dr 0), aI cI (r 1) 6 (dr 1), aI cI (r 2) 6 (dr 2), aI cI (r 3) 6 (dr 3), aI cI (r 4) 6 (dr 4), aI cI tn 6 (updN tnF td (orr (fun i => decide (0 < dr a i)) n)), aZ cZ tw 6 (updB twF td false)] [.ref q, .int (nI a), .int (nI 0)] (some (.int (nI (td + 1)))) := by
  refine mW_of rfl (Nat.le_of_ble_eq_true rfl) ?_
  intro p e s m args below meth c hC hr hlk hK A hA hD H0 h0 hP hS ls hl
  have hP : va_P D vwCl [oK q t b b2 pp i1 i2 kept tn tw td tr, oB b n lvA aiA laA ac woA drA, aR cR drA 5 r, aI cI (r 0) 6 (dr 0), aI cI (r 1) 6 (dr 1), aI cI (r 2) 6 (dr 2), aI cI (r 3) 6 (dr 3), aI cI (r 4) 6 (dr 4), aI cI tn 6 tnF, aZ cZ tw 6 twF] H0 := hP
  have hl : lv_has ls 3 [(0, .ref q), (1, .int (nI a)), (2, .int (nI 0))] := hl
  obtain ⟨hx, hb, hml, hown, hts⟩ := id hC
  refine lv_aload_n hx hb dX3_tells_0 rfl (lv_at hl 0 rfl) ?_
  refine lv_iload_n hx hb dX3_tells_1 rfl (lv_at hl 1 rfl) ?_
  refine zRV (As := [.int (nI a)]) (b := q) (rest := []) hC (c_X3_isAct (l := l) (g := true) (hn := by omega) (hg := ⟨fun _ => vp_in_nI (by omega) (by omega), fun _ => rfl⟩)) lM_X3_95 vM_X3_isAct (by decide) hK hP [0, 1] rfl ⟨rfl, rfl, rfl⟩ rfl hl.1 rfl (Nat.le_of_ble_eq_true rfl) dX3_tells_2 (by decide) ?_
  show W _ _ _ _ _ _ _ _ _ _ _ _ _ _ _ (F0 m 5 ls [.int (bI true)])
  refine zb_eq (tgt := 15) hC dX3_tells_5 (by decide) (fun c5 => by exfalso; cases c5) (fun c5 => ?_)
  refine lv_iload_n hx hb dX3_tells_8 rfl (lv_at hl 2 rfl) ?_
  refine zRS (As := [.int (nI 0)]) (rest := []) hC (c_X3_isNoughtOrOne (l := l) (b := true) (hb9 := ⟨fun _ => by first | exact Or.inl rfl | exact Or.inr rfl, fun _ => rfl⟩)) lM_X3_159 sM_X3_isNoughtOrOne (by decide) hK rfl hl.1 rfl (Nat.le_of_ble_eq_true rfl) dX3_tells_9 (by decide) ?_
  show W _ _ _ _ _ _ _ _ _ _ _ _ _ _ _ (F0 m 12 ls [.int (bI true)])
  refine zb_ne (tgt := 17) hC dX3_tells_12 (by decide) (fun c12 => ?_) (fun c12 => by exfalso; cases c12)
  refine lv_aload_n hx hb dX3_tells_17 rfl (lv_at hl 0 rfl) ?_
  refine z_get (k := 9) zcX3 hC hK hP 0 rfl (by decide) lF_X3_51 rfl dX3_tells_18 ?_
  refine lv_bipush (v := nI 6) hx hb dX3_tells_21 (by decide) ?_
  refine zc_lt (tgt := 29) hC dX3_tells_23 (by decide) (by omega) (by omega) (fun c23 => ?_) (fun c23 => by exfalso; omega)
  refine lv_aload_n hx hb dX3_tells_29 rfl (lv_at hl 0 rfl) ?_
  refine z_get (k := 7) zcX3 hC hK hP 0 rfl (by decide) lF_X3_43 rfl dX3_tells_30 ?_
  refine lv_aload_n hx hb dX3_tells_33 rfl (lv_at hl 0 rfl) ?_
  refine z_get (k := 9) zcX3 hC hK hP 0 rfl (by decide) lF_X3_51 rfl dX3_tells_34 ?_
  refine lv_aload_n hx hb dX3_tells_37 rfl (lv_at hl 0 rfl) ?_
  refine z_get (k := 1) zcX3 hC hK hP 0 rfl (by decide) lF_X3_19 rfl dX3_tells_38 ?_
  refine lv_iload_n hx hb dX3_tells_41 rfl (lv_at hl 1 rfl) ?_
  refine zRVN (As := [.int (nI a)]) (b := b) (rest := [.int (nI td), .ref tn]) hC (c_X1_qualitiesNeeded (l := l) (hn := hn) (hac := hac) (hdr := hdr) (ha := ha)) lM_X3_101 vM_X1_qualitiesNeeded (by decide) hK hP [1, 2, 3, 4, 5, 6, 7] rfl ⟨rfl, rfl, rfl⟩ rfl hl.1 rfl (Nat.le_of_ble_eq_true rfl) dX3_tells_42 (by decide) ?_
  show W _ _ _ _ _ _ _ _ _ _ _ _ _ _ _ (F0 m 45 ls [.int (nI (orr (fun i => decide (0 < dr a i)) n)), .int (nI td), .ref tn])
  refine z_ast hC hK hP hD hS 8 rfl (by omega) (by decide) dX3_tells_45 (fun H locs hP hD hS => ?_)
  have hP : va_P D vwCl [oK q t b b2 pp i1 i2 kept tn tw td tr, oB b n lvA aiA laA ac woA drA, aR cR drA 5 r, aI cI (r 0) 6 (dr 0), aI cI (r 1) 6 (dr 1), aI cI (r 2) 6 (dr 2), aI cI (r 3) 6 (dr 3), aI cI (r 4) 6 (dr 4), aI cI tn 6 (updN tnF td (orr (fun i => decide (0 < dr a i)) n)), aZ cZ tw 6 twF] H := hP
  have hD : va_D A [oK q t b b2 pp i1 i2 kept tn tw td tr, oB b n lvA aiA laA ac woA drA, aR cR drA 5 r, aI cI (r 0) 6 (dr 0), aI cI (r 1) 6 (dr 1), aI cI (r 2) 6 (dr 2), aI cI (r 3) 6 (dr 3), aI cI (r 4) 6 (dr 4), aI cI tn 6 (updN tnF td (orr (fun i => decide (0 < dr a i)) n)), aZ cZ tw 6 twF] := hD
  refine lv_aload_n hx hb dX3_tells_46 rfl (lv_at hl 0 rfl) ?_
  refine z_get (k := 8) zcX3 hC hK hP 0 rfl (by decide) lF_X3_47 rfl dX3_tells_47 ?_
  refine lv_aload_n hx hb dX3_tells_50 rfl (lv_at hl 0 rfl) ?_
  refine z_get (k := 9) zcX3 hC hK hP 0 rfl (by decide) lF_X3_51 rfl dX3_tells_51 ?_
  refine lv_iload_n hx hb dX3_tells_54 rfl (lv_at hl 2 rfl) ?_
  refine lv_iconst (v := nI 1) hx hb dX3_tells_55 (by decide) ?_
  refine zc_ne (tgt := 63) hC dX3_tells_56 (by decide) (by omega) (by omega) (fun c56 => ?_) (fun c56 => by exfalso; omega)
  refine lv_iconst (v := nI 0) hx hb dX3_tells_63 (by decide) ?_
  refine z_top (show (nI 0) = bI false from by rfl) ?_
  refine z_zst hC hK hP hD hS 9 rfl (by omega) (by decide) dX3_tells_64 (fun H locs hP hD hS => ?_)
  have hP : va_P D vwCl [oK q t b b2 pp i1 i2 kept tn tw td tr, oB b n lvA aiA laA ac woA drA, aR cR drA 5 r, aI cI (r 0) 6 (dr 0), aI cI (r 1) 6 (dr 1), aI cI (r 2) 6 (dr 2), aI cI (r 3) 6 (dr 3), aI cI (r 4) 6 (dr 4), aI cI tn 6 (updN tnF td (orr (fun i => decide (0 < dr a i)) n)), aZ cZ tw 6 (updB twF td false)] H := hP
  have hD : va_D A [oK q t b b2 pp i1 i2 kept tn tw td tr, oB b n lvA aiA laA ac woA drA, aR cR drA 5 r, aI cI (r 0) 6 (dr 0), aI cI (r 1) 6 (dr 1), aI cI (r 2) 6 (dr 2), aI cI (r 3) 6 (dr 3), aI cI (r 4) 6 (dr 4), aI cI tn 6 (updN tnF td (orr (fun i => decide (0 < dr a i)) n)), aZ cZ tw 6 (updB twF td false)] := hD
  refine lv_aload_n hx hb dX3_tells_65 rfl (lv_at hl 0 rfl) ?_
  refine lv_dup hx hb dX3_tells_66 rfl ?_
  refine z_get (k := 9) zcX3 hC hK hP 0 rfl (by decide) lF_X3_51 rfl dX3_tells_67 ?_
  refine lv_iconst (v := nI 1) hx hb dX3_tells_70 (by decide) ?_
  refine zi_add hC dX3_tells_71 ?_
  refine z_put (k := 9) zcX3 hC hK hP hD hS 0 rfl (by decide) lF_X3_51 rfl rfl rfl (Nat.le_of_ble_eq_true rfl) dX3_tells_72 (fun H locs hP hD hS => ?_)
  have hP : va_P D vwCl [oK q t b b2 pp i1 i2 kept tn tw (td + 1) tr, oB b n lvA aiA laA ac woA drA, aR cR drA 5 r, aI cI (r 0) 6 (dr 0), aI cI (r 1) 6 (dr 1), aI cI (r 2) 6 (dr 2), aI cI (r 3) 6 (dr 3), aI cI (r 4) 6 (dr 4), aI cI tn 6 (updN tnF td (orr (fun i => decide (0 < dr a i)) n)), aZ cZ tw 6 (updB twF td false)] H := hP
  have hD : va_D A [oK q t b b2 pp i1 i2 kept tn tw (td + 1) tr, oB b n lvA aiA laA ac woA drA, aR cR drA 5 r, aI cI (r 0) 6 (dr 0), aI cI (r 1) 6 (dr 1), aI cI (r 2) 6 (dr 2), aI cI (r 3) 6 (dr 3), aI cI (r 4) 6 (dr 4), aI cI tn 6 (updN tnF td (orr (fun i => decide (0 < dr a i)) n)), aZ cZ tw 6 (updB twF td false)] := hD
  refine lv_aload_n hx hb dX3_tells_75 rfl (lv_at hl 0 rfl) ?_
  refine z_get (k := 9) zcX3 hC hK hP 0 rfl (by decide) lF_X3_51 rfl dX3_tells_76 ?_
  exact zw_i hC hr hlk hA h0 hP hS (by first | rfl | omega) dX3_tells_79
set_option maxHeartbeats 1000000 in
set_option maxRecDepth 100000 in
theorem c_X3_tells_full1 {l : Launch} {D : va_G} {cI cZ cB cR : ClassId} {q t b b2 pp i1 i2 kept tn tw  : Nat} {tr : Int64} {n lvA aiA laA ac woA drA : Nat} {a : Nat} (hac : ac ≤ 5) (ha : a < ac)  : mR l yX3_tells cX3_tells 3 (some .int) 1 21 D cI cZ cB cR [oK q t b b2 pp i1 i2 kept tn tw 6 tr, oB b n lvA aiA laA ac woA drA] [.ref q, .int (nI a), .int (nI 1)] (some (.int (-3))) := by
  refine mR_of rfl (Nat.le_of_ble_eq_true rfl) ?_
  intro p e s m args below meth c hC hr hlk hK hP ls hl
  have hl : lv_has ls 3 [(0, .ref q), (1, .int (nI a)), (2, .int (nI 1))] := hl
  obtain ⟨hx, hb, hml, hown, hts⟩ := id hC
  refine lv_aload_n hx hb dX3_tells_0 rfl (lv_at hl 0 rfl) ?_
  refine lv_iload_n hx hb dX3_tells_1 rfl (lv_at hl 1 rfl) ?_
  refine zRV (As := [.int (nI a)]) (b := q) (rest := []) hC (c_X3_isAct (l := l) (g := true) (hn := by omega) (hg := ⟨fun _ => vp_in_nI (by omega) (by omega), fun _ => rfl⟩)) lM_X3_95 vM_X3_isAct (by decide) hK hP [0, 1] rfl ⟨rfl, rfl, rfl⟩ rfl hl.1 rfl (Nat.le_of_ble_eq_true rfl) dX3_tells_2 (by decide) ?_
  show W _ _ _ _ _ _ _ _ _ _ _ _ _ _ _ (F0 m 5 ls [.int (bI true)])
  refine zb_eq (tgt := 15) hC dX3_tells_5 (by decide) (fun c5 => by exfalso; cases c5) (fun c5 => ?_)
  refine lv_iload_n hx hb dX3_tells_8 rfl (lv_at hl 2 rfl) ?_
  refine zRS (As := [.int (nI 1)]) (rest := []) hC (c_X3_isNoughtOrOne (l := l) (b := true) (hb9 := ⟨fun _ => by first | exact Or.inl rfl | exact Or.inr rfl, fun _ => rfl⟩)) lM_X3_159 sM_X3_isNoughtOrOne (by decide) hK rfl hl.1 rfl (Nat.le_of_ble_eq_true rfl) dX3_tells_9 (by decide) ?_
  show W _ _ _ _ _ _ _ _ _ _ _ _ _ _ _ (F0 m 12 ls [.int (bI true)])
  refine zb_ne (tgt := 17) hC dX3_tells_12 (by decide) (fun c12 => ?_) (fun c12 => by exfalso; cases c12)
  refine lv_aload_n hx hb dX3_tells_17 rfl (lv_at hl 0 rfl) ?_
  refine z_get (k := 9) zcX3 hC hK hP 0 rfl (by decide) lF_X3_51 rfl dX3_tells_18 ?_
  refine lv_bipush (v := nI 6) hx hb dX3_tells_21 (by decide) ?_
  refine zc_lt (tgt := 29) hC dX3_tells_23 (by decide) (by omega) (by omega) (fun c23 => by exfalso; omega) (fun c23 => ?_)
  refine lv_bipush (v := (-3)) hx hb dX3_tells_26 (by decide) ?_
  exact zr_i hC hr hlk (by first | rfl | omega) dX3_tells_28
set_option maxHeartbeats 1000000 in
set_option maxRecDepth 100000 in
theorem c_X3_tells_1 {l : Launch} {D : va_G} {cI cZ cB cR : ClassId} {q t b b2 pp i1 i2 kept tn tw td : Nat} {tr : Int64} {n lvA aiA laA ac woA drA : Nat} {r : Nat → Nat} {dr : Nat → Nat → Nat} {tnF : Nat → Nat} {twF : Nat → Bool} {a : Nat} (hn : n ≤ 6) (hac : ac ≤ 5) (hdr : ∀ i j, dr i j ≤ 9) (ha : a < ac) (htd : td < 6) : mW l yX3_tells cX3_tells 3 (some .int) 2 45 D cI cZ cB cR [oK q t b b2 pp i1 i2 kept tn tw td tr, oB b n lvA aiA laA ac woA drA, aR cR drA 5 r, aI cI (r 0) 6 (dr 0), aI cI (r 1) 6 (dr 1), aI cI (r 2) 6 (dr 2), aI cI (r 3) 6 (dr 3), aI cI (r 4) 6 (dr 4), aI cI tn 6 tnF, aZ cZ tw 6 twF] [oK q t b b2 pp i1 i2 kept tn tw (td + 1) tr, oB b n lvA aiA laA ac woA drA, aR cR drA 5 r, aI cI (r 0) 6 (dr 0), aI cI (r 1) 6 (dr 1), aI cI (r 2) 6 (dr 2), aI cI (r 3) 6 (dr 3), aI cI (r 4) 6 (dr 4), aI cI tn 6 (updN tnF td (orr (fun i => decide (0 < dr a i)) n)), aZ cZ tw 6 (updB twF td true)] [.ref q, .int (nI a), .int (nI 1)] (some (.int (nI (td + 1)))) := by
  refine mW_of rfl (Nat.le_of_ble_eq_true rfl) ?_
  intro p e s m args below meth c hC hr hlk hK A hA hD H0 h0 hP hS ls hl
  have hP : va_P D vwCl [oK q t b b2 pp i1 i2 kept tn tw td tr, oB b n lvA aiA laA ac woA drA, aR cR drA 5 r, aI cI (r 0) 6 (dr 0), aI cI (r 1) 6 (dr 1), aI cI (r 2) 6 (dr 2), aI cI (r 3) 6 (dr 3), aI cI (r 4) 6 (dr 4), aI cI tn 6 tnF, aZ cZ tw 6 twF] H0 := hP
  have hl : lv_has ls 3 [(0, .ref q), (1, .int (nI a)), (2, .int (nI 1))] := hl
  obtain ⟨hx, hb, hml, hown, hts⟩ := id hC
  refine lv_aload_n hx hb dX3_tells_0 rfl (lv_at hl 0 rfl) ?_
  refine lv_iload_n hx hb dX3_tells_1 rfl (lv_at hl 1 rfl) ?_
  refine zRV (As := [.int (nI a)]) (b := q) (rest := []) hC (c_X3_isAct (l := l) (g := true) (hn := by omega) (hg := ⟨fun _ => vp_in_nI (by omega) (by omega), fun _ => rfl⟩)) lM_X3_95 vM_X3_isAct (by decide) hK hP [0, 1] rfl ⟨rfl, rfl, rfl⟩ rfl hl.1 rfl (Nat.le_of_ble_eq_true rfl) dX3_tells_2 (by decide) ?_
  show W _ _ _ _ _ _ _ _ _ _ _ _ _ _ _ (F0 m 5 ls [.int (bI true)])
  refine zb_eq (tgt := 15) hC dX3_tells_5 (by decide) (fun c5 => by exfalso; cases c5) (fun c5 => ?_)
  refine lv_iload_n hx hb dX3_tells_8 rfl (lv_at hl 2 rfl) ?_
  refine zRS (As := [.int (nI 1)]) (rest := []) hC (c_X3_isNoughtOrOne (l := l) (b := true) (hb9 := ⟨fun _ => by first | exact Or.inl rfl | exact Or.inr rfl, fun _ => rfl⟩)) lM_X3_159 sM_X3_isNoughtOrOne (by decide) hK rfl hl.1 rfl (Nat.le_of_ble_eq_true rfl) dX3_tells_9 (by decide) ?_
  show W _ _ _ _ _ _ _ _ _ _ _ _ _ _ _ (F0 m 12 ls [.int (bI true)])
  refine zb_ne (tgt := 17) hC dX3_tells_12 (by decide) (fun c12 => ?_) (fun c12 => by exfalso; cases c12)
  refine lv_aload_n hx hb dX3_tells_17 rfl (lv_at hl 0 rfl) ?_
  refine z_get (k := 9) zcX3 hC hK hP 0 rfl (by decide) lF_X3_51 rfl dX3_tells_18 ?_
  refine lv_bipush (v := nI 6) hx hb dX3_tells_21 (by decide) ?_
  refine zc_lt (tgt := 29) hC dX3_tells_23 (by decide) (by omega) (by omega) (fun c23 => ?_) (fun c23 => by exfalso; omega)
  refine lv_aload_n hx hb dX3_tells_29 rfl (lv_at hl 0 rfl) ?_
  refine z_get (k := 7) zcX3 hC hK hP 0 rfl (by decide) lF_X3_43 rfl dX3_tells_30 ?_
  refine lv_aload_n hx hb dX3_tells_33 rfl (lv_at hl 0 rfl) ?_
  refine z_get (k := 9) zcX3 hC hK hP 0 rfl (by decide) lF_X3_51 rfl dX3_tells_34 ?_
  refine lv_aload_n hx hb dX3_tells_37 rfl (lv_at hl 0 rfl) ?_
  refine z_get (k := 1) zcX3 hC hK hP 0 rfl (by decide) lF_X3_19 rfl dX3_tells_38 ?_
  refine lv_iload_n hx hb dX3_tells_41 rfl (lv_at hl 1 rfl) ?_
  refine zRVN (As := [.int (nI a)]) (b := b) (rest := [.int (nI td), .ref tn]) hC (c_X1_qualitiesNeeded (l := l) (hn := hn) (hac := hac) (hdr := hdr) (ha := ha)) lM_X3_101 vM_X1_qualitiesNeeded (by decide) hK hP [1, 2, 3, 4, 5, 6, 7] rfl ⟨rfl, rfl, rfl⟩ rfl hl.1 rfl (Nat.le_of_ble_eq_true rfl) dX3_tells_42 (by decide) ?_
  show W _ _ _ _ _ _ _ _ _ _ _ _ _ _ _ (F0 m 45 ls [.int (nI (orr (fun i => decide (0 < dr a i)) n)), .int (nI td), .ref tn])
  refine z_ast hC hK hP hD hS 8 rfl (by omega) (by decide) dX3_tells_45 (fun H locs hP hD hS => ?_)
  have hP : va_P D vwCl [oK q t b b2 pp i1 i2 kept tn tw td tr, oB b n lvA aiA laA ac woA drA, aR cR drA 5 r, aI cI (r 0) 6 (dr 0), aI cI (r 1) 6 (dr 1), aI cI (r 2) 6 (dr 2), aI cI (r 3) 6 (dr 3), aI cI (r 4) 6 (dr 4), aI cI tn 6 (updN tnF td (orr (fun i => decide (0 < dr a i)) n)), aZ cZ tw 6 twF] H := hP
  have hD : va_D A [oK q t b b2 pp i1 i2 kept tn tw td tr, oB b n lvA aiA laA ac woA drA, aR cR drA 5 r, aI cI (r 0) 6 (dr 0), aI cI (r 1) 6 (dr 1), aI cI (r 2) 6 (dr 2), aI cI (r 3) 6 (dr 3), aI cI (r 4) 6 (dr 4), aI cI tn 6 (updN tnF td (orr (fun i => decide (0 < dr a i)) n)), aZ cZ tw 6 twF] := hD
  refine lv_aload_n hx hb dX3_tells_46 rfl (lv_at hl 0 rfl) ?_
  refine z_get (k := 8) zcX3 hC hK hP 0 rfl (by decide) lF_X3_47 rfl dX3_tells_47 ?_
  refine lv_aload_n hx hb dX3_tells_50 rfl (lv_at hl 0 rfl) ?_
  refine z_get (k := 9) zcX3 hC hK hP 0 rfl (by decide) lF_X3_51 rfl dX3_tells_51 ?_
  refine lv_iload_n hx hb dX3_tells_54 rfl (lv_at hl 2 rfl) ?_
  refine lv_iconst (v := nI 1) hx hb dX3_tells_55 (by decide) ?_
  refine zc_ne (tgt := 63) hC dX3_tells_56 (by decide) (by omega) (by omega) (fun c56 => by exfalso; omega) (fun c56 => ?_)
  refine lv_iconst (v := nI 1) hx hb dX3_tells_59 (by decide) ?_
  refine lv_goto (tgt := 64) hx hb dX3_tells_60 (by decide) ?_
  refine z_top (show (nI 1) = bI true from by rfl) ?_
  refine z_zst hC hK hP hD hS 9 rfl (by omega) (by decide) dX3_tells_64 (fun H locs hP hD hS => ?_)
  have hP : va_P D vwCl [oK q t b b2 pp i1 i2 kept tn tw td tr, oB b n lvA aiA laA ac woA drA, aR cR drA 5 r, aI cI (r 0) 6 (dr 0), aI cI (r 1) 6 (dr 1), aI cI (r 2) 6 (dr 2), aI cI (r 3) 6 (dr 3), aI cI (r 4) 6 (dr 4), aI cI tn 6 (updN tnF td (orr (fun i => decide (0 < dr a i)) n)), aZ cZ tw 6 (updB twF td true)] H := hP
  have hD : va_D A [oK q t b b2 pp i1 i2 kept tn tw td tr, oB b n lvA aiA laA ac woA drA, aR cR drA 5 r, aI cI (r 0) 6 (dr 0), aI cI (r 1) 6 (dr 1), aI cI (r 2) 6 (dr 2), aI cI (r 3) 6 (dr 3), aI cI (r 4) 6 (dr 4), aI cI tn 6 (updN tnF td (orr (fun i => decide (0 < dr a i)) n)), aZ cZ tw 6 (updB twF td true)] := hD
  refine lv_aload_n hx hb dX3_tells_65 rfl (lv_at hl 0 rfl) ?_
  refine lv_dup hx hb dX3_tells_66 rfl ?_
  refine z_get (k := 9) zcX3 hC hK hP 0 rfl (by decide) lF_X3_51 rfl dX3_tells_67 ?_
  refine lv_iconst (v := nI 1) hx hb dX3_tells_70 (by decide) ?_
  refine zi_add hC dX3_tells_71 ?_
  refine z_put (k := 9) zcX3 hC hK hP hD hS 0 rfl (by decide) lF_X3_51 rfl rfl rfl (Nat.le_of_ble_eq_true rfl) dX3_tells_72 (fun H locs hP hD hS => ?_)
  have hP : va_P D vwCl [oK q t b b2 pp i1 i2 kept tn tw (td + 1) tr, oB b n lvA aiA laA ac woA drA, aR cR drA 5 r, aI cI (r 0) 6 (dr 0), aI cI (r 1) 6 (dr 1), aI cI (r 2) 6 (dr 2), aI cI (r 3) 6 (dr 3), aI cI (r 4) 6 (dr 4), aI cI tn 6 (updN tnF td (orr (fun i => decide (0 < dr a i)) n)), aZ cZ tw 6 (updB twF td true)] H := hP
  have hD : va_D A [oK q t b b2 pp i1 i2 kept tn tw (td + 1) tr, oB b n lvA aiA laA ac woA drA, aR cR drA 5 r, aI cI (r 0) 6 (dr 0), aI cI (r 1) 6 (dr 1), aI cI (r 2) 6 (dr 2), aI cI (r 3) 6 (dr 3), aI cI (r 4) 6 (dr 4), aI cI tn 6 (updN tnF td (orr (fun i => decide (0 < dr a i)) n)), aZ cZ tw 6 (updB twF td true)] := hD
  refine lv_aload_n hx hb dX3_tells_75 rfl (lv_at hl 0 rfl) ?_
  refine z_get (k := 9) zcX3 hC hK hP 0 rfl (by decide) lF_X3_51 rfl dX3_tells_76 ?_
  exact zw_i hC hr hlk hA h0 hP hS (by first | rfl | omega) dX3_tells_79
set_option maxHeartbeats 1000000 in
set_option maxRecDepth 100000 in
theorem c_X3_forget {l : Launch} {D : va_G} {cI cZ cB cR : ClassId} {q t b b2 pp i1 i2 kept tn tw td : Nat} {tr : Int64}   : mW l yX3_forget cX3_forget 2 (some .int) 0 0 D cI cZ cB cR [oK q t b b2 pp i1 i2 kept tn tw td tr] [oK q t b b2 pp i1 i2 kept tn tw 0 tr] [.ref q] (some (.int (nI td))) := by
  refine mW_of rfl (Nat.le_of_ble_eq_true rfl) ?_
  intro p e s m args below meth c hC hr hlk hK A hA hD H0 h0 hP hS ls hl
  have hP : va_P D vwCl [oK q t b b2 pp i1 i2 kept tn tw td tr] H0 := hP
  have hl : lv_has ls 2 [(0, .ref q)] := hl
  obtain ⟨hx, hb, hml, hown, hts⟩ := id hC
  refine lv_aload_n hx hb dX3_forget_0 rfl (lv_at hl 0 rfl) ?_
  refine z_get (k := 9) zcX3 hC hK hP 0 rfl (by decide) lF_X3_51 rfl dX3_forget_1 ?_
  refine lv_istore_n (lv' := [(1, .int (nI td)), (0, .ref q)]) hx hb dX3_forget_4 rfl hl (by decide) rfl (fun ls hl => ?_)
  refine lv_aload_n hx hb dX3_forget_5 rfl (lv_at hl 1 rfl) ?_
  refine lv_iconst (v := nI 0) hx hb dX3_forget_6 (by decide) ?_
  refine z_put (k := 9) zcX3 hC hK hP hD hS 0 rfl (by decide) lF_X3_51 rfl rfl rfl (Nat.le_of_ble_eq_true rfl) dX3_forget_7 (fun H locs hP hD hS => ?_)
  have hP : va_P D vwCl [oK q t b b2 pp i1 i2 kept tn tw 0 tr] H := hP
  have hD : va_D A [oK q t b b2 pp i1 i2 kept tn tw 0 tr] := hD
  refine lv_iload_n hx hb dX3_forget_10 rfl (lv_at hl 0 rfl) ?_
  exact zw_i hC hr hlk hA h0 hP hS (by first | rfl | omega) dX3_forget_11
set_option maxHeartbeats 1000000 in
set_option maxRecDepth 100000 in
theorem c_X3_mark_badA {l : Launch} {D : va_G} {cI cZ cB cR : ClassId} {q t b b2 pp i1 i2 kept tn tw td : Nat} {tr : Int64} {n lvA aiA laA ac woA drA : Nat} {x w : Int32} (hac : ac ≤ 5) (hbad : ¬ vp_in x ac) : mR l yX3_mark cX3_mark 3 (some .int) 1 21 D cI cZ cB cR [oK q t b b2 pp i1 i2 kept tn tw td tr, oB b n lvA aiA laA ac woA drA] [.ref q, .int w, .int x] (some (.int (-1000000))) := by
  refine mR_of rfl (Nat.le_of_ble_eq_true rfl) ?_
  intro p e s m args below meth c hC hr hlk hK hP ls hl
  have hl : lv_has ls 3 [(0, .ref q), (1, .int w), (2, .int x)] := hl
  obtain ⟨hx, hb, hml, hown, hts⟩ := id hC
  refine lv_aload_n hx hb dX3_mark_0 rfl (lv_at hl 0 rfl) ?_
  refine lv_iload_n hx hb dX3_mark_1 rfl (lv_at hl 2 rfl) ?_
  refine zRV (As := [.int x]) (b := q) (rest := []) hC (c_X3_isAct (l := l) (g := false) (hn := by omega) (hg := ⟨fun h => (by cases h), fun h => absurd h hbad⟩)) lM_X3_95 vM_X3_isAct (by decide) hK hP [0, 1] rfl ⟨rfl, rfl, rfl⟩ rfl hl.1 rfl (Nat.le_of_ble_eq_true rfl) dX3_mark_2 (by decide) ?_
  show W _ _ _ _ _ _ _ _ _ _ _ _ _ _ _ (F0 m 5 ls [.int (bI false)])
  refine zb_ne (tgt := 11) hC dX3_mark_5 (by decide) (fun c5 => by exfalso; cases c5) (fun c5 => ?_)
  refine lv_ldc (v := (-1000000)) hx hb hown (hts _ lK_X3_194) dX3_mark_8 ?_
  exact zr_i hC hr hlk (by first | rfl | omega) dX3_mark_10
set_option maxHeartbeats 1000000 in
set_option maxRecDepth 100000 in
theorem c_X3_mark_out {l : Launch} {D : va_G} {cI cZ cB cR : ClassId} {q t b b2 pp i1 i2 kept tn tw td : Nat} {tr : Int64} {n lvA aiA laA ac woA drA : Nat} {a : Nat} {w : Int32} (hac : ac ≤ 5) (ha : a < ac) (hwo : w.toInt < 0 ∨ 5 < w.toInt) : mR l yX3_mark cX3_mark 3 (some .int) 1 21 D cI cZ cB cR [oK q t b b2 pp i1 i2 kept tn tw td tr, oB b n lvA aiA laA ac woA drA] [.ref q, .int w, .int (nI a)] (some (.int (-1000000))) := by
  refine mR_of rfl (Nat.le_of_ble_eq_true rfl) ?_
  intro p e s m args below meth c hC hr hlk hK hP ls hl
  have hl : lv_has ls 3 [(0, .ref q), (1, .int w), (2, .int (nI a))] := hl
  obtain ⟨hx, hb, hml, hown, hts⟩ := id hC
  refine lv_aload_n hx hb dX3_mark_0 rfl (lv_at hl 0 rfl) ?_
  refine lv_iload_n hx hb dX3_mark_1 rfl (lv_at hl 2 rfl) ?_
  refine zRV (As := [.int (nI a)]) (b := q) (rest := []) hC (c_X3_isAct (l := l) (g := true) (hn := by omega) (hg := ⟨fun _ => vp_in_nI (by omega) (by omega), fun _ => rfl⟩)) lM_X3_95 vM_X3_isAct (by decide) hK hP [0, 1] rfl ⟨rfl, rfl, rfl⟩ rfl hl.1 rfl (Nat.le_of_ble_eq_true rfl) dX3_mark_2 (by decide) ?_
  show W _ _ _ _ _ _ _ _ _ _ _ _ _ _ _ (F0 m 5 ls [.int (bI true)])
  refine zb_ne (tgt := 11) hC dX3_mark_5 (by decide) (fun c5 => ?_) (fun c5 => by exfalso; cases c5)
  refine lv_iload_n hx hb dX3_mark_11 rfl (lv_at hl 1 rfl) ?_
  refine lv_tableOut (tgt := 88) hx hb dX3_mark_12 hwo (by decide) ?_
  refine lv_ldc (v := (-1000000)) hx hb hown (hts _ lK_X3_194) dX3_mark_88 ?_
  exact zr_i hC hr hlk (by first | rfl | omega) dX3_mark_90
set_option maxHeartbeats 1000000 in
set_option maxRecDepth 100000 in
theorem c_X3_mark_0 {l : Launch} {D : va_G} {cI cZ cB cR : ClassId} {q t b b2 pp i1 i2 kept tn tw td : Nat} {tr : Int64} {n lvA aiA laA ac woA drA : Nat} {wo : Nat → Nat} {r : Nat → Nat} {dr : Nat → Nat → Nat} {pl pt pa mo dn ea bn stA k : Nat} {a : Nat} (hn : n ≤ 6) (hac : ac ≤ 5) (hdr : ∀ i j, dr i j ≤ 9) (ha : a < ac) : mW l yX3_mark cX3_mark 3 (some .int) 1 21 D cI cZ cB cR [oK q t b b2 pp i1 i2 kept tn tw td tr, oB b n lvA aiA laA ac woA drA, aI cI woA 5 wo, aR cR drA 5 r, aI cI (r 0) 6 (dr 0), aI cI (r 1) 6 (dr 1), aI cI (r 2) 6 (dr 2), aI cI (r 3) 6 (dr 3), aI cI (r 4) 6 (dr 4), oP pp pl pt pa mo dn ea bn stA k] [oK q t b b2 pp i1 i2 kept tn tw td (tr + 1), oB b n lvA aiA laA ac woA drA, aI cI woA 5 wo, aR cR drA 5 r, aI cI (r 0) 6 (dr 0), aI cI (r 1) 6 (dr 1), aI cI (r 2) 6 (dr 2), aI cI (r 3) 6 (dr 3), aI cI (r 4) 6 (dr 4), oP pp pl pt pa mo dn ea bn stA k] [.ref q, .int (nI 0), .int (nI a)] (some (.int (nI (wo a)))) := by
  refine mW_of rfl (Nat.le_of_ble_eq_true rfl) ?_
  intro p e s m args below meth c hC hr hlk hK A hA hD H0 h0 hP hS ls hl
  have hP : va_P D vwCl [oK q t b b2 pp i1 i2 kept tn tw td tr, oB b n lvA aiA laA ac woA drA, aI cI woA 5 wo, aR cR drA 5 r, aI cI (r 0) 6 (dr 0), aI cI (r 1) 6 (dr 1), aI cI (r 2) 6 (dr 2), aI cI (r 3) 6 (dr 3), aI cI (r 4) 6 (dr 4), oP pp pl pt pa mo dn ea bn stA k] H0 := hP
  have hl : lv_has ls 3 [(0, .ref q), (1, .int (nI 0)), (2, .int (nI a))] := hl
  obtain ⟨hx, hb, hml, hown, hts⟩ := id hC
  refine lv_aload_n hx hb dX3_mark_0 rfl (lv_at hl 0 rfl) ?_
  refine lv_iload_n hx hb dX3_mark_1 rfl (lv_at hl 2 rfl) ?_
  refine zRV (As := [.int (nI a)]) (b := q) (rest := []) hC (c_X3_isAct (l := l) (g := true) (hn := by omega) (hg := ⟨fun _ => vp_in_nI (by omega) (by omega), fun _ => rfl⟩)) lM_X3_95 vM_X3_isAct (by decide) hK hP [0, 1] rfl ⟨rfl, rfl, rfl⟩ rfl hl.1 rfl (Nat.le_of_ble_eq_true rfl) dX3_mark_2 (by decide) ?_
  show W _ _ _ _ _ _ _ _ _ _ _ _ _ _ _ (F0 m 5 ls [.int (bI true)])
  refine zb_ne (tgt := 11) hC dX3_mark_5 (by decide) (fun c5 => ?_) (fun c5 => by exfalso; cases c5)
  refine lv_iload_n hx hb dX3_mark_11 rfl (lv_at hl 1 rfl) ?_
  refine lv_tableIn (off := 40) (tgt := 52) hx hb dX3_mark_12 (by decide) (by decide) (by decide) (by decide) ?_
  refine lv_aload_n hx hb dX3_mark_52 rfl (lv_at hl 0 rfl) ?_
  refine lv_iload_n hx hb dX3_mark_53 rfl (lv_at hl 2 rfl) ?_
  refine zXV (As := [.int (nI a)]) (b := q) (rest := []) hC (c_X3_markOfAct (l := l) (hac := hac) (ha := ha)) lM_X3_195 vM_X3_markOfAct (by decide) hK hP hD hS [0, 1, 2] [q, b, woA] rfl (by decide) rfl rfl ⟨rfl, rfl, rfl⟩ rfl hl.1 rfl (Nat.le_of_ble_eq_true rfl) dX3_mark_54 (by decide) (fun H locs hP hD hS => ?_)
  have hP : va_P D vwCl [oK q t b b2 pp i1 i2 kept tn tw td (tr + 1), oB b n lvA aiA laA ac woA drA, aI cI woA 5 wo, aR cR drA 5 r, aI cI (r 0) 6 (dr 0), aI cI (r 1) 6 (dr 1), aI cI (r 2) 6 (dr 2), aI cI (r 3) 6 (dr 3), aI cI (r 4) 6 (dr 4), oP pp pl pt pa mo dn ea bn stA k] H := hP
  have hD : va_D A [oK q t b b2 pp i1 i2 kept tn tw td (tr + 1), oB b n lvA aiA laA ac woA drA, aI cI woA 5 wo, aR cR drA 5 r, aI cI (r 0) 6 (dr 0), aI cI (r 1) 6 (dr 1), aI cI (r 2) 6 (dr 2), aI cI (r 3) 6 (dr 3), aI cI (r 4) 6 (dr 4), oP pp pl pt pa mo dn ea bn stA k] := hD
  show W _ _ _ _ _ _ _ _ _ _ _ _ _ _ _ (F0 m 57 ls [.int (nI (wo a))])
  exact zw_i hC hr hlk hA h0 hP hS (by first | rfl | omega) dX3_mark_57
set_option maxHeartbeats 1000000 in
set_option maxRecDepth 100000 in
theorem c_X3_mark_1 {l : Launch} {D : va_G} {cI cZ cB cR : ClassId} {q t b b2 pp i1 i2 kept tn tw td : Nat} {tr : Int64} {n lvA aiA laA ac woA drA : Nat} {wo : Nat → Nat} {r : Nat → Nat} {dr : Nat → Nat → Nat} {pl pt pa mo dn ea bn stA k : Nat} {a : Nat} (hn : n ≤ 6) (hac : ac ≤ 5) (hdr : ∀ i j, dr i j ≤ 9) (ha : a < ac) : mW l yX3_mark cX3_mark 3 (some .int) 3 66 D cI cZ cB cR [oK q t b b2 pp i1 i2 kept tn tw td tr, oB b n lvA aiA laA ac woA drA, aI cI woA 5 wo, aR cR drA 5 r, aI cI (r 0) 6 (dr 0), aI cI (r 1) 6 (dr 1), aI cI (r 2) 6 (dr 2), aI cI (r 3) 6 (dr 3), aI cI (r 4) 6 (dr 4), oP pp pl pt pa mo dn ea bn stA k] [oK q t b b2 pp i1 i2 kept tn tw td (tr + (10) + 1), oB b n lvA aiA laA ac woA drA, aI cI woA 5 wo, aR cR drA 5 r, aI cI (r 0) 6 (dr 0), aI cI (r 1) 6 (dr 1), aI cI (r 2) 6 (dr 2), aI cI (r 3) 6 (dr 3), aI cI (r 4) 6 (dr 4), oP pp pl pt pa mo dn ea bn stA k] [.ref q, .int (nI 1), .int (nI a)] (some (.int (nI (wo a + popc (orr (fun i => decide (0 < dr a i)) n))))) := by
  refine mW_of rfl (Nat.le_of_ble_eq_true rfl) ?_
  intro p e s m args below meth c hC hr hlk hK A hA hD H0 h0 hP hS ls hl
  have hP : va_P D vwCl [oK q t b b2 pp i1 i2 kept tn tw td tr, oB b n lvA aiA laA ac woA drA, aI cI woA 5 wo, aR cR drA 5 r, aI cI (r 0) 6 (dr 0), aI cI (r 1) 6 (dr 1), aI cI (r 2) 6 (dr 2), aI cI (r 3) 6 (dr 3), aI cI (r 4) 6 (dr 4), oP pp pl pt pa mo dn ea bn stA k] H0 := hP
  have hl : lv_has ls 3 [(0, .ref q), (1, .int (nI 1)), (2, .int (nI a))] := hl
  obtain ⟨hx, hb, hml, hown, hts⟩ := id hC
  refine lv_aload_n hx hb dX3_mark_0 rfl (lv_at hl 0 rfl) ?_
  refine lv_iload_n hx hb dX3_mark_1 rfl (lv_at hl 2 rfl) ?_
  refine zRV (As := [.int (nI a)]) (b := q) (rest := []) hC (c_X3_isAct (l := l) (g := true) (hn := by omega) (hg := ⟨fun _ => vp_in_nI (by omega) (by omega), fun _ => rfl⟩)) lM_X3_95 vM_X3_isAct (by decide) hK hP [0, 1] rfl ⟨rfl, rfl, rfl⟩ rfl hl.1 rfl (Nat.le_of_ble_eq_true rfl) dX3_mark_2 (by decide) ?_
  show W _ _ _ _ _ _ _ _ _ _ _ _ _ _ _ (F0 m 5 ls [.int (bI true)])
  refine zb_ne (tgt := 11) hC dX3_mark_5 (by decide) (fun c5 => ?_) (fun c5 => by exfalso; cases c5)
  refine lv_iload_n hx hb dX3_mark_11 rfl (lv_at hl 1 rfl) ?_
  refine lv_tableIn (off := 46) (tgt := 58) hx hb dX3_mark_12 (by decide) (by decide) (by decide) (by decide) ?_
  refine lv_aload_n hx hb dX3_mark_58 rfl (lv_at hl 0 rfl) ?_
  refine lv_iload_n hx hb dX3_mark_59 rfl (lv_at hl 2 rfl) ?_
  refine zXV (As := [.int (nI a)]) (b := q) (rest := []) hC (c_X3_markOfTreaty (l := l) (hn := hn) (hac := hac) (hdr := hdr) (ha := ha)) lM_X3_198 vM_X3_markOfTreaty (by decide) hK hP hD hS [0, 1, 2, 3, 4, 5, 6, 7, 8] [q, b, woA, drA, r 0, r 1, r 2, r 3, r 4] rfl (by decide) rfl rfl ⟨rfl, rfl, rfl⟩ rfl hl.1 rfl (Nat.le_of_ble_eq_true rfl) dX3_mark_60 (by decide) (fun H locs hP hD hS => ?_)
  have hP : va_P D vwCl [oK q t b b2 pp i1 i2 kept tn tw td (tr + (10) + 1), oB b n lvA aiA laA ac woA drA, aI cI woA 5 wo, aR cR drA 5 r, aI cI (r 0) 6 (dr 0), aI cI (r 1) 6 (dr 1), aI cI (r 2) 6 (dr 2), aI cI (r 3) 6 (dr 3), aI cI (r 4) 6 (dr 4), oP pp pl pt pa mo dn ea bn stA k] H := hP
  have hD : va_D A [oK q t b b2 pp i1 i2 kept tn tw td (tr + (10) + 1), oB b n lvA aiA laA ac woA drA, aI cI woA 5 wo, aR cR drA 5 r, aI cI (r 0) 6 (dr 0), aI cI (r 1) 6 (dr 1), aI cI (r 2) 6 (dr 2), aI cI (r 3) 6 (dr 3), aI cI (r 4) 6 (dr 4), oP pp pl pt pa mo dn ea bn stA k] := hD
  show W _ _ _ _ _ _ _ _ _ _ _ _ _ _ _ (F0 m 63 ls [.int (nI (wo a + popc (orr (fun i => decide (0 < dr a i)) n)))])
  exact zw_i hC hr hlk hA h0 hP hS (by first | rfl | omega) dX3_mark_63
set_option maxHeartbeats 1000000 in
set_option maxRecDepth 100000 in
theorem c_X3_mark_2 {l : Launch} {D : va_G} {cI cZ cB cR : ClassId} {q t b b2 pp i1 i2 kept tn tw td : Nat} {tr : Int64} {n lvA aiA laA ac woA drA : Nat} {wo : Nat → Nat} {r : Nat → Nat} {dr : Nat → Nat → Nat} {pl pt pa mo dn ea bn stA k : Nat} {a : Nat} (hn : n ≤ 6) (hac : ac ≤ 5) (hdr : ∀ i j, dr i j ≤ 9) (ha : a < ac) : mW l yX3_mark cX3_mark 3 (some .int) 2 45 D cI cZ cB cR [oK q t b b2 pp i1 i2 kept tn tw td tr, oB b n lvA aiA laA ac woA drA, aI cI woA 5 wo, aR cR drA 5 r, aI cI (r 0) 6 (dr 0), aI cI (r 1) 6 (dr 1), aI cI (r 2) 6 (dr 2), aI cI (r 3) 6 (dr 3), aI cI (r 4) 6 (dr 4), oP pp pl pt pa mo dn ea bn stA k] [oK q t b b2 pp i1 i2 kept tn tw td (tr + (100) + 1), oB b n lvA aiA laA ac woA drA, aI cI woA 5 wo, aR cR drA 5 r, aI cI (r 0) 6 (dr 0), aI cI (r 1) 6 (dr 1), aI cI (r 2) 6 (dr 2), aI cI (r 3) 6 (dr 3), aI cI (r 4) 6 (dr 4), oP pp pl pt pa mo dn ea bn stA k] [.ref q, .int (nI 2), .int (nI a)] (some (.int (nI (wo a) - nI (sm (fun i => dr a i) n)))) := by
  refine mW_of rfl (Nat.le_of_ble_eq_true rfl) ?_
  intro p e s m args below meth c hC hr hlk hK A hA hD H0 h0 hP hS ls hl
  have hP : va_P D vwCl [oK q t b b2 pp i1 i2 kept tn tw td tr, oB b n lvA aiA laA ac woA drA, aI cI woA 5 wo, aR cR drA 5 r, aI cI (r 0) 6 (dr 0), aI cI (r 1) 6 (dr 1), aI cI (r 2) 6 (dr 2), aI cI (r 3) 6 (dr 3), aI cI (r 4) 6 (dr 4), oP pp pl pt pa mo dn ea bn stA k] H0 := hP
  have hl : lv_has ls 3 [(0, .ref q), (1, .int (nI 2)), (2, .int (nI a))] := hl
  obtain ⟨hx, hb, hml, hown, hts⟩ := id hC
  refine lv_aload_n hx hb dX3_mark_0 rfl (lv_at hl 0 rfl) ?_
  refine lv_iload_n hx hb dX3_mark_1 rfl (lv_at hl 2 rfl) ?_
  refine zRV (As := [.int (nI a)]) (b := q) (rest := []) hC (c_X3_isAct (l := l) (g := true) (hn := by omega) (hg := ⟨fun _ => vp_in_nI (by omega) (by omega), fun _ => rfl⟩)) lM_X3_95 vM_X3_isAct (by decide) hK hP [0, 1] rfl ⟨rfl, rfl, rfl⟩ rfl hl.1 rfl (Nat.le_of_ble_eq_true rfl) dX3_mark_2 (by decide) ?_
  show W _ _ _ _ _ _ _ _ _ _ _ _ _ _ _ (F0 m 5 ls [.int (bI true)])
  refine zb_ne (tgt := 11) hC dX3_mark_5 (by decide) (fun c5 => ?_) (fun c5 => by exfalso; cases c5)
  refine lv_iload_n hx hb dX3_mark_11 rfl (lv_at hl 1 rfl) ?_
  refine lv_tableIn (off := 52) (tgt := 64) hx hb dX3_mark_12 (by decide) (by decide) (by decide) (by decide) ?_
  refine lv_aload_n hx hb dX3_mark_64 rfl (lv_at hl 0 rfl) ?_
  refine lv_iload_n hx hb dX3_mark_65 rfl (lv_at hl 2 rfl) ?_
  refine zXV (As := [.int (nI a)]) (b := q) (rest := []) hC (c_X3_markOfWar (l := l) (hn := hn) (hac := hac) (ha := ha)) lM_X3_201 vM_X3_markOfWar (by decide) hK hP hD hS [0, 1, 2, 3, 4, 5, 6, 7, 8] [q, b, woA, drA, r 0, r 1, r 2, r 3, r 4] rfl (by decide) rfl rfl ⟨rfl, rfl, rfl⟩ rfl hl.1 rfl (Nat.le_of_ble_eq_true rfl) dX3_mark_66 (by decide) (fun H locs hP hD hS => ?_)
  have hP : va_P D vwCl [oK q t b b2 pp i1 i2 kept tn tw td (tr + (100) + 1), oB b n lvA aiA laA ac woA drA, aI cI woA 5 wo, aR cR drA 5 r, aI cI (r 0) 6 (dr 0), aI cI (r 1) 6 (dr 1), aI cI (r 2) 6 (dr 2), aI cI (r 3) 6 (dr 3), aI cI (r 4) 6 (dr 4), oP pp pl pt pa mo dn ea bn stA k] H := hP
  have hD : va_D A [oK q t b b2 pp i1 i2 kept tn tw td (tr + (100) + 1), oB b n lvA aiA laA ac woA drA, aI cI woA 5 wo, aR cR drA 5 r, aI cI (r 0) 6 (dr 0), aI cI (r 1) 6 (dr 1), aI cI (r 2) 6 (dr 2), aI cI (r 3) 6 (dr 3), aI cI (r 4) 6 (dr 4), oP pp pl pt pa mo dn ea bn stA k] := hD
  show W _ _ _ _ _ _ _ _ _ _ _ _ _ _ _ (F0 m 69 ls [.int (nI (wo a) - nI (sm (fun i => dr a i) n))])
  exact zw_i hC hr hlk hA h0 hP hS (by first | rfl | omega) dX3_mark_69
set_option maxHeartbeats 1000000 in
set_option maxRecDepth 100000 in
theorem c_X3_mark_3 {l : Launch} {D : va_G} {cI cZ cB cR : ClassId} {q t b b2 pp i1 i2 kept tn tw td : Nat} {tr : Int64} {n lvA aiA laA ac woA drA : Nat} {wo : Nat → Nat} {r : Nat → Nat} {dr : Nat → Nat → Nat} {pl pt pa mo dn ea bn stA k : Nat} {a : Nat} (hn : n ≤ 6) (hac : ac ≤ 5) (hdr : ∀ i j, dr i j ≤ 9) (ha : a < ac) : mW l yX3_mark cX3_mark 3 (some .int) 4 87 D cI cZ cB cR [oK q t b b2 pp i1 i2 kept tn tw td tr, oB b n lvA aiA laA ac woA drA, aI cI woA 5 wo, aR cR drA 5 r, aI cI (r 0) 6 (dr 0), aI cI (r 1) 6 (dr 1), aI cI (r 2) 6 (dr 2), aI cI (r 3) 6 (dr 3), aI cI (r 4) 6 (dr 4), oP pp pl pt pa mo dn ea bn stA k] [oK q t b b2 pp i1 i2 kept tn tw td (tr + (1000) + (10) + 1), oB b n lvA aiA laA ac woA drA, aI cI woA 5 wo, aR cR drA 5 r, aI cI (r 0) 6 (dr 0), aI cI (r 1) 6 (dr 1), aI cI (r 2) 6 (dr 2), aI cI (r 3) 6 (dr 3), aI cI (r 4) 6 (dr 4), oP pp pl pt pa mo dn ea bn stA k] [.ref q, .int (nI 3), .int (nI a)] (some (.int (nI ((wo a + popc (orr (fun i => decide (0 < dr a i)) n)) * 2)))) := by
  refine mW_of rfl (Nat.le_of_ble_eq_true rfl) ?_
  intro p e s m args below meth c hC hr hlk hK A hA hD H0 h0 hP hS ls hl
  have hP : va_P D vwCl [oK q t b b2 pp i1 i2 kept tn tw td tr, oB b n lvA aiA laA ac woA drA, aI cI woA 5 wo, aR cR drA 5 r, aI cI (r 0) 6 (dr 0), aI cI (r 1) 6 (dr 1), aI cI (r 2) 6 (dr 2), aI cI (r 3) 6 (dr 3), aI cI (r 4) 6 (dr 4), oP pp pl pt pa mo dn ea bn stA k] H0 := hP
  have hl : lv_has ls 3 [(0, .ref q), (1, .int (nI 3)), (2, .int (nI a))] := hl
  obtain ⟨hx, hb, hml, hown, hts⟩ := id hC
  refine lv_aload_n hx hb dX3_mark_0 rfl (lv_at hl 0 rfl) ?_
  refine lv_iload_n hx hb dX3_mark_1 rfl (lv_at hl 2 rfl) ?_
  refine zRV (As := [.int (nI a)]) (b := q) (rest := []) hC (c_X3_isAct (l := l) (g := true) (hn := by omega) (hg := ⟨fun _ => vp_in_nI (by omega) (by omega), fun _ => rfl⟩)) lM_X3_95 vM_X3_isAct (by decide) hK hP [0, 1] rfl ⟨rfl, rfl, rfl⟩ rfl hl.1 rfl (Nat.le_of_ble_eq_true rfl) dX3_mark_2 (by decide) ?_
  show W _ _ _ _ _ _ _ _ _ _ _ _ _ _ _ (F0 m 5 ls [.int (bI true)])
  refine zb_ne (tgt := 11) hC dX3_mark_5 (by decide) (fun c5 => ?_) (fun c5 => by exfalso; cases c5)
  refine lv_iload_n hx hb dX3_mark_11 rfl (lv_at hl 1 rfl) ?_
  refine lv_tableIn (off := 58) (tgt := 70) hx hb dX3_mark_12 (by decide) (by decide) (by decide) (by decide) ?_
  refine lv_aload_n hx hb dX3_mark_70 rfl (lv_at hl 0 rfl) ?_
  refine lv_iload_n hx hb dX3_mark_71 rfl (lv_at hl 2 rfl) ?_
  refine zXV (As := [.int (nI a)]) (b := q) (rest := []) hC (c_X3_markOfPardon (l := l) (hn := hn) (hac := hac) (hdr := hdr) (ha := ha)) lM_X3_204 vM_X3_markOfPardon (by decide) hK hP hD hS [0, 1, 2, 3, 4, 5, 6, 7, 8] [q, b, woA, drA, r 0, r 1, r 2, r 3, r 4] rfl (by decide) rfl rfl ⟨rfl, rfl, rfl⟩ rfl hl.1 rfl (Nat.le_of_ble_eq_true rfl) dX3_mark_72 (by decide) (fun H locs hP hD hS => ?_)
  have hP : va_P D vwCl [oK q t b b2 pp i1 i2 kept tn tw td (tr + (1000) + (10) + 1), oB b n lvA aiA laA ac woA drA, aI cI woA 5 wo, aR cR drA 5 r, aI cI (r 0) 6 (dr 0), aI cI (r 1) 6 (dr 1), aI cI (r 2) 6 (dr 2), aI cI (r 3) 6 (dr 3), aI cI (r 4) 6 (dr 4), oP pp pl pt pa mo dn ea bn stA k] H := hP
  have hD : va_D A [oK q t b b2 pp i1 i2 kept tn tw td (tr + (1000) + (10) + 1), oB b n lvA aiA laA ac woA drA, aI cI woA 5 wo, aR cR drA 5 r, aI cI (r 0) 6 (dr 0), aI cI (r 1) 6 (dr 1), aI cI (r 2) 6 (dr 2), aI cI (r 3) 6 (dr 3), aI cI (r 4) 6 (dr 4), oP pp pl pt pa mo dn ea bn stA k] := hD
  show W _ _ _ _ _ _ _ _ _ _ _ _ _ _ _ (F0 m 75 ls [.int (nI ((wo a + popc (orr (fun i => decide (0 < dr a i)) n)) * 2))])
  exact zw_i hC hr hlk hA h0 hP hS (by first | rfl | omega) dX3_mark_75
set_option maxHeartbeats 1000000 in
set_option maxRecDepth 100000 in
theorem c_X3_mark_4 {l : Launch} {D : va_G} {cI cZ cB cR : ClassId} {q t b b2 pp i1 i2 kept tn tw td : Nat} {tr : Int64} {n lvA aiA laA ac woA drA : Nat} {wo : Nat → Nat} {r : Nat → Nat} {dr : Nat → Nat → Nat} {pl pt pa mo dn ea bn stA k : Nat} {a : Nat} {k9 : Int64} (hn : n ≤ 6) (hac : ac ≤ 5) (hdr : ∀ i j, dr i j ≤ 9) (ha : a < ac) (hk9 : k9 = 10000) : mW l yX3_mark cX3_mark 3 (some .int) 3 66 D cI cZ cB cR [oK q t b b2 pp i1 i2 kept tn tw td tr, oB b n lvA aiA laA ac woA drA, aI cI woA 5 wo, aR cR drA 5 r, aI cI (r 0) 6 (dr 0), aI cI (r 1) 6 (dr 1), aI cI (r 2) 6 (dr 2), aI cI (r 3) 6 (dr 3), aI cI (r 4) 6 (dr 4), oP pp pl pt pa mo dn ea bn stA k] [oK q t b b2 pp i1 i2 kept tn tw td (tr + k9 + (100) + 1), oB b n lvA aiA laA ac woA drA, aI cI woA 5 wo, aR cR drA 5 r, aI cI (r 0) 6 (dr 0), aI cI (r 1) 6 (dr 1), aI cI (r 2) 6 (dr 2), aI cI (r 3) 6 (dr 3), aI cI (r 4) 6 (dr 4), oP pp pl pt pa mo dn ea bn stA k] [.ref q, .int (nI 4), .int (nI a)] (some (.int (nI (wo a) - nI (sm (fun i => dr a i) n) + nI bn))) := by
  refine mW_of rfl (Nat.le_of_ble_eq_true rfl) ?_
  intro p e s m args below meth c hC hr hlk hK A hA hD H0 h0 hP hS ls hl
  have hP : va_P D vwCl [oK q t b b2 pp i1 i2 kept tn tw td tr, oB b n lvA aiA laA ac woA drA, aI cI woA 5 wo, aR cR drA 5 r, aI cI (r 0) 6 (dr 0), aI cI (r 1) 6 (dr 1), aI cI (r 2) 6 (dr 2), aI cI (r 3) 6 (dr 3), aI cI (r 4) 6 (dr 4), oP pp pl pt pa mo dn ea bn stA k] H0 := hP
  have hl : lv_has ls 3 [(0, .ref q), (1, .int (nI 4)), (2, .int (nI a))] := hl
  obtain ⟨hx, hb, hml, hown, hts⟩ := id hC
  refine lv_aload_n hx hb dX3_mark_0 rfl (lv_at hl 0 rfl) ?_
  refine lv_iload_n hx hb dX3_mark_1 rfl (lv_at hl 2 rfl) ?_
  refine zRV (As := [.int (nI a)]) (b := q) (rest := []) hC (c_X3_isAct (l := l) (g := true) (hn := by omega) (hg := ⟨fun _ => vp_in_nI (by omega) (by omega), fun _ => rfl⟩)) lM_X3_95 vM_X3_isAct (by decide) hK hP [0, 1] rfl ⟨rfl, rfl, rfl⟩ rfl hl.1 rfl (Nat.le_of_ble_eq_true rfl) dX3_mark_2 (by decide) ?_
  show W _ _ _ _ _ _ _ _ _ _ _ _ _ _ _ (F0 m 5 ls [.int (bI true)])
  refine zb_ne (tgt := 11) hC dX3_mark_5 (by decide) (fun c5 => ?_) (fun c5 => by exfalso; cases c5)
  refine lv_iload_n hx hb dX3_mark_11 rfl (lv_at hl 1 rfl) ?_
  refine lv_tableIn (off := 64) (tgt := 76) hx hb dX3_mark_12 (by decide) (by decide) (by decide) (by decide) ?_
  refine lv_aload_n hx hb dX3_mark_76 rfl (lv_at hl 0 rfl) ?_
  refine lv_iload_n hx hb dX3_mark_77 rfl (lv_at hl 2 rfl) ?_
  refine zXV (As := [.int (nI a)]) (b := q) (rest := []) hC (c_X3_markOfHunt (l := l) (hn := hn) (hac := hac) (ha := ha) (hk9 := hk9)) lM_X3_207 vM_X3_markOfHunt (by decide) hK hP hD hS [0, 1, 2, 3, 4, 5, 6, 7, 8, 9] [q, b, woA, drA, r 0, r 1, r 2, r 3, r 4, pp] rfl (by decide) rfl rfl ⟨rfl, rfl, rfl⟩ rfl hl.1 rfl (Nat.le_of_ble_eq_true rfl) dX3_mark_78 (by decide) (fun H locs hP hD hS => ?_)
  have hP : va_P D vwCl [oK q t b b2 pp i1 i2 kept tn tw td (tr + k9 + (100) + 1), oB b n lvA aiA laA ac woA drA, aI cI woA 5 wo, aR cR drA 5 r, aI cI (r 0) 6 (dr 0), aI cI (r 1) 6 (dr 1), aI cI (r 2) 6 (dr 2), aI cI (r 3) 6 (dr 3), aI cI (r 4) 6 (dr 4), oP pp pl pt pa mo dn ea bn stA k] H := hP
  have hD : va_D A [oK q t b b2 pp i1 i2 kept tn tw td (tr + k9 + (100) + 1), oB b n lvA aiA laA ac woA drA, aI cI woA 5 wo, aR cR drA 5 r, aI cI (r 0) 6 (dr 0), aI cI (r 1) 6 (dr 1), aI cI (r 2) 6 (dr 2), aI cI (r 3) 6 (dr 3), aI cI (r 4) 6 (dr 4), oP pp pl pt pa mo dn ea bn stA k] := hD
  show W _ _ _ _ _ _ _ _ _ _ _ _ _ _ _ (F0 m 81 ls [.int (nI (wo a) - nI (sm (fun i => dr a i) n) + nI bn)])
  exact zw_i hC hr hlk hA h0 hP hS (by first | rfl | omega) dX3_mark_81
set_option maxHeartbeats 1000000 in
set_option maxRecDepth 100000 in
theorem c_X3_mark_5 {l : Launch} {D : va_G} {cI cZ cB cR : ClassId} {q t b b2 pp i1 i2 kept tn tw td : Nat} {tr : Int64} {n lvA aiA laA ac woA drA : Nat} {wo : Nat → Nat} {r : Nat → Nat} {dr : Nat → Nat → Nat} {pl pt pa mo dn ea bn stA k : Nat} {a : Nat} {k9 : Int64} (hn : n ≤ 6) (hac : ac ≤ 5) (hdr : ∀ i j, dr i j ≤ 9) (ha : a < ac) (hk9 : k9 = 100000) : mW l yX3_mark cX3_mark 3 (some .int) 2 42 D cI cZ cB cR [oK q t b b2 pp i1 i2 kept tn tw td tr, oB b n lvA aiA laA ac woA drA, aI cI woA 5 wo, aR cR drA 5 r, aI cI (r 0) 6 (dr 0), aI cI (r 1) 6 (dr 1), aI cI (r 2) 6 (dr 2), aI cI (r 3) 6 (dr 3), aI cI (r 4) 6 (dr 4), oP pp pl pt pa mo dn ea bn stA k] [oK q t b b2 pp i1 i2 kept tn tw td (tr + k9 + 1), oB b n lvA aiA laA ac woA drA, aI cI woA 5 wo, aR cR drA 5 r, aI cI (r 0) 6 (dr 0), aI cI (r 1) 6 (dr 1), aI cI (r 2) 6 (dr 2), aI cI (r 3) 6 (dr 3), aI cI (r 4) 6 (dr 4), oP pp pl pt pa mo dn ea bn stA k] [.ref q, .int (nI 5), .int (nI a)] (some (.int (nI (wo a + mo)))) := by
  refine mW_of rfl (Nat.le_of_ble_eq_true rfl) ?_
  intro p e s m args below meth c hC hr hlk hK A hA hD H0 h0 hP hS ls hl
  have hP : va_P D vwCl [oK q t b b2 pp i1 i2 kept tn tw td tr, oB b n lvA aiA laA ac woA drA, aI cI woA 5 wo, aR cR drA 5 r, aI cI (r 0) 6 (dr 0), aI cI (r 1) 6 (dr 1), aI cI (r 2) 6 (dr 2), aI cI (r 3) 6 (dr 3), aI cI (r 4) 6 (dr 4), oP pp pl pt pa mo dn ea bn stA k] H0 := hP
  have hl : lv_has ls 3 [(0, .ref q), (1, .int (nI 5)), (2, .int (nI a))] := hl
  obtain ⟨hx, hb, hml, hown, hts⟩ := id hC
  refine lv_aload_n hx hb dX3_mark_0 rfl (lv_at hl 0 rfl) ?_
  refine lv_iload_n hx hb dX3_mark_1 rfl (lv_at hl 2 rfl) ?_
  refine zRV (As := [.int (nI a)]) (b := q) (rest := []) hC (c_X3_isAct (l := l) (g := true) (hn := by omega) (hg := ⟨fun _ => vp_in_nI (by omega) (by omega), fun _ => rfl⟩)) lM_X3_95 vM_X3_isAct (by decide) hK hP [0, 1] rfl ⟨rfl, rfl, rfl⟩ rfl hl.1 rfl (Nat.le_of_ble_eq_true rfl) dX3_mark_2 (by decide) ?_
  show W _ _ _ _ _ _ _ _ _ _ _ _ _ _ _ (F0 m 5 ls [.int (bI true)])
  refine zb_ne (tgt := 11) hC dX3_mark_5 (by decide) (fun c5 => ?_) (fun c5 => by exfalso; cases c5)
  refine lv_iload_n hx hb dX3_mark_11 rfl (lv_at hl 1 rfl) ?_
  refine lv_tableIn (off := 70) (tgt := 82) hx hb dX3_mark_12 (by decide) (by decide) (by decide) (by decide) ?_
  refine lv_aload_n hx hb dX3_mark_82 rfl (lv_at hl 0 rfl) ?_
  refine lv_iload_n hx hb dX3_mark_83 rfl (lv_at hl 2 rfl) ?_
  refine zXV (As := [.int (nI a)]) (b := q) (rest := []) hC (c_X3_markOfBreath (l := l) (hac := hac) (ha := ha) (hk9 := hk9)) lM_X3_210 vM_X3_markOfBreath (by decide) hK hP hD hS [0, 1, 2, 9] [q, b, woA, pp] rfl (by decide) rfl rfl ⟨rfl, rfl, rfl⟩ rfl hl.1 rfl (Nat.le_of_ble_eq_true rfl) dX3_mark_84 (by decide) (fun H locs hP hD hS => ?_)
  have hP : va_P D vwCl [oK q t b b2 pp i1 i2 kept tn tw td (tr + k9 + 1), oB b n lvA aiA laA ac woA drA, aI cI woA 5 wo, aR cR drA 5 r, aI cI (r 0) 6 (dr 0), aI cI (r 1) 6 (dr 1), aI cI (r 2) 6 (dr 2), aI cI (r 3) 6 (dr 3), aI cI (r 4) 6 (dr 4), oP pp pl pt pa mo dn ea bn stA k] H := hP
  have hD : va_D A [oK q t b b2 pp i1 i2 kept tn tw td (tr + k9 + 1), oB b n lvA aiA laA ac woA drA, aI cI woA 5 wo, aR cR drA 5 r, aI cI (r 0) 6 (dr 0), aI cI (r 1) 6 (dr 1), aI cI (r 2) 6 (dr 2), aI cI (r 3) 6 (dr 3), aI cI (r 4) 6 (dr 4), oP pp pl pt pa mo dn ea bn stA k] := hD
  show W _ _ _ _ _ _ _ _ _ _ _ _ _ _ _ (F0 m 87 ls [.int (nI (wo a + mo))])
  exact zw_i hC hr hlk hA h0 hP hS (by first | rfl | omega) dX3_mark_87
set_option maxHeartbeats 1000000 in
set_option maxRecDepth 100000 in
theorem c_X3_keep_0 {l : Launch} {D : va_G} {cI cZ cB cR : ClassId} {q t b b2 pp i1 i2 kept tn tw td : Nat} {tr : Int64} {pl pt pa mo dn ea bn stA k : Nat} {lv : Nat → Nat} {te : Nat → Nat} {la : Nat → Nat} {st : Nat → Nat} {jl1 jt1 ja1 jmo1 jdn1 jea1 jbn1 js1 jk1 : Nat} {lvJ1 teJ1 laJ1 stJ1 : Nat → Nat}   : mW l yX3_keep cX3_keep 2 (some .int) 2 61 D cI cZ cB cR [oK q t b b2 pp i1 i2 kept tn tw td tr, oP pp pl pt pa mo dn ea bn stA k, aI cI pl 6 lv, aI cI pt 6 te, aI cI pa 6 la, aI cI stA 220 st, oP i1 jl1 jt1 ja1 jmo1 jdn1 jea1 jbn1 js1 jk1, aI cI jl1 6 lvJ1, aI cI jt1 6 teJ1, aI cI ja1 6 laJ1, aI cI js1 220 stJ1] [oK q t b b2 pp i1 i2 (kept ||| 2 ^ 0) tn tw td tr, oP pp pl pt pa mo dn ea bn stA k, aI cI pl 6 lv, aI cI pt 6 te, aI cI pa 6 la, aI cI stA 220 st, oP i1 jl1 jt1 ja1 mo dn ea bn js1 k, aI cI jl1 6 (cpyN lv lvJ1 0 0 6), aI cI jt1 6 (cpyN te teJ1 0 0 6), aI cI ja1 6 (cpyN la laJ1 0 0 6), aI cI js1 220 (cpyN st stJ1 0 0 220)] [.ref q, .int (nI 0)] (some (.int (nI mo))) := by
  refine mW_of rfl (Nat.le_of_ble_eq_true rfl) ?_
  intro p e s m args below meth c hC hr hlk hK A hA hD H0 h0 hP hS ls hl
  have hP : va_P D vwCl [oK q t b b2 pp i1 i2 kept tn tw td tr, oP pp pl pt pa mo dn ea bn stA k, aI cI pl 6 lv, aI cI pt 6 te, aI cI pa 6 la, aI cI stA 220 st, oP i1 jl1 jt1 ja1 jmo1 jdn1 jea1 jbn1 js1 jk1, aI cI jl1 6 lvJ1, aI cI jt1 6 teJ1, aI cI ja1 6 laJ1, aI cI js1 220 stJ1] H0 := hP
  have hl : lv_has ls 2 [(0, .ref q), (1, .int (nI 0))] := hl
  obtain ⟨hx, hb, hml, hown, hts⟩ := id hC
  refine lv_iload_n hx hb dX3_keep_0 rfl (lv_at hl 1 rfl) ?_
  refine zRS (As := [.int (nI 0)]) (rest := []) hC (c_X3_isNoughtOrOne (l := l) (b := true) (hb9 := ⟨fun _ => by first | exact Or.inl rfl | exact Or.inr rfl, fun _ => rfl⟩)) lM_X3_159 sM_X3_isNoughtOrOne (by decide) hK rfl hl.1 rfl (Nat.le_of_ble_eq_true rfl) dX3_keep_1 (by decide) ?_
  show W _ _ _ _ _ _ _ _ _ _ _ _ _ _ _ (F0 m 4 ls [.int (bI true)])
  refine zb_ne (tgt := 9) hC dX3_keep_4 (by decide) (fun c4 => ?_) (fun c4 => by exfalso; cases c4)
  refine lv_aload_n hx hb dX3_keep_9 rfl (lv_at hl 0 rfl) ?_
  refine lv_iload_n hx hb dX3_keep_10 rfl (lv_at hl 1 rfl) ?_
  refine zRV (As := [.int (nI 0)]) (b := q) (rest := []) hC (c_X3_imageOf (l := l) (im := 0) (him := by decide)) lM_X3_213 vM_X3_imageOf (by decide) hK hP [0] rfl ⟨rfl, rfl, rfl⟩ rfl hl.1 rfl (Nat.le_of_ble_eq_true rfl) dX3_keep_11 (by decide) ?_
  show W _ _ _ _ _ _ _ _ _ _ _ _ _ _ _ (F0 m 14 ls [.ref i1])
  refine lv_aload_n hx hb dX3_keep_14 rfl (lv_at hl 0 rfl) ?_
  refine z_get (k := 3) zcX3 hC hK hP 0 rfl (by decide) lF_X3_29 rfl dX3_keep_15 ?_
  refine zXVN (As := [.ref pp]) (b := i1) (rest := []) hC (c_X0_becomes (l := l) ) lM_X3_217 vM_X0_becomes (by decide) hK hP hD hS [6, 7, 8, 9, 10, 1, 2, 3, 4, 5] [i1, jl1, jt1, ja1, js1, pp, pl, pt, pa, stA] rfl (by decide) rfl rfl ⟨rfl, rfl, rfl⟩ rfl hl.1 rfl (Nat.le_of_ble_eq_true rfl) dX3_keep_18 (by decide) (fun H locs hP hD hS => ?_)
  have hP : va_P D vwCl [oK q t b b2 pp i1 i2 kept tn tw td tr, oP pp pl pt pa mo dn ea bn stA k, aI cI pl 6 lv, aI cI pt 6 te, aI cI pa 6 la, aI cI stA 220 st, oP i1 jl1 jt1 ja1 mo dn ea bn js1 k, aI cI jl1 6 (cpyN lv lvJ1 0 0 6), aI cI jt1 6 (cpyN te teJ1 0 0 6), aI cI ja1 6 (cpyN la laJ1 0 0 6), aI cI js1 220 (cpyN st stJ1 0 0 220)] H := hP
  have hD : va_D A [oK q t b b2 pp i1 i2 kept tn tw td tr, oP pp pl pt pa mo dn ea bn stA k, aI cI pl 6 lv, aI cI pt 6 te, aI cI pa 6 la, aI cI stA 220 st, oP i1 jl1 jt1 ja1 mo dn ea bn js1 k, aI cI jl1 6 (cpyN lv lvJ1 0 0 6), aI cI jt1 6 (cpyN te teJ1 0 0 6), aI cI ja1 6 (cpyN la laJ1 0 0 6), aI cI js1 220 (cpyN st stJ1 0 0 220)] := hD
  show W _ _ _ _ _ _ _ _ _ _ _ _ _ _ _ (F0 m 21 ls [])
  refine lv_aload_n hx hb dX3_keep_21 rfl (lv_at hl 0 rfl) ?_
  refine lv_dup hx hb dX3_keep_22 rfl ?_
  refine z_get (k := 6) zcX3 hC hK hP 0 rfl (by decide) lF_X3_39 rfl dX3_keep_23 ?_
  refine lv_iconst (v := nI 1) hx hb dX3_keep_26 (by decide) ?_
  refine lv_iload_n hx hb dX3_keep_27 rfl (lv_at hl 1 rfl) ?_
  refine zi_shl1 hC dX3_keep_28 (by omega) ?_
  refine zi_or hC dX3_keep_29 ?_
  refine z_put (k := 6) zcX3 hC hK hP hD hS 0 rfl (by decide) lF_X3_39 rfl rfl rfl (Nat.le_of_ble_eq_true rfl) dX3_keep_30 (fun H locs hP hD hS => ?_)
  have hP : va_P D vwCl [oK q t b b2 pp i1 i2 (kept ||| (2 ^ 0)) tn tw td tr, oP pp pl pt pa mo dn ea bn stA k, aI cI pl 6 lv, aI cI pt 6 te, aI cI pa 6 la, aI cI stA 220 st, oP i1 jl1 jt1 ja1 mo dn ea bn js1 k, aI cI jl1 6 (cpyN lv lvJ1 0 0 6), aI cI jt1 6 (cpyN te teJ1 0 0 6), aI cI ja1 6 (cpyN la laJ1 0 0 6), aI cI js1 220 (cpyN st stJ1 0 0 220)] H := hP
  have hD : va_D A [oK q t b b2 pp i1 i2 (kept ||| (2 ^ 0)) tn tw td tr, oP pp pl pt pa mo dn ea bn stA k, aI cI pl 6 lv, aI cI pt 6 te, aI cI pa 6 la, aI cI stA 220 st, oP i1 jl1 jt1 ja1 mo dn ea bn js1 k, aI cI jl1 6 (cpyN lv lvJ1 0 0 6), aI cI jt1 6 (cpyN te teJ1 0 0 6), aI cI ja1 6 (cpyN la laJ1 0 0 6), aI cI js1 220 (cpyN st stJ1 0 0 220)] := hD
  refine lv_aload_n hx hb dX3_keep_33 rfl (lv_at hl 0 rfl) ?_
  refine z_get (k := 3) zcX3 hC hK hP 0 rfl (by decide) lF_X3_29 rfl dX3_keep_34 ?_
  refine z_get (k := 3) zcX0 hC hK hP 1 rfl (by decide) lF_X3_142 rfl dX3_keep_37 ?_
  exact zw_i hC hr hlk hA h0 hP hS (by first | rfl | omega) dX3_keep_40
set_option maxHeartbeats 1000000 in
set_option maxRecDepth 100000 in
theorem c_X3_back_state0 {l : Launch} {D : va_G} {cI cZ cB cR : ClassId} {q t b b2 pp i1 i2 kept tn tw td : Nat} {tr : Int64}  (hk : kept < 4) (hbt : kept.testBit 0 = false) : mR l yX3_back cX3_back 2 (some .int) 1 21 D cI cZ cB cR [oK q t b b2 pp i1 i2 kept tn tw td tr] [.ref q, .int (nI 0)] (some (.int (-2))) := by
  refine mR_of rfl (Nat.le_of_ble_eq_true rfl) ?_
  intro p e s m args below meth c hC hr hlk hK hP ls hl
  have hl : lv_has ls 2 [(0, .ref q), (1, .int (nI 0))] := hl
  obtain ⟨hx, hb, hml, hown, hts⟩ := id hC
  refine lv_iload_n hx hb dX3_back_0 rfl (lv_at hl 1 rfl) ?_
  refine zRS (As := [.int (nI 0)]) (rest := []) hC (c_X3_isNoughtOrOne (l := l) (b := true) (hb9 := ⟨fun _ => by first | exact Or.inl rfl | exact Or.inr rfl, fun _ => rfl⟩)) lM_X3_159 sM_X3_isNoughtOrOne (by decide) hK rfl hl.1 rfl (Nat.le_of_ble_eq_true rfl) dX3_back_1 (by decide) ?_
  show W _ _ _ _ _ _ _ _ _ _ _ _ _ _ _ (F0 m 4 ls [.int (bI true)])
  refine zb_ne (tgt := 9) hC dX3_back_4 (by decide) (fun c4 => ?_) (fun c4 => by exfalso; cases c4)
  refine lv_aload_n hx hb dX3_back_9 rfl (lv_at hl 0 rfl) ?_
  refine z_get (k := 6) zcX3 hC hK hP 0 rfl (by decide) lF_X3_39 rfl dX3_back_10 ?_
  refine lv_iload_n hx hb dX3_back_13 rfl (lv_at hl 1 rfl) ?_
  refine zRS (As := [.int (nI kept), .int (nI 0)]) (rest := []) hC (c_X3_has (l := l) (b := kept) (i := 0) (hb9 := by omega) (hi := by omega)) lM_X3_221 sM_X3_has (by decide) hK rfl hl.1 rfl (Nat.le_of_ble_eq_true rfl) dX3_back_14 (by decide) ?_
  show W _ _ _ _ _ _ _ _ _ _ _ _ _ _ _ (F0 m 17 ls [.int (bI (kept.testBit 0))])
  refine zb_ne (tgt := 23) hC dX3_back_17 (by decide) (fun c17 => by exfalso; exact absurd (hbt.symm.trans c17) (by decide)) (fun c17 => ?_)
  refine lv_bipush (v := (-2)) hx hb dX3_back_20 (by decide) ?_
  exact zr_i hC hr hlk (by first | rfl | omega) dX3_back_22
set_option maxHeartbeats 1000000 in
set_option maxRecDepth 100000 in
theorem c_X3_back_0 {l : Launch} {D : va_G} {cI cZ cB cR : ClassId} {q t b b2 pp i1 i2 kept tn tw td : Nat} {tr : Int64} {pl pt pa mo dn ea bn stA k : Nat} {lv : Nat → Nat} {te : Nat → Nat} {la : Nat → Nat} {st : Nat → Nat} {jl1 jt1 ja1 jmo1 jdn1 jea1 jbn1 js1 jk1 : Nat} {lvJ1 teJ1 laJ1 stJ1 : Nat → Nat}  (hk : kept < 4) (hbt : kept.testBit 0 = true) : mW l yX3_back cX3_back 2 (some .int) 2 61 D cI cZ cB cR [oK q t b b2 pp i1 i2 kept tn tw td tr, oP pp pl pt pa mo dn ea bn stA k, aI cI pl 6 lv, aI cI pt 6 te, aI cI pa 6 la, aI cI stA 220 st, oP i1 jl1 jt1 ja1 jmo1 jdn1 jea1 jbn1 js1 jk1, aI cI jl1 6 lvJ1, aI cI jt1 6 teJ1, aI cI ja1 6 laJ1, aI cI js1 220 stJ1] [oK q t b b2 pp i1 i2 kept tn tw td tr, oP pp pl pt pa jmo1 jdn1 jea1 jbn1 stA jk1, aI cI pl 6 (cpyN lvJ1 lv 0 0 6), aI cI pt 6 (cpyN teJ1 te 0 0 6), aI cI pa 6 (cpyN laJ1 la 0 0 6), aI cI stA 220 (cpyN stJ1 st 0 0 220), oP i1 jl1 jt1 ja1 jmo1 jdn1 jea1 jbn1 js1 jk1, aI cI jl1 6 lvJ1, aI cI jt1 6 teJ1, aI cI ja1 6 laJ1, aI cI js1 220 stJ1] [.ref q, .int (nI 0)] (some (.int (nI jmo1))) := by
  refine mW_of rfl (Nat.le_of_ble_eq_true rfl) ?_
  intro p e s m args below meth c hC hr hlk hK A hA hD H0 h0 hP hS ls hl
  have hP : va_P D vwCl [oK q t b b2 pp i1 i2 kept tn tw td tr, oP pp pl pt pa mo dn ea bn stA k, aI cI pl 6 lv, aI cI pt 6 te, aI cI pa 6 la, aI cI stA 220 st, oP i1 jl1 jt1 ja1 jmo1 jdn1 jea1 jbn1 js1 jk1, aI cI jl1 6 lvJ1, aI cI jt1 6 teJ1, aI cI ja1 6 laJ1, aI cI js1 220 stJ1] H0 := hP
  have hl : lv_has ls 2 [(0, .ref q), (1, .int (nI 0))] := hl
  obtain ⟨hx, hb, hml, hown, hts⟩ := id hC
  refine lv_iload_n hx hb dX3_back_0 rfl (lv_at hl 1 rfl) ?_
  refine zRS (As := [.int (nI 0)]) (rest := []) hC (c_X3_isNoughtOrOne (l := l) (b := true) (hb9 := ⟨fun _ => by first | exact Or.inl rfl | exact Or.inr rfl, fun _ => rfl⟩)) lM_X3_159 sM_X3_isNoughtOrOne (by decide) hK rfl hl.1 rfl (Nat.le_of_ble_eq_true rfl) dX3_back_1 (by decide) ?_
  show W _ _ _ _ _ _ _ _ _ _ _ _ _ _ _ (F0 m 4 ls [.int (bI true)])
  refine zb_ne (tgt := 9) hC dX3_back_4 (by decide) (fun c4 => ?_) (fun c4 => by exfalso; cases c4)
  refine lv_aload_n hx hb dX3_back_9 rfl (lv_at hl 0 rfl) ?_
  refine z_get (k := 6) zcX3 hC hK hP 0 rfl (by decide) lF_X3_39 rfl dX3_back_10 ?_
  refine lv_iload_n hx hb dX3_back_13 rfl (lv_at hl 1 rfl) ?_
  refine zRS (As := [.int (nI kept), .int (nI 0)]) (rest := []) hC (c_X3_has (l := l) (b := kept) (i := 0) (hb9 := by omega) (hi := by omega)) lM_X3_221 sM_X3_has (by decide) hK rfl hl.1 rfl (Nat.le_of_ble_eq_true rfl) dX3_back_14 (by decide) ?_
  show W _ _ _ _ _ _ _ _ _ _ _ _ _ _ _ (F0 m 17 ls [.int (bI (kept.testBit 0))])
  refine zb_ne (tgt := 23) hC dX3_back_17 (by decide) (fun c17 => ?_) (fun c17 => by exfalso; exact absurd (hbt.symm.trans c17) (by decide))
  refine lv_aload_n hx hb dX3_back_23 rfl (lv_at hl 0 rfl) ?_
  refine z_get (k := 3) zcX3 hC hK hP 0 rfl (by decide) lF_X3_29 rfl dX3_back_24 ?_
  refine lv_aload_n hx hb dX3_back_27 rfl (lv_at hl 0 rfl) ?_
  refine lv_iload_n hx hb dX3_back_28 rfl (lv_at hl 1 rfl) ?_
  refine zRV (As := [.int (nI 0)]) (b := q) (rest := [.ref pp]) hC (c_X3_imageOf (l := l) (im := 0) (him := by decide)) lM_X3_213 vM_X3_imageOf (by decide) hK hP [0] rfl ⟨rfl, rfl, rfl⟩ rfl hl.1 rfl (Nat.le_of_ble_eq_true rfl) dX3_back_29 (by decide) ?_
  show W _ _ _ _ _ _ _ _ _ _ _ _ _ _ _ (F0 m 32 ls [.ref i1, .ref pp])
  refine zXVN (As := [.ref i1]) (b := pp) (rest := []) hC (c_X0_becomes (l := l) ) lM_X3_217 vM_X0_becomes (by decide) hK hP hD hS [1, 2, 3, 4, 5, 6, 7, 8, 9, 10] [pp, pl, pt, pa, stA, i1, jl1, jt1, ja1, js1] rfl (by decide) rfl rfl ⟨rfl, rfl, rfl⟩ rfl hl.1 rfl (Nat.le_of_ble_eq_true rfl) dX3_back_32 (by decide) (fun H locs hP hD hS => ?_)
  have hP : va_P D vwCl [oK q t b b2 pp i1 i2 kept tn tw td tr, oP pp pl pt pa jmo1 jdn1 jea1 jbn1 stA jk1, aI cI pl 6 (cpyN lvJ1 lv 0 0 6), aI cI pt 6 (cpyN teJ1 te 0 0 6), aI cI pa 6 (cpyN laJ1 la 0 0 6), aI cI stA 220 (cpyN stJ1 st 0 0 220), oP i1 jl1 jt1 ja1 jmo1 jdn1 jea1 jbn1 js1 jk1, aI cI jl1 6 lvJ1, aI cI jt1 6 teJ1, aI cI ja1 6 laJ1, aI cI js1 220 stJ1] H := hP
  have hD : va_D A [oK q t b b2 pp i1 i2 kept tn tw td tr, oP pp pl pt pa jmo1 jdn1 jea1 jbn1 stA jk1, aI cI pl 6 (cpyN lvJ1 lv 0 0 6), aI cI pt 6 (cpyN teJ1 te 0 0 6), aI cI pa 6 (cpyN laJ1 la 0 0 6), aI cI stA 220 (cpyN stJ1 st 0 0 220), oP i1 jl1 jt1 ja1 jmo1 jdn1 jea1 jbn1 js1 jk1, aI cI jl1 6 lvJ1, aI cI jt1 6 teJ1, aI cI ja1 6 laJ1, aI cI js1 220 stJ1] := hD
  show W _ _ _ _ _ _ _ _ _ _ _ _ _ _ _ (F0 m 35 ls [])
  refine lv_aload_n hx hb dX3_back_35 rfl (lv_at hl 0 rfl) ?_
  refine z_get (k := 3) zcX3 hC hK hP 0 rfl (by decide) lF_X3_29 rfl dX3_back_36 ?_
  refine z_get (k := 3) zcX0 hC hK hP 1 rfl (by decide) lF_X3_142 rfl dX3_back_39 ?_
  exact zw_i hC hr hlk hA h0 hP hS (by first | rfl | omega) dX3_back_42
set_option maxHeartbeats 1000000 in
set_option maxRecDepth 100000 in
theorem c_X3_keep_1 {l : Launch} {D : va_G} {cI cZ cB cR : ClassId} {q t b b2 pp i1 i2 kept tn tw td : Nat} {tr : Int64} {pl pt pa mo dn ea bn stA k : Nat} {lv : Nat → Nat} {te : Nat → Nat} {la : Nat → Nat} {st : Nat → Nat} {jl2 jt2 ja2 jmo2 jdn2 jea2 jbn2 js2 jk2 : Nat} {lvJ2 teJ2 laJ2 stJ2 : Nat → Nat}   : mW l yX3_keep cX3_keep 2 (some .int) 2 61 D cI cZ cB cR [oK q t b b2 pp i1 i2 kept tn tw td tr, oP pp pl pt pa mo dn ea bn stA k, aI cI pl 6 lv, aI cI pt 6 te, aI cI pa 6 la, aI cI stA 220 st, oP i2 jl2 jt2 ja2 jmo2 jdn2 jea2 jbn2 js2 jk2, aI cI jl2 6 lvJ2, aI cI jt2 6 teJ2, aI cI ja2 6 laJ2, aI cI js2 220 stJ2] [oK q t b b2 pp i1 i2 (kept ||| 2 ^ 1) tn tw td tr, oP pp pl pt pa mo dn ea bn stA k, aI cI pl 6 lv, aI cI pt 6 te, aI cI pa 6 la, aI cI stA 220 st, oP i2 jl2 jt2 ja2 mo dn ea bn js2 k, aI cI jl2 6 (cpyN lv lvJ2 0 0 6), aI cI jt2 6 (cpyN te teJ2 0 0 6), aI cI ja2 6 (cpyN la laJ2 0 0 6), aI cI js2 220 (cpyN st stJ2 0 0 220)] [.ref q, .int (nI 1)] (some (.int (nI mo))) := by
  refine mW_of rfl (Nat.le_of_ble_eq_true rfl) ?_
  intro p e s m args below meth c hC hr hlk hK A hA hD H0 h0 hP hS ls hl
  have hP : va_P D vwCl [oK q t b b2 pp i1 i2 kept tn tw td tr, oP pp pl pt pa mo dn ea bn stA k, aI cI pl 6 lv, aI cI pt 6 te, aI cI pa 6 la, aI cI stA 220 st, oP i2 jl2 jt2 ja2 jmo2 jdn2 jea2 jbn2 js2 jk2, aI cI jl2 6 lvJ2, aI cI jt2 6 teJ2, aI cI ja2 6 laJ2, aI cI js2 220 stJ2] H0 := hP
  have hl : lv_has ls 2 [(0, .ref q), (1, .int (nI 1))] := hl
  obtain ⟨hx, hb, hml, hown, hts⟩ := id hC
  refine lv_iload_n hx hb dX3_keep_0 rfl (lv_at hl 1 rfl) ?_
  refine zRS (As := [.int (nI 1)]) (rest := []) hC (c_X3_isNoughtOrOne (l := l) (b := true) (hb9 := ⟨fun _ => by first | exact Or.inl rfl | exact Or.inr rfl, fun _ => rfl⟩)) lM_X3_159 sM_X3_isNoughtOrOne (by decide) hK rfl hl.1 rfl (Nat.le_of_ble_eq_true rfl) dX3_keep_1 (by decide) ?_
  show W _ _ _ _ _ _ _ _ _ _ _ _ _ _ _ (F0 m 4 ls [.int (bI true)])
  refine zb_ne (tgt := 9) hC dX3_keep_4 (by decide) (fun c4 => ?_) (fun c4 => by exfalso; cases c4)
  refine lv_aload_n hx hb dX3_keep_9 rfl (lv_at hl 0 rfl) ?_
  refine lv_iload_n hx hb dX3_keep_10 rfl (lv_at hl 1 rfl) ?_
  refine zRV (As := [.int (nI 1)]) (b := q) (rest := []) hC (c_X3_imageOf (l := l) (im := 1) (him := by decide)) lM_X3_213 vM_X3_imageOf (by decide) hK hP [0] rfl ⟨rfl, rfl, rfl⟩ rfl hl.1 rfl (Nat.le_of_ble_eq_true rfl) dX3_keep_11 (by decide) ?_
  show W _ _ _ _ _ _ _ _ _ _ _ _ _ _ _ (F0 m 14 ls [.ref i2])
  refine lv_aload_n hx hb dX3_keep_14 rfl (lv_at hl 0 rfl) ?_
  refine z_get (k := 3) zcX3 hC hK hP 0 rfl (by decide) lF_X3_29 rfl dX3_keep_15 ?_
  refine zXVN (As := [.ref pp]) (b := i2) (rest := []) hC (c_X0_becomes (l := l) ) lM_X3_217 vM_X0_becomes (by decide) hK hP hD hS [6, 7, 8, 9, 10, 1, 2, 3, 4, 5] [i2, jl2, jt2, ja2, js2, pp, pl, pt, pa, stA] rfl (by decide) rfl rfl ⟨rfl, rfl, rfl⟩ rfl hl.1 rfl (Nat.le_of_ble_eq_true rfl) dX3_keep_18 (by decide) (fun H locs hP hD hS => ?_)
  have hP : va_P D vwCl [oK q t b b2 pp i1 i2 kept tn tw td tr, oP pp pl pt pa mo dn ea bn stA k, aI cI pl 6 lv, aI cI pt 6 te, aI cI pa 6 la, aI cI stA 220 st, oP i2 jl2 jt2 ja2 mo dn ea bn js2 k, aI cI jl2 6 (cpyN lv lvJ2 0 0 6), aI cI jt2 6 (cpyN te teJ2 0 0 6), aI cI ja2 6 (cpyN la laJ2 0 0 6), aI cI js2 220 (cpyN st stJ2 0 0 220)] H := hP
  have hD : va_D A [oK q t b b2 pp i1 i2 kept tn tw td tr, oP pp pl pt pa mo dn ea bn stA k, aI cI pl 6 lv, aI cI pt 6 te, aI cI pa 6 la, aI cI stA 220 st, oP i2 jl2 jt2 ja2 mo dn ea bn js2 k, aI cI jl2 6 (cpyN lv lvJ2 0 0 6), aI cI jt2 6 (cpyN te teJ2 0 0 6), aI cI ja2 6 (cpyN la laJ2 0 0 6), aI cI js2 220 (cpyN st stJ2 0 0 220)] := hD
  show W _ _ _ _ _ _ _ _ _ _ _ _ _ _ _ (F0 m 21 ls [])
  refine lv_aload_n hx hb dX3_keep_21 rfl (lv_at hl 0 rfl) ?_
  refine lv_dup hx hb dX3_keep_22 rfl ?_
  refine z_get (k := 6) zcX3 hC hK hP 0 rfl (by decide) lF_X3_39 rfl dX3_keep_23 ?_
  refine lv_iconst (v := nI 1) hx hb dX3_keep_26 (by decide) ?_
  refine lv_iload_n hx hb dX3_keep_27 rfl (lv_at hl 1 rfl) ?_
  refine zi_shl1 hC dX3_keep_28 (by omega) ?_
  refine zi_or hC dX3_keep_29 ?_
  refine z_put (k := 6) zcX3 hC hK hP hD hS 0 rfl (by decide) lF_X3_39 rfl rfl rfl (Nat.le_of_ble_eq_true rfl) dX3_keep_30 (fun H locs hP hD hS => ?_)
  have hP : va_P D vwCl [oK q t b b2 pp i1 i2 (kept ||| (2 ^ 1)) tn tw td tr, oP pp pl pt pa mo dn ea bn stA k, aI cI pl 6 lv, aI cI pt 6 te, aI cI pa 6 la, aI cI stA 220 st, oP i2 jl2 jt2 ja2 mo dn ea bn js2 k, aI cI jl2 6 (cpyN lv lvJ2 0 0 6), aI cI jt2 6 (cpyN te teJ2 0 0 6), aI cI ja2 6 (cpyN la laJ2 0 0 6), aI cI js2 220 (cpyN st stJ2 0 0 220)] H := hP
  have hD : va_D A [oK q t b b2 pp i1 i2 (kept ||| (2 ^ 1)) tn tw td tr, oP pp pl pt pa mo dn ea bn stA k, aI cI pl 6 lv, aI cI pt 6 te, aI cI pa 6 la, aI cI stA 220 st, oP i2 jl2 jt2 ja2 mo dn ea bn js2 k, aI cI jl2 6 (cpyN lv lvJ2 0 0 6), aI cI jt2 6 (cpyN te teJ2 0 0 6), aI cI ja2 6 (cpyN la laJ2 0 0 6), aI cI js2 220 (cpyN st stJ2 0 0 220)] := hD
  refine lv_aload_n hx hb dX3_keep_33 rfl (lv_at hl 0 rfl) ?_
  refine z_get (k := 3) zcX3 hC hK hP 0 rfl (by decide) lF_X3_29 rfl dX3_keep_34 ?_
  refine z_get (k := 3) zcX0 hC hK hP 1 rfl (by decide) lF_X3_142 rfl dX3_keep_37 ?_
  exact zw_i hC hr hlk hA h0 hP hS (by first | rfl | omega) dX3_keep_40
set_option maxHeartbeats 1000000 in
set_option maxRecDepth 100000 in
theorem c_X3_back_state1 {l : Launch} {D : va_G} {cI cZ cB cR : ClassId} {q t b b2 pp i1 i2 kept tn tw td : Nat} {tr : Int64}  (hk : kept < 4) (hbt : kept.testBit 1 = false) : mR l yX3_back cX3_back 2 (some .int) 1 21 D cI cZ cB cR [oK q t b b2 pp i1 i2 kept tn tw td tr] [.ref q, .int (nI 1)] (some (.int (-2))) := by
  refine mR_of rfl (Nat.le_of_ble_eq_true rfl) ?_
  intro p e s m args below meth c hC hr hlk hK hP ls hl
  have hl : lv_has ls 2 [(0, .ref q), (1, .int (nI 1))] := hl
  obtain ⟨hx, hb, hml, hown, hts⟩ := id hC
  refine lv_iload_n hx hb dX3_back_0 rfl (lv_at hl 1 rfl) ?_
  refine zRS (As := [.int (nI 1)]) (rest := []) hC (c_X3_isNoughtOrOne (l := l) (b := true) (hb9 := ⟨fun _ => by first | exact Or.inl rfl | exact Or.inr rfl, fun _ => rfl⟩)) lM_X3_159 sM_X3_isNoughtOrOne (by decide) hK rfl hl.1 rfl (Nat.le_of_ble_eq_true rfl) dX3_back_1 (by decide) ?_
  show W _ _ _ _ _ _ _ _ _ _ _ _ _ _ _ (F0 m 4 ls [.int (bI true)])
  refine zb_ne (tgt := 9) hC dX3_back_4 (by decide) (fun c4 => ?_) (fun c4 => by exfalso; cases c4)
  refine lv_aload_n hx hb dX3_back_9 rfl (lv_at hl 0 rfl) ?_
  refine z_get (k := 6) zcX3 hC hK hP 0 rfl (by decide) lF_X3_39 rfl dX3_back_10 ?_
  refine lv_iload_n hx hb dX3_back_13 rfl (lv_at hl 1 rfl) ?_
  refine zRS (As := [.int (nI kept), .int (nI 1)]) (rest := []) hC (c_X3_has (l := l) (b := kept) (i := 1) (hb9 := by omega) (hi := by omega)) lM_X3_221 sM_X3_has (by decide) hK rfl hl.1 rfl (Nat.le_of_ble_eq_true rfl) dX3_back_14 (by decide) ?_
  show W _ _ _ _ _ _ _ _ _ _ _ _ _ _ _ (F0 m 17 ls [.int (bI (kept.testBit 1))])
  refine zb_ne (tgt := 23) hC dX3_back_17 (by decide) (fun c17 => by exfalso; exact absurd (hbt.symm.trans c17) (by decide)) (fun c17 => ?_)
  refine lv_bipush (v := (-2)) hx hb dX3_back_20 (by decide) ?_
  exact zr_i hC hr hlk (by first | rfl | omega) dX3_back_22
set_option maxHeartbeats 1000000 in
set_option maxRecDepth 100000 in
theorem c_X3_back_1 {l : Launch} {D : va_G} {cI cZ cB cR : ClassId} {q t b b2 pp i1 i2 kept tn tw td : Nat} {tr : Int64} {pl pt pa mo dn ea bn stA k : Nat} {lv : Nat → Nat} {te : Nat → Nat} {la : Nat → Nat} {st : Nat → Nat} {jl2 jt2 ja2 jmo2 jdn2 jea2 jbn2 js2 jk2 : Nat} {lvJ2 teJ2 laJ2 stJ2 : Nat → Nat}  (hk : kept < 4) (hbt : kept.testBit 1 = true) : mW l yX3_back cX3_back 2 (some .int) 2 61 D cI cZ cB cR [oK q t b b2 pp i1 i2 kept tn tw td tr, oP pp pl pt pa mo dn ea bn stA k, aI cI pl 6 lv, aI cI pt 6 te, aI cI pa 6 la, aI cI stA 220 st, oP i2 jl2 jt2 ja2 jmo2 jdn2 jea2 jbn2 js2 jk2, aI cI jl2 6 lvJ2, aI cI jt2 6 teJ2, aI cI ja2 6 laJ2, aI cI js2 220 stJ2] [oK q t b b2 pp i1 i2 kept tn tw td tr, oP pp pl pt pa jmo2 jdn2 jea2 jbn2 stA jk2, aI cI pl 6 (cpyN lvJ2 lv 0 0 6), aI cI pt 6 (cpyN teJ2 te 0 0 6), aI cI pa 6 (cpyN laJ2 la 0 0 6), aI cI stA 220 (cpyN stJ2 st 0 0 220), oP i2 jl2 jt2 ja2 jmo2 jdn2 jea2 jbn2 js2 jk2, aI cI jl2 6 lvJ2, aI cI jt2 6 teJ2, aI cI ja2 6 laJ2, aI cI js2 220 stJ2] [.ref q, .int (nI 1)] (some (.int (nI jmo2))) := by
  refine mW_of rfl (Nat.le_of_ble_eq_true rfl) ?_
  intro p e s m args below meth c hC hr hlk hK A hA hD H0 h0 hP hS ls hl
  have hP : va_P D vwCl [oK q t b b2 pp i1 i2 kept tn tw td tr, oP pp pl pt pa mo dn ea bn stA k, aI cI pl 6 lv, aI cI pt 6 te, aI cI pa 6 la, aI cI stA 220 st, oP i2 jl2 jt2 ja2 jmo2 jdn2 jea2 jbn2 js2 jk2, aI cI jl2 6 lvJ2, aI cI jt2 6 teJ2, aI cI ja2 6 laJ2, aI cI js2 220 stJ2] H0 := hP
  have hl : lv_has ls 2 [(0, .ref q), (1, .int (nI 1))] := hl
  obtain ⟨hx, hb, hml, hown, hts⟩ := id hC
  refine lv_iload_n hx hb dX3_back_0 rfl (lv_at hl 1 rfl) ?_
  refine zRS (As := [.int (nI 1)]) (rest := []) hC (c_X3_isNoughtOrOne (l := l) (b := true) (hb9 := ⟨fun _ => by first | exact Or.inl rfl | exact Or.inr rfl, fun _ => rfl⟩)) lM_X3_159 sM_X3_isNoughtOrOne (by decide) hK rfl hl.1 rfl (Nat.le_of_ble_eq_true rfl) dX3_back_1 (by decide) ?_
  show W _ _ _ _ _ _ _ _ _ _ _ _ _ _ _ (F0 m 4 ls [.int (bI true)])
  refine zb_ne (tgt := 9) hC dX3_back_4 (by decide) (fun c4 => ?_) (fun c4 => by exfalso; cases c4)
  refine lv_aload_n hx hb dX3_back_9 rfl (lv_at hl 0 rfl) ?_
  refine z_get (k := 6) zcX3 hC hK hP 0 rfl (by decide) lF_X3_39 rfl dX3_back_10 ?_
  refine lv_iload_n hx hb dX3_back_13 rfl (lv_at hl 1 rfl) ?_
  refine zRS (As := [.int (nI kept), .int (nI 1)]) (rest := []) hC (c_X3_has (l := l) (b := kept) (i := 1) (hb9 := by omega) (hi := by omega)) lM_X3_221 sM_X3_has (by decide) hK rfl hl.1 rfl (Nat.le_of_ble_eq_true rfl) dX3_back_14 (by decide) ?_
  show W _ _ _ _ _ _ _ _ _ _ _ _ _ _ _ (F0 m 17 ls [.int (bI (kept.testBit 1))])
  refine zb_ne (tgt := 23) hC dX3_back_17 (by decide) (fun c17 => ?_) (fun c17 => by exfalso; exact absurd (hbt.symm.trans c17) (by decide))
  refine lv_aload_n hx hb dX3_back_23 rfl (lv_at hl 0 rfl) ?_
  refine z_get (k := 3) zcX3 hC hK hP 0 rfl (by decide) lF_X3_29 rfl dX3_back_24 ?_
  refine lv_aload_n hx hb dX3_back_27 rfl (lv_at hl 0 rfl) ?_
  refine lv_iload_n hx hb dX3_back_28 rfl (lv_at hl 1 rfl) ?_
  refine zRV (As := [.int (nI 1)]) (b := q) (rest := [.ref pp]) hC (c_X3_imageOf (l := l) (im := 1) (him := by decide)) lM_X3_213 vM_X3_imageOf (by decide) hK hP [0] rfl ⟨rfl, rfl, rfl⟩ rfl hl.1 rfl (Nat.le_of_ble_eq_true rfl) dX3_back_29 (by decide) ?_
  show W _ _ _ _ _ _ _ _ _ _ _ _ _ _ _ (F0 m 32 ls [.ref i2, .ref pp])
  refine zXVN (As := [.ref i2]) (b := pp) (rest := []) hC (c_X0_becomes (l := l) ) lM_X3_217 vM_X0_becomes (by decide) hK hP hD hS [1, 2, 3, 4, 5, 6, 7, 8, 9, 10] [pp, pl, pt, pa, stA, i2, jl2, jt2, ja2, js2] rfl (by decide) rfl rfl ⟨rfl, rfl, rfl⟩ rfl hl.1 rfl (Nat.le_of_ble_eq_true rfl) dX3_back_32 (by decide) (fun H locs hP hD hS => ?_)
  have hP : va_P D vwCl [oK q t b b2 pp i1 i2 kept tn tw td tr, oP pp pl pt pa jmo2 jdn2 jea2 jbn2 stA jk2, aI cI pl 6 (cpyN lvJ2 lv 0 0 6), aI cI pt 6 (cpyN teJ2 te 0 0 6), aI cI pa 6 (cpyN laJ2 la 0 0 6), aI cI stA 220 (cpyN stJ2 st 0 0 220), oP i2 jl2 jt2 ja2 jmo2 jdn2 jea2 jbn2 js2 jk2, aI cI jl2 6 lvJ2, aI cI jt2 6 teJ2, aI cI ja2 6 laJ2, aI cI js2 220 stJ2] H := hP
  have hD : va_D A [oK q t b b2 pp i1 i2 kept tn tw td tr, oP pp pl pt pa jmo2 jdn2 jea2 jbn2 stA jk2, aI cI pl 6 (cpyN lvJ2 lv 0 0 6), aI cI pt 6 (cpyN teJ2 te 0 0 6), aI cI pa 6 (cpyN laJ2 la 0 0 6), aI cI stA 220 (cpyN stJ2 st 0 0 220), oP i2 jl2 jt2 ja2 jmo2 jdn2 jea2 jbn2 js2 jk2, aI cI jl2 6 lvJ2, aI cI jt2 6 teJ2, aI cI ja2 6 laJ2, aI cI js2 220 stJ2] := hD
  show W _ _ _ _ _ _ _ _ _ _ _ _ _ _ _ (F0 m 35 ls [])
  refine lv_aload_n hx hb dX3_back_35 rfl (lv_at hl 0 rfl) ?_
  refine z_get (k := 3) zcX3 hC hK hP 0 rfl (by decide) lF_X3_29 rfl dX3_back_36 ?_
  refine z_get (k := 3) zcX0 hC hK hP 1 rfl (by decide) lF_X3_142 rfl dX3_back_39 ?_
  exact zw_i hC hr hlk hA h0 hP hS (by first | rfl | omega) dX3_back_42
set_option maxHeartbeats 1000000 in
set_option maxRecDepth 100000 in
theorem c_X3_count_0 {l : Launch} {D : va_G} {cI cZ cB cR : ClassId} {q t b b2 pp i1 i2 kept tn tw td : Nat} {tr : Int64} {n lvA aiA laA ac woA drA : Nat}   : mR l yX3_count cX3_count 2 (some .int) 0 0 D cI cZ cB cR [oK q t b b2 pp i1 i2 kept tn tw td tr, oB b n lvA aiA laA ac woA drA] [.ref q, .int (nI 0)] (some (.int (nI n))) := by
  refine mR_of rfl (Nat.le_of_ble_eq_true rfl) ?_
  intro p e s m args below meth c hC hr hlk hK hP ls hl
  have hl : lv_has ls 2 [(0, .ref q), (1, .int (nI 0))] := hl
  obtain ⟨hx, hb, hml, hown, hts⟩ := id hC
  refine lv_iload_n hx hb dX3_count_0 rfl (lv_at hl 1 rfl) ?_
  refine lv_tableIn (off := 35) (tgt := 36) hx hb dX3_count_1 (by decide) (by decide) (by decide) (by decide) ?_
  refine lv_aload_n hx hb dX3_count_36 rfl (lv_at hl 0 rfl) ?_
  refine z_get (k := 1) zcX3 hC hK hP 0 rfl (by decide) lF_X3_19 rfl dX3_count_37 ?_
  refine z_get (k := 0) zcX1 hC hK hP 1 rfl (by decide) lF_X3_123 rfl dX3_count_40 ?_
  exact zr_i hC hr hlk (by first | rfl | omega) dX3_count_43
set_option maxHeartbeats 1000000 in
set_option maxRecDepth 100000 in
theorem c_X3_count_1 {l : Launch} {D : va_G} {cI cZ cB cR : ClassId} {q t b b2 pp i1 i2 kept tn tw td : Nat} {tr : Int64} {n lvA aiA laA ac woA drA : Nat}   : mR l yX3_count cX3_count 2 (some .int) 0 0 D cI cZ cB cR [oK q t b b2 pp i1 i2 kept tn tw td tr, oB b n lvA aiA laA ac woA drA] [.ref q, .int (nI 1)] (some (.int (nI ac))) := by
  refine mR_of rfl (Nat.le_of_ble_eq_true rfl) ?_
  intro p e s m args below meth c hC hr hlk hK hP ls hl
  have hl : lv_has ls 2 [(0, .ref q), (1, .int (nI 1))] := hl
  obtain ⟨hx, hb, hml, hown, hts⟩ := id hC
  refine lv_iload_n hx hb dX3_count_0 rfl (lv_at hl 1 rfl) ?_
  refine lv_tableIn (off := 43) (tgt := 44) hx hb dX3_count_1 (by decide) (by decide) (by decide) (by decide) ?_
  refine lv_aload_n hx hb dX3_count_44 rfl (lv_at hl 0 rfl) ?_
  refine z_get (k := 1) zcX3 hC hK hP 0 rfl (by decide) lF_X3_19 rfl dX3_count_45 ?_
  refine z_get (k := 4) zcX1 hC hK hP 1 rfl (by decide) lF_X3_162 rfl dX3_count_48 ?_
  exact zr_i hC hr hlk (by first | rfl | omega) dX3_count_51
set_option maxHeartbeats 1000000 in
set_option maxRecDepth 100000 in
theorem c_X3_count_2 {l : Launch} {D : va_G} {cI cZ cB cR : ClassId} {q t b b2 pp i1 i2 kept tn tw td : Nat} {tr : Int64}   : mR l yX3_count cX3_count 2 (some .int) 0 0 D cI cZ cB cR [oK q t b b2 pp i1 i2 kept tn tw td tr] [.ref q, .int (nI 2)] (some (.int (nI td))) := by
  refine mR_of rfl (Nat.le_of_ble_eq_true rfl) ?_
  intro p e s m args below meth c hC hr hlk hK hP ls hl
  have hl : lv_has ls 2 [(0, .ref q), (1, .int (nI 2))] := hl
  obtain ⟨hx, hb, hml, hown, hts⟩ := id hC
  refine lv_iload_n hx hb dX3_count_0 rfl (lv_at hl 1 rfl) ?_
  refine lv_tableIn (off := 51) (tgt := 52) hx hb dX3_count_1 (by decide) (by decide) (by decide) (by decide) ?_
  refine lv_aload_n hx hb dX3_count_52 rfl (lv_at hl 0 rfl) ?_
  refine z_get (k := 9) zcX3 hC hK hP 0 rfl (by decide) lF_X3_51 rfl dX3_count_53 ?_
  exact zr_i hC hr hlk (by first | rfl | omega) dX3_count_56
set_option maxHeartbeats 1000000 in
set_option maxRecDepth 100000 in
theorem c_X3_count_3 {l : Launch} {D : va_G} {cI cZ cB cR : ClassId} {q t b b2 pp i1 i2 kept tn tw td : Nat} {tr : Int64} {pl pt pa mo dn ea bn stA k : Nat}   : mR l yX3_count cX3_count 2 (some .int) 0 0 D cI cZ cB cR [oK q t b b2 pp i1 i2 kept tn tw td tr, oP pp pl pt pa mo dn ea bn stA k] [.ref q, .int (nI 3)] (some (.int (nI k))) := by
  refine mR_of rfl (Nat.le_of_ble_eq_true rfl) ?_
  intro p e s m args below meth c hC hr hlk hK hP ls hl
  have hl : lv_has ls 2 [(0, .ref q), (1, .int (nI 3))] := hl
  obtain ⟨hx, hb, hml, hown, hts⟩ := id hC
  refine lv_iload_n hx hb dX3_count_0 rfl (lv_at hl 1 rfl) ?_
  refine lv_tableIn (off := 56) (tgt := 57) hx hb dX3_count_1 (by decide) (by decide) (by decide) (by decide) ?_
  refine lv_aload_n hx hb dX3_count_57 rfl (lv_at hl 0 rfl) ?_
  refine z_get (k := 3) zcX3 hC hK hP 0 rfl (by decide) lF_X3_29 rfl dX3_count_58 ?_
  refine z_get (k := 8) zcX0 hC hK hP 1 rfl (by decide) lF_X3_149 rfl dX3_count_61 ?_
  exact zr_i hC hr hlk (by first | rfl | omega) dX3_count_64
set_option maxHeartbeats 1000000 in
set_option maxRecDepth 100000 in
theorem c_X3_count_4 {l : Launch} {D : va_G} {cI cZ cB cR : ClassId} {q t b b2 pp i1 i2 kept tn tw td : Nat} {tr : Int64} {byA len pl tk ta : Nat} {va : Int32}  : mR l yX3_count cX3_count 2 (some .int) 0 0 D cI cZ cB cR [oK q t b b2 pp i1 i2 kept tn tw td tr, oT t byA len pl tk ta va] [.ref q, .int (nI 4)] (some (.int (nI len))) := by
  refine mR_of rfl (Nat.le_of_ble_eq_true rfl) ?_
  intro p e s m args below meth c hC hr hlk hK hP ls hl
  have hl : lv_has ls 2 [(0, .ref q), (1, .int (nI 4))] := hl
  obtain ⟨hx, hb, hml, hown, hts⟩ := id hC
  refine lv_iload_n hx hb dX3_count_0 rfl (lv_at hl 1 rfl) ?_
  refine lv_tableIn (off := 64) (tgt := 65) hx hb dX3_count_1 (by decide) (by decide) (by decide) (by decide) ?_
  refine lv_aload_n hx hb dX3_count_65 rfl (lv_at hl 0 rfl) ?_
  refine z_get (k := 0) zcX3 hC hK hP 0 rfl (by decide) lF_X3_10 rfl dX3_count_66 ?_
  refine z_get (k := 1) zcX2 hC hK hP 1 rfl (by decide) lF_X3_62 rfl dX3_count_69 ?_
  exact zr_i hC hr hlk (by first | rfl | omega) dX3_count_72
set_option maxHeartbeats 1000000 in
set_option maxRecDepth 100000 in
theorem c_X3_count_out {l : Launch} {D : va_G} {cI cZ cB cR : ClassId} {q t b b2 pp i1 i2 kept tn tw td : Nat} {tr : Int64} {w : Int32} (hwo : w.toInt < 0 ∨ 4 < w.toInt) : mR l yX3_count cX3_count 2 (some .int) 0 0 D cI cZ cB cR [oK q t b b2 pp i1 i2 kept tn tw td tr] [.ref q, .int w] (some (.int (-1))) := by
  refine mR_of rfl (Nat.le_of_ble_eq_true rfl) ?_
  intro p e s m args below meth c hC hr hlk hK hP ls hl
  have hl : lv_has ls 2 [(0, .ref q), (1, .int w)] := hl
  obtain ⟨hx, hb, hml, hown, hts⟩ := id hC
  refine lv_iload_n hx hb dX3_count_0 rfl (lv_at hl 1 rfl) ?_
  refine lv_tableOut (tgt := 73) hx hb dX3_count_1 hwo (by decide) ?_
  refine lv_iconst (v := (-1)) hx hb dX3_count_73 (by decide) ?_
  exact zr_i hC hr hlk (by first | rfl | omega) dX3_count_74
set_option maxHeartbeats 1000000 in
set_option maxRecDepth 100000 in
theorem c_X3_trace {l : Launch} {D : va_G} {cI cZ cB cR : ClassId} {q t b b2 pp i1 i2 kept tn tw td : Nat} {tr : Int64}   : mR l yX3_trace cX3_trace 1 (some .long) 0 0 D cI cZ cB cR [oK q t b b2 pp i1 i2 kept tn tw td tr] [.ref q] (some (.long tr)) := by
  refine mR_of rfl (Nat.le_of_ble_eq_true rfl) ?_
  intro p e s m args below meth c hC hr hlk hK hP ls hl
  have hl : lv_has ls 1 [(0, .ref q)] := hl
  obtain ⟨hx, hb, hml, hown, hts⟩ := id hC
  refine lv_aload_n hx hb dX3_trace_0 rfl (lv_at hl 0 rfl) ?_
  refine z_get (k := 10) zcX3 hC hK hP 0 rfl (by decide) lF_X3_54 rfl dX3_trace_1 ?_
  exact zr_l hC hr hlk (by first | rfl | omega) dX3_trace_4
