theorem z_in {x : Int32} {n : Nat} (h : ¬ x < 0) (h2 : ¬ nI n ≤ x) (hn : n < 2 ^ 31) : vp_in x n := by
  obtain ⟨j, hj, rfl⟩ := nI_of h
  have h3 : ¬ n ≤ j := fun q => h2 ((nI_leI hn hj).mpr q)
  exact vp_in_nI (by omega) hn
theorem z_out0 {x : Int32} {n : Nat} (h : x < 0) : ¬ vp_in x n := fun q => q (Or.inl h)
theorem z_out1 {x : Int32} {n : Nat} (h : nI n ≤ x) (hn : n < 2 ^ 31) : ¬ vp_in x n := fun q => by
  obtain ⟨j, hj, rfl⟩ := vp_in_of q hn
  exact absurd ((nI_leI hn (by omega)).mp h) (by omega)
set_option maxHeartbeats 1000000 in
set_option maxRecDepth 100000 in
/-- has: a bit -/
theorem c_X3_has {l : Launch} {D : va_G} {cI cZ cB cR : ClassId} {b i : Nat} (hb9 : b < 2 ^ 31) (hi : i < 31) : mR l yX3_has cX3_has 2 (some .boolean) 0 0 D cI cZ cB cR [] [.int (nI b), .int (nI i)] (some (.int (bI (b.testBit i)))) := by
  refine mR_of rfl (Nat.le_of_ble_eq_true rfl) ?_
  intro p e s m args below meth c hC hr hlk hK hP ls hl
  have hl : lv_has ls 2 [(0, .int (nI b)), (1, .int (nI i))] := hl
  obtain ⟨hx, hb, hml, hown, hts⟩ := id hC
  refine lv_iload_n hx hb dX3_has_0 rfl (lv_at hl 0 rfl) ?_
  refine lv_iload_n hx hb dX3_has_1 rfl (lv_at hl 1 rfl) ?_
  refine zi_shr hC dX3_has_2 (by omega) (by omega) ?_
  refine lv_iconst (v := nI 1) hx hb dX3_has_3 (by decide) ?_
  refine zi_and hC dX3_has_4 ?_
  have b5 : (b.testBit i).toNat < 2 := Bool.toNat_lt _
  refine z_top (show (nI ((b / 2 ^ i) &&& 1)) = nI ((b.testBit i).toNat) from by exact z_bit b i) ?_
  refine lv_iconst (v := nI 1) hx hb dX3_has_5 (by decide) ?_
  refine zc_ne (tgt := 13) hC dX3_has_6 (by decide) (by omega) (by omega) (fun c6 => ?_) (fun c6 => ?_)
  · skip
    refine lv_iconst (v := nI 0) hx hb dX3_has_13 (by decide) ?_
    refine z_top (y := bI false) rfl ?_
    exact zr_z hC hr hlk (by revert c6; cases b.testBit i <;> simp) dX3_has_14
  · skip
    refine lv_iconst (v := nI 1) hx hb dX3_has_9 (by decide) ?_
    refine lv_goto (tgt := 14) hx hb dX3_has_10 (by decide) ?_
    refine z_top (y := bI true) rfl ?_
    exact zr_z hC hr hlk (by revert c6; cases b.testBit i <;> simp) dX3_has_14
set_option maxHeartbeats 1000000 in
set_option maxRecDepth 100000 in
theorem c_X3_isNoughtOrOne {l : Launch} {D : va_G} {cI cZ cB cR : ClassId} {x : Int32} {b : Bool} (hb9 : b = true ↔ x = 0 ∨ x = nI 1) : mR l yX3_isNoughtOrOne cX3_isNoughtOrOne 1 (some .boolean) 0 0 D cI cZ cB cR [] [.int x] (some (.int (bI b))) := by
  refine mR_of rfl (Nat.le_of_ble_eq_true rfl) ?_
  intro p e s m args below meth c hC hr hlk hK hP ls hl
  have hl : lv_has ls 1 [(0, .int x)] := hl
  obtain ⟨hx, hb, hml, hown, hts⟩ := id hC
  refine lv_iload_n hx hb dX3_isNoughtOrOne_0 rfl (lv_at hl 0 rfl) ?_
  refine lv_if_eq (tgt := 9) hx hb dX3_isNoughtOrOne_1 (by decide) (fun c1 => ?_) (fun c1 => ?_)
  · skip
    refine lv_iconst (v := nI 1) hx hb dX3_isNoughtOrOne_9 (by decide) ?_
    refine lv_goto (tgt := 14) hx hb dX3_isNoughtOrOne_10 (by decide) ?_
    refine z_top (y := bI true) rfl ?_
    exact zr_z hC hr hlk (by first | exact (hb9.mpr (Or.inl c1)).symm | exact (hb9.mpr (Or.inr c6)).symm | exact (hb9.mpr (Or.inr (Decidable.not_not.mp c6))).symm | (cases b with | false => rfl | true => exact absurd (hb9.mp rfl) (by rintro (h | h); exact c1 h; exact c6 h))) dX3_isNoughtOrOne_14
  · skip
    refine lv_iload_n hx hb dX3_isNoughtOrOne_4 rfl (lv_at hl 0 rfl) ?_
    refine lv_iconst (v := nI 1) hx hb dX3_isNoughtOrOne_5 (by decide) ?_
    refine lv_icmp_ne (tgt := 13) hx hb dX3_isNoughtOrOne_6 (by decide) (fun c6 => ?_) (fun c6 => ?_)
    · skip
      refine lv_iconst (v := nI 0) hx hb dX3_isNoughtOrOne_13 (by decide) ?_
      refine z_top (y := bI false) rfl ?_
      exact zr_z hC hr hlk (by first | exact (hb9.mpr (Or.inl c1)).symm | exact (hb9.mpr (Or.inr c6)).symm | exact (hb9.mpr (Or.inr (Decidable.not_not.mp c6))).symm | (cases b with | false => rfl | true => exact absurd (hb9.mp rfl) (by rintro (h | h); exact c1 h; exact c6 h))) dX3_isNoughtOrOne_14
    · skip
      refine lv_iconst (v := nI 1) hx hb dX3_isNoughtOrOne_9 (by decide) ?_
      refine lv_goto (tgt := 14) hx hb dX3_isNoughtOrOne_10 (by decide) ?_
      refine z_top (y := bI true) rfl ?_
      exact zr_z hC hr hlk (by first | exact (hb9.mpr (Or.inl c1)).symm | exact (hb9.mpr (Or.inr c6)).symm | exact (hb9.mpr (Or.inr (Decidable.not_not.mp c6))).symm | (cases b with | false => rfl | true => exact absurd (hb9.mp rfl) (by rintro (h | h); exact c1 h; exact c6 h))) dX3_isNoughtOrOne_14
set_option maxHeartbeats 1000000 in
set_option maxRecDepth 100000 in
theorem c_X3_isDecanter {l : Launch} {D : va_G} {cI cZ cB cR : ClassId} {q t b b2 pp i1 i2 kept tn tw td : Nat} {tr : Int64} {n lvA aiA laA ac woA drA : Nat} {x : Int32} {g : Bool} (hn : n < 2 ^ 31) (hg : g = true ↔ vp_in x n) : mR l yX3_isDecanter cX3_isDecanter 2 (some .boolean) 0 0 D cI cZ cB cR [oK q t b b2 pp i1 i2 kept tn tw td tr, oB b n lvA aiA laA ac woA drA] [.ref q, .int x] (some (.int (bI g))) := by
  refine mR_of rfl (Nat.le_of_ble_eq_true rfl) ?_
  intro p e s m args below meth c hC hr hlk hK hP ls hl
  have hl : lv_has ls 2 [(0, .ref q), (1, .int x)] := hl
  obtain ⟨hx, hb, hml, hown, hts⟩ := id hC
  refine lv_iload_n hx hb dX3_isDecanter_0 rfl (lv_at hl 1 rfl) ?_
  refine lv_if_lt (tgt := 19) hx hb dX3_isDecanter_1 (by decide) (fun c1 => ?_) (fun c1 => ?_)
  · skip
    refine lv_iconst (v := nI 0) hx hb dX3_isDecanter_19 (by decide) ?_
    refine z_top (y := bI false) rfl ?_
    exact zr_z hC hr hlk (by first | exact (hg.mpr (z_in (by assumption) c12 hn)).symm | (cases g with | false => rfl | true => exact absurd (hg.mp rfl) (by first | exact z_out0 c1 | exact z_out1 c12 hn))) dX3_isDecanter_20
  · skip
    refine lv_iload_n hx hb dX3_isDecanter_4 rfl (lv_at hl 1 rfl) ?_
    refine lv_aload_n hx hb dX3_isDecanter_5 rfl (lv_at hl 0 rfl) ?_
    refine z_get (k := 1) zcX3 hC hK hP 0 rfl (by decide) lF_X3_19 rfl dX3_isDecanter_6 ?_
    refine z_get (k := 0) zcX1 hC hK hP 1 rfl (by decide) lF_X3_123 rfl dX3_isDecanter_9 ?_
    refine lv_icmp_ge (tgt := 19) hx hb dX3_isDecanter_12 (by decide) (fun c12 => ?_) (fun c12 => ?_)
    · skip
      refine lv_iconst (v := nI 0) hx hb dX3_isDecanter_19 (by decide) ?_
      refine z_top (y := bI false) rfl ?_
      exact zr_z hC hr hlk (by first | exact (hg.mpr (z_in (by assumption) c12 hn)).symm | (cases g with | false => rfl | true => exact absurd (hg.mp rfl) (by first | exact z_out0 c1 | exact z_out1 c12 hn))) dX3_isDecanter_20
    · skip
      refine lv_iconst (v := nI 1) hx hb dX3_isDecanter_15 (by decide) ?_
      refine lv_goto (tgt := 20) hx hb dX3_isDecanter_16 (by decide) ?_
      refine z_top (y := bI true) rfl ?_
      exact zr_z hC hr hlk (by first | exact (hg.mpr (z_in (by assumption) c12 hn)).symm | (cases g with | false => rfl | true => exact absurd (hg.mp rfl) (by first | exact z_out0 c1 | exact z_out1 c12 hn))) dX3_isDecanter_20
set_option maxHeartbeats 1000000 in
set_option maxRecDepth 100000 in
theorem c_X3_isAct {l : Launch} {D : va_G} {cI cZ cB cR : ClassId} {q t b b2 pp i1 i2 kept tn tw td : Nat} {tr : Int64} {n lvA aiA laA ac woA drA : Nat} {x : Int32} {g : Bool} (hn : ac < 2 ^ 31) (hg : g = true ↔ vp_in x ac) : mR l yX3_isAct cX3_isAct 2 (some .boolean) 0 0 D cI cZ cB cR [oK q t b b2 pp i1 i2 kept tn tw td tr, oB b n lvA aiA laA ac woA drA] [.ref q, .int x] (some (.int (bI g))) := by
  refine mR_of rfl (Nat.le_of_ble_eq_true rfl) ?_
  intro p e s m args below meth c hC hr hlk hK hP ls hl
  have hl : lv_has ls 2 [(0, .ref q), (1, .int x)] := hl
  obtain ⟨hx, hb, hml, hown, hts⟩ := id hC
  refine lv_iload_n hx hb dX3_isAct_0 rfl (lv_at hl 1 rfl) ?_
  refine lv_if_lt (tgt := 19) hx hb dX3_isAct_1 (by decide) (fun c1 => ?_) (fun c1 => ?_)
  · skip
    refine lv_iconst (v := nI 0) hx hb dX3_isAct_19 (by decide) ?_
    refine z_top (y := bI false) rfl ?_
    exact zr_z hC hr hlk (by first | exact (hg.mpr (z_in (by assumption) c12 hn)).symm | (cases g with | false => rfl | true => exact absurd (hg.mp rfl) (by first | exact z_out0 c1 | exact z_out1 c12 hn))) dX3_isAct_20
  · skip
    refine lv_iload_n hx hb dX3_isAct_4 rfl (lv_at hl 1 rfl) ?_
    refine lv_aload_n hx hb dX3_isAct_5 rfl (lv_at hl 0 rfl) ?_
    refine z_get (k := 1) zcX3 hC hK hP 0 rfl (by decide) lF_X3_19 rfl dX3_isAct_6 ?_
    refine z_get (k := 4) zcX1 hC hK hP 1 rfl (by decide) lF_X3_162 rfl dX3_isAct_9 ?_
    refine lv_icmp_ge (tgt := 19) hx hb dX3_isAct_12 (by decide) (fun c12 => ?_) (fun c12 => ?_)
    · skip
      refine lv_iconst (v := nI 0) hx hb dX3_isAct_19 (by decide) ?_
      refine z_top (y := bI false) rfl ?_
      exact zr_z hC hr hlk (by first | exact (hg.mpr (z_in (by assumption) c12 hn)).symm | (cases g with | false => rfl | true => exact absurd (hg.mp rfl) (by first | exact z_out0 c1 | exact z_out1 c12 hn))) dX3_isAct_20
    · skip
      refine lv_iconst (v := nI 1) hx hb dX3_isAct_15 (by decide) ?_
      refine lv_goto (tgt := 20) hx hb dX3_isAct_16 (by decide) ?_
      refine z_top (y := bI true) rfl ?_
      exact zr_z hC hr hlk (by first | exact (hg.mpr (z_in (by assumption) c12 hn)).symm | (cases g with | false => rfl | true => exact absurd (hg.mp rfl) (by first | exact z_out0 c1 | exact z_out1 c12 hn))) dX3_isAct_20
set_option maxHeartbeats 1000000 in
set_option maxRecDepth 100000 in
theorem c_X1_dropsNeeded {l : Launch} {D : va_G} {cI cZ cB cR : ClassId} {b : Nat} {n lvA aiA laA ac woA drA : Nat} {r : Nat → Nat} {dr : Nat → Nat → Nat} {a d : Nat} (hn : n ≤ 6) (hac : ac ≤ 5) (ha : a < ac) (hd : d < n) : mR l yX1_dropsNeeded cX1_dropsNeeded 3 (some .int) 0 0 D cI cZ cB cR [oB b n lvA aiA laA ac woA drA, aR cR drA 5 r, aI cI (r 0) 6 (dr 0), aI cI (r 1) 6 (dr 1), aI cI (r 2) 6 (dr 2), aI cI (r 3) 6 (dr 3), aI cI (r 4) 6 (dr 4)] [.ref b, .int (nI a), .int (nI d)] (some (.int (nI (dr a d)))) := by
  refine mR_of rfl (Nat.le_of_ble_eq_true rfl) ?_
  intro p e s m args below meth c hC hr hlk hK hP ls hl
  have hl : lv_has ls 3 [(0, .ref b), (1, .int (nI a)), (2, .int (nI d))] := hl
  obtain ⟨hx, hb, hml, hown, hts⟩ := id hC
  refine lv_iload_n hx hb dX1_dropsNeeded_0 rfl (lv_at hl 1 rfl) ?_
  refine z0_lt (tgt := 35) hC dX1_dropsNeeded_1 (by decide) (by omega) ?_
  refine lv_iload_n hx hb dX1_dropsNeeded_4 rfl (lv_at hl 1 rfl) ?_
  refine lv_aload_n hx hb dX1_dropsNeeded_5 rfl (lv_at hl 0 rfl) ?_
  refine z_get (k := 4) zcX1 hC hK hP 0 rfl (by decide) lF_X1_25 rfl dX1_dropsNeeded_6 ?_
  refine zc_ge (tgt := 35) hC dX1_dropsNeeded_9 (by decide) (by omega) (by omega) (fun c9 => by exfalso; omega) (fun c9 => ?_)
  refine lv_iload_n hx hb dX1_dropsNeeded_12 rfl (lv_at hl 2 rfl) ?_
  refine z0_lt (tgt := 35) hC dX1_dropsNeeded_13 (by decide) (by omega) ?_
  refine lv_iload_n hx hb dX1_dropsNeeded_16 rfl (lv_at hl 2 rfl) ?_
  refine lv_aload_n hx hb dX1_dropsNeeded_17 rfl (lv_at hl 0 rfl) ?_
  refine z_get (k := 0) zcX1 hC hK hP 0 rfl (by decide) lF_X1_9 rfl dX1_dropsNeeded_18 ?_
  refine zc_ge (tgt := 35) hC dX1_dropsNeeded_21 (by decide) (by omega) (by omega) (fun c21 => by exfalso; omega) (fun c21 => ?_)
  refine lv_aload_n hx hb dX1_dropsNeeded_24 rfl (lv_at hl 0 rfl) ?_
  refine z_get (k := 6) zcX1 hC hK hP 0 rfl (by decide) lF_X1_33 rfl dX1_dropsNeeded_25 ?_
  refine lv_iload_n hx hb dX1_dropsNeeded_28 rfl (lv_at hl 1 rfl) ?_
  refine z_rld hC hK hP 1 rfl (by omega) (by decide) dX1_dropsNeeded_29 ?_
  refine lv_iload_n hx hb dX1_dropsNeeded_30 rfl (lv_at hl 2 rfl) ?_
  refine z_ald hC hK hP (2 + a) (row5 (X := [oB b n lvA aiA laA ac woA drA, aR cR drA 5 r]) (by omega)) (by omega) (by decide) dX1_dropsNeeded_31 ?_
  refine lv_goto (tgt := 36) hx hb dX1_dropsNeeded_32 (by decide) ?_
  exact zr_i hC hr hlk (by first | rfl | omega) dX1_dropsNeeded_36
set_option maxHeartbeats 1000000 in
set_option maxRecDepth 100000 in
theorem c_X3_dropsFrom {l : Launch} {D : va_G} {cI cZ cB cR : ClassId} {q t b b2 pp i1 i2 kept tn tw td : Nat} {tr : Int64} {n lvA aiA laA ac woA drA : Nat} {r : Nat → Nat} {dr : Nat → Nat → Nat} {pl pt pa mo dn ea bn stA k : Nat} {la : Nat → Nat} {d a : Nat} (hn : n ≤ 6) (hac : ac ≤ 5) (ha : a < ac) (hd : d < n) (hla : la d < n) : mR l yX3_dropsFrom cX3_dropsFrom 3 (some .int) 1 22 D cI cZ cB cR [oK q t b b2 pp i1 i2 kept tn tw td tr, oB b n lvA aiA laA ac woA drA, aR cR drA 5 r, aI cI (r 0) 6 (dr 0), aI cI (r 1) 6 (dr 1), aI cI (r 2) 6 (dr 2), aI cI (r 3) 6 (dr 3), aI cI (r 4) 6 (dr 4), oP pp pl pt pa mo dn ea bn stA k, aI cI pa 6 la] [.ref q, .int (nI d), .int (nI a)] (some (.int (nI (dr a (la d))))) := by
  refine mR_of rfl (Nat.le_of_ble_eq_true rfl) ?_
  intro p e s m args below meth c hC hr hlk hK hP ls hl
  have hl : lv_has ls 3 [(0, .ref q), (1, .int (nI d)), (2, .int (nI a))] := hl
  obtain ⟨hx, hb, hml, hown, hts⟩ := id hC
  refine lv_aload_n hx hb dX3_dropsFrom_0 rfl (lv_at hl 0 rfl) ?_
  refine z_get (k := 1) zcX3 hC hK hP 0 rfl (by decide) lF_X3_19 rfl dX3_dropsFrom_1 ?_
  refine lv_iload_n hx hb dX3_dropsFrom_4 rfl (lv_at hl 2 rfl) ?_
  refine lv_aload_n hx hb dX3_dropsFrom_5 rfl (lv_at hl 0 rfl) ?_
  refine z_get (k := 3) zcX3 hC hK hP 0 rfl (by decide) lF_X3_29 rfl dX3_dropsFrom_6 ?_
  refine z_get (k := 2) zcX0 hC hK hP 8 rfl (by decide) lF_X3_88 rfl dX3_dropsFrom_9 ?_
  refine lv_iload_n hx hb dX3_dropsFrom_12 rfl (lv_at hl 1 rfl) ?_
  refine z_ald hC hK hP 9 rfl (by omega) (by decide) dX3_dropsFrom_13 ?_
  refine zRVN (As := [.int (nI a), .int (nI (la d))]) (b := b) (rest := []) hC (c_X1_dropsNeeded (l := l) (hn := hn) (hac := hac) (ha := ha) (hd := hla)) lM_X3_110 vM_X1_dropsNeeded (by decide) hK hP [1, 2, 3, 4, 5, 6, 7] rfl ⟨rfl, rfl, rfl⟩ rfl hl.1 rfl (Nat.le_of_ble_eq_true rfl) dX3_dropsFrom_14 (by decide) ?_
  show W _ _ _ _ _ _ _ _ _ _ _ _ _ _ _ (F0 m 17 ls [.int (nI (dr a (la d)))])
  exact zr_i hC hr hlk (by first | rfl | omega) dX3_dropsFrom_17
