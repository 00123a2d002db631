/-- the best set of 1 .. k -/
def trB (W9 : Nat → Nat) (E9 : Nat → Bool) (dn : Nat) : Nat → Nat
  | 0 => 0
  | k + 1 => if (k + 1) &&& dn = 0 ∧ W9 (trB W9 E9 dn k) < W9 (k + 1) ∧ E9 (k + 1) = true then k + 1 else trB W9 E9 dn k
theorem trB_s (W9 : Nat → Nat) (E9 : Nat → Bool) (dn k : Nat) : trB W9 E9 dn (k + 1) = if (k + 1) &&& dn = 0 ∧ W9 (trB W9 E9 dn k) < W9 (k + 1) ∧ E9 (k + 1) = true then k + 1 else trB W9 E9 dn k := rfl
theorem trB_le (W9 : Nat → Nat) (E9 : Nat → Bool) (dn : Nat) : ∀ k, trB W9 E9 dn k ≤ k
  | 0 => Nat.le_refl _
  | k + 1 => by
    have h := trB_le W9 E9 dn k
    rw [trB_s]
    split <;> omega
/-- of the sets 1 (or 0), 3, 5 .. the first with the least difference -/
def shB (lv : Nat → Nat) (n : Nat) : Nat → Nat
  | 0 => if n = 0 then 0 else 1
  | k + 1 => if dabs lv (2 * k + 3) n < dabs lv (shB lv n k) n then 2 * k + 3 else shB lv n k
theorem shB_s (lv : Nat → Nat) (n k : Nat) : shB lv n (k + 1) = if dabs lv (2 * k + 3) n < dabs lv (shB lv n k) n then 2 * k + 3 else shB lv n k := rfl
theorem shB_lt (lv : Nat → Nat) (n : Nat) : ∀ k, shB lv n k ≤ 2 * k + 1
  | 0 => by unfold shB; split <;> omega
  | k + 1 => by
    have h := shB_lt lv n k
    rw [shB_s]
    split <;> omega
theorem dabs_le {lv : Nat → Nat} {st n : Nat} (h : ∀ i, lv i ≤ 40) : dabs lv st n ≤ 40 * n := by
  have h1 : sm (fun i => if st.testBit i then lv i else 0) n ≤ 40 * n := sm_le (fun i _ => by have := h i; split <;> omega)
  have h2 : sm (fun i => if st.testBit i then 0 else lv i) n ≤ 40 * n := sm_le (fun i _ => by have := h i; split <;> omega)
  unfold dabs
  split <;> omega
theorem wS_le {wo : Nat → Nat} {st9 ac : Nat} (h : ∀ i, wo i ≤ 99) : sm (fun i => if st9.testBit i then wo i else 0) ac ≤ 99 * ac := sm_le (fun i _ => by have := h i; split <;> omega)
set_option maxHeartbeats 1000000 in
set_option maxRecDepth 100000 in
theorem c_X3_now_0 {l : Launch} {D : va_G} {cI cZ cB cR : ClassId} {q t b b2 pp i1 i2 kept tn tw td : Nat} {tr : Int64} {pl pt pa mo dn ea bn stA k : Nat}   : mR l yX3_now cX3_now 2 (some .int) 0 0 D cI cZ cB cR [oK q t b b2 pp i1 i2 kept tn tw td tr, oP pp pl pt pa mo dn ea bn stA k] [.ref q, .int (nI 0)] (some (.int (nI mo))) := by
  refine mR_of rfl (Nat.le_of_ble_eq_true rfl) ?_
  intro p e s m args below meth c hC hr hlk hK hP ls hl
  have hl : lv_has ls 2 [(0, .ref q), (1, .int (nI 0))] := hl
  obtain ⟨hx, hb, hml, hown, hts⟩ := id hC
  refine lv_iload_n hx hb dX3_now_0 rfl (lv_at hl 1 rfl) ?_
  refine lv_tableIn (off := 39) (tgt := 40) hx hb dX3_now_1 (by decide) (by decide) (by decide) (by decide) ?_
  refine lv_aload_n hx hb dX3_now_40 rfl (lv_at hl 0 rfl) ?_
  refine z_get (k := 3) zcX3 hC hK hP 0 rfl (by decide) lF_X3_29 rfl dX3_now_41 ?_
  refine z_get (k := 3) zcX0 hC hK hP 1 rfl (by decide) lF_X3_142 rfl dX3_now_44 ?_
  exact zr_i hC hr hlk (by first | rfl | omega) dX3_now_47
set_option maxHeartbeats 1000000 in
set_option maxRecDepth 100000 in
theorem c_X3_now_1 {l : Launch} {D : va_G} {cI cZ cB cR : ClassId} {q t b b2 pp i1 i2 kept tn tw td : Nat} {tr : Int64} {pl pt pa mo dn ea bn stA k : Nat}   : mR l yX3_now cX3_now 2 (some .int) 0 0 D cI cZ cB cR [oK q t b b2 pp i1 i2 kept tn tw td tr, oP pp pl pt pa mo dn ea bn stA k] [.ref q, .int (nI 1)] (some (.int (nI dn))) := by
  refine mR_of rfl (Nat.le_of_ble_eq_true rfl) ?_
  intro p e s m args below meth c hC hr hlk hK hP ls hl
  have hl : lv_has ls 2 [(0, .ref q), (1, .int (nI 1))] := hl
  obtain ⟨hx, hb, hml, hown, hts⟩ := id hC
  refine lv_iload_n hx hb dX3_now_0 rfl (lv_at hl 1 rfl) ?_
  refine lv_tableIn (off := 47) (tgt := 48) hx hb dX3_now_1 (by decide) (by decide) (by decide) (by decide) ?_
  refine lv_aload_n hx hb dX3_now_48 rfl (lv_at hl 0 rfl) ?_
  refine z_get (k := 3) zcX3 hC hK hP 0 rfl (by decide) lF_X3_29 rfl dX3_now_49 ?_
  refine z_get (k := 4) zcX0 hC hK hP 1 rfl (by decide) lF_X3_133 rfl dX3_now_52 ?_
  exact zr_i hC hr hlk (by first | rfl | omega) dX3_now_55
set_option maxHeartbeats 1000000 in
set_option maxRecDepth 100000 in
theorem c_X3_now_2 {l : Launch} {D : va_G} {cI cZ cB cR : ClassId} {q t b b2 pp i1 i2 kept tn tw td : Nat} {tr : Int64} {pl pt pa mo dn ea bn stA k : Nat}   : mR l yX3_now cX3_now 2 (some .int) 0 0 D cI cZ cB cR [oK q t b b2 pp i1 i2 kept tn tw td tr, oP pp pl pt pa mo dn ea bn stA k] [.ref q, .int (nI 2)] (some (.int (nI ea))) := by
  refine mR_of rfl (Nat.le_of_ble_eq_true rfl) ?_
  intro p e s m args below meth c hC hr hlk hK hP ls hl
  have hl : lv_has ls 2 [(0, .ref q), (1, .int (nI 2))] := hl
  obtain ⟨hx, hb, hml, hown, hts⟩ := id hC
  refine lv_iload_n hx hb dX3_now_0 rfl (lv_at hl 1 rfl) ?_
  refine lv_tableIn (off := 55) (tgt := 56) hx hb dX3_now_1 (by decide) (by decide) (by decide) (by decide) ?_
  refine lv_aload_n hx hb dX3_now_56 rfl (lv_at hl 0 rfl) ?_
  refine z_get (k := 3) zcX3 hC hK hP 0 rfl (by decide) lF_X3_29 rfl dX3_now_57 ?_
  refine z_get (k := 5) zcX0 hC hK hP 1 rfl (by decide) lF_X3_136 rfl dX3_now_60 ?_
  exact zr_i hC hr hlk (by first | rfl | omega) dX3_now_63
set_option maxHeartbeats 1000000 in
set_option maxRecDepth 100000 in
theorem c_X3_now_3 {l : Launch} {D : va_G} {cI cZ cB cR : ClassId} {q t b b2 pp i1 i2 kept tn tw td : Nat} {tr : Int64} {pl pt pa mo dn ea bn stA k : Nat}   : mR l yX3_now cX3_now 2 (some .int) 0 0 D cI cZ cB cR [oK q t b b2 pp i1 i2 kept tn tw td tr, oP pp pl pt pa mo dn ea bn stA k] [.ref q, .int (nI 3)] (some (.int (nI bn))) := by
  refine mR_of rfl (Nat.le_of_ble_eq_true rfl) ?_
  intro p e s m args below meth c hC hr hlk hK hP ls hl
  have hl : lv_has ls 2 [(0, .ref q), (1, .int (nI 3))] := hl
  obtain ⟨hx, hb, hml, hown, hts⟩ := id hC
  refine lv_iload_n hx hb dX3_now_0 rfl (lv_at hl 1 rfl) ?_
  refine lv_tableIn (off := 63) (tgt := 64) hx hb dX3_now_1 (by decide) (by decide) (by decide) (by decide) ?_
  refine lv_aload_n hx hb dX3_now_64 rfl (lv_at hl 0 rfl) ?_
  refine z_get (k := 3) zcX3 hC hK hP 0 rfl (by decide) lF_X3_29 rfl dX3_now_65 ?_
  refine z_get (k := 6) zcX0 hC hK hP 1 rfl (by decide) lF_X3_139 rfl dX3_now_68 ?_
  exact zr_i hC hr hlk (by first | rfl | omega) dX3_now_71
set_option maxHeartbeats 1000000 in
set_option maxRecDepth 100000 in
theorem c_X3_now_4 {l : Launch} {D : va_G} {cI cZ cB cR : ClassId} {q t b b2 pp i1 i2 kept tn tw td : Nat} {tr : Int64} {n lvA aiA laA ac woA drA : Nat} {r : Nat → Nat} {dr : Nat → Nat → Nat} {pl pt pa mo dn ea bn stA k : Nat} {la : Nat → Nat} {lv : Nat → Nat} {E : Nat → Bool} (hn : n ≤ 6) (hac : ac ≤ 5) (hla : ∀ i, i < n → la i < n) (hdr : ∀ i j, dr i j ≤ 9) (hlv : ∀ i, lv i ≤ 40) (hE : ∀ a, a < ac → (E a = true ↔ ∀ d, d < n → dr a (la d) ≤ lv d)) (hdn : dn < 32)  : mR l yX3_now cX3_now 2 (some .int) 5 111 D cI cZ cB cR [oK q t b b2 pp i1 i2 kept tn tw td tr, oB b n lvA aiA laA ac woA drA, aR cR drA 5 r, aI cI (r 0) 6 (dr 0), aI cI (r 1) 6 (dr 1), aI cI (r 2) 6 (dr 2), aI cI (r 3) 6 (dr 3), aI cI (r 4) 6 (dr 4), oP pp pl pt pa mo dn ea bn stA k, aI cI pa 6 la, aI cI pl 6 lv] [.ref q, .int (nI 4)] (some (.int (nI (orr (fun a => !dn.testBit a && E a) ac)))) := by
  refine mR_of rfl (Nat.le_of_ble_eq_true rfl) ?_
  intro p e s m args below meth c hC hr hlk hK hP ls hl
  have hl : lv_has ls 2 [(0, .ref q), (1, .int (nI 4))] := hl
  obtain ⟨hx, hb, hml, hown, hts⟩ := id hC
  refine lv_iload_n hx hb dX3_now_0 rfl (lv_at hl 1 rfl) ?_
  refine lv_tableIn (off := 71) (tgt := 72) hx hb dX3_now_1 (by decide) (by decide) (by decide) (by decide) ?_
  refine lv_aload_n hx hb dX3_now_72 rfl (lv_at hl 0 rfl) ?_
  refine zRV (As := []) (b := q) (rest := []) hC (c_X3_actsThatCan (l := l) (E := E) (hn := hn) (hac := hac) (hla := hla) (hdr := hdr) (hlv := hlv) (hE := hE) (hdn := hdn)) lM_X3_152 vM_X3_actsThatCan (by decide) hK hP [0, 1, 2, 3, 4, 5, 6, 7, 8, 9, 10] rfl ⟨rfl, rfl, rfl⟩ rfl hl.1 rfl (Nat.le_of_ble_eq_true rfl) dX3_now_73 (by decide) ?_
  show W _ _ _ _ _ _ _ _ _ _ _ _ _ _ _ (F0 m 76 ls [.int (nI (orr (fun a => !dn.testBit a && E a) ac))])
  exact zr_i hC hr hlk (by first | rfl | omega) dX3_now_76
set_option maxHeartbeats 1000000 in
set_option maxRecDepth 100000 in
theorem c_X3_now_5 {l : Launch} {D : va_G} {cI cZ cB cR : ClassId} {q t b b2 pp i1 i2 kept tn tw td : Nat} {tr : Int64} {n lvA aiA laA ac woA drA : Nat} {pl pt pa mo dn ea bn stA k : Nat} {lv : Nat → Nat}  (hn : n ≤ 6) : mR l yX3_now cX3_now 2 (some .int) 1 22 D cI cZ cB cR [oK q t b b2 pp i1 i2 kept tn tw td tr, oB b n lvA aiA laA ac woA drA, oP pp pl pt pa mo dn ea bn stA k, aI cI pl 6 lv] [.ref q, .int (nI 5)] (some (.int (nI (sm lv n)))) := by
  refine mR_of rfl (Nat.le_of_ble_eq_true rfl) ?_
  intro p e s m args below meth c hC hr hlk hK hP ls hl
  have hl : lv_has ls 2 [(0, .ref q), (1, .int (nI 5))] := hl
  obtain ⟨hx, hb, hml, hown, hts⟩ := id hC
  refine lv_iload_n hx hb dX3_now_0 rfl (lv_at hl 1 rfl) ?_
  refine lv_tableIn (off := 76) (tgt := 77) hx hb dX3_now_1 (by decide) (by decide) (by decide) (by decide) ?_
  refine lv_aload_n hx hb dX3_now_77 rfl (lv_at hl 0 rfl) ?_
  refine zRV (As := []) (b := q) (rest := []) hC (c_X3_levelsTogether (l := l) (hn := hn)) lM_X3_156 vM_X3_levelsTogether (by decide) hK hP [0, 1, 2, 3] rfl ⟨rfl, rfl, rfl⟩ rfl hl.1 rfl (Nat.le_of_ble_eq_true rfl) dX3_now_78 (by decide) ?_
  show W _ _ _ _ _ _ _ _ _ _ _ _ _ _ _ (F0 m 81 ls [.int (nI (sm lv n))])
  exact zr_i hC hr hlk (by first | rfl | omega) dX3_now_81
set_option maxHeartbeats 1000000 in
set_option maxRecDepth 100000 in
theorem c_X3_now_out {l : Launch} {D : va_G} {cI cZ cB cR : ClassId} {q t b b2 pp i1 i2 kept tn tw td : Nat} {tr : Int64} {w : Int32} (hwo : w.toInt < 0 ∨ 5 < w.toInt) : mR l yX3_now cX3_now 2 (some .int) 0 0 D cI cZ cB cR [oK q t b b2 pp i1 i2 kept tn tw td tr] [.ref q, .int w] (some (.int (-1))) := by
  refine mR_of rfl (Nat.le_of_ble_eq_true rfl) ?_
  intro p e s m args below meth c hC hr hlk hK hP ls hl
  have hl : lv_has ls 2 [(0, .ref q), (1, .int w)] := hl
  obtain ⟨hx, hb, hml, hown, hts⟩ := id hC
  refine lv_iload_n hx hb dX3_now_0 rfl (lv_at hl 1 rfl) ?_
  refine lv_tableOut (tgt := 82) hx hb dX3_now_1 hwo (by decide) ?_
  refine lv_iconst (v := (-1)) hx hb dX3_now_82 (by decide) ?_
  exact zr_i hC hr hlk (by first | rfl | omega) dX3_now_83
set_option maxHeartbeats 1000000 in
set_option maxRecDepth 100000 in
theorem c_X3_tray_bad {l : Launch} {D : va_G} {cI cZ cB cR : ClassId} {q t b b2 pp i1 i2 kept tn tw td : Nat} {tr : Int64} {x : Int32} (hw01 : ¬ (x = 0 ∨ x = nI 1))  : mR l yX3_tray cX3_tray 4 (some .int) 1 20 D cI cZ cB cR [oK q t b b2 pp i1 i2 kept tn tw td tr] [.ref q, .int x] (some (.int (-1))) := by
  refine mR_of rfl (Nat.le_of_ble_eq_true rfl) ?_
  intro p e s m args below meth c hC hr hlk hK hP ls hl
  have hl : lv_has ls 4 [(0, .ref q), (1, .int x)] := hl
  obtain ⟨hx, hb, hml, hown, hts⟩ := id hC
  refine lv_iload_n hx hb dX3_tray_0 rfl (lv_at hl 1 rfl) ?_
  refine zRS (As := [.int x]) (rest := []) hC (c_X3_isNoughtOrOne (l := l) (b := false) (hb9 := ⟨fun h => (by cases h), fun h => absurd h hw01⟩)) lM_X3_159 sM_X3_isNoughtOrOne (by decide) hK rfl hl.1 rfl (Nat.le_of_ble_eq_true rfl) dX3_tray_1 (by decide) ?_
  show W _ _ _ _ _ _ _ _ _ _ _ _ _ _ _ (F0 m 4 ls [.int (bI false)])
  refine zb_ne (tgt := 9) hC dX3_tray_4 (by decide) (fun c4 => by exfalso; cases c4) (fun c4 => ?_)
  refine lv_iconst (v := (-1)) hx hb dX3_tray_7 (by decide) ?_
  exact zr_i hC hr hlk (by first | rfl | omega) dX3_tray_8
set_option maxHeartbeats 1000000 in
set_option maxRecDepth 100000 in
theorem c_X3_right_bad {l : Launch} {D : va_G} {cI cZ cB cR : ClassId} {q t b b2 pp i1 i2 kept tn tw td : Nat} {tr : Int64} {x : Int32} (hw01 : ¬ (x = 0 ∨ x = nI 1))  : mR l yX3_right cX3_right 2 (some .int) 1 20 D cI cZ cB cR [oK q t b b2 pp i1 i2 kept tn tw td tr] [.ref q, .int x] (some (.int (-1))) := by
  refine mR_of rfl (Nat.le_of_ble_eq_true rfl) ?_
  intro p e s m args below meth c hC hr hlk hK hP ls hl
  have hl : lv_has ls 2 [(0, .ref q), (1, .int x)] := hl
  obtain ⟨hx, hb, hml, hown, hts⟩ := id hC
  refine lv_iload_n hx hb dX3_right_0 rfl (lv_at hl 1 rfl) ?_
  refine zRS (As := [.int x]) (rest := []) hC (c_X3_isNoughtOrOne (l := l) (b := false) (hb9 := ⟨fun h => (by cases h), fun h => absurd h hw01⟩)) lM_X3_159 sM_X3_isNoughtOrOne (by decide) hK rfl hl.1 rfl (Nat.le_of_ble_eq_true rfl) dX3_right_1 (by decide) ?_
  show W _ _ _ _ _ _ _ _ _ _ _ _ _ _ _ (F0 m 4 ls [.int (bI false)])
  refine zb_ne (tgt := 9) hC dX3_right_4 (by decide) (fun c4 => by exfalso; cases c4) (fun c4 => ?_)
  refine lv_iconst (v := (-1)) hx hb dX3_right_7 (by decide) ?_
  exact zr_i hC hr hlk (by first | rfl | omega) dX3_right_8
set_option maxHeartbeats 1000000 in
set_option maxRecDepth 100000 in
theorem c_X3_share_bad {l : Launch} {D : va_G} {cI cZ cB cR : ClassId} {q t b b2 pp i1 i2 kept tn tw td : Nat} {tr : Int64} {x : Int32} (hw01 : ¬ (x = 0 ∨ x = nI 1))  : mR l yX3_share cX3_share 4 (some .int) 1 20 D cI cZ cB cR [oK q t b b2 pp i1 i2 kept tn tw td tr] [.ref q, .int x] (some (.int (-1))) := by
  refine mR_of rfl (Nat.le_of_ble_eq_true rfl) ?_
  intro p e s m args below meth c hC hr hlk hK hP ls hl
  have hl : lv_has ls 4 [(0, .ref q), (1, .int x)] := hl
  obtain ⟨hx, hb, hml, hown, hts⟩ := id hC
  refine lv_iload_n hx hb dX3_share_0 rfl (lv_at hl 1 rfl) ?_
  refine zRS (As := [.int x]) (rest := []) hC (c_X3_isNoughtOrOne (l := l) (b := false) (hb9 := ⟨fun h => (by cases h), fun h => absurd h hw01⟩)) lM_X3_159 sM_X3_isNoughtOrOne (by decide) hK rfl hl.1 rfl (Nat.le_of_ble_eq_true rfl) dX3_share_1 (by decide) ?_
  show W _ _ _ _ _ _ _ _ _ _ _ _ _ _ _ (F0 m 4 ls [.int (bI false)])
  refine zb_ne (tgt := 9) hC dX3_share_4 (by decide) (fun c4 => by exfalso; cases c4) (fun c4 => ?_)
  refine lv_iconst (v := (-1)) hx hb dX3_share_7 (by decide) ?_
  exact zr_i hC hr hlk (by first | rfl | omega) dX3_share_8
set_option maxHeartbeats 1000000 in
set_option maxRecDepth 100000 in
theorem c_X3_keep_bad {l : Launch} {D : va_G} {cI cZ cB cR : ClassId} {q t b b2 pp i1 i2 kept tn tw td : Nat} {tr : Int64} {x : Int32} (hw01 : ¬ (x = 0 ∨ x = nI 1))  : mR l yX3_keep cX3_keep 2 (some .int) 1 20 D cI cZ cB cR [oK q t b b2 pp i1 i2 kept tn tw td tr] [.ref q, .int x] (some (.int (-1))) := by
  refine mR_of rfl (Nat.le_of_ble_eq_true rfl) ?_
  intro p e s m args below meth c hC hr hlk hK hP ls hl
  have hl : lv_has ls 2 [(0, .ref q), (1, .int x)] := hl
  obtain ⟨hx, hb, hml, hown, hts⟩ := id hC
  refine lv_iload_n hx hb dX3_keep_0 rfl (lv_at hl 1 rfl) ?_
  refine zRS (As := [.int x]) (rest := []) hC (c_X3_isNoughtOrOne (l := l) (b := false) (hb9 := ⟨fun h => (by cases h), fun h => absurd h hw01⟩)) lM_X3_159 sM_X3_isNoughtOrOne (by decide) hK rfl hl.1 rfl (Nat.le_of_ble_eq_true rfl) dX3_keep_1 (by decide) ?_
  show W _ _ _ _ _ _ _ _ _ _ _ _ _ _ _ (F0 m 4 ls [.int (bI false)])
  refine zb_ne (tgt := 9) hC dX3_keep_4 (by decide) (fun c4 => by exfalso; cases c4) (fun c4 => ?_)
  refine lv_iconst (v := (-1)) hx hb dX3_keep_7 (by decide) ?_
  exact zr_i hC hr hlk (by first | rfl | omega) dX3_keep_8
set_option maxHeartbeats 1000000 in
set_option maxRecDepth 100000 in
theorem c_X3_back_bad {l : Launch} {D : va_G} {cI cZ cB cR : ClassId} {q t b b2 pp i1 i2 kept tn tw td : Nat} {tr : Int64} {x : Int32} (hw01 : ¬ (x = 0 ∨ x = nI 1))  : mR l yX3_back cX3_back 2 (some .int) 1 20 D cI cZ cB cR [oK q t b b2 pp i1 i2 kept tn tw td tr] [.ref q, .int x] (some (.int (-1))) := by
  refine mR_of rfl (Nat.le_of_ble_eq_true rfl) ?_
  intro p e s m args below meth c hC hr hlk hK hP ls hl
  have hl : lv_has ls 2 [(0, .ref q), (1, .int x)] := hl
  obtain ⟨hx, hb, hml, hown, hts⟩ := id hC
  refine lv_iload_n hx hb dX3_back_0 rfl (lv_at hl 1 rfl) ?_
  refine zRS (As := [.int x]) (rest := []) hC (c_X3_isNoughtOrOne (l := l) (b := false) (hb9 := ⟨fun h => (by cases h), fun h => absurd h hw01⟩)) lM_X3_159 sM_X3_isNoughtOrOne (by decide) hK rfl hl.1 rfl (Nat.le_of_ble_eq_true rfl) dX3_back_1 (by decide) ?_
  show W _ _ _ _ _ _ _ _ _ _ _ _ _ _ _ (F0 m 4 ls [.int (bI false)])
  refine zb_ne (tgt := 9) hC dX3_back_4 (by decide) (fun c4 => by exfalso; cases c4) (fun c4 => ?_)
  refine lv_iconst (v := (-1)) hx hb dX3_back_7 (by decide) ?_
  exact zr_i hC hr hlk (by first | rfl | omega) dX3_back_8
set_option maxHeartbeats 1000000 in
set_option maxRecDepth 100000 in
theorem c_X3_tray_0 {l : Launch} {D : va_G} {cI cZ cB cR : ClassId} {q t b b2 pp i1 i2 kept tn tw td : Nat} {tr : Int64} {n lvA aiA laA ac woA drA : Nat} {r : Nat → Nat} {dr : Nat → Nat → Nat} {pl pt pa mo dn ea bn stA k : Nat} {la : Nat → Nat} {lv : Nat → Nat} {wo : Nat → Nat} {E9 : Nat → Bool} (hn : n ≤ 6) (hac : ac ≤ 5) (hla : ∀ i, i < n → la i < n) (hdr : ∀ i j, dr i j ≤ 9) (hlv : ∀ i, lv i ≤ 40) (hE9 : ∀ s9, s9 < 32 → (E9 s9 = true ↔ ∀ d, d < n → sm (fun i => if s9.testBit i then dr i (la d) else 0) ac ≤ lv d)) (hdn : dn < 32) (hwo9 : ∀ i, wo i ≤ 99)  : mR l yX3_tray cX3_tray 4 (some .int) 3 68 D cI cZ cB cR [oK q t b b2 pp i1 i2 kept tn tw td tr, oB b n lvA aiA laA ac woA drA, aR cR drA 5 r, aI cI (r 0) 6 (dr 0), aI cI (r 1) 6 (dr 1), aI cI (r 2) 6 (dr 2), aI cI (r 3) 6 (dr 3), aI cI (r 4) 6 (dr 4), oP pp pl pt pa mo dn ea bn stA k, aI cI pa 6 la, aI cI pl 6 lv, aI cI woA 5 wo] [.ref q, .int (nI 0)] (some (.int (nI (trB (fun s9 => sm (fun i => if Nat.testBit s9 i then wo i else 0) ac) E9 dn (2 ^ ac - 1))))) := by
  refine mR_of rfl (Nat.le_of_ble_eq_true rfl) ?_
  intro p e s m args below meth c hC hr hlk hK hP ls hl
  have hl : lv_has ls 4 [(0, .ref q), (1, .int (nI 0))] := hl
  obtain ⟨hx, hb, hml, hown, hts⟩ := id hC
  refine lv_iload_n hx hb dX3_tray_0 rfl (lv_at hl 1 rfl) ?_
  refine zRS (As := [.int (nI 0)]) (rest := []) hC (c_X3_isNoughtOrOne (l := l) (b := true) (hb9 := ⟨fun _ => by first | exact Or.inl rfl | exact Or.inr rfl, fun _ => rfl⟩)) lM_X3_159 sM_X3_isNoughtOrOne (by decide) hK rfl hl.1 rfl (Nat.le_of_ble_eq_true rfl) dX3_tray_1 (by decide) ?_
  show W _ _ _ _ _ _ _ _ _ _ _ _ _ _ _ (F0 m 4 ls [.int (bI true)])
  refine zb_ne (tgt := 9) hC dX3_tray_4 (by decide) (fun c4 => ?_) (fun c4 => by exfalso; cases c4)
  refine lv_iconst (v := nI 0) hx hb dX3_tray_9 (by decide) ?_
  refine lv_istore_n (lv' := [(2, .int (nI 0)), (0, .ref q), (1, .int (nI 0))]) hx hb dX3_tray_10 rfl hl (by decide) rfl (fun ls hl => ?_)
  refine lv_iconst (v := nI 1) hx hb dX3_tray_11 (by decide) ?_
  refine lv_istore_n (lv' := [(3, .int (nI 1)), (2, .int (nI 0)), (0, .ref q), (1, .int (nI 0))]) hx hb dX3_tray_12 rfl hl (by decide) rfl (fun ls hl => ?_)
  have hL13 : ∀ (z13 : Nat) (s9 : Nat) (x9 : Nat), 33 - s9 = z13 → (1 ≤ s9 ∧ s9 ≤ 2 ^ ac) → (x9 = trB (fun s9 => sm (fun i => if Nat.testBit s9 i then wo i else 0) ac) E9 dn (s9 - 1)) → (x9 < 32) → (2 ^ ac ≤ 32) → ∀ ls : Array Slot, lv_has ls 4 [(0, .ref q), (1, .int (nI 0)), (2, .int (nI x9)), (3, .int (nI s9))] → W p l e { frames := 3, cells := 0, slots := 0, locals := 68 } s m args below meth c s.heap [] 0 0 (MQ below (qR (some (.int (nI (trB (fun s9 => sm (fun i => if Nat.testBit s9 i then wo i else 0) ac) E9 dn (2 ^ ac - 1)))))) args s 0 0 (fun _ => False)) (F0 m 13 ls []) := by
    intro z13
    induction z13 using Nat.strongRecOn with
    | _ z13 ih13 =>
    intro s9 x9 hz13 hs hx9 hx8 hpw ls hl
    refine lv_iload_n hx hb dX3_tray_13 rfl (lv_at hl 3 rfl) ?_
    refine lv_iconst (v := nI 1) hx hb dX3_tray_14 (by decide) ?_
    refine lv_aload_n hx hb dX3_tray_15 rfl (lv_at hl 0 rfl) ?_
    refine z_get (k := 1) zcX3 hC hK hP 0 rfl (by decide) lF_X3_19 rfl dX3_tray_16 ?_
    refine z_get (k := 4) zcX1 hC hK hP 1 rfl (by decide) lF_X3_162 rfl dX3_tray_19 ?_
    have b22 := z_powL5 hac
    refine zi_shl1 hC dX3_tray_22 (by omega) ?_
    refine zc_ge (tgt := 73) hC dX3_tray_23 (by decide) (by omega) (by omega) (fun c23 => ?_) (fun c23 => ?_)
    · skip
      refine lv_iload_n hx hb dX3_tray_73 rfl (lv_at hl 1 rfl) ?_
      refine z0_ne (tgt := 81) hC dX3_tray_74 (by decide) (by omega) (fun c74 => by exfalso; omega) (fun c74 => ?_)
      refine lv_iload_n hx hb dX3_tray_77 rfl (lv_at hl 2 rfl) ?_
      refine lv_goto (tgt := 89) hx hb dX3_tray_78 (by decide) ?_
      exact zr_i hC hr hlk (by rw [hx9, show s9 = 2 ^ ac by omega]) dX3_tray_89
    · skip
      refine lv_iload_n hx hb dX3_tray_26 rfl (lv_at hl 3 rfl) ?_
      refine lv_aload_n hx hb dX3_tray_27 rfl (lv_at hl 0 rfl) ?_
      refine z_get (k := 3) zcX3 hC hK hP 0 rfl (by decide) lF_X3_29 rfl dX3_tray_28 ?_
      refine z_get (k := 4) zcX0 hC hK hP 8 rfl (by decide) lF_X3_133 rfl dX3_tray_31 ?_
      refine zi_and hC dX3_tray_34 ?_
      have b35 : s9 &&& dn < 2 ^ 5 := Nat.and_lt_two_pow _ hdn
      refine z0_ne (tgt := 67) hC dX3_tray_35 (by decide) (by omega) (fun c35 => ?_) (fun c35 => ?_)
      · skip
        refine lv_iinc (v := nI (s9 + 1)) (lv' := [(3, .int (nI (s9 + 1))), (0, .ref q), (1, .int (nI 0)), (2, .int (nI x9))]) hx hb dX3_tray_67 hl (k := 3) rfl (z_inc s9 1) (by decide) rfl (fun ls hl => ?_)
        refine lv_goto (tgt := 13) hx hb dX3_tray_70 (by decide) ?_
        exact ih13 (33 - (s9 + 1)) (by omega) (s9 + 1) x9 rfl (by omega) (by have h9 : s9 + 1 - 1 = (s9 - 1) + 1 := (by omega); rw [h9, trB_s, show s9 - 1 + 1 = s9 by omega, ← hx9]; exact (if_neg (fun h => by have h1 := h.1; omega)).symm) (by omega) (by exact hpw) ls (lv_sub hl [1, 2, 3, 0] rfl)
      · skip
        refine lv_aload_n hx hb dX3_tray_38 rfl (lv_at hl 0 rfl) ?_
        refine z_get (k := 1) zcX3 hC hK hP 0 rfl (by decide) lF_X3_19 rfl dX3_tray_39 ?_
        refine lv_iload_n hx hb dX3_tray_42 rfl (lv_at hl 3 rfl) ?_
        refine zRVN (As := [.int (nI s9)]) (b := b) (rest := []) hC (c_X1_worthOf (l := l) (hac := hac) (hst := by omega)) lM_X3_165 vM_X1_worthOf (by decide) hK hP [1, 11] rfl ⟨rfl, rfl, rfl⟩ rfl hl.1 rfl (Nat.le_of_ble_eq_true rfl) dX3_tray_43 (by decide) ?_
        show W _ _ _ _ _ _ _ _ _ _ _ _ _ _ _ (F0 m 46 ls [.int (nI (sm (fun i => if Nat.testBit s9 i then wo i else 0) ac))])
        refine lv_aload_n hx hb dX3_tray_46 rfl (lv_at hl 0 rfl) ?_
        refine z_get (k := 1) zcX3 hC hK hP 0 rfl (by decide) lF_X3_19 rfl dX3_tray_47 ?_
        refine lv_iload_n hx hb dX3_tray_50 rfl (lv_at hl 2 rfl) ?_
        refine zRVN (As := [.int (nI x9)]) (b := b) (rest := [.int (nI (sm (fun i => if Nat.testBit s9 i then wo i else 0) ac))]) hC (c_X1_worthOf (l := l) (hac := hac) (hst := by omega)) lM_X3_165 vM_X1_worthOf (by decide) hK hP [1, 11] rfl ⟨rfl, rfl, rfl⟩ rfl hl.1 rfl (Nat.le_of_ble_eq_true rfl) dX3_tray_51 (by decide) ?_
        show W _ _ _ _ _ _ _ _ _ _ _ _ _ _ _ (F0 m 54 ls [.int (nI (sm (fun i => if Nat.testBit x9 i then wo i else 0) ac)), .int (nI (sm (fun i => if Nat.testBit s9 i then wo i else 0) ac))])
        have b54 := wS_le (st9 := s9) (ac := ac) hwo9
        have b55 := wS_le (st9 := x9) (ac := ac) hwo9
        refine zc_le (tgt := 67) hC dX3_tray_54 (by decide) (by omega) (by omega) (fun c54 => ?_) (fun c54 => ?_)
        · skip
          refine lv_iinc (v := nI (s9 + 1)) (lv' := [(3, .int (nI (s9 + 1))), (0, .ref q), (1, .int (nI 0)), (2, .int (nI x9))]) hx hb dX3_tray_67 hl (k := 3) rfl (z_inc s9 1) (by decide) rfl (fun ls hl => ?_)
          refine lv_goto (tgt := 13) hx hb dX3_tray_70 (by decide) ?_
          exact ih13 (33 - (s9 + 1)) (by omega) (s9 + 1) x9 rfl (by omega) (by have h9 : s9 + 1 - 1 = (s9 - 1) + 1 := (by omega); rw [h9, trB_s, show s9 - 1 + 1 = s9 by omega, ← hx9]; exact (if_neg (fun h => by have h1 := h.2.1; omega)).symm) (by omega) (by exact hpw) ls (lv_sub hl [1, 2, 3, 0] rfl)
        · skip
          refine lv_aload_n hx hb dX3_tray_57 rfl (lv_at hl 0 rfl) ?_
          refine lv_iload_n hx hb dX3_tray_58 rfl (lv_at hl 3 rfl) ?_
          refine zRV (As := [.int (nI s9)]) (b := q) (rest := []) hC (c_X3_isEnoughForAll (l := l) (g := E9 s9) (hn := hn) (hac := hac) (hla := hla) (hdr := hdr) (hlv := hlv) (hst := by omega) (hg := hE9 s9 (by omega))) lM_X3_168 vM_X3_isEnoughForAll (by decide) hK hP [0, 1, 2, 3, 4, 5, 6, 7, 8, 9, 10] rfl ⟨rfl, rfl, rfl⟩ rfl hl.1 rfl (Nat.le_of_ble_eq_true rfl) dX3_tray_59 (by decide) ?_
          show W _ _ _ _ _ _ _ _ _ _ _ _ _ _ _ (F0 m 62 ls [.int (bI (E9 s9))])
          refine zb_eq (tgt := 67) hC dX3_tray_62 (by decide) (fun c62 => ?_) (fun c62 => ?_)
          · skip
            refine lv_iinc (v := nI (s9 + 1)) (lv' := [(3, .int (nI (s9 + 1))), (0, .ref q), (1, .int (nI 0)), (2, .int (nI x9))]) hx hb dX3_tray_67 hl (k := 3) rfl (z_inc s9 1) (by decide) rfl (fun ls hl => ?_)
            refine lv_goto (tgt := 13) hx hb dX3_tray_70 (by decide) ?_
            exact ih13 (33 - (s9 + 1)) (by omega) (s9 + 1) x9 rfl (by omega) (by have h9 : s9 + 1 - 1 = (s9 - 1) + 1 := (by omega); rw [h9, trB_s, show s9 - 1 + 1 = s9 by omega, ← hx9]; exact (if_neg (fun h => absurd (h.2.2.symm.trans c62) (by decide))).symm) (by omega) (by exact hpw) ls (lv_sub hl [1, 2, 3, 0] rfl)
          · skip
            refine lv_iload_n hx hb dX3_tray_65 rfl (lv_at hl 3 rfl) ?_
            refine lv_istore_n (lv' := [(2, .int (nI s9)), (0, .ref q), (1, .int (nI 0)), (3, .int (nI s9))]) hx hb dX3_tray_66 rfl hl (by decide) rfl (fun ls hl => ?_)
            refine lv_iinc (v := nI (s9 + 1)) (lv' := [(3, .int (nI (s9 + 1))), (2, .int (nI s9)), (0, .ref q), (1, .int (nI 0))]) hx hb dX3_tray_67 hl (k := 3) rfl (z_inc s9 1) (by decide) rfl (fun ls hl => ?_)
            refine lv_goto (tgt := 13) hx hb dX3_tray_70 (by decide) ?_
            exact ih13 (33 - (s9 + 1)) (by omega) (s9 + 1) s9 rfl (by omega) (by have h9 : s9 + 1 - 1 = (s9 - 1) + 1 := (by omega); rw [h9, trB_s, show s9 - 1 + 1 = s9 by omega, ← hx9]; exact (if_pos ⟨c35, c54, c62⟩).symm) (by omega) (by exact hpw) ls (lv_sub hl [2, 3, 1, 0] rfl)
  exact hL13 _ 1 0 rfl (by exact ⟨Nat.le_refl _, Nat.one_le_two_pow⟩) (by rfl) (by omega) (by exact z_powL5 hac) ls (lv_sub hl [2, 3, 1, 0] rfl)
set_option maxHeartbeats 1000000 in
set_option maxRecDepth 100000 in
theorem c_X3_tray_1 {l : Launch} {D : va_G} {cI cZ cB cR : ClassId} {q t b b2 pp i1 i2 kept tn tw td : Nat} {tr : Int64} {n lvA aiA laA ac woA drA : Nat} {r : Nat → Nat} {dr : Nat → Nat → Nat} {pl pt pa mo dn ea bn stA k : Nat} {la : Nat → Nat} {lv : Nat → Nat} {wo : Nat → Nat} {E9 : Nat → Bool} (hn : n ≤ 6) (hac : ac ≤ 5) (hla : ∀ i, i < n → la i < n) (hdr : ∀ i j, dr i j ≤ 9) (hlv : ∀ i, lv i ≤ 40) (hE9 : ∀ s9, s9 < 32 → (E9 s9 = true ↔ ∀ d, d < n → sm (fun i => if s9.testBit i then dr i (la d) else 0) ac ≤ lv d)) (hdn : dn < 32) (hwo9 : ∀ i, wo i ≤ 99)  : mR l yX3_tray cX3_tray 4 (some .int) 3 68 D cI cZ cB cR [oK q t b b2 pp i1 i2 kept tn tw td tr, oB b n lvA aiA laA ac woA drA, aR cR drA 5 r, aI cI (r 0) 6 (dr 0), aI cI (r 1) 6 (dr 1), aI cI (r 2) 6 (dr 2), aI cI (r 3) 6 (dr 3), aI cI (r 4) 6 (dr 4), oP pp pl pt pa mo dn ea bn stA k, aI cI pa 6 la, aI cI pl 6 lv, aI cI woA 5 wo] [.ref q, .int (nI 1)] (some (.int (nI (sm (fun i => if Nat.testBit (trB (fun s9 => sm (fun i => if Nat.testBit s9 i then wo i else 0) ac) E9 dn (2 ^ ac - 1)) i then wo i else 0) ac)))) := by
  refine mR_of rfl (Nat.le_of_ble_eq_true rfl) ?_
  intro p e s m args below meth c hC hr hlk hK hP ls hl
  have hl : lv_has ls 4 [(0, .ref q), (1, .int (nI 1))] := hl
  obtain ⟨hx, hb, hml, hown, hts⟩ := id hC
  refine lv_iload_n hx hb dX3_tray_0 rfl (lv_at hl 1 rfl) ?_
  refine zRS (As := [.int (nI 1)]) (rest := []) hC (c_X3_isNoughtOrOne (l := l) (b := true) (hb9 := ⟨fun _ => by first | exact Or.inl rfl | exact Or.inr rfl, fun _ => rfl⟩)) lM_X3_159 sM_X3_isNoughtOrOne (by decide) hK rfl hl.1 rfl (Nat.le_of_ble_eq_true rfl) dX3_tray_1 (by decide) ?_
  show W _ _ _ _ _ _ _ _ _ _ _ _ _ _ _ (F0 m 4 ls [.int (bI true)])
  refine zb_ne (tgt := 9) hC dX3_tray_4 (by decide) (fun c4 => ?_) (fun c4 => by exfalso; cases c4)
  refine lv_iconst (v := nI 0) hx hb dX3_tray_9 (by decide) ?_
  refine lv_istore_n (lv' := [(2, .int (nI 0)), (0, .ref q), (1, .int (nI 1))]) hx hb dX3_tray_10 rfl hl (by decide) rfl (fun ls hl => ?_)
  refine lv_iconst (v := nI 1) hx hb dX3_tray_11 (by decide) ?_
  refine lv_istore_n (lv' := [(3, .int (nI 1)), (2, .int (nI 0)), (0, .ref q), (1, .int (nI 1))]) hx hb dX3_tray_12 rfl hl (by decide) rfl (fun ls hl => ?_)
  have hL13 : ∀ (z13 : Nat) (s9 : Nat) (x9 : Nat), 33 - s9 = z13 → (1 ≤ s9 ∧ s9 ≤ 2 ^ ac) → (x9 = trB (fun s9 => sm (fun i => if Nat.testBit s9 i then wo i else 0) ac) E9 dn (s9 - 1)) → (x9 < 32) → (2 ^ ac ≤ 32) → ∀ ls : Array Slot, lv_has ls 4 [(0, .ref q), (1, .int (nI 1)), (2, .int (nI x9)), (3, .int (nI s9))] → W p l e { frames := 3, cells := 0, slots := 0, locals := 68 } s m args below meth c s.heap [] 0 0 (MQ below (qR (some (.int (nI (sm (fun i => if Nat.testBit (trB (fun s9 => sm (fun i => if Nat.testBit s9 i then wo i else 0) ac) E9 dn (2 ^ ac - 1)) i then wo i else 0) ac))))) args s 0 0 (fun _ => False)) (F0 m 13 ls []) := by
    intro z13
    induction z13 using Nat.strongRecOn with
    | _ z13 ih13 =>
    intro s9 x9 hz13 hs hx9 hx8 hpw ls hl
    refine lv_iload_n hx hb dX3_tray_13 rfl (lv_at hl 3 rfl) ?_
    refine lv_iconst (v := nI 1) hx hb dX3_tray_14 (by decide) ?_
    refine lv_aload_n hx hb dX3_tray_15 rfl (lv_at hl 0 rfl) ?_
    refine z_get (k := 1) zcX3 hC hK hP 0 rfl (by decide) lF_X3_19 rfl dX3_tray_16 ?_
    refine z_get (k := 4) zcX1 hC hK hP 1 rfl (by decide) lF_X3_162 rfl dX3_tray_19 ?_
    have b22 := z_powL5 hac
    refine zi_shl1 hC dX3_tray_22 (by omega) ?_
    refine zc_ge (tgt := 73) hC dX3_tray_23 (by decide) (by omega) (by omega) (fun c23 => ?_) (fun c23 => ?_)
    · skip
      refine lv_iload_n hx hb dX3_tray_73 rfl (lv_at hl 1 rfl) ?_
      refine z0_ne (tgt := 81) hC dX3_tray_74 (by decide) (by omega) (fun c74 => ?_) (fun c74 => by exfalso; omega)
      refine lv_aload_n hx hb dX3_tray_81 rfl (lv_at hl 0 rfl) ?_
      refine z_get (k := 1) zcX3 hC hK hP 0 rfl (by decide) lF_X3_19 rfl dX3_tray_82 ?_
      refine lv_iload_n hx hb dX3_tray_85 rfl (lv_at hl 2 rfl) ?_
      refine zRVN (As := [.int (nI x9)]) (b := b) (rest := []) hC (c_X1_worthOf (l := l) (hac := hac) (hst := by omega)) lM_X3_165 vM_X1_worthOf (by decide) hK hP [1, 11] rfl ⟨rfl, rfl, rfl⟩ rfl hl.1 rfl (Nat.le_of_ble_eq_true rfl) dX3_tray_86 (by decide) ?_
      show W _ _ _ _ _ _ _ _ _ _ _ _ _ _ _ (F0 m 89 ls [.int (nI (sm (fun i => if Nat.testBit x9 i then wo i else 0) ac))])
      exact zr_i hC hr hlk (by rw [hx9, show s9 = 2 ^ ac by omega]) dX3_tray_89
    · skip
      refine lv_iload_n hx hb dX3_tray_26 rfl (lv_at hl 3 rfl) ?_
      refine lv_aload_n hx hb dX3_tray_27 rfl (lv_at hl 0 rfl) ?_
      refine z_get (k := 3) zcX3 hC hK hP 0 rfl (by decide) lF_X3_29 rfl dX3_tray_28 ?_
      refine z_get (k := 4) zcX0 hC hK hP 8 rfl (by decide) lF_X3_133 rfl dX3_tray_31 ?_
      refine zi_and hC dX3_tray_34 ?_
      have b35 : s9 &&& dn < 2 ^ 5 := Nat.and_lt_two_pow _ hdn
      refine z0_ne (tgt := 67) hC dX3_tray_35 (by decide) (by omega) (fun c35 => ?_) (fun c35 => ?_)
      · skip
        refine lv_iinc (v := nI (s9 + 1)) (lv' := [(3, .int (nI (s9 + 1))), (0, .ref q), (1, .int (nI 1)), (2, .int (nI x9))]) hx hb dX3_tray_67 hl (k := 3) rfl (z_inc s9 1) (by decide) rfl (fun ls hl => ?_)
        refine lv_goto (tgt := 13) hx hb dX3_tray_70 (by decide) ?_
        exact ih13 (33 - (s9 + 1)) (by omega) (s9 + 1) x9 rfl (by omega) (by have h9 : s9 + 1 - 1 = (s9 - 1) + 1 := (by omega); rw [h9, trB_s, show s9 - 1 + 1 = s9 by omega, ← hx9]; exact (if_neg (fun h => by have h1 := h.1; omega)).symm) (by omega) (by exact hpw) ls (lv_sub hl [1, 2, 3, 0] rfl)
      · skip
        refine lv_aload_n hx hb dX3_tray_38 rfl (lv_at hl 0 rfl) ?_
        refine z_get (k := 1) zcX3 hC hK hP 0 rfl (by decide) lF_X3_19 rfl dX3_tray_39 ?_
        refine lv_iload_n hx hb dX3_tray_42 rfl (lv_at hl 3 rfl) ?_
        refine zRVN (As := [.int (nI s9)]) (b := b) (rest := []) hC (c_X1_worthOf (l := l) (hac := hac) (hst := by omega)) lM_X3_165 vM_X1_worthOf (by decide) hK hP [1, 11] rfl ⟨rfl, rfl, rfl⟩ rfl hl.1 rfl (Nat.le_of_ble_eq_true rfl) dX3_tray_43 (by decide) ?_
        show W _ _ _ _ _ _ _ _ _ _ _ _ _ _ _ (F0 m 46 ls [.int (nI (sm (fun i => if Nat.testBit s9 i then wo i else 0) ac))])
        refine lv_aload_n hx hb dX3_tray_46 rfl (lv_at hl 0 rfl) ?_
        refine z_get (k := 1) zcX3 hC hK hP 0 rfl (by decide) lF_X3_19 rfl dX3_tray_47 ?_
        refine lv_iload_n hx hb dX3_tray_50 rfl (lv_at hl 2 rfl) ?_
        refine zRVN (As := [.int (nI x9)]) (b := b) (rest := [.int (nI (sm (fun i => if Nat.testBit s9 i then wo i else 0) ac))]) hC (c_X1_worthOf (l := l) (hac := hac) (hst := by omega)) lM_X3_165 vM_X1_worthOf (by decide) hK hP [1, 11] rfl ⟨rfl, rfl, rfl⟩ rfl hl.1 rfl (Nat.le_of_ble_eq_true rfl) dX3_tray_51 (by decide) ?_
        show W _ _ _ _ _ _ _ _ _ _ _ _ _ _ _ (F0 m 54 ls [.int (nI (sm (fun i => if Nat.testBit x9 i then wo i else 0) ac)), .int (nI (sm (fun i => if Nat.testBit s9 i then wo i else 0) ac))])
        have b54 := wS_le (st9 := s9) (ac := ac) hwo9
        have b55 := wS_le (st9 := x9) (ac := ac) hwo9
        refine zc_le (tgt := 67) hC dX3_tray_54 (by decide) (by omega) (by omega) (fun c54 => ?_) (fun c54 => ?_)
        · skip
          refine lv_iinc (v := nI (s9 + 1)) (lv' := [(3, .int (nI (s9 + 1))), (0, .ref q), (1, .int (nI 1)), (2, .int (nI x9))]) hx hb dX3_tray_67 hl (k := 3) rfl (z_inc s9 1) (by decide) rfl (fun ls hl => ?_)
          refine lv_goto (tgt := 13) hx hb dX3_tray_70 (by decide) ?_
          exact ih13 (33 - (s9 + 1)) (by omega) (s9 + 1) x9 rfl (by omega) (by have h9 : s9 + 1 - 1 = (s9 - 1) + 1 := (by omega); rw [h9, trB_s, show s9 - 1 + 1 = s9 by omega, ← hx9]; exact (if_neg (fun h => by have h1 := h.2.1; omega)).symm) (by omega) (by exact hpw) ls (lv_sub hl [1, 2, 3, 0] rfl)
        · skip
          refine lv_aload_n hx hb dX3_tray_57 rfl (lv_at hl 0 rfl) ?_
          refine lv_iload_n hx hb dX3_tray_58 rfl (lv_at hl 3 rfl) ?_
          refine zRV (As := [.int (nI s9)]) (b := q) (rest := []) hC (c_X3_isEnoughForAll (l := l) (g := E9 s9) (hn := hn) (hac := hac) (hla := hla) (hdr := hdr) (hlv := hlv) (hst := by omega) (hg := hE9 s9 (by omega))) lM_X3_168 vM_X3_isEnoughForAll (by decide) hK hP [0, 1, 2, 3, 4, 5, 6, 7, 8, 9, 10] rfl ⟨rfl, rfl, rfl⟩ rfl hl.1 rfl (Nat.le_of_ble_eq_true rfl) dX3_tray_59 (by decide) ?_
          show W _ _ _ _ _ _ _ _ _ _ _ _ _ _ _ (F0 m 62 ls [.int (bI (E9 s9))])
          refine zb_eq (tgt := 67) hC dX3_tray_62 (by decide) (fun c62 => ?_) (fun c62 => ?_)
          · skip
            refine lv_iinc (v := nI (s9 + 1)) (lv' := [(3, .int (nI (s9 + 1))), (0, .ref q), (1, .int (nI 1)), (2, .int (nI x9))]) hx hb dX3_tray_67 hl (k := 3) rfl (z_inc s9 1) (by decide) rfl (fun ls hl => ?_)
            refine lv_goto (tgt := 13) hx hb dX3_tray_70 (by decide) ?_
            exact ih13 (33 - (s9 + 1)) (by omega) (s9 + 1) x9 rfl (by omega) (by have h9 : s9 + 1 - 1 = (s9 - 1) + 1 := (by omega); rw [h9, trB_s, show s9 - 1 + 1 = s9 by omega, ← hx9]; exact (if_neg (fun h => absurd (h.2.2.symm.trans c62) (by decide))).symm) (by omega) (by exact hpw) ls (lv_sub hl [1, 2, 3, 0] rfl)
          · skip
            refine lv_iload_n hx hb dX3_tray_65 rfl (lv_at hl 3 rfl) ?_
            refine lv_istore_n (lv' := [(2, .int (nI s9)), (0, .ref q), (1, .int (nI 1)), (3, .int (nI s9))]) hx hb dX3_tray_66 rfl hl (by decide) rfl (fun ls hl => ?_)
            refine lv_iinc (v := nI (s9 + 1)) (lv' := [(3, .int (nI (s9 + 1))), (2, .int (nI s9)), (0, .ref q), (1, .int (nI 1))]) hx hb dX3_tray_67 hl (k := 3) rfl (z_inc s9 1) (by decide) rfl (fun ls hl => ?_)
            refine lv_goto (tgt := 13) hx hb dX3_tray_70 (by decide) ?_
            exact ih13 (33 - (s9 + 1)) (by omega) (s9 + 1) s9 rfl (by omega) (by have h9 : s9 + 1 - 1 = (s9 - 1) + 1 := (by omega); rw [h9, trB_s, show s9 - 1 + 1 = s9 by omega, ← hx9]; exact (if_pos ⟨c35, c54, c62⟩).symm) (by omega) (by exact hpw) ls (lv_sub hl [2, 3, 1, 0] rfl)
  exact hL13 _ 1 0 rfl (by exact ⟨Nat.le_refl _, Nat.one_le_two_pow⟩) (by rfl) (by omega) (by exact z_powL5 hac) ls (lv_sub hl [2, 3, 1, 0] rfl)
set_option maxHeartbeats 1000000 in
set_option maxRecDepth 100000 in
theorem c_X3_right_0 {l : Launch} {D : va_G} {cI cZ cB cR : ClassId} {q t b b2 pp i1 i2 kept tn tw td : Nat} {tr : Int64} {n lvA aiA laA ac woA drA : Nat} {pl pt pa mo dn ea bn stA k : Nat} {la : Nat → Nat}  (hn : n ≤ 6) (hla : ∀ i, i < n → la i < n) (hrg : ∀ d, d < n → rg la n d 0 < 64) : mR l yX3_right cX3_right 2 (some .int) 3 68 D cI cZ cB cR [oK q t b b2 pp i1 i2 kept tn tw td tr, oB b n lvA aiA laA ac woA drA, oP pp pl pt pa mo dn ea bn stA k, aI cI pa 6 la] [.ref q, .int (nI 0)] (some (.int (nI (fcS la n n).1))) := by
  refine mR_of rfl (Nat.le_of_ble_eq_true rfl) ?_
  intro p e s m args below meth c hC hr hlk hK hP ls hl
  have hl : lv_has ls 2 [(0, .ref q), (1, .int (nI 0))] := hl
  obtain ⟨hx, hb, hml, hown, hts⟩ := id hC
  refine lv_iload_n hx hb dX3_right_0 rfl (lv_at hl 1 rfl) ?_
  refine zRS (As := [.int (nI 0)]) (rest := []) hC (c_X3_isNoughtOrOne (l := l) (b := true) (hb9 := ⟨fun _ => by first | exact Or.inl rfl | exact Or.inr rfl, fun _ => rfl⟩)) lM_X3_159 sM_X3_isNoughtOrOne (by decide) hK rfl hl.1 rfl (Nat.le_of_ble_eq_true rfl) dX3_right_1 (by decide) ?_
  show W _ _ _ _ _ _ _ _ _ _ _ _ _ _ _ (F0 m 4 ls [.int (bI true)])
  refine zb_ne (tgt := 9) hC dX3_right_4 (by decide) (fun c4 => ?_) (fun c4 => by exfalso; cases c4)
  refine lv_iload_n hx hb dX3_right_9 rfl (lv_at hl 1 rfl) ?_
  refine z0_ne (tgt := 20) hC dX3_right_10 (by decide) (by omega) (fun c10 => by exfalso; omega) (fun c10 => ?_)
  refine lv_aload_n hx hb dX3_right_13 rfl (lv_at hl 0 rfl) ?_
  refine zRV (As := []) (b := q) (rest := []) hC (c_X3_fewestChanges (l := l) (hn := hn) (hla := hla) (hrg := hrg)) lM_X3_171 vM_X3_fewestChanges (by decide) hK hP [0, 1, 2, 3] rfl ⟨rfl, rfl, rfl⟩ rfl hl.1 rfl (Nat.le_of_ble_eq_true rfl) dX3_right_14 (by decide) ?_
  show W _ _ _ _ _ _ _ _ _ _ _ _ _ _ _ (F0 m 17 ls [.int (nI ((fcS la n n).1))])
  refine lv_goto (tgt := 24) hx hb dX3_right_17 (by decide) ?_
  exact zr_i hC hr hlk (by first | rfl | omega) dX3_right_24
set_option maxHeartbeats 1000000 in
set_option maxRecDepth 100000 in
theorem c_X3_right_1 {l : Launch} {D : va_G} {cI cZ cB cR : ClassId} {q t b b2 pp i1 i2 kept tn tw td : Nat} {tr : Int64} {n lvA aiA laA ac woA drA : Nat} {pl pt pa mo dn ea bn stA k : Nat} {la : Nat → Nat}  (hn : n ≤ 6) (hla : ∀ i, i < n → la i < n)  : mR l yX3_right cX3_right 2 (some .int) 1 22 D cI cZ cB cR [oK q t b b2 pp i1 i2 kept tn tw td tr, oB b n lvA aiA laA ac woA drA, oP pp pl pt pa mo dn ea bn stA k, aI cI pa 6 la] [.ref q, .int (nI 1)] (some (.int (oI (fou9 la n 0 n)))) := by
  refine mR_of rfl (Nat.le_of_ble_eq_true rfl) ?_
  intro p e s m args below meth c hC hr hlk hK hP ls hl
  have hl : lv_has ls 2 [(0, .ref q), (1, .int (nI 1))] := hl
  obtain ⟨hx, hb, hml, hown, hts⟩ := id hC
  refine lv_iload_n hx hb dX3_right_0 rfl (lv_at hl 1 rfl) ?_
  refine zRS (As := [.int (nI 1)]) (rest := []) hC (c_X3_isNoughtOrOne (l := l) (b := true) (hb9 := ⟨fun _ => by first | exact Or.inl rfl | exact Or.inr rfl, fun _ => rfl⟩)) lM_X3_159 sM_X3_isNoughtOrOne (by decide) hK rfl hl.1 rfl (Nat.le_of_ble_eq_true rfl) dX3_right_1 (by decide) ?_
  show W _ _ _ _ _ _ _ _ _ _ _ _ _ _ _ (F0 m 4 ls [.int (bI true)])
  refine zb_ne (tgt := 9) hC dX3_right_4 (by decide) (fun c4 => ?_) (fun c4 => by exfalso; cases c4)
  refine lv_iload_n hx hb dX3_right_9 rfl (lv_at hl 1 rfl) ?_
  refine z0_ne (tgt := 20) hC dX3_right_10 (by decide) (by omega) (fun c10 => ?_) (fun c10 => by exfalso; omega)
  refine lv_aload_n hx hb dX3_right_20 rfl (lv_at hl 0 rfl) ?_
  refine zRV (As := []) (b := q) (rest := []) hC (c_X3_firstChange (l := l) (hn := hn) (hla := hla)) lM_X3_174 vM_X3_firstChange (by decide) hK hP [0, 1, 2, 3] rfl ⟨rfl, rfl, rfl⟩ rfl hl.1 rfl (Nat.le_of_ble_eq_true rfl) dX3_right_21 (by decide) ?_
  show W _ _ _ _ _ _ _ _ _ _ _ _ _ _ _ (F0 m 24 ls [.int (oI (fou9 la n 0 n))])
  exact zr_i hC hr hlk (by first | rfl | omega) dX3_right_24
set_option maxHeartbeats 1000000 in
set_option maxRecDepth 100000 in
theorem c_X3_share_0 {l : Launch} {D : va_G} {cI cZ cB cR : ClassId} {q t b b2 pp i1 i2 kept tn tw td : Nat} {tr : Int64} {n lvA aiA laA ac woA drA : Nat} {pl pt pa mo dn ea bn stA k : Nat} {lv : Nat → Nat}  (hn : n ≤ 6) (hlv : ∀ i, lv i ≤ 40)  : mR l yX3_share cX3_share 4 (some .int) 2 44 D cI cZ cB cR [oK q t b b2 pp i1 i2 kept tn tw td tr, oB b n lvA aiA laA ac woA drA, oP pp pl pt pa mo dn ea bn stA k, aI cI pl 6 lv] [.ref q, .int (nI 0)] (some (.int (nI (shB lv n ((2 ^ n - 2) / 2))))) := by
  refine mR_of rfl (Nat.le_of_ble_eq_true rfl) ?_
  intro p e s m args below meth c hC hr hlk hK hP ls hl
  have hl : lv_has ls 4 [(0, .ref q), (1, .int (nI 0))] := hl
  obtain ⟨hx, hb, hml, hown, hts⟩ := id hC
  refine lv_iload_n hx hb dX3_share_0 rfl (lv_at hl 1 rfl) ?_
  refine zRS (As := [.int (nI 0)]) (rest := []) hC (c_X3_isNoughtOrOne (l := l) (b := true) (hb9 := ⟨fun _ => by first | exact Or.inl rfl | exact Or.inr rfl, fun _ => rfl⟩)) lM_X3_159 sM_X3_isNoughtOrOne (by decide) hK rfl hl.1 rfl (Nat.le_of_ble_eq_true rfl) dX3_share_1 (by decide) ?_
  show W _ _ _ _ _ _ _ _ _ _ _ _ _ _ _ (F0 m 4 ls [.int (bI true)])
  refine zb_ne (tgt := 9) hC dX3_share_4 (by decide) (fun c4 => ?_) (fun c4 => by exfalso; cases c4)
  refine lv_aload_n hx hb dX3_share_9 rfl (lv_at hl 0 rfl) ?_
  refine z_get (k := 1) zcX3 hC hK hP 0 rfl (by decide) lF_X3_19 rfl dX3_share_10 ?_
  refine z_get (k := 0) zcX1 hC hK hP 1 rfl (by decide) lF_X3_123 rfl dX3_share_13 ?_
  have hJ24 : ∀ (x8 : Nat), True → (x8 = if n = 0 then 0 else 1) → ∀ ls : Array Slot, lv_has ls 4 [(0, .ref q), (1, .int (nI 0))] → W p l e { frames := 2, cells := 0, slots := 0, locals := 44 } s m args below meth c s.heap [] 0 0 (MQ below (qR (some (.int (nI (shB lv n ((2 ^ n - 2) / 2)))))) args s 0 0 (fun _ => False)) (F0 m 24 ls [.int (nI x8)]) := by
    intro x8 _ hx8 ls hl
    refine lv_istore_n (lv' := [(2, .int (nI x8)), (0, .ref q), (1, .int (nI 0))]) hx hb dX3_share_24 rfl hl (by decide) rfl (fun ls hl => ?_)
    refine lv_iconst (v := nI 3) hx hb dX3_share_25 (by decide) ?_
    refine lv_istore_n (lv' := [(3, .int (nI 3)), (2, .int (nI x8)), (0, .ref q), (1, .int (nI 0))]) hx hb dX3_share_26 rfl hl (by decide) rfl (fun ls hl => ?_)
    have hL27 : ∀ (z27 : Nat) (s9 : Nat) (x9 : Nat) (k9 : Nat), 130 - s9 = z27 → (s9 = 2 * k9 + 3) → (x9 = shB lv n k9) → (k9 = 0 ∨ 2 * k9 + 1 < 2 ^ n) → (2 ^ n ≤ 64) → (x9 ≤ 2 * k9 + 1) → ∀ ls : Array Slot, lv_has ls 4 [(0, .ref q), (1, .int (nI 0)), (2, .int (nI x9)), (3, .int (nI s9))] → W p l e { frames := 2, cells := 0, slots := 0, locals := 44 } s m args below meth c s.heap [] 0 0 (MQ below (qR (some (.int (nI (shB lv n ((2 ^ n - 2) / 2)))))) args s 0 0 (fun _ => False)) (F0 m 27 ls []) := by
      intro z27
      induction z27 using Nat.strongRecOn with
      | _ z27 ih27 =>
      intro s9 x9 k9 hz27 hs hx9 hk9 hpw hx7 ls hl
      refine lv_iload_n hx hb dX3_share_27 rfl (lv_at hl 3 rfl) ?_
      refine lv_iconst (v := nI 1) hx hb dX3_share_28 (by decide) ?_
      refine lv_aload_n hx hb dX3_share_29 rfl (lv_at hl 0 rfl) ?_
      refine z_get (k := 1) zcX3 hC hK hP 0 rfl (by decide) lF_X3_19 rfl dX3_share_30 ?_
      refine z_get (k := 0) zcX1 hC hK hP 1 rfl (by decide) lF_X3_123 rfl dX3_share_33 ?_
      have b36 := z_powL6 hn
      refine zi_shl1 hC dX3_share_36 (by omega) ?_
      refine zc_ge (tgt := 61) hC dX3_share_37 (by decide) (by omega) (by omega) (fun c37 => ?_) (fun c37 => ?_)
      · skip
        refine lv_iload_n hx hb dX3_share_61 rfl (lv_at hl 1 rfl) ?_
        refine z0_ne (tgt := 69) hC dX3_share_62 (by decide) (by omega) (fun c62 => by exfalso; omega) (fun c62 => ?_)
        refine lv_iload_n hx hb dX3_share_65 rfl (lv_at hl 2 rfl) ?_
        refine lv_goto (tgt := 74) hx hb dX3_share_66 (by decide) ?_
        exact zr_i hC hr hlk (by rw [hx9, show k9 = (2 ^ n - 2) / 2 by omega]) dX3_share_74
      · skip
        refine lv_aload_n hx hb dX3_share_40 rfl (lv_at hl 0 rfl) ?_
        refine lv_iload_n hx hb dX3_share_41 rfl (lv_at hl 3 rfl) ?_
        refine zRV (As := [.int (nI s9)]) (b := q) (rest := []) hC (c_X3_differenceOf (l := l) (hn := hn) (hlv := hlv) (hst := by omega)) lM_X3_177 vM_X3_differenceOf (by decide) hK hP [0, 1, 2, 3] rfl ⟨rfl, rfl, rfl⟩ rfl hl.1 rfl (Nat.le_of_ble_eq_true rfl) dX3_share_42 (by decide) ?_
        show W _ _ _ _ _ _ _ _ _ _ _ _ _ _ _ (F0 m 45 ls [.int (nI (dabs lv s9 n))])
        refine lv_aload_n hx hb dX3_share_45 rfl (lv_at hl 0 rfl) ?_
        refine lv_iload_n hx hb dX3_share_46 rfl (lv_at hl 2 rfl) ?_
        refine zRV (As := [.int (nI x9)]) (b := q) (rest := [.int (nI (dabs lv s9 n))]) hC (c_X3_differenceOf (l := l) (hn := hn) (hlv := hlv) (hst := by omega)) lM_X3_177 vM_X3_differenceOf (by decide) hK hP [0, 1, 2, 3] rfl ⟨rfl, rfl, rfl⟩ rfl hl.1 rfl (Nat.le_of_ble_eq_true rfl) dX3_share_47 (by decide) ?_
        show W _ _ _ _ _ _ _ _ _ _ _ _ _ _ _ (F0 m 50 ls [.int (nI (dabs lv x9 n)), .int (nI (dabs lv s9 n))])
        have b50 := dabs_le (st := s9) (n := n) hlv
        have b51 := dabs_le (st := x9) (n := n) hlv
        refine zc_ge (tgt := 55) hC dX3_share_50 (by decide) (by omega) (by omega) (fun c50 => ?_) (fun c50 => ?_)
        · skip
          refine lv_iinc (v := nI (s9 + 2)) (lv' := [(3, .int (nI (s9 + 2))), (0, .ref q), (1, .int (nI 0)), (2, .int (nI x9))]) hx hb dX3_share_55 hl (k := 3) rfl (z_inc s9 2) (by decide) rfl (fun ls hl => ?_)
          refine lv_goto (tgt := 27) hx hb dX3_share_58 (by decide) ?_
          exact ih27 (130 - (s9 + 2)) (by omega) (s9 + 2) x9 (k9 + 1) rfl (by omega) (by rw [shB_s, ← hx9, ← hs]; exact (if_neg (Nat.not_lt.mpr c50)).symm) (by omega) (by exact hpw) (by omega) ls (lv_sub hl [1, 2, 3, 0] rfl)
        · skip
          refine lv_iload_n hx hb dX3_share_53 rfl (lv_at hl 3 rfl) ?_
          refine lv_istore_n (lv' := [(2, .int (nI s9)), (0, .ref q), (1, .int (nI 0)), (3, .int (nI s9))]) hx hb dX3_share_54 rfl hl (by decide) rfl (fun ls hl => ?_)
          refine lv_iinc (v := nI (s9 + 2)) (lv' := [(3, .int (nI (s9 + 2))), (2, .int (nI s9)), (0, .ref q), (1, .int (nI 0))]) hx hb dX3_share_55 hl (k := 3) rfl (z_inc s9 2) (by decide) rfl (fun ls hl => ?_)
          refine lv_goto (tgt := 27) hx hb dX3_share_58 (by decide) ?_
          exact ih27 (130 - (s9 + 2)) (by omega) (s9 + 2) s9 (k9 + 1) rfl (by omega) (by rw [shB_s, ← hx9, ← hs]; exact (if_pos c50).symm) (by omega) (by exact hpw) (by omega) ls (lv_sub hl [2, 3, 1, 0] rfl)
    exact hL27 _ 3 x8 0 rfl (by rfl) (by exact hx8) (by omega) (by exact z_powL6 hn) (by rw [hx8]; split <;> omega) ls (lv_sub hl [2, 3, 1, 0] rfl)
  refine z0_ne (tgt := 23) hC dX3_share_16 (by decide) (by omega) (fun c16 => ?_) (fun c16 => ?_)
  · skip
    refine lv_iconst (v := nI 1) hx hb dX3_share_23 (by decide) ?_
    exact hJ24 1 trivial (by exact (if_neg (by omega)).symm) ls (lv_sub hl [0, 1] rfl)
  · skip
    refine lv_iconst (v := nI 0) hx hb dX3_share_19 (by decide) ?_
    refine lv_goto (tgt := 24) hx hb dX3_share_20 (by decide) ?_
    exact hJ24 0 trivial (by exact (if_pos c16).symm) ls (lv_sub hl [0, 1] rfl)
set_option maxHeartbeats 1000000 in
set_option maxRecDepth 100000 in
theorem c_X3_share_1 {l : Launch} {D : va_G} {cI cZ cB cR : ClassId} {q t b b2 pp i1 i2 kept tn tw td : Nat} {tr : Int64} {n lvA aiA laA ac woA drA : Nat} {pl pt pa mo dn ea bn stA k : Nat} {lv : Nat → Nat}  (hn : n ≤ 6) (hlv : ∀ i, lv i ≤ 40)  : mR l yX3_share cX3_share 4 (some .int) 2 44 D cI cZ cB cR [oK q t b b2 pp i1 i2 kept tn tw td tr, oB b n lvA aiA laA ac woA drA, oP pp pl pt pa mo dn ea bn stA k, aI cI pl 6 lv] [.ref q, .int (nI 1)] (some (.int (nI (dabs lv (shB lv n ((2 ^ n - 2) / 2)) n)))) := by
  refine mR_of rfl (Nat.le_of_ble_eq_true rfl) ?_
  intro p e s m args below meth c hC hr hlk hK hP ls hl
  have hl : lv_has ls 4 [(0, .ref q), (1, .int (nI 1))] := hl
  obtain ⟨hx, hb, hml, hown, hts⟩ := id hC
  refine lv_iload_n hx hb dX3_share_0 rfl (lv_at hl 1 rfl) ?_
  refine zRS (As := [.int (nI 1)]) (rest := []) hC (c_X3_isNoughtOrOne (l := l) (b := true) (hb9 := ⟨fun _ => by first | exact Or.inl rfl | exact Or.inr rfl, fun _ => rfl⟩)) lM_X3_159 sM_X3_isNoughtOrOne (by decide) hK rfl hl.1 rfl (Nat.le_of_ble_eq_true rfl) dX3_share_1 (by decide) ?_
  show W _ _ _ _ _ _ _ _ _ _ _ _ _ _ _ (F0 m 4 ls [.int (bI true)])
  refine zb_ne (tgt := 9) hC dX3_share_4 (by decide) (fun c4 => ?_) (fun c4 => by exfalso; cases c4)
  refine lv_aload_n hx hb dX3_share_9 rfl (lv_at hl 0 rfl) ?_
  refine z_get (k := 1) zcX3 hC hK hP 0 rfl (by decide) lF_X3_19 rfl dX3_share_10 ?_
  refine z_get (k := 0) zcX1 hC hK hP 1 rfl (by decide) lF_X3_123 rfl dX3_share_13 ?_
  have hJ24 : ∀ (x8 : Nat), True → (x8 = if n = 0 then 0 else 1) → ∀ ls : Array Slot, lv_has ls 4 [(0, .ref q), (1, .int (nI 1))] → W p l e { frames := 2, cells := 0, slots := 0, locals := 44 } s m args below meth c s.heap [] 0 0 (MQ below (qR (some (.int (nI (dabs lv (shB lv n ((2 ^ n - 2) / 2)) n))))) args s 0 0 (fun _ => False)) (F0 m 24 ls [.int (nI x8)]) := by
    intro x8 _ hx8 ls hl
    refine lv_istore_n (lv' := [(2, .int (nI x8)), (0, .ref q), (1, .int (nI 1))]) hx hb dX3_share_24 rfl hl (by decide) rfl (fun ls hl => ?_)
    refine lv_iconst (v := nI 3) hx hb dX3_share_25 (by decide) ?_
    refine lv_istore_n (lv' := [(3, .int (nI 3)), (2, .int (nI x8)), (0, .ref q), (1, .int (nI 1))]) hx hb dX3_share_26 rfl hl (by decide) rfl (fun ls hl => ?_)
    have hL27 : ∀ (z27 : Nat) (s9 : Nat) (x9 : Nat) (k9 : Nat), 130 - s9 = z27 → (s9 = 2 * k9 + 3) → (x9 = shB lv n k9) → (k9 = 0 ∨ 2 * k9 + 1 < 2 ^ n) → (2 ^ n ≤ 64) → (x9 ≤ 2 * k9 + 1) → ∀ ls : Array Slot, lv_has ls 4 [(0, .ref q), (1, .int (nI 1)), (2, .int (nI x9)), (3, .int (nI s9))] → W p l e { frames := 2, cells := 0, slots := 0, locals := 44 } s m args below meth c s.heap [] 0 0 (MQ below (qR (some (.int (nI (dabs lv (shB lv n ((2 ^ n - 2) / 2)) n))))) args s 0 0 (fun _ => False)) (F0 m 27 ls []) := by
      intro z27
      induction z27 using Nat.strongRecOn with
      | _ z27 ih27 =>
      intro s9 x9 k9 hz27 hs hx9 hk9 hpw hx7 ls hl
      refine lv_iload_n hx hb dX3_share_27 rfl (lv_at hl 3 rfl) ?_
      refine lv_iconst (v := nI 1) hx hb dX3_share_28 (by decide) ?_
      refine lv_aload_n hx hb dX3_share_29 rfl (lv_at hl 0 rfl) ?_
      refine z_get (k := 1) zcX3 hC hK hP 0 rfl (by decide) lF_X3_19 rfl dX3_share_30 ?_
      refine z_get (k := 0) zcX1 hC hK hP 1 rfl (by decide) lF_X3_123 rfl dX3_share_33 ?_
      have b36 := z_powL6 hn
      refine zi_shl1 hC dX3_share_36 (by omega) ?_
      refine zc_ge (tgt := 61) hC dX3_share_37 (by decide) (by omega) (by omega) (fun c37 => ?_) (fun c37 => ?_)
      · skip
        refine lv_iload_n hx hb dX3_share_61 rfl (lv_at hl 1 rfl) ?_
        refine z0_ne (tgt := 69) hC dX3_share_62 (by decide) (by omega) (fun c62 => ?_) (fun c62 => by exfalso; omega)
        refine lv_aload_n hx hb dX3_share_69 rfl (lv_at hl 0 rfl) ?_
        refine lv_iload_n hx hb dX3_share_70 rfl (lv_at hl 2 rfl) ?_
        refine zRV (As := [.int (nI x9)]) (b := q) (rest := []) hC (c_X3_differenceOf (l := l) (hn := hn) (hlv := hlv) (hst := by omega)) lM_X3_177 vM_X3_differenceOf (by decide) hK hP [0, 1, 2, 3] rfl ⟨rfl, rfl, rfl⟩ rfl hl.1 rfl (Nat.le_of_ble_eq_true rfl) dX3_share_71 (by decide) ?_
        show W _ _ _ _ _ _ _ _ _ _ _ _ _ _ _ (F0 m 74 ls [.int (nI (dabs lv x9 n))])
        exact zr_i hC hr hlk (by rw [hx9, show k9 = (2 ^ n - 2) / 2 by omega]) dX3_share_74
      · skip
        refine lv_aload_n hx hb dX3_share_40 rfl (lv_at hl 0 rfl) ?_
        refine lv_iload_n hx hb dX3_share_41 rfl (lv_at hl 3 rfl) ?_
        refine zRV (As := [.int (nI s9)]) (b := q) (rest := []) hC (c_X3_differenceOf (l := l) (hn := hn) (hlv := hlv) (hst := by omega)) lM_X3_177 vM_X3_differenceOf (by decide) hK hP [0, 1, 2, 3] rfl ⟨rfl, rfl, rfl⟩ rfl hl.1 rfl (Nat.le_of_ble_eq_true rfl) dX3_share_42 (by decide) ?_
        show W _ _ _ _ _ _ _ _ _ _ _ _ _ _ _ (F0 m 45 ls [.int (nI (dabs lv s9 n))])
        refine lv_aload_n hx hb dX3_share_45 rfl (lv_at hl 0 rfl) ?_
        refine lv_iload_n hx hb dX3_share_46 rfl (lv_at hl 2 rfl) ?_
        refine zRV (As := [.int (nI x9)]) (b := q) (rest := [.int (nI (dabs lv s9 n))]) hC (c_X3_differenceOf (l := l) (hn := hn) (hlv := hlv) (hst := by omega)) lM_X3_177 vM_X3_differenceOf (by decide) hK hP [0, 1, 2, 3] rfl ⟨rfl, rfl, rfl⟩ rfl hl.1 rfl (Nat.le_of_ble_eq_true rfl) dX3_share_47 (by decide) ?_
        show W _ _ _ _ _ _ _ _ _ _ _ _ _ _ _ (F0 m 50 ls [.int (nI (dabs lv x9 n)), .int (nI (dabs lv s9 n))])
        have b50 := dabs_le (st := s9) (n := n) hlv
        have b51 := dabs_le (st := x9) (n := n) hlv
        refine zc_ge (tgt := 55) hC dX3_share_50 (by decide) (by omega) (by omega) (fun c50 => ?_) (fun c50 => ?_)
        · skip
          refine lv_iinc (v := nI (s9 + 2)) (lv' := [(3, .int (nI (s9 + 2))), (0, .ref q), (1, .int (nI 1)), (2, .int (nI x9))]) hx hb dX3_share_55 hl (k := 3) rfl (z_inc s9 2) (by decide) rfl (fun ls hl => ?_)
          refine lv_goto (tgt := 27) hx hb dX3_share_58 (by decide) ?_
          exact ih27 (130 - (s9 + 2)) (by omega) (s9 + 2) x9 (k9 + 1) rfl (by omega) (by rw [shB_s, ← hx9, ← hs]; exact (if_neg (Nat.not_lt.mpr c50)).symm) (by omega) (by exact hpw) (by omega) ls (lv_sub hl [1, 2, 3, 0] rfl)
        · skip
          refine lv_iload_n hx hb dX3_share_53 rfl (lv_at hl 3 rfl) ?_
          refine lv_istore_n (lv' := [(2, .int (nI s9)), (0, .ref q), (1, .int (nI 1)), (3, .int (nI s9))]) hx hb dX3_share_54 rfl hl (by decide) rfl (fun ls hl => ?_)
          refine lv_iinc (v := nI (s9 + 2)) (lv' := [(3, .int (nI (s9 + 2))), (2, .int (nI s9)), (0, .ref q), (1, .int (nI 1))]) hx hb dX3_share_55 hl (k := 3) rfl (z_inc s9 2) (by decide) rfl (fun ls hl => ?_)
          refine lv_goto (tgt := 27) hx hb dX3_share_58 (by decide) ?_
          exact ih27 (130 - (s9 + 2)) (by omega) (s9 + 2) s9 (k9 + 1) rfl (by omega) (by rw [shB_s, ← hx9, ← hs]; exact (if_pos c50).symm) (by omega) (by exact hpw) (by omega) ls (lv_sub hl [2, 3, 1, 0] rfl)
    exact hL27 _ 3 x8 0 rfl (by rfl) (by exact hx8) (by omega) (by exact z_powL6 hn) (by rw [hx8]; split <;> omega) ls (lv_sub hl [2, 3, 1, 0] rfl)
  refine z0_ne (tgt := 23) hC dX3_share_16 (by decide) (by omega) (fun c16 => ?_) (fun c16 => ?_)
  · skip
    refine lv_iconst (v := nI 1) hx hb dX3_share_23 (by decide) ?_
    exact hJ24 1 trivial (by exact (if_neg (by omega)).symm) ls (lv_sub hl [0, 1] rfl)
  · skip
    refine lv_iconst (v := nI 0) hx hb dX3_share_19 (by decide) ?_
    refine lv_goto (tgt := 24) hx hb dX3_share_20 (by decide) ?_
    exact hJ24 0 trivial (by exact (if_pos c16).symm) ls (lv_sub hl [0, 1] rfl)
set_option maxHeartbeats 1000000 in
set_option maxRecDepth 100000 in
theorem c_X3_odds_badA {l : Launch} {D : va_G} {cI cZ cB cR : ClassId} {q t b b2 pp i1 i2 kept tn tw td : Nat} {tr : Int64} {n lvA aiA laA ac woA drA : Nat} {x w v9 : Int32} (hac : ac ≤ 5) (hbad : ¬ vp_in x ac) : mR l yX3_odds cX3_odds 7 (some .int) 1 21 D cI cZ cB cR [oK q t b b2 pp i1 i2 kept tn tw td tr, oB b n lvA aiA laA ac woA drA] [.ref q, .int x, .int w, .int v9] (some (.int (-1))) := by
  refine mR_of rfl (Nat.le_of_ble_eq_true rfl) ?_
  intro p e s m args below meth c hC hr hlk hK hP ls hl
  have hl : lv_has ls 7 [(0, .ref q), (1, .int x), (2, .int w), (3, .int v9)] := hl
  obtain ⟨hx, hb, hml, hown, hts⟩ := id hC
  refine lv_aload_n hx hb dX3_odds_0 rfl (lv_at hl 0 rfl) ?_
  refine lv_iload_n hx hb dX3_odds_1 rfl (lv_at hl 1 rfl) ?_
  refine zRV (As := [.int x]) (b := q) (rest := []) hC (c_X3_isAct (l := l) (g := false) (hn := by omega) (hg := ⟨fun h => (by cases h), fun h => absurd h hbad⟩)) lM_X3_95 vM_X3_isAct (by decide) hK hP [0, 1] rfl ⟨rfl, rfl, rfl⟩ rfl hl.1 rfl (Nat.le_of_ble_eq_true rfl) dX3_odds_2 (by decide) ?_
  show W _ _ _ _ _ _ _ _ _ _ _ _ _ _ _ (F0 m 5 ls [.int (bI false)])
  refine zb_eq (tgt := 25) hC dX3_odds_5 (by decide) (fun c5 => ?_) (fun c5 => by exfalso; cases c5)
  refine lv_iconst (v := (-1)) hx hb dX3_odds_25 (by decide) ?_
  exact zr_i hC hr hlk (by first | rfl | omega) dX3_odds_26
set_option maxHeartbeats 1000000 in
set_option maxRecDepth 100000 in
theorem c_X3_odds_badX {l : Launch} {D : va_G} {cI cZ cB cR : ClassId} {q t b b2 pp i1 i2 kept tn tw td : Nat} {tr : Int64} {n lvA aiA laA ac woA drA : Nat} {a : Nat} {w v9 : Int32} (hac : ac ≤ 5) (ha : a < ac) (hbw : w < 0 ∨ nI 10 < w) : mR l yX3_odds cX3_odds 7 (some .int) 1 21 D cI cZ cB cR [oK q t b b2 pp i1 i2 kept tn tw td tr, oB b n lvA aiA laA ac woA drA] [.ref q, .int (nI a), .int w, .int v9] (some (.int (-1))) := by
  refine mR_of rfl (Nat.le_of_ble_eq_true rfl) ?_
  intro p e s m args below meth c hC hr hlk hK hP ls hl
  have hl : lv_has ls 7 [(0, .ref q), (1, .int (nI a)), (2, .int w), (3, .int v9)] := hl
  obtain ⟨hx, hb, hml, hown, hts⟩ := id hC
  refine lv_aload_n hx hb dX3_odds_0 rfl (lv_at hl 0 rfl) ?_
  refine lv_iload_n hx hb dX3_odds_1 rfl (lv_at hl 1 rfl) ?_
  refine zRV (As := [.int (nI a)]) (b := q) (rest := []) hC (c_X3_isAct (l := l) (g := true) (hn := by omega) (hg := ⟨fun _ => vp_in_nI (by omega) (by omega), fun _ => rfl⟩)) lM_X3_95 vM_X3_isAct (by decide) hK hP [0, 1] rfl ⟨rfl, rfl, rfl⟩ rfl hl.1 rfl (Nat.le_of_ble_eq_true rfl) dX3_odds_2 (by decide) ?_
  show W _ _ _ _ _ _ _ _ _ _ _ _ _ _ _ (F0 m 5 ls [.int (bI true)])
  refine zb_eq (tgt := 25) hC dX3_odds_5 (by decide) (fun c5 => by exfalso; cases c5) (fun c5 => ?_)
  refine lv_iload_n hx hb dX3_odds_8 rfl (lv_at hl 2 rfl) ?_
  refine lv_if_lt (tgt := 25) hx hb dX3_odds_9 (by decide) (fun c9 => ?_) (fun c9 => ?_)
  · skip
    refine lv_iconst (v := (-1)) hx hb dX3_odds_25 (by decide) ?_
    exact zr_i hC hr hlk (by first | rfl | omega) dX3_odds_26
  · skip
    refine lv_iload_n hx hb dX3_odds_12 rfl (lv_at hl 2 rfl) ?_
    refine lv_bipush (v := nI 10) hx hb dX3_odds_13 (by decide) ?_
    refine lv_icmp_gt (tgt := 25) hx hb dX3_odds_15 (by decide) (fun c15 => ?_) (fun c15 => by exfalso; rcases hbw with h | h; exact c9 h; exact c15 h)
    refine lv_iconst (v := (-1)) hx hb dX3_odds_25 (by decide) ?_
    exact zr_i hC hr hlk (by first | rfl | omega) dX3_odds_26
set_option maxHeartbeats 1000000 in
set_option maxRecDepth 100000 in
theorem c_X3_odds_badW {l : Launch} {D : va_G} {cI cZ cB cR : ClassId} {q t b b2 pp i1 i2 kept tn tw td : Nat} {tr : Int64} {n lvA aiA laA ac woA drA : Nat} {a x9 : Nat} {x : Int32} (hac : ac ≤ 5) (ha : a < ac) (hx9 : x9 ≤ 10) (hw01 : ¬ (x = 0 ∨ x = nI 1))  : mR l yX3_odds cX3_odds 7 (some .int) 1 21 D cI cZ cB cR [oK q t b b2 pp i1 i2 kept tn tw td tr, oB b n lvA aiA laA ac woA drA] [.ref q, .int (nI a), .int (nI x9), .int x] (some (.int (-1))) := by
  refine mR_of rfl (Nat.le_of_ble_eq_true rfl) ?_
  intro p e s m args below meth c hC hr hlk hK hP ls hl
  have hl : lv_has ls 7 [(0, .ref q), (1, .int (nI a)), (2, .int (nI x9)), (3, .int x)] := hl
  obtain ⟨hx, hb, hml, hown, hts⟩ := id hC
  refine lv_aload_n hx hb dX3_odds_0 rfl (lv_at hl 0 rfl) ?_
  refine lv_iload_n hx hb dX3_odds_1 rfl (lv_at hl 1 rfl) ?_
  refine zRV (As := [.int (nI a)]) (b := q) (rest := []) hC (c_X3_isAct (l := l) (g := true) (hn := by omega) (hg := ⟨fun _ => vp_in_nI (by omega) (by omega), fun _ => rfl⟩)) lM_X3_95 vM_X3_isAct (by decide) hK hP [0, 1] rfl ⟨rfl, rfl, rfl⟩ rfl hl.1 rfl (Nat.le_of_ble_eq_true rfl) dX3_odds_2 (by decide) ?_
  show W _ _ _ _ _ _ _ _ _ _ _ _ _ _ _ (F0 m 5 ls [.int (bI true)])
  refine zb_eq (tgt := 25) hC dX3_odds_5 (by decide) (fun c5 => by exfalso; cases c5) (fun c5 => ?_)
  refine lv_iload_n hx hb dX3_odds_8 rfl (lv_at hl 2 rfl) ?_
  refine z0_lt (tgt := 25) hC dX3_odds_9 (by decide) (by omega) ?_
  refine lv_iload_n hx hb dX3_odds_12 rfl (lv_at hl 2 rfl) ?_
  refine lv_bipush (v := nI 10) hx hb dX3_odds_13 (by decide) ?_
  refine zc_gt (tgt := 25) hC dX3_odds_15 (by decide) (by omega) (by omega) (fun c15 => by exfalso; omega) (fun c15 => ?_)
  refine lv_iload_n hx hb dX3_odds_18 rfl (lv_at hl 3 rfl) ?_
  refine zRS (As := [.int x]) (rest := []) hC (c_X3_isNoughtOrOne (l := l) (b := false) (hb9 := ⟨fun h => (by cases h), fun h => absurd h hw01⟩)) lM_X3_159 sM_X3_isNoughtOrOne (by decide) hK rfl hl.1 rfl (Nat.le_of_ble_eq_true rfl) dX3_odds_19 (by decide) ?_
  show W _ _ _ _ _ _ _ _ _ _ _ _ _ _ _ (F0 m 22 ls [.int (bI false)])
  refine zb_ne (tgt := 27) hC dX3_odds_22 (by decide) (fun c22 => by exfalso; cases c22) (fun c22 => ?_)
  refine lv_iconst (v := (-1)) hx hb dX3_odds_25 (by decide) ?_
  exact zr_i hC hr hlk (by first | rfl | omega) dX3_odds_26
set_option maxHeartbeats 1000000 in
set_option maxRecDepth 100000 in
theorem c_X3_odds_no0 {l : Launch} {D : va_G} {cI cZ cB cR : ClassId} {q t b b2 pp i1 i2 kept tn tw td : Nat} {tr : Int64} {n lvA aiA laA ac woA drA : Nat} {r : Nat → Nat} {dr : Nat → Nat → Nat} {pl pt pa mo dn ea bn stA k : Nat} {la : Nat → Nat} {lv : Nat → Nat} {a x9 : Nat} {E : Nat → Bool} (hn : n ≤ 6) (hac : ac ≤ 5) (hla : ∀ i, i < n → la i < n) (hdr : ∀ i j, dr i j ≤ 9) (hlv : ∀ i, lv i ≤ 40) (hE : ∀ a, a < ac → (E a = true ↔ ∀ d, d < n → dr a (la d) ≤ lv d)) (hdn : dn < 32) (ha : a < ac) (hx9 : x9 ≤ 10) (hea : E a = false) : mR l yX3_odds cX3_odds 7 (some .int) 4 89 D cI cZ cB cR [oK q t b b2 pp i1 i2 kept tn tw td tr, oB b n lvA aiA laA ac woA drA, aR cR drA 5 r, aI cI (r 0) 6 (dr 0), aI cI (r 1) 6 (dr 1), aI cI (r 2) 6 (dr 2), aI cI (r 3) 6 (dr 3), aI cI (r 4) 6 (dr 4), oP pp pl pt pa mo dn ea bn stA k, aI cI pa 6 la, aI cI pl 6 lv] [.ref q, .int (nI a), .int (nI x9), .int (nI 0)] (some (.int (nI 0))) := by
  refine mR_of rfl (Nat.le_of_ble_eq_true rfl) ?_
  intro p e s m args below meth c hC hr hlk hK hP ls hl
  have hl : lv_has ls 7 [(0, .ref q), (1, .int (nI a)), (2, .int (nI x9)), (3, .int (nI 0))] := hl
  obtain ⟨hx, hb, hml, hown, hts⟩ := id hC
  refine lv_aload_n hx hb dX3_odds_0 rfl (lv_at hl 0 rfl) ?_
  refine lv_iload_n hx hb dX3_odds_1 rfl (lv_at hl 1 rfl) ?_
  refine zRV (As := [.int (nI a)]) (b := q) (rest := []) hC (c_X3_isAct (l := l) (g := true) (hn := by omega) (hg := ⟨fun _ => vp_in_nI (by omega) (by omega), fun _ => rfl⟩)) lM_X3_95 vM_X3_isAct (by decide) hK hP [0, 1] rfl ⟨rfl, rfl, rfl⟩ rfl hl.1 rfl (Nat.le_of_ble_eq_true rfl) dX3_odds_2 (by decide) ?_
  show W _ _ _ _ _ _ _ _ _ _ _ _ _ _ _ (F0 m 5 ls [.int (bI true)])
  refine zb_eq (tgt := 25) hC dX3_odds_5 (by decide) (fun c5 => by exfalso; cases c5) (fun c5 => ?_)
  refine lv_iload_n hx hb dX3_odds_8 rfl (lv_at hl 2 rfl) ?_
  refine z0_lt (tgt := 25) hC dX3_odds_9 (by decide) (by omega) ?_
  refine lv_iload_n hx hb dX3_odds_12 rfl (lv_at hl 2 rfl) ?_
  refine lv_bipush (v := nI 10) hx hb dX3_odds_13 (by decide) ?_
  refine zc_gt (tgt := 25) hC dX3_odds_15 (by decide) (by omega) (by omega) (fun c15 => by exfalso; omega) (fun c15 => ?_)
  refine lv_iload_n hx hb dX3_odds_18 rfl (lv_at hl 3 rfl) ?_
  refine zRS (As := [.int (nI 0)]) (rest := []) hC (c_X3_isNoughtOrOne (l := l) (b := true) (hb9 := ⟨fun _ => by first | exact Or.inl rfl | exact Or.inr rfl, fun _ => rfl⟩)) lM_X3_159 sM_X3_isNoughtOrOne (by decide) hK rfl hl.1 rfl (Nat.le_of_ble_eq_true rfl) dX3_odds_19 (by decide) ?_
  show W _ _ _ _ _ _ _ _ _ _ _ _ _ _ _ (F0 m 22 ls [.int (bI true)])
  refine zb_ne (tgt := 27) hC dX3_odds_22 (by decide) (fun c22 => ?_) (fun c22 => by exfalso; cases c22)
  refine lv_aload_n hx hb dX3_odds_27 rfl (lv_at hl 0 rfl) ?_
  refine lv_iload_n hx hb dX3_odds_28 rfl (lv_at hl 1 rfl) ?_
  refine zRV (As := [.int (nI a)]) (b := q) (rest := []) hC (c_X3_isEnoughFor (l := l) (g := E a) (hn := hn) (hac := hac) (hla := hla) (hdr := hdr) (hlv := hlv) (ha := ha) (hg := hE a ha)) lM_X3_114 vM_X3_isEnoughFor (by decide) hK hP [0, 1, 2, 3, 4, 5, 6, 7, 8, 9, 10] rfl ⟨rfl, rfl, rfl⟩ rfl hl.1 rfl (Nat.le_of_ble_eq_true rfl) dX3_odds_29 (by decide) ?_
  show W _ _ _ _ _ _ _ _ _ _ _ _ _ _ _ (F0 m 32 ls [.int (bI (E a))])
  refine zb_ne (tgt := 45) hC dX3_odds_32 (by decide) (fun c32 => by exfalso; exact absurd (c32.symm.trans hea) (by decide)) (fun c32 => ?_)
  refine lv_iload_n hx hb dX3_odds_35 rfl (lv_at hl 3 rfl) ?_
  refine z0_ne (tgt := 43) hC dX3_odds_36 (by decide) (by omega) (fun c36 => by exfalso; omega) (fun c36 => ?_)
  refine lv_iconst (v := nI 0) hx hb dX3_odds_39 (by decide) ?_
  refine lv_goto (tgt := 44) hx hb dX3_odds_40 (by decide) ?_
  exact zr_i hC hr hlk (by first | rfl | omega) dX3_odds_44
set_option maxHeartbeats 1000000 in
set_option maxRecDepth 100000 in
theorem c_X3_odds_yes0 {l : Launch} {D : va_G} {cI cZ cB cR : ClassId} {q t b b2 pp i1 i2 kept tn tw td : Nat} {tr : Int64} {n lvA aiA laA ac woA drA : Nat} {r : Nat → Nat} {dr : Nat → Nat → Nat} {pl pt pa mo dn ea bn stA k : Nat} {la : Nat → Nat} {lv : Nat → Nat} {a x9 : Nat} {E : Nat → Bool} (hn : n ≤ 6) (hac : ac ≤ 5) (hla : ∀ i, i < n → la i < n) (hdr : ∀ i j, dr i j ≤ 9) (hlv : ∀ i, lv i ≤ 40) (hE : ∀ a, a < ac → (E a = true ↔ ∀ d, d < n → dr a (la d) ≤ lv d)) (hdn : dn < 32) (ha : a < ac) (hx9 : x9 ≤ 10) (hea : E a = true) : mR l yX3_odds cX3_odds 7 (some .int) 4 89 D cI cZ cB cR [oK q t b b2 pp i1 i2 kept tn tw td tr, oB b n lvA aiA laA ac woA drA, aR cR drA 5 r, aI cI (r 0) 6 (dr 0), aI cI (r 1) 6 (dr 1), aI cI (r 2) 6 (dr 2), aI cI (r 3) 6 (dr 3), aI cI (r 4) 6 (dr 4), oP pp pl pt pa mo dn ea bn stA k, aI cI pa 6 la, aI cI pl 6 lv] [.ref q, .int (nI a), .int (nI x9), .int (nI 0)] (some (.int (nI ((iltL (10 - x9) x9 10) ^ (popc (orr (fun i => decide (0 < dr a i)) n)))))) := by
  refine mR_of rfl (Nat.le_of_ble_eq_true rfl) ?_
  intro p e s m args below meth c hC hr hlk hK hP ls hl
  have hl : lv_has ls 7 [(0, .ref q), (1, .int (nI a)), (2, .int (nI x9)), (3, .int (nI 0))] := hl
  obtain ⟨hx, hb, hml, hown, hts⟩ := id hC
  refine lv_aload_n hx hb dX3_odds_0 rfl (lv_at hl 0 rfl) ?_
  refine lv_iload_n hx hb dX3_odds_1 rfl (lv_at hl 1 rfl) ?_
  refine zRV (As := [.int (nI a)]) (b := q) (rest := []) hC (c_X3_isAct (l := l) (g := true) (hn := by omega) (hg := ⟨fun _ => vp_in_nI (by omega) (by omega), fun _ => rfl⟩)) lM_X3_95 vM_X3_isAct (by decide) hK hP [0, 1] rfl ⟨rfl, rfl, rfl⟩ rfl hl.1 rfl (Nat.le_of_ble_eq_true rfl) dX3_odds_2 (by decide) ?_
  show W _ _ _ _ _ _ _ _ _ _ _ _ _ _ _ (F0 m 5 ls [.int (bI true)])
  refine zb_eq (tgt := 25) hC dX3_odds_5 (by decide) (fun c5 => by exfalso; cases c5) (fun c5 => ?_)
  refine lv_iload_n hx hb dX3_odds_8 rfl (lv_at hl 2 rfl) ?_
  refine z0_lt (tgt := 25) hC dX3_odds_9 (by decide) (by omega) ?_
  refine lv_iload_n hx hb dX3_odds_12 rfl (lv_at hl 2 rfl) ?_
  refine lv_bipush (v := nI 10) hx hb dX3_odds_13 (by decide) ?_
  refine zc_gt (tgt := 25) hC dX3_odds_15 (by decide) (by omega) (by omega) (fun c15 => by exfalso; omega) (fun c15 => ?_)
  refine lv_iload_n hx hb dX3_odds_18 rfl (lv_at hl 3 rfl) ?_
  refine zRS (As := [.int (nI 0)]) (rest := []) hC (c_X3_isNoughtOrOne (l := l) (b := true) (hb9 := ⟨fun _ => by first | exact Or.inl rfl | exact Or.inr rfl, fun _ => rfl⟩)) lM_X3_159 sM_X3_isNoughtOrOne (by decide) hK rfl hl.1 rfl (Nat.le_of_ble_eq_true rfl) dX3_odds_19 (by decide) ?_
  show W _ _ _ _ _ _ _ _ _ _ _ _ _ _ _ (F0 m 22 ls [.int (bI true)])
  refine zb_ne (tgt := 27) hC dX3_odds_22 (by decide) (fun c22 => ?_) (fun c22 => by exfalso; cases c22)
  refine lv_aload_n hx hb dX3_odds_27 rfl (lv_at hl 0 rfl) ?_
  refine lv_iload_n hx hb dX3_odds_28 rfl (lv_at hl 1 rfl) ?_
  refine zRV (As := [.int (nI a)]) (b := q) (rest := []) hC (c_X3_isEnoughFor (l := l) (g := E a) (hn := hn) (hac := hac) (hla := hla) (hdr := hdr) (hlv := hlv) (ha := ha) (hg := hE a ha)) lM_X3_114 vM_X3_isEnoughFor (by decide) hK hP [0, 1, 2, 3, 4, 5, 6, 7, 8, 9, 10] rfl ⟨rfl, rfl, rfl⟩ rfl hl.1 rfl (Nat.le_of_ble_eq_true rfl) dX3_odds_29 (by decide) ?_
  show W _ _ _ _ _ _ _ _ _ _ _ _ _ _ _ (F0 m 32 ls [.int (bI (E a))])
  refine zb_ne (tgt := 45) hC dX3_odds_32 (by decide) (fun c32 => ?_) (fun c32 => by exfalso; exact absurd (hea.symm.trans c32) (by decide))
  refine lv_iload_n hx hb dX3_odds_45 rfl (lv_at hl 3 rfl) ?_
  refine z0_ne (tgt := 56) hC dX3_odds_46 (by decide) (by omega) (fun c46 => by exfalso; omega) (fun c46 => ?_)
  refine lv_bipush (v := nI 10) hx hb dX3_odds_49 (by decide) ?_
  refine lv_iload_n hx hb dX3_odds_51 rfl (lv_at hl 2 rfl) ?_
  refine zi_sub hC dX3_odds_52 (by omega) ?_
  refine lv_goto (tgt := 58) hx hb dX3_odds_53 (by decide) ?_
  refine lv_iload_n hx hb dX3_odds_58 rfl (lv_at hl 2 rfl) ?_
  refine zRS (As := [.int (nI (10 - x9)), .int (nI x9)]) (rest := []) hC (c_X3_inLeastTerms (l := l) (hnum := by omega) (hx9 := hx9)) lM_X3_180 sM_X3_inLeastTerms (by decide) hK rfl hl.1 rfl (Nat.le_of_ble_eq_true rfl) dX3_odds_59 (by decide) ?_
  show W _ _ _ _ _ _ _ _ _ _ _ _ _ _ _ (F0 m 62 ls [.int (nI (iltL (10 - x9) x9 10))])
  refine lv_istore (lv' := [(4, .int (nI (iltL (10 - x9) x9 10))), (0, .ref q), (1, .int (nI a)), (2, .int (nI x9)), (3, .int (nI 0))]) hx hb dX3_odds_62 hl (by decide) rfl (fun ls hl => ?_)
  refine lv_iconst (v := nI 1) hx hb dX3_odds_64 (by decide) ?_
  refine lv_istore (lv' := [(5, .int (nI 1)), (4, .int (nI (iltL (10 - x9) x9 10))), (0, .ref q), (1, .int (nI a)), (2, .int (nI x9)), (3, .int (nI 0))]) hx hb dX3_odds_65 hl (by decide) rfl (fun ls hl => ?_)
  refine lv_aload_n hx hb dX3_odds_67 rfl (lv_at hl 2 rfl) ?_
  refine z_get (k := 1) zcX3 hC hK hP 0 rfl (by decide) lF_X3_19 rfl dX3_odds_68 ?_
  refine lv_iload_n hx hb dX3_odds_71 rfl (lv_at hl 3 rfl) ?_
  refine zRVN (As := [.int (nI a)]) (b := b) (rest := []) hC (c_X1_qualitiesNeeded (l := l) (hn := hn) (hac := hac) (hdr := hdr) (ha := ha)) lM_X3_101 vM_X1_qualitiesNeeded (by decide) hK hP [1, 2, 3, 4, 5, 6, 7] rfl ⟨rfl, rfl, rfl⟩ rfl hl.1 rfl (Nat.le_of_ble_eq_true rfl) dX3_odds_72 (by decide) ?_
  show W _ _ _ _ _ _ _ _ _ _ _ _ _ _ _ (F0 m 75 ls [.int (nI (orr (fun i => decide (0 < dr a i)) n))])
  refine zRS (As := [.int (nI (orr (fun i => decide (0 < dr a i)) n))]) (rest := []) hC (c_J6_bitCount_0f7a4 (l := l) (hx9 := Nat.lt_of_lt_of_le (orr_lt _ n) (z_powL6 hn))) lM_X3_183 sM_J6_bitCount_0f7a4 (by decide) hK rfl hl.1 rfl (Nat.le_of_ble_eq_true rfl) dX3_odds_75 (by decide) ?_
  show W _ _ _ _ _ _ _ _ _ _ _ _ _ _ _ (F0 m 78 ls [.int (nI (popc (orr (fun i => decide (0 < dr a i)) n)))])
  refine lv_istore (lv' := [(6, .int (nI (popc (orr (fun i => decide (0 < dr a i)) n)))), (5, .int (nI 1)), (4, .int (nI (iltL (10 - x9) x9 10))), (0, .ref q), (1, .int (nI a)), (2, .int (nI x9)), (3, .int (nI 0))]) hx hb dX3_odds_78 hl (by decide) rfl (fun ls hl => ?_)
  have hL80 : ∀ (z80 : Nat) (i9 : Nat) (y9 : Nat), i9 = z80 → (i9 ≤ popc (orr (fun i => decide (0 < dr a i)) n)) → (i9 ≤ 6) → (y9 = iltL (10 - x9) x9 10 ^ (popc (orr (fun i => decide (0 < dr a i)) n) - i9)) → ∀ ls : Array Slot, lv_has ls 7 [(0, .ref q), (1, .int (nI a)), (2, .int (nI x9)), (3, .int (nI 0)), (4, .int (nI (iltL (10 - x9) x9 10))), (5, .int (nI y9)), (6, .int (nI i9))] → W p l e { frames := 4, cells := 0, slots := 0, locals := 89 } s m args below meth c s.heap [] 0 0 (MQ below (qR (some (.int (nI ((iltL (10 - x9) x9 10) ^ (popc (orr (fun i => decide (0 < dr a i)) n))))))) args s 0 0 (fun _ => False)) (F0 m 80 ls []) := by
    intro z80
    induction z80 using Nat.strongRecOn with
    | _ z80 ih80 =>
    intro i9 y9 hz80 hi hi6 hy ls hl
    refine lv_iload hx hb dX3_odds_80 (lv_at hl 6 rfl) ?_
    refine z0_le (tgt := 98) hC dX3_odds_82 (by decide) (by omega) (fun c82 => ?_) (fun c82 => ?_)
    · skip
      refine lv_iload hx hb dX3_odds_98 (lv_at hl 5 rfl) ?_
      exact zr_i hC hr hlk (by rw [hy, show i9 = 0 by omega, Nat.sub_zero]) dX3_odds_100
    · skip
      refine lv_iload hx hb dX3_odds_85 (lv_at hl 5 rfl) ?_
      refine lv_iload hx hb dX3_odds_87 (lv_at hl 4 rfl) ?_
      refine zi_mul hC dX3_odds_89 ?_
      refine lv_istore (lv' := [(5, .int (nI (y9 * (iltL (10 - x9) x9 10)))), (0, .ref q), (1, .int (nI a)), (2, .int (nI x9)), (3, .int (nI 0)), (4, .int (nI (iltL (10 - x9) x9 10))), (6, .int (nI i9))]) hx hb dX3_odds_90 hl (by decide) rfl (fun ls hl => ?_)
      refine lv_iinc (v := nI (i9 - 1)) (lv' := [(6, .int (nI (i9 - 1))), (5, .int (nI (y9 * (iltL (10 - x9) x9 10)))), (0, .ref q), (1, .int (nI a)), (2, .int (nI x9)), (3, .int (nI 0)), (4, .int (nI (iltL (10 - x9) x9 10)))]) hx hb dX3_odds_92 hl (k := 6) rfl (z_dec1 (by omega)) (by decide) rfl (fun ls hl => ?_)
      refine lv_goto (tgt := 80) hx hb dX3_odds_95 (by decide) ?_
      exact ih80 (i9 - 1) (by omega) (i9 - 1) (y9 * (iltL (10 - x9) x9 10)) rfl (by omega) (by omega) (by rw [show popc (orr (fun i => decide (0 < dr a i)) n) - (i9 - 1) = (popc (orr (fun i => decide (0 < dr a i)) n) - i9) + 1 by omega, Nat.pow_succ, ← hy]) ls (lv_sub hl [2, 3, 4, 5, 6, 1, 0] rfl)
  exact hL80 _ (popc (orr (fun i => decide (0 < dr a i)) n)) 1 rfl (by exact Nat.le_refl _) (by exact popc_le _) (by rw [Nat.sub_self]; rfl) ls (lv_sub hl [3, 4, 5, 6, 2, 1, 0] rfl)
set_option maxHeartbeats 1000000 in
set_option maxRecDepth 100000 in
theorem c_X3_odds_no1 {l : Launch} {D : va_G} {cI cZ cB cR : ClassId} {q t b b2 pp i1 i2 kept tn tw td : Nat} {tr : Int64} {n lvA aiA laA ac woA drA : Nat} {r : Nat → Nat} {dr : Nat → Nat → Nat} {pl pt pa mo dn ea bn stA k : Nat} {la : Nat → Nat} {lv : Nat → Nat} {a x9 : Nat} {E : Nat → Bool} (hn : n ≤ 6) (hac : ac ≤ 5) (hla : ∀ i, i < n → la i < n) (hdr : ∀ i j, dr i j ≤ 9) (hlv : ∀ i, lv i ≤ 40) (hE : ∀ a, a < ac → (E a = true ↔ ∀ d, d < n → dr a (la d) ≤ lv d)) (hdn : dn < 32) (ha : a < ac) (hx9 : x9 ≤ 10) (hea : E a = false) : mR l yX3_odds cX3_odds 7 (some .int) 4 89 D cI cZ cB cR [oK q t b b2 pp i1 i2 kept tn tw td tr, oB b n lvA aiA laA ac woA drA, aR cR drA 5 r, aI cI (r 0) 6 (dr 0), aI cI (r 1) 6 (dr 1), aI cI (r 2) 6 (dr 2), aI cI (r 3) 6 (dr 3), aI cI (r 4) 6 (dr 4), oP pp pl pt pa mo dn ea bn stA k, aI cI pa 6 la, aI cI pl 6 lv] [.ref q, .int (nI a), .int (nI x9), .int (nI 1)] (some (.int (nI 1))) := by
  refine mR_of rfl (Nat.le_of_ble_eq_true rfl) ?_
  intro p e s m args below meth c hC hr hlk hK hP ls hl
  have hl : lv_has ls 7 [(0, .ref q), (1, .int (nI a)), (2, .int (nI x9)), (3, .int (nI 1))] := hl
  obtain ⟨hx, hb, hml, hown, hts⟩ := id hC
  refine lv_aload_n hx hb dX3_odds_0 rfl (lv_at hl 0 rfl) ?_
  refine lv_iload_n hx hb dX3_odds_1 rfl (lv_at hl 1 rfl) ?_
  refine zRV (As := [.int (nI a)]) (b := q) (rest := []) hC (c_X3_isAct (l := l) (g := true) (hn := by omega) (hg := ⟨fun _ => vp_in_nI (by omega) (by omega), fun _ => rfl⟩)) lM_X3_95 vM_X3_isAct (by decide) hK hP [0, 1] rfl ⟨rfl, rfl, rfl⟩ rfl hl.1 rfl (Nat.le_of_ble_eq_true rfl) dX3_odds_2 (by decide) ?_
  show W _ _ _ _ _ _ _ _ _ _ _ _ _ _ _ (F0 m 5 ls [.int (bI true)])
  refine zb_eq (tgt := 25) hC dX3_odds_5 (by decide) (fun c5 => by exfalso; cases c5) (fun c5 => ?_)
  refine lv_iload_n hx hb dX3_odds_8 rfl (lv_at hl 2 rfl) ?_
  refine z0_lt (tgt := 25) hC dX3_odds_9 (by decide) (by omega) ?_
  refine lv_iload_n hx hb dX3_odds_12 rfl (lv_at hl 2 rfl) ?_
  refine lv_bipush (v := nI 10) hx hb dX3_odds_13 (by decide) ?_
  refine zc_gt (tgt := 25) hC dX3_odds_15 (by decide) (by omega) (by omega) (fun c15 => by exfalso; omega) (fun c15 => ?_)
  refine lv_iload_n hx hb dX3_odds_18 rfl (lv_at hl 3 rfl) ?_
  refine zRS (As := [.int (nI 1)]) (rest := []) hC (c_X3_isNoughtOrOne (l := l) (b := true) (hb9 := ⟨fun _ => by first | exact Or.inl rfl | exact Or.inr rfl, fun _ => rfl⟩)) lM_X3_159 sM_X3_isNoughtOrOne (by decide) hK rfl hl.1 rfl (Nat.le_of_ble_eq_true rfl) dX3_odds_19 (by decide) ?_
  show W _ _ _ _ _ _ _ _ _ _ _ _ _ _ _ (F0 m 22 ls [.int (bI true)])
  refine zb_ne (tgt := 27) hC dX3_odds_22 (by decide) (fun c22 => ?_) (fun c22 => by exfalso; cases c22)
  refine lv_aload_n hx hb dX3_odds_27 rfl (lv_at hl 0 rfl) ?_
  refine lv_iload_n hx hb dX3_odds_28 rfl (lv_at hl 1 rfl) ?_
  refine zRV (As := [.int (nI a)]) (b := q) (rest := []) hC (c_X3_isEnoughFor (l := l) (g := E a) (hn := hn) (hac := hac) (hla := hla) (hdr := hdr) (hlv := hlv) (ha := ha) (hg := hE a ha)) lM_X3_114 vM_X3_isEnoughFor (by decide) hK hP [0, 1, 2, 3, 4, 5, 6, 7, 8, 9, 10] rfl ⟨rfl, rfl, rfl⟩ rfl hl.1 rfl (Nat.le_of_ble_eq_true rfl) dX3_odds_29 (by decide) ?_
  show W _ _ _ _ _ _ _ _ _ _ _ _ _ _ _ (F0 m 32 ls [.int (bI (E a))])
  refine zb_ne (tgt := 45) hC dX3_odds_32 (by decide) (fun c32 => by exfalso; exact absurd (c32.symm.trans hea) (by decide)) (fun c32 => ?_)
  refine lv_iload_n hx hb dX3_odds_35 rfl (lv_at hl 3 rfl) ?_
  refine z0_ne (tgt := 43) hC dX3_odds_36 (by decide) (by omega) (fun c36 => ?_) (fun c36 => by exfalso; omega)
  refine lv_iconst (v := nI 1) hx hb dX3_odds_43 (by decide) ?_
  exact zr_i hC hr hlk (by first | rfl | omega) dX3_odds_44
set_option maxHeartbeats 1000000 in
set_option maxRecDepth 100000 in
theorem c_X3_odds_yes1 {l : Launch} {D : va_G} {cI cZ cB cR : ClassId} {q t b b2 pp i1 i2 kept tn tw td : Nat} {tr : Int64} {n lvA aiA laA ac woA drA : Nat} {r : Nat → Nat} {dr : Nat → Nat → Nat} {pl pt pa mo dn ea bn stA k : Nat} {la : Nat → Nat} {lv : Nat → Nat} {a x9 : Nat} {E : Nat → Bool} (hn : n ≤ 6) (hac : ac ≤ 5) (hla : ∀ i, i < n → la i < n) (hdr : ∀ i j, dr i j ≤ 9) (hlv : ∀ i, lv i ≤ 40) (hE : ∀ a, a < ac → (E a = true ↔ ∀ d, d < n → dr a (la d) ≤ lv d)) (hdn : dn < 32) (ha : a < ac) (hx9 : x9 ≤ 10) (hea : E a = true) : mR l yX3_odds cX3_odds 7 (some .int) 4 89 D cI cZ cB cR [oK q t b b2 pp i1 i2 kept tn tw td tr, oB b n lvA aiA laA ac woA drA, aR cR drA 5 r, aI cI (r 0) 6 (dr 0), aI cI (r 1) 6 (dr 1), aI cI (r 2) 6 (dr 2), aI cI (r 3) 6 (dr 3), aI cI (r 4) 6 (dr 4), oP pp pl pt pa mo dn ea bn stA k, aI cI pa 6 la, aI cI pl 6 lv] [.ref q, .int (nI a), .int (nI x9), .int (nI 1)] (some (.int (nI ((iltL (10) x9 10) ^ (popc (orr (fun i => decide (0 < dr a i)) n)))))) := by
  refine mR_of rfl (Nat.le_of_ble_eq_true rfl) ?_
  intro p e s m args below meth c hC hr hlk hK hP ls hl
  have hl : lv_has ls 7 [(0, .ref q), (1, .int (nI a)), (2, .int (nI x9)), (3, .int (nI 1))] := hl
  obtain ⟨hx, hb, hml, hown, hts⟩ := id hC
  refine lv_aload_n hx hb dX3_odds_0 rfl (lv_at hl 0 rfl) ?_
  refine lv_iload_n hx hb dX3_odds_1 rfl (lv_at hl 1 rfl) ?_
  refine zRV (As := [.int (nI a)]) (b := q) (rest := []) hC (c_X3_isAct (l := l) (g := true) (hn := by omega) (hg := ⟨fun _ => vp_in_nI (by omega) (by omega), fun _ => rfl⟩)) lM_X3_95 vM_X3_isAct (by decide) hK hP [0, 1] rfl ⟨rfl, rfl, rfl⟩ rfl hl.1 rfl (Nat.le_of_ble_eq_true rfl) dX3_odds_2 (by decide) ?_
  show W _ _ _ _ _ _ _ _ _ _ _ _ _ _ _ (F0 m 5 ls [.int (bI true)])
  refine zb_eq (tgt := 25) hC dX3_odds_5 (by decide) (fun c5 => by exfalso; cases c5) (fun c5 => ?_)
  refine lv_iload_n hx hb dX3_odds_8 rfl (lv_at hl 2 rfl) ?_
  refine z0_lt (tgt := 25) hC dX3_odds_9 (by decide) (by omega) ?_
  refine lv_iload_n hx hb dX3_odds_12 rfl (lv_at hl 2 rfl) ?_
  refine lv_bipush (v := nI 10) hx hb dX3_odds_13 (by decide) ?_
  refine zc_gt (tgt := 25) hC dX3_odds_15 (by decide) (by omega) (by omega) (fun c15 => by exfalso; omega) (fun c15 => ?_)
  refine lv_iload_n hx hb dX3_odds_18 rfl (lv_at hl 3 rfl) ?_
  refine zRS (As := [.int (nI 1)]) (rest := []) hC (c_X3_isNoughtOrOne (l := l) (b := true) (hb9 := ⟨fun _ => by first | exact Or.inl rfl | exact Or.inr rfl, fun _ => rfl⟩)) lM_X3_159 sM_X3_isNoughtOrOne (by decide) hK rfl hl.1 rfl (Nat.le_of_ble_eq_true rfl) dX3_odds_19 (by decide) ?_
  show W _ _ _ _ _ _ _ _ _ _ _ _ _ _ _ (F0 m 22 ls [.int (bI true)])
  refine zb_ne (tgt := 27) hC dX3_odds_22 (by decide) (fun c22 => ?_) (fun c22 => by exfalso; cases c22)
  refine lv_aload_n hx hb dX3_odds_27 rfl (lv_at hl 0 rfl) ?_
  refine lv_iload_n hx hb dX3_odds_28 rfl (lv_at hl 1 rfl) ?_
  refine zRV (As := [.int (nI a)]) (b := q) (rest := []) hC (c_X3_isEnoughFor (l := l) (g := E a) (hn := hn) (hac := hac) (hla := hla) (hdr := hdr) (hlv := hlv) (ha := ha) (hg := hE a ha)) lM_X3_114 vM_X3_isEnoughFor (by decide) hK hP [0, 1, 2, 3, 4, 5, 6, 7, 8, 9, 10] rfl ⟨rfl, rfl, rfl⟩ rfl hl.1 rfl (Nat.le_of_ble_eq_true rfl) dX3_odds_29 (by decide) ?_
  show W _ _ _ _ _ _ _ _ _ _ _ _ _ _ _ (F0 m 32 ls [.int (bI (E a))])
  refine zb_ne (tgt := 45) hC dX3_odds_32 (by decide) (fun c32 => ?_) (fun c32 => by exfalso; exact absurd (hea.symm.trans c32) (by decide))
  refine lv_iload_n hx hb dX3_odds_45 rfl (lv_at hl 3 rfl) ?_
  refine z0_ne (tgt := 56) hC dX3_odds_46 (by decide) (by omega) (fun c46 => ?_) (fun c46 => by exfalso; omega)
  refine lv_bipush (v := nI 10) hx hb dX3_odds_56 (by decide) ?_
  refine lv_iload_n hx hb dX3_odds_58 rfl (lv_at hl 2 rfl) ?_
  refine zRS (As := [.int (nI 10), .int (nI x9)]) (rest := []) hC (c_X3_inLeastTerms (l := l) (hnum := by omega) (hx9 := hx9)) lM_X3_180 sM_X3_inLeastTerms (by decide) hK rfl hl.1 rfl (Nat.le_of_ble_eq_true rfl) dX3_odds_59 (by decide) ?_
  show W _ _ _ _ _ _ _ _ _ _ _ _ _ _ _ (F0 m 62 ls [.int (nI (iltL (10) x9 10))])
  refine lv_istore (lv' := [(4, .int (nI (iltL (10) x9 10))), (0, .ref q), (1, .int (nI a)), (2, .int (nI x9)), (3, .int (nI 1))]) hx hb dX3_odds_62 hl (by decide) rfl (fun ls hl => ?_)
  refine lv_iconst (v := nI 1) hx hb dX3_odds_64 (by decide) ?_
  refine lv_istore (lv' := [(5, .int (nI 1)), (4, .int (nI (iltL (10) x9 10))), (0, .ref q), (1, .int (nI a)), (2, .int (nI x9)), (3, .int (nI 1))]) hx hb dX3_odds_65 hl (by decide) rfl (fun ls hl => ?_)
  refine lv_aload_n hx hb dX3_odds_67 rfl (lv_at hl 2 rfl) ?_
  refine z_get (k := 1) zcX3 hC hK hP 0 rfl (by decide) lF_X3_19 rfl dX3_odds_68 ?_
  refine lv_iload_n hx hb dX3_odds_71 rfl (lv_at hl 3 rfl) ?_
  refine zRVN (As := [.int (nI a)]) (b := b) (rest := []) hC (c_X1_qualitiesNeeded (l := l) (hn := hn) (hac := hac) (hdr := hdr) (ha := ha)) lM_X3_101 vM_X1_qualitiesNeeded (by decide) hK hP [1, 2, 3, 4, 5, 6, 7] rfl ⟨rfl, rfl, rfl⟩ rfl hl.1 rfl (Nat.le_of_ble_eq_true rfl) dX3_odds_72 (by decide) ?_
  show W _ _ _ _ _ _ _ _ _ _ _ _ _ _ _ (F0 m 75 ls [.int (nI (orr (fun i => decide (0 < dr a i)) n))])
  refine zRS (As := [.int (nI (orr (fun i => decide (0 < dr a i)) n))]) (rest := []) hC (c_J6_bitCount_0f7a4 (l := l) (hx9 := Nat.lt_of_lt_of_le (orr_lt _ n) (z_powL6 hn))) lM_X3_183 sM_J6_bitCount_0f7a4 (by decide) hK rfl hl.1 rfl (Nat.le_of_ble_eq_true rfl) dX3_odds_75 (by decide) ?_
  show W _ _ _ _ _ _ _ _ _ _ _ _ _ _ _ (F0 m 78 ls [.int (nI (popc (orr (fun i => decide (0 < dr a i)) n)))])
  refine lv_istore (lv' := [(6, .int (nI (popc (orr (fun i => decide (0 < dr a i)) n)))), (5, .int (nI 1)), (4, .int (nI (iltL (10) x9 10))), (0, .ref q), (1, .int (nI a)), (2, .int (nI x9)), (3, .int (nI 1))]) hx hb dX3_odds_78 hl (by decide) rfl (fun ls hl => ?_)
  have hL80 : ∀ (z80 : Nat) (i9 : Nat) (y9 : Nat), i9 = z80 → (i9 ≤ popc (orr (fun i => decide (0 < dr a i)) n)) → (i9 ≤ 6) → (y9 = iltL (10) x9 10 ^ (popc (orr (fun i => decide (0 < dr a i)) n) - i9)) → ∀ ls : Array Slot, lv_has ls 7 [(0, .ref q), (1, .int (nI a)), (2, .int (nI x9)), (3, .int (nI 1)), (4, .int (nI (iltL (10) x9 10))), (5, .int (nI y9)), (6, .int (nI i9))] → W p l e { frames := 4, cells := 0, slots := 0, locals := 89 } s m args below meth c s.heap [] 0 0 (MQ below (qR (some (.int (nI ((iltL (10) x9 10) ^ (popc (orr (fun i => decide (0 < dr a i)) n))))))) args s 0 0 (fun _ => False)) (F0 m 80 ls []) := by
    intro z80
    induction z80 using Nat.strongRecOn with
    | _ z80 ih80 =>
    intro i9 y9 hz80 hi hi6 hy ls hl
    refine lv_iload hx hb dX3_odds_80 (lv_at hl 6 rfl) ?_
    refine z0_le (tgt := 98) hC dX3_odds_82 (by decide) (by omega) (fun c82 => ?_) (fun c82 => ?_)
    · skip
      refine lv_iload hx hb dX3_odds_98 (lv_at hl 5 rfl) ?_
      exact zr_i hC hr hlk (by rw [hy, show i9 = 0 by omega, Nat.sub_zero]) dX3_odds_100
    · skip
      refine lv_iload hx hb dX3_odds_85 (lv_at hl 5 rfl) ?_
      refine lv_iload hx hb dX3_odds_87 (lv_at hl 4 rfl) ?_
      refine zi_mul hC dX3_odds_89 ?_
      refine lv_istore (lv' := [(5, .int (nI (y9 * (iltL (10) x9 10)))), (0, .ref q), (1, .int (nI a)), (2, .int (nI x9)), (3, .int (nI 1)), (4, .int (nI (iltL (10) x9 10))), (6, .int (nI i9))]) hx hb dX3_odds_90 hl (by decide) rfl (fun ls hl => ?_)
      refine lv_iinc (v := nI (i9 - 1)) (lv' := [(6, .int (nI (i9 - 1))), (5, .int (nI (y9 * (iltL (10) x9 10)))), (0, .ref q), (1, .int (nI a)), (2, .int (nI x9)), (3, .int (nI 1)), (4, .int (nI (iltL (10) x9 10)))]) hx hb dX3_odds_92 hl (k := 6) rfl (z_dec1 (by omega)) (by decide) rfl (fun ls hl => ?_)
      refine lv_goto (tgt := 80) hx hb dX3_odds_95 (by decide) ?_
      exact ih80 (i9 - 1) (by omega) (i9 - 1) (y9 * (iltL (10) x9 10)) rfl (by omega) (by omega) (by rw [show popc (orr (fun i => decide (0 < dr a i)) n) - (i9 - 1) = (popc (orr (fun i => decide (0 < dr a i)) n) - i9) + 1 by omega, Nat.pow_succ, ← hy]) ls (lv_sub hl [2, 3, 4, 5, 6, 1, 0] rfl)
  exact hL80 _ (popc (orr (fun i => decide (0 < dr a i)) n)) 1 rfl (by exact Nat.le_refl _) (by exact popc_le _) (by rw [Nat.sub_self]; rfl) ls (lv_sub hl [3, 4, 5, 6, 2, 1, 0] rfl)
