/-- d decanters have lost f -/
def lsL (lv f : Nat → Nat) (d : Nat) : Nat → Nat := fun i => if i < d then lv i - f i else lv i
def lsT (te lv f : Nat → Nat) (d : Nat) : Nat → Nat := fun i => if i < d then min (te i) (lv i - f i) else te i
theorem lsL_0 (lv f : Nat → Nat) : lsL lv f 0 = lv := by
  funext i; unfold lsL; rw [if_neg (by omega)]
theorem lsT_0 (te lv f : Nat → Nat) : lsT te lv f 0 = te := by
  funext i; unfold lsT; rw [if_neg (by omega)]
theorem lsL_d (lv f : Nat → Nat) (d : Nat) : lsL lv f d d = lv d := by unfold lsL; rw [if_neg (by omega)]
theorem lsT_d (te lv f : Nat → Nat) (d : Nat) : lsT te lv f d d = te d := by unfold lsT; rw [if_neg (by omega)]
theorem lsL_s (lv f : Nat → Nat) (d : Nat) : updN (lsL lv f d) d (lsL lv f d d - f d) = lsL lv f (d + 1) := by
  funext i
  rw [lsL_d]
  unfold updN lsL
  by_cases h : i = d
  · subst h; rw [if_pos rfl, if_pos (by omega)]
  · by_cases h2 : i < d
    · rw [if_neg h, if_pos h2, if_pos (by omega)]
    · rw [if_neg h, if_neg h2, if_neg (by omega)]
theorem lsT_s (te lv f : Nat → Nat) (d : Nat) : updN (lsT te lv f d) d (min (lsT te lv f d d) (lsL lv f d d - f d)) = lsT te lv f (d + 1) := by
  funext i
  rw [lsT_d, lsL_d]
  unfold updN lsT
  by_cases h : i = d
  · subst h; rw [if_pos rfl, if_pos (by omega)]
  · by_cases h2 : i < d
    · rw [if_neg h, if_pos h2, if_pos (by omega)]
    · rw [if_neg h, if_neg h2, if_neg (by omega)]
theorem lsL_le {lv f : Nat → Nat} {d c : Nat} (h : ∀ i, lv i ≤ c) (i : Nat) : lsL lv f d i ≤ c := by
  have := h i
  unfold lsL; split <;> omega
theorem lsT_le {te lv f : Nat → Nat} {d c : Nat} (h : ∀ i, te i ≤ c) (i : Nat) : lsT te lv f d i ≤ c := by
  have := h i
  unfold lsT; split <;> omega
set_option maxHeartbeats 1000000 in
set_option maxRecDepth 100000 in
theorem c_X3_pours_bad {l : Launch} {D : va_G} {cI cZ cB cR : ClassId} {q t b b2 pp i1 i2 kept tn tw td : Nat} {tr : Int64} {n lvA aiA laA ac woA drA : Nat} {x : Int32} (hac : ac ≤ 5) (hbad : ¬ vp_in x ac) : mR l yX3_pours cX3_pours 4 (some .int) 1 21 D cI cZ cB cR [oK q t b b2 pp i1 i2 kept tn tw td tr, oB b n lvA aiA laA ac woA drA] [.ref q, .int x] (some (.int (-1))) := by
  refine mR_of rfl (Nat.le_of_ble_eq_true rfl) ?_
  intro p e s m args below meth c hC hr hlk hK hP ls hl
  have hl : lv_has ls 4 [(0, .ref q), (1, .int x)] := hl
  obtain ⟨hx, hb, hml, hown, hts⟩ := id hC
  refine lv_aload_n hx hb dX3_pours_0 rfl (lv_at hl 0 rfl) ?_
  refine lv_iload_n hx hb dX3_pours_1 rfl (lv_at hl 1 rfl) ?_
  refine zRV (As := [.int x]) (b := q) (rest := []) hC (c_X3_isAct (l := l) (g := false) (hn := by omega) (hg := ⟨fun h => (by cases h), fun h => absurd h hbad⟩)) lM_X3_95 vM_X3_isAct (by decide) hK hP [0, 1] rfl ⟨rfl, rfl, rfl⟩ rfl hl.1 rfl (Nat.le_of_ble_eq_true rfl) dX3_pours_2 (by decide) ?_
  show W _ _ _ _ _ _ _ _ _ _ _ _ _ _ _ (F0 m 5 ls [.int (bI false)])
  refine zb_ne (tgt := 10) hC dX3_pours_5 (by decide) (fun c5 => by exfalso; cases c5) (fun c5 => ?_)
  refine lv_iconst (v := (-1)) hx hb dX3_pours_8 (by decide) ?_
  exact zr_i hC hr hlk (by first | rfl | omega) dX3_pours_9
set_option maxHeartbeats 1000000 in
set_option maxRecDepth 100000 in
theorem c_X3_pours_state {l : Launch} {D : va_G} {cI cZ cB cR : ClassId} {q t b b2 pp i1 i2 kept tn tw td : Nat} {tr : Int64} {n lvA aiA laA ac woA drA : Nat} {r : Nat → Nat} {dr : Nat → Nat → Nat} {pl pt pa mo dn ea bn stA k : Nat} {la : Nat → Nat} {lv : Nat → Nat} {a : Nat} {E : Nat → Bool} (hn : n ≤ 6) (hac : ac ≤ 5) (hla : ∀ i, i < n → la i < n) (hdr : ∀ i j, dr i j ≤ 9) (hlv : ∀ i, lv i ≤ 40) (hE : ∀ a, a < ac → (E a = true ↔ ∀ d, d < n → dr a (la d) ≤ lv d)) (hdn : dn < 32) (ha : a < ac) (hst : dn.testBit a = true ∨ E a = false) : mR l yX3_pours cX3_pours 4 (some .int) 4 89 D cI cZ cB cR [oK q t b b2 pp i1 i2 kept tn tw td tr, oB b n lvA aiA laA ac woA drA, aR cR drA 5 r, aI cI (r 0) 6 (dr 0), aI cI (r 1) 6 (dr 1), aI cI (r 2) 6 (dr 2), aI cI (r 3) 6 (dr 3), aI cI (r 4) 6 (dr 4), oP pp pl pt pa mo dn ea bn stA k, aI cI pa 6 la, aI cI pl 6 lv] [.ref q, .int (nI a)] (some (.int (-2))) := by
  refine mR_of rfl (Nat.le_of_ble_eq_true rfl) ?_
  intro p e s m args below meth c hC hr hlk hK hP ls hl
  have hl : lv_has ls 4 [(0, .ref q), (1, .int (nI a))] := hl
  obtain ⟨hx, hb, hml, hown, hts⟩ := id hC
  refine lv_aload_n hx hb dX3_pours_0 rfl (lv_at hl 0 rfl) ?_
  refine lv_iload_n hx hb dX3_pours_1 rfl (lv_at hl 1 rfl) ?_
  refine zRV (As := [.int (nI a)]) (b := q) (rest := []) hC (c_X3_isAct (l := l) (g := true) (hn := by omega) (hg := ⟨fun _ => vp_in_nI (by omega) (by omega), fun _ => rfl⟩)) lM_X3_95 vM_X3_isAct (by decide) hK hP [0, 1] rfl ⟨rfl, rfl, rfl⟩ rfl hl.1 rfl (Nat.le_of_ble_eq_true rfl) dX3_pours_2 (by decide) ?_
  show W _ _ _ _ _ _ _ _ _ _ _ _ _ _ _ (F0 m 5 ls [.int (bI true)])
  refine zb_ne (tgt := 10) hC dX3_pours_5 (by decide) (fun c5 => ?_) (fun c5 => by exfalso; cases c5)
  refine lv_aload_n hx hb dX3_pours_10 rfl (lv_at hl 0 rfl) ?_
  refine lv_iload_n hx hb dX3_pours_11 rfl (lv_at hl 1 rfl) ?_
  refine zRV (As := [.int (nI a)]) (b := q) (rest := []) hC (c_X3_isDone (l := l) (a := a) (ha := by omega) (hdn := by omega)) lM_X3_104 vM_X3_isDone (by decide) hK hP [0, 8] rfl ⟨rfl, rfl, rfl⟩ rfl hl.1 rfl (Nat.le_of_ble_eq_true rfl) dX3_pours_12 (by decide) ?_
  show W _ _ _ _ _ _ _ _ _ _ _ _ _ _ _ (F0 m 15 ls [.int (bI (dn.testBit a))])
  refine zb_ne (tgt := 26) hC dX3_pours_15 (by decide) (fun c15 => ?_) (fun c15 => ?_)
  · skip
    refine lv_bipush (v := (-2)) hx hb dX3_pours_26 (by decide) ?_
    exact zr_i hC hr hlk (by first | rfl | omega) dX3_pours_28
  · skip
    refine lv_aload_n hx hb dX3_pours_18 rfl (lv_at hl 0 rfl) ?_
    refine lv_iload_n hx hb dX3_pours_19 rfl (lv_at hl 1 rfl) ?_
    refine zRV (As := [.int (nI a)]) (b := q) (rest := []) hC (c_X3_isEnoughFor (l := l) (g := E a) (hn := hn) (hac := hac) (hla := hla) (hdr := hdr) (hlv := hlv) (ha := ha) (hg := hE a ha)) lM_X3_114 vM_X3_isEnoughFor (by decide) hK hP [0, 1, 2, 3, 4, 5, 6, 7, 8, 9, 10] rfl ⟨rfl, rfl, rfl⟩ rfl hl.1 rfl (Nat.le_of_ble_eq_true rfl) dX3_pours_20 (by decide) ?_
    show W _ _ _ _ _ _ _ _ _ _ _ _ _ _ _ (F0 m 23 ls [.int (bI (E a))])
    refine zb_ne (tgt := 29) hC dX3_pours_23 (by decide) (fun c23 => by exfalso; rcases hst with h | h; exact absurd (h.symm.trans c15) (by decide); exact absurd (c23.symm.trans h) (by decide)) (fun c23 => ?_)
    refine lv_bipush (v := (-2)) hx hb dX3_pours_26 (by decide) ?_
    exact zr_i hC hr hlk (by first | rfl | omega) dX3_pours_28
set_option maxHeartbeats 1000000 in
set_option maxRecDepth 100000 in
theorem c_X3_pours {l : Launch} {D : va_G} {cI cZ cB cR : ClassId} {q t b b2 pp i1 i2 kept tn tw td : Nat} {tr : Int64} {n lvA aiA laA ac woA drA : Nat} {r : Nat → Nat} {dr : Nat → Nat → Nat} {pl pt pa mo dn ea bn stA k : Nat} {la : Nat → Nat} {lv : Nat → Nat} {te : Nat → Nat} {wo : Nat → Nat} {st : Nat → Nat} {a : Nat} {E : Nat → Bool} {g : Bool} (hn : n ≤ 6) (hac : ac ≤ 5) (hla : ∀ i, i < n → la i < n) (hdr : ∀ i j, dr i j ≤ 9) (hlv : ∀ i, lv i ≤ 40) (hte : ∀ i, te i ≤ 40) (hE : ∀ a, a < ac → (E a = true ↔ ∀ d, d < n → dr a (la d) ≤ lv d)) (hdn : dn < 32) (ha : a < ac) (hk : k ≤ 10) (hd9 : dn.testBit a = false) (he9 : E a = true) (hg : g = true ↔ ∀ d, d < n → dr a (la d) = 0 ∨ la d = d ∧ te d = 0) : mW l yX3_pours cX3_pours 4 (some .int) 4 89 D cI cZ cB cR [oK q t b b2 pp i1 i2 kept tn tw td tr, oB b n lvA aiA laA ac woA drA, aR cR drA 5 r, aI cI (r 0) 6 (dr 0), aI cI (r 1) 6 (dr 1), aI cI (r 2) 6 (dr 2), aI cI (r 3) 6 (dr 3), aI cI (r 4) 6 (dr 4), oP pp pl pt pa mo dn ea bn stA k, aI cI pl 6 lv, aI cI pt 6 te, aI cI pa 6 la, aI cI stA 220 st, aI cI woA 5 wo] [oK q t b b2 pp i1 i2 kept tn tw td tr, oB b n lvA aiA laA ac woA drA, aR cR drA 5 r, aI cI (r 0) 6 (dr 0), aI cI (r 1) 6 (dr 1), aI cI (r 2) 6 (dr 2), aI cI (r 3) 6 (dr 3), aI cI (r 4) 6 (dr 4), oP pp pl pt pa mo (dn ||| 2 ^ a) (if g = true then ea + wo a else ea) (if g = true then bn else bn + 1) stA (remK k), aI cI pl 6 (lsL lv (fun i => dr a (la i)) n), aI cI pt 6 (lsT te lv (fun i => dr a (la i)) n), aI cI pa 6 la, aI cI stA 220 (remS lv te la mo dn ea bn st k), aI cI woA 5 wo] [.ref q, .int (nI a)] (some (.int (bI g))) := by
  refine mW_of rfl (Nat.le_of_ble_eq_true rfl) ?_
  intro p e s m args below meth c hC hr hlk hK A hA hD H0 h0 hP hS ls hl
  have hP : va_P D vwCl [oK q t b b2 pp i1 i2 kept tn tw td tr, oB b n lvA aiA laA ac woA drA, aR cR drA 5 r, aI cI (r 0) 6 (dr 0), aI cI (r 1) 6 (dr 1), aI cI (r 2) 6 (dr 2), aI cI (r 3) 6 (dr 3), aI cI (r 4) 6 (dr 4), oP pp pl pt pa mo dn ea bn stA k, aI cI pl 6 lv, aI cI pt 6 te, aI cI pa 6 la, aI cI stA 220 st, aI cI woA 5 wo] H0 := hP
  have hl : lv_has ls 4 [(0, .ref q), (1, .int (nI a))] := hl
  obtain ⟨hx, hb, hml, hown, hts⟩ := id hC
  refine lv_aload_n hx hb dX3_pours_0 rfl (lv_at hl 0 rfl) ?_
  refine lv_iload_n hx hb dX3_pours_1 rfl (lv_at hl 1 rfl) ?_
  refine zRV (As := [.int (nI a)]) (b := q) (rest := []) hC (c_X3_isAct (l := l) (g := true) (hn := by omega) (hg := ⟨fun _ => vp_in_nI (by omega) (by omega), fun _ => rfl⟩)) lM_X3_95 vM_X3_isAct (by decide) hK hP [0, 1] rfl ⟨rfl, rfl, rfl⟩ rfl hl.1 rfl (Nat.le_of_ble_eq_true rfl) dX3_pours_2 (by decide) ?_
  show W _ _ _ _ _ _ _ _ _ _ _ _ _ _ _ (F0 m 5 ls [.int (bI true)])
  refine zb_ne (tgt := 10) hC dX3_pours_5 (by decide) (fun c5 => ?_) (fun c5 => by exfalso; cases c5)
  refine lv_aload_n hx hb dX3_pours_10 rfl (lv_at hl 0 rfl) ?_
  refine lv_iload_n hx hb dX3_pours_11 rfl (lv_at hl 1 rfl) ?_
  refine zRV (As := [.int (nI a)]) (b := q) (rest := []) hC (c_X3_isDone (l := l) (a := a) (ha := by omega) (hdn := by omega)) lM_X3_104 vM_X3_isDone (by decide) hK hP [0, 8] rfl ⟨rfl, rfl, rfl⟩ rfl hl.1 rfl (Nat.le_of_ble_eq_true rfl) dX3_pours_12 (by decide) ?_
  show W _ _ _ _ _ _ _ _ _ _ _ _ _ _ _ (F0 m 15 ls [.int (bI (dn.testBit a))])
  refine zb_ne (tgt := 26) hC dX3_pours_15 (by decide) (fun c15 => by exfalso; exact absurd (hd9.symm.trans c15) (by decide)) (fun c15 => ?_)
  refine lv_aload_n hx hb dX3_pours_18 rfl (lv_at hl 0 rfl) ?_
  refine lv_iload_n hx hb dX3_pours_19 rfl (lv_at hl 1 rfl) ?_
  refine zRV (As := [.int (nI a)]) (b := q) (rest := []) hC (c_X3_isEnoughFor (l := l) (g := E a) (hn := hn) (hac := hac) (hla := hla) (hdr := hdr) (hlv := hlv) (ha := ha) (hg := hE a ha)) lM_X3_114 vM_X3_isEnoughFor (by decide) hK hP [0, 1, 2, 3, 4, 5, 6, 7, 8, 11, 9] rfl ⟨rfl, rfl, rfl⟩ rfl hl.1 rfl (Nat.le_of_ble_eq_true rfl) dX3_pours_20 (by decide) ?_
  show W _ _ _ _ _ _ _ _ _ _ _ _ _ _ _ (F0 m 23 ls [.int (bI (E a))])
  refine zb_ne (tgt := 29) hC dX3_pours_23 (by decide) (fun c23 => ?_) (fun c23 => by exfalso; exact absurd (he9.symm.trans c23) (by decide))
  refine lv_aload_n hx hb dX3_pours_29 rfl (lv_at hl 0 rfl) ?_
  refine z_get (k := 3) zcX3 hC hK hP 0 rfl (by decide) lF_X3_29 rfl dX3_pours_30 ?_
  refine zXVN (As := []) (b := pp) (rest := []) hC (c_X0_remembers (l := l) (hk := hk)) lM_X3_117 vM_X0_remembers (by decide) hK hP hD hS [8, 9, 10, 11, 12] [pp, pl, pt, pa, stA] rfl (by decide) rfl rfl ⟨rfl, rfl, rfl⟩ rfl hl.1 rfl (Nat.le_of_ble_eq_true rfl) dX3_pours_33 (by decide) (fun H locs hP hD hS => ?_)
  have hP : va_P D vwCl [oK q t b b2 pp i1 i2 kept tn tw td tr, oB b n lvA aiA laA ac woA drA, aR cR drA 5 r, aI cI (r 0) 6 (dr 0), aI cI (r 1) 6 (dr 1), aI cI (r 2) 6 (dr 2), aI cI (r 3) 6 (dr 3), aI cI (r 4) 6 (dr 4), oP pp pl pt pa mo dn ea bn stA (remK k), aI cI pl 6 lv, aI cI pt 6 te, aI cI pa 6 la, aI cI stA 220 (remS lv te la mo dn ea bn st k), aI cI woA 5 wo] H := hP
  have hD : va_D A [oK q t b b2 pp i1 i2 kept tn tw td tr, oB b n lvA aiA laA ac woA drA, aR cR drA 5 r, aI cI (r 0) 6 (dr 0), aI cI (r 1) 6 (dr 1), aI cI (r 2) 6 (dr 2), aI cI (r 3) 6 (dr 3), aI cI (r 4) 6 (dr 4), oP pp pl pt pa mo dn ea bn stA (remK k), aI cI pl 6 lv, aI cI pt 6 te, aI cI pa 6 la, aI cI stA 220 (remS lv te la mo dn ea bn st k), aI cI woA 5 wo] := hD
  show W _ _ _ _ _ _ _ _ _ _ _ _ _ _ _ (F0 m 36 ls [])
  refine lv_aload_n hx hb dX3_pours_36 rfl (lv_at hl 0 rfl) ?_
  refine lv_iload_n hx hb dX3_pours_37 rfl (lv_at hl 1 rfl) ?_
  refine zRV (As := [.int (nI a)]) (b := q) (rest := []) hC (c_X3_wouldGoWell (l := l) (g := g) (hn := hn) (hac := hac) (hla := hla) (hdr := hdr) (hte := hte) (ha := ha) (hg := hg)) lM_X3_120 vM_X3_wouldGoWell (by decide) hK hP [0, 1, 2, 3, 4, 5, 6, 7, 8, 11, 10] rfl ⟨rfl, rfl, rfl⟩ rfl hl.1 rfl (Nat.le_of_ble_eq_true rfl) dX3_pours_38 (by decide) ?_
  show W _ _ _ _ _ _ _ _ _ _ _ _ _ _ _ (F0 m 41 ls [.int (bI g)])
  refine lv_istore_n (lv' := [(2, .int (bI g)), (0, .ref q), (1, .int (nI a))]) hx hb dX3_pours_41 rfl hl (by decide) rfl (fun ls hl => ?_)
  refine lv_iconst (v := nI 0) hx hb dX3_pours_42 (by decide) ?_
  refine lv_istore_n (lv' := [(3, .int (nI 0)), (2, .int (bI g)), (0, .ref q), (1, .int (nI a))]) hx hb dX3_pours_43 rfl hl (by decide) rfl (fun ls hl => ?_)
  have hL44 : ∀ (z44 : Nat) (d : Nat) (lv9 : Nat → Nat) (te9 : Nat → Nat), n - d = z44 → d ≤ n → lv9 = lsL lv (fun i => dr a (la i)) d → te9 = lsT te lv (fun i => dr a (la i)) d → ∀ (H : Heap) (locs : List Loc), va_P D vwCl [oK q t b b2 pp i1 i2 kept tn tw td tr, oB b n lvA aiA laA ac woA drA, aR cR drA 5 r, aI cI (r 0) 6 (dr 0), aI cI (r 1) 6 (dr 1), aI cI (r 2) 6 (dr 2), aI cI (r 3) 6 (dr 3), aI cI (r 4) 6 (dr 4), oP pp pl pt pa mo dn ea bn stA (remK k), aI cI pl 6 lv9, aI cI pt 6 te9, aI cI pa 6 la, aI cI stA 220 (remS lv te la mo dn ea bn st k), aI cI woA 5 wo] H → va_D A [oK q t b b2 pp i1 i2 kept tn tw td tr, oB b n lvA aiA laA ac woA drA, aR cR drA 5 r, aI cI (r 0) 6 (dr 0), aI cI (r 1) 6 (dr 1), aI cI (r 2) 6 (dr 2), aI cI (r 3) 6 (dr 3), aI cI (r 4) 6 (dr 4), oP pp pl pt pa mo dn ea bn stA (remK k), aI cI pl 6 lv9, aI cI pt 6 te9, aI cI pa 6 la, aI cI stA 220 (remS lv te la mo dn ea bn st k), aI cI woA 5 wo] → va_S A H0 H locs → ∀ ls : Array Slot, lv_has ls 4 [(0, .ref q), (1, .int (nI a)), (2, .int (bI g)), (3, .int (nI d))] → W p l e { frames := 4, cells := 0, slots := 0, locals := 89 } s m args below meth c H locs 0 0 (MQ below (qW D [oK q t b b2 pp i1 i2 kept tn tw td tr, oB b n lvA aiA laA ac woA drA, aR cR drA 5 r, aI cI (r 0) 6 (dr 0), aI cI (r 1) 6 (dr 1), aI cI (r 2) 6 (dr 2), aI cI (r 3) 6 (dr 3), aI cI (r 4) 6 (dr 4), oP pp pl pt pa mo dn ea bn stA k, aI cI pl 6 lv, aI cI pt 6 te, aI cI pa 6 la, aI cI stA 220 st, aI cI woA 5 wo] [oK q t b b2 pp i1 i2 kept tn tw td tr, oB b n lvA aiA laA ac woA drA, aR cR drA 5 r, aI cI (r 0) 6 (dr 0), aI cI (r 1) 6 (dr 1), aI cI (r 2) 6 (dr 2), aI cI (r 3) 6 (dr 3), aI cI (r 4) 6 (dr 4), oP pp pl pt pa mo (dn ||| 2 ^ a) (if g = true then ea + wo a else ea) (if g = true then bn else bn + 1) stA (remK k), aI cI pl 6 (lsL lv (fun i => dr a (la i)) n), aI cI pt 6 (lsT te lv (fun i => dr a (la i)) n), aI cI pa 6 la, aI cI stA 220 (remS lv te la mo dn ea bn st k), aI cI woA 5 wo] (some (.int (bI g)))) args s 0 0 (zA [oK q t b b2 pp i1 i2 kept tn tw td tr, oB b n lvA aiA laA ac woA drA, aR cR drA 5 r, aI cI (r 0) 6 (dr 0), aI cI (r 1) 6 (dr 1), aI cI (r 2) 6 (dr 2), aI cI (r 3) 6 (dr 3), aI cI (r 4) 6 (dr 4), oP pp pl pt pa mo dn ea bn stA k, aI cI pl 6 lv, aI cI pt 6 te, aI cI pa 6 la, aI cI stA 220 st, aI cI woA 5 wo])) (F0 m 44 ls []) := by
    intro z44
    induction z44 using Nat.strongRecOn with
    | _ z44 ih44 =>
    intro d lv9 te9 hz44 hd hlv9 hte9 H locs hP hD hS ls hl
    refine lv_iload_n hx hb dX3_pours_44 rfl (lv_at hl 3 rfl) ?_
    refine lv_aload_n hx hb dX3_pours_45 rfl (lv_at hl 0 rfl) ?_
    refine z_get (k := 1) zcX3 hC hK hP 0 rfl (by decide) lF_X3_19 rfl dX3_pours_46 ?_
    refine z_get (k := 0) zcX1 hC hK hP 1 rfl (by decide) lF_X3_123 rfl dX3_pours_49 ?_
    refine zc_ge (tgt := 75) hC dX3_pours_52 (by decide) (by omega) (by omega) (fun c52 => ?_) (fun c52 => ?_)
    · skip
      refine lv_aload_n hx hb dX3_pours_75 rfl (lv_at hl 0 rfl) ?_
      refine z_get (k := 3) zcX3 hC hK hP 0 rfl (by decide) lF_X3_29 rfl dX3_pours_76 ?_
      refine lv_dup hx hb dX3_pours_79 rfl ?_
      refine z_get (k := 4) zcX0 hC hK hP 8 rfl (by decide) lF_X3_133 rfl dX3_pours_80 ?_
      refine lv_iconst (v := nI 1) hx hb dX3_pours_83 (by decide) ?_
      refine lv_iload_n hx hb dX3_pours_84 rfl (lv_at hl 1 rfl) ?_
      refine zi_shl1 hC dX3_pours_85 (by omega) ?_
      refine zi_or hC dX3_pours_86 ?_
      refine z_put (k := 4) zcX0 hC hK hP hD hS 8 rfl (by decide) lF_X3_133 rfl rfl rfl (Nat.le_of_ble_eq_true rfl) dX3_pours_87 (fun H locs hP hD hS => ?_)
      have hP : va_P D vwCl [oK q t b b2 pp i1 i2 kept tn tw td tr, oB b n lvA aiA laA ac woA drA, aR cR drA 5 r, aI cI (r 0) 6 (dr 0), aI cI (r 1) 6 (dr 1), aI cI (r 2) 6 (dr 2), aI cI (r 3) 6 (dr 3), aI cI (r 4) 6 (dr 4), oP pp pl pt pa mo (dn ||| (2 ^ a)) ea bn stA (remK k), aI cI pl 6 lv9, aI cI pt 6 te9, aI cI pa 6 la, aI cI stA 220 (remS lv te la mo dn ea bn st k), aI cI woA 5 wo] H := hP
      have hD : va_D A [oK q t b b2 pp i1 i2 kept tn tw td tr, oB b n lvA aiA laA ac woA drA, aR cR drA 5 r, aI cI (r 0) 6 (dr 0), aI cI (r 1) 6 (dr 1), aI cI (r 2) 6 (dr 2), aI cI (r 3) 6 (dr 3), aI cI (r 4) 6 (dr 4), oP pp pl pt pa mo (dn ||| (2 ^ a)) ea bn stA (remK k), aI cI pl 6 lv9, aI cI pt 6 te9, aI cI pa 6 la, aI cI stA 220 (remS lv te la mo dn ea bn st k), aI cI woA 5 wo] := hD
      refine lv_iload_n hx hb dX3_pours_90 rfl (lv_at hl 2 rfl) ?_
      refine zb_eq (tgt := 118) hC dX3_pours_91 (by decide) (fun c91 => ?_) (fun c91 => ?_)
      · skip
        refine lv_aload_n hx hb dX3_pours_118 rfl (lv_at hl 0 rfl) ?_
        refine z_get (k := 3) zcX3 hC hK hP 0 rfl (by decide) lF_X3_29 rfl dX3_pours_119 ?_
        refine lv_dup hx hb dX3_pours_122 rfl ?_
        refine z_get (k := 6) zcX0 hC hK hP 8 rfl (by decide) lF_X3_139 rfl dX3_pours_123 ?_
        refine lv_iconst (v := nI 1) hx hb dX3_pours_126 (by decide) ?_
        refine zi_add hC dX3_pours_127 ?_
        refine z_put (k := 6) zcX0 hC hK hP hD hS 8 rfl (by decide) lF_X3_139 rfl rfl rfl (Nat.le_of_ble_eq_true rfl) dX3_pours_128 (fun H locs hP hD hS => ?_)
        have hP : va_P D vwCl [oK q t b b2 pp i1 i2 kept tn tw td tr, oB b n lvA aiA laA ac woA drA, aR cR drA 5 r, aI cI (r 0) 6 (dr 0), aI cI (r 1) 6 (dr 1), aI cI (r 2) 6 (dr 2), aI cI (r 3) 6 (dr 3), aI cI (r 4) 6 (dr 4), oP pp pl pt pa mo (dn ||| (2 ^ a)) ea (bn + 1) stA (remK k), aI cI pl 6 lv9, aI cI pt 6 te9, aI cI pa 6 la, aI cI stA 220 (remS lv te la mo dn ea bn st k), aI cI woA 5 wo] H := hP
        have hD : va_D A [oK q t b b2 pp i1 i2 kept tn tw td tr, oB b n lvA aiA laA ac woA drA, aR cR drA 5 r, aI cI (r 0) 6 (dr 0), aI cI (r 1) 6 (dr 1), aI cI (r 2) 6 (dr 2), aI cI (r 3) 6 (dr 3), aI cI (r 4) 6 (dr 4), oP pp pl pt pa mo (dn ||| (2 ^ a)) ea (bn + 1) stA (remK k), aI cI pl 6 lv9, aI cI pt 6 te9, aI cI pa 6 la, aI cI stA 220 (remS lv te la mo dn ea bn st k), aI cI woA 5 wo] := hD
        refine lv_iload_n hx hb dX3_pours_131 rfl (lv_at hl 2 rfl) ?_
        refine zb_eq (tgt := 139) hC dX3_pours_132 (by decide) (fun c132 => ?_) (fun c132 => by exfalso; exact absurd (c91.symm.trans c132) (by decide))
        refine lv_iconst (v := nI 0) hx hb dX3_pours_139 (by decide) ?_
        exact zw_i hC hr hlk hA h0 (by rw [hlv9, hte9, show d = n by omega] at hP; rw [if_neg (by rw [c91]; decide), if_neg (by rw [c91]; decide)]; exact hP) hS (by rw [c91]; rfl) dX3_pours_140
      · skip
        refine lv_aload_n hx hb dX3_pours_94 rfl (lv_at hl 0 rfl) ?_
        refine z_get (k := 3) zcX3 hC hK hP 0 rfl (by decide) lF_X3_29 rfl dX3_pours_95 ?_
        refine lv_dup hx hb dX3_pours_98 rfl ?_
        refine z_get (k := 5) zcX0 hC hK hP 8 rfl (by decide) lF_X3_136 rfl dX3_pours_99 ?_
        refine lv_aload_n hx hb dX3_pours_102 rfl (lv_at hl 0 rfl) ?_
        refine z_get (k := 1) zcX3 hC hK hP 0 rfl (by decide) lF_X3_19 rfl dX3_pours_103 ?_
        refine z_get (k := 5) zcX1 hC hK hP 1 rfl (by decide) lF_X3_98 rfl dX3_pours_106 ?_
        refine lv_iload_n hx hb dX3_pours_109 rfl (lv_at hl 1 rfl) ?_
        refine z_ald hC hK hP 13 rfl (by omega) (by decide) dX3_pours_110 ?_
        refine zi_add hC dX3_pours_111 ?_
        refine z_put (k := 5) zcX0 hC hK hP hD hS 8 rfl (by decide) lF_X3_136 rfl rfl rfl (Nat.le_of_ble_eq_true rfl) dX3_pours_112 (fun H locs hP hD hS => ?_)
        have hP : va_P D vwCl [oK q t b b2 pp i1 i2 kept tn tw td tr, oB b n lvA aiA laA ac woA drA, aR cR drA 5 r, aI cI (r 0) 6 (dr 0), aI cI (r 1) 6 (dr 1), aI cI (r 2) 6 (dr 2), aI cI (r 3) 6 (dr 3), aI cI (r 4) 6 (dr 4), oP pp pl pt pa mo (dn ||| (2 ^ a)) (ea + (wo a)) bn stA (remK k), aI cI pl 6 lv9, aI cI pt 6 te9, aI cI pa 6 la, aI cI stA 220 (remS lv te la mo dn ea bn st k), aI cI woA 5 wo] H := hP
        have hD : va_D A [oK q t b b2 pp i1 i2 kept tn tw td tr, oB b n lvA aiA laA ac woA drA, aR cR drA 5 r, aI cI (r 0) 6 (dr 0), aI cI (r 1) 6 (dr 1), aI cI (r 2) 6 (dr 2), aI cI (r 3) 6 (dr 3), aI cI (r 4) 6 (dr 4), oP pp pl pt pa mo (dn ||| (2 ^ a)) (ea + (wo a)) bn stA (remK k), aI cI pl 6 lv9, aI cI pt 6 te9, aI cI pa 6 la, aI cI stA 220 (remS lv te la mo dn ea bn st k), aI cI woA 5 wo] := hD
        refine lv_goto (tgt := 131) hx hb dX3_pours_115 (by decide) ?_
        refine lv_iload_n hx hb dX3_pours_131 rfl (lv_at hl 2 rfl) ?_
        refine zb_eq (tgt := 139) hC dX3_pours_132 (by decide) (fun c132 => by exfalso; exact absurd (c91.symm.trans c132) (by decide)) (fun c132 => ?_)
        refine lv_iconst (v := nI 1) hx hb dX3_pours_135 (by decide) ?_
        refine lv_goto (tgt := 140) hx hb dX3_pours_136 (by decide) ?_
        exact zw_i hC hr hlk hA h0 (by rw [hlv9, hte9, show d = n by omega] at hP; rw [if_pos c91, if_pos c91]; exact hP) hS (by rw [c91]; rfl) dX3_pours_140
    · skip
      refine lv_aload_n hx hb dX3_pours_55 rfl (lv_at hl 0 rfl) ?_
      refine z_get (k := 3) zcX3 hC hK hP 0 rfl (by decide) lF_X3_29 rfl dX3_pours_56 ?_
      refine lv_iload_n hx hb dX3_pours_59 rfl (lv_at hl 3 rfl) ?_
      refine lv_aload_n hx hb dX3_pours_60 rfl (lv_at hl 0 rfl) ?_
      refine lv_iload_n hx hb dX3_pours_61 rfl (lv_at hl 3 rfl) ?_
      refine lv_iload_n hx hb dX3_pours_62 rfl (lv_at hl 1 rfl) ?_
      refine zRV (As := [.int (nI d), .int (nI a)]) (b := q) (rest := [.int (nI d), .ref pp]) hC (c_X3_dropsFrom (l := l) (hn := hn) (hac := hac) (ha := ha) (hd := by omega) (hla := hla _ (by omega))) lM_X3_126 vM_X3_dropsFrom (by decide) hK hP [0, 1, 2, 3, 4, 5, 6, 7, 8, 11] rfl ⟨rfl, rfl, rfl⟩ rfl hl.1 rfl (Nat.le_of_ble_eq_true rfl) dX3_pours_63 (by decide) ?_
      show W _ _ _ _ _ _ _ _ _ _ _ _ _ _ _ (F0 m 66 ls [.int (nI (dr a (la d))), .int (nI d), .ref pp])
      refine zXVN (As := [.int (nI d), .int (nI (dr a (la d)))]) (b := pp) (rest := []) hC (c_X0_loses (l := l) (hd := by omega) (hk := by have := hdr a (la d); omega) (hlv := by rw [hlv9]; exact lsL_le hlv) (hte := by rw [hte9]; exact lsT_le hte)) lM_X3_129 vM_X0_loses (by decide) hK hP hD hS [8, 9, 10] [pp, pl, pt] rfl (by decide) rfl rfl ⟨rfl, rfl, rfl⟩ rfl hl.1 rfl (Nat.le_of_ble_eq_true rfl) dX3_pours_66 (by decide) (fun H locs hP hD hS => ?_)
      have hP : va_P D vwCl [oK q t b b2 pp i1 i2 kept tn tw td tr, oB b n lvA aiA laA ac woA drA, aR cR drA 5 r, aI cI (r 0) 6 (dr 0), aI cI (r 1) 6 (dr 1), aI cI (r 2) 6 (dr 2), aI cI (r 3) 6 (dr 3), aI cI (r 4) 6 (dr 4), oP pp pl pt pa mo dn ea bn stA (remK k), aI cI pl 6 (updN lv9 d (lv9 d - dr a (la d))), aI cI pt 6 (updN te9 d (min (te9 d) (lv9 d - dr a (la d)))), aI cI pa 6 la, aI cI stA 220 (remS lv te la mo dn ea bn st k), aI cI woA 5 wo] H := hP
      have hD : va_D A [oK q t b b2 pp i1 i2 kept tn tw td tr, oB b n lvA aiA laA ac woA drA, aR cR drA 5 r, aI cI (r 0) 6 (dr 0), aI cI (r 1) 6 (dr 1), aI cI (r 2) 6 (dr 2), aI cI (r 3) 6 (dr 3), aI cI (r 4) 6 (dr 4), oP pp pl pt pa mo dn ea bn stA (remK k), aI cI pl 6 (updN lv9 d (lv9 d - dr a (la d))), aI cI pt 6 (updN te9 d (min (te9 d) (lv9 d - dr a (la d)))), aI cI pa 6 la, aI cI stA 220 (remS lv te la mo dn ea bn st k), aI cI woA 5 wo] := hD
      show W _ _ _ _ _ _ _ _ _ _ _ _ _ _ _ (F0 m 69 ls [])
      refine lv_iinc (v := nI (d + 1)) (lv' := [(3, .int (nI (d + 1))), (0, .ref q), (1, .int (nI a)), (2, .int (bI g))]) hx hb dX3_pours_69 hl (k := 3) rfl (z_inc d 1) (by decide) rfl (fun ls hl => ?_)
      refine lv_goto (tgt := 44) hx hb dX3_pours_72 (by decide) ?_
      exact ih44 (n - (d + 1)) (by omega) (d + 1) (updN lv9 d (lv9 d - dr a (la d))) (updN te9 d (min (te9 d) (lv9 d - dr a (la d)))) rfl (by omega) (by rw [hlv9]; exact lsL_s lv (fun i => dr a (la i)) d) (by rw [hte9, hlv9]; exact lsT_s te lv (fun i => dr a (la i)) d) _ _ hP hD hS ls (lv_sub hl [1, 2, 3, 0] rfl)
  exact hL44 _ 0 lv te rfl (by omega) (by exact (lsL_0 _ _).symm) (by exact (lsT_0 _ _ _).symm) _ _ hP hD hS ls (lv_sub hl [2, 3, 1, 0] rfl)
set_option maxHeartbeats 1000000 in
set_option maxRecDepth 100000 in
theorem c_X3_month_state {l : Launch} {D : va_G} {cI cZ cB cR : ClassId} {q t b b2 pp i1 i2 kept tn tw td : Nat} {tr : Int64} {pl pt pa mo dn ea bn stA k : Nat}  (hmo : 999 ≤ mo) (hmo2 : mo < 100000) : mR l yX3_month cX3_month 2 (some .int) 0 0 D cI cZ cB cR [oK q t b b2 pp i1 i2 kept tn tw td tr, oP pp pl pt pa mo dn ea bn stA k] [.ref q] (some (.int (-2))) := by
  refine mR_of rfl (Nat.le_of_ble_eq_true rfl) ?_
  intro p e s m args below meth c hC hr hlk hK hP ls hl
  have hl : lv_has ls 2 [(0, .ref q)] := hl
  obtain ⟨hx, hb, hml, hown, hts⟩ := id hC
  refine lv_aload_n hx hb dX3_month_0 rfl (lv_at hl 0 rfl) ?_
  refine z_get (k := 3) zcX3 hC hK hP 0 rfl (by decide) lF_X3_29 rfl dX3_month_1 ?_
  refine z_get (k := 3) zcX0 hC hK hP 1 rfl (by decide) lF_X3_142 rfl dX3_month_4 ?_
  refine lv_sipush (v := nI 999) hx hb dX3_month_7 (by decide) ?_
  refine zc_lt (tgt := 16) hC dX3_month_10 (by decide) (by omega) (by omega) (fun c10 => by exfalso; omega) (fun c10 => ?_)
  refine lv_bipush (v := (-2)) hx hb dX3_month_13 (by decide) ?_
  exact zr_i hC hr hlk (by first | rfl | omega) dX3_month_15
set_option maxHeartbeats 1000000 in
set_option maxRecDepth 100000 in
theorem c_X3_month {l : Launch} {D : va_G} {cI cZ cB cR : ClassId} {q t b b2 pp i1 i2 kept tn tw td : Nat} {tr : Int64} {n lvA aiA laA ac woA drA : Nat} {pl pt pa mo dn ea bn stA k : Nat} {la : Nat → Nat} {lv : Nat → Nat} {te : Nat → Nat} {ai : Nat → Nat} {st : Nat → Nat} (hn : n ≤ 6) (hmo : mo < 999) (hlv : ∀ i, lv i ≤ 40) (hte : ∀ i, te i ≤ 40) (hai : ∀ i, ai i ≤ 5) (hk : k ≤ 10) : mW l yX3_month cX3_month 2 (some .int) 2 61 D cI cZ cB cR [oK q t b b2 pp i1 i2 kept tn tw td tr, oB b n lvA aiA laA ac woA drA, oP pp pl pt pa mo dn ea bn stA k, aI cI pl 6 lv, aI cI pt 6 te, aI cI pa 6 la, aI cI stA 220 st, aI cI aiA 6 ai] [oK q t b b2 pp i1 i2 kept tn tw td tr, oB b n lvA aiA laA ac woA drA, oP pp pl pt pa (mo + 1) dn ea bn stA (remK k), aI cI pl 6 (lsL lv ai n), aI cI pt 6 (lsT te lv ai n), aI cI pa 6 la, aI cI stA 220 (remS lv te la mo dn ea bn st k), aI cI aiA 6 ai] [.ref q] (some (.int (nI (mo + 1)))) := by
  refine mW_of rfl (Nat.le_of_ble_eq_true rfl) ?_
  intro p e s m args below meth c hC hr hlk hK A hA hD H0 h0 hP hS ls hl
  have hP : va_P D vwCl [oK q t b b2 pp i1 i2 kept tn tw td tr, oB b n lvA aiA laA ac woA drA, oP pp pl pt pa mo dn ea bn stA k, aI cI pl 6 lv, aI cI pt 6 te, aI cI pa 6 la, aI cI stA 220 st, aI cI aiA 6 ai] H0 := hP
  have hl : lv_has ls 2 [(0, .ref q)] := hl
  obtain ⟨hx, hb, hml, hown, hts⟩ := id hC
  refine lv_aload_n hx hb dX3_month_0 rfl (lv_at hl 0 rfl) ?_
  refine z_get (k := 3) zcX3 hC hK hP 0 rfl (by decide) lF_X3_29 rfl dX3_month_1 ?_
  refine z_get (k := 3) zcX0 hC hK hP 2 rfl (by decide) lF_X3_142 rfl dX3_month_4 ?_
  refine lv_sipush (v := nI 999) hx hb dX3_month_7 (by decide) ?_
  refine zc_lt (tgt := 16) hC dX3_month_10 (by decide) (by omega) (by omega) (fun c10 => ?_) (fun c10 => by exfalso; omega)
  refine lv_aload_n hx hb dX3_month_16 rfl (lv_at hl 0 rfl) ?_
  refine z_get (k := 3) zcX3 hC hK hP 0 rfl (by decide) lF_X3_29 rfl dX3_month_17 ?_
  refine zXVN (As := []) (b := pp) (rest := []) hC (c_X0_remembers (l := l) (hk := hk)) lM_X3_117 vM_X0_remembers (by decide) hK hP hD hS [2, 3, 4, 5, 6] [pp, pl, pt, pa, stA] rfl (by decide) rfl rfl ⟨rfl, rfl, rfl⟩ rfl hl.1 rfl (Nat.le_of_ble_eq_true rfl) dX3_month_20 (by decide) (fun H locs hP hD hS => ?_)
  have hP : va_P D vwCl [oK q t b b2 pp i1 i2 kept tn tw td tr, oB b n lvA aiA laA ac woA drA, oP pp pl pt pa mo dn ea bn stA (remK k), aI cI pl 6 lv, aI cI pt 6 te, aI cI pa 6 la, aI cI stA 220 (remS lv te la mo dn ea bn st k), aI cI aiA 6 ai] H := hP
  have hD : va_D A [oK q t b b2 pp i1 i2 kept tn tw td tr, oB b n lvA aiA laA ac woA drA, oP pp pl pt pa mo dn ea bn stA (remK k), aI cI pl 6 lv, aI cI pt 6 te, aI cI pa 6 la, aI cI stA 220 (remS lv te la mo dn ea bn st k), aI cI aiA 6 ai] := hD
  show W _ _ _ _ _ _ _ _ _ _ _ _ _ _ _ (F0 m 23 ls [])
  refine lv_iconst (v := nI 0) hx hb dX3_month_23 (by decide) ?_
  refine lv_istore_n (lv' := [(1, .int (nI 0)), (0, .ref q)]) hx hb dX3_month_24 rfl hl (by decide) rfl (fun ls hl => ?_)
  have hL25 : ∀ (z25 : Nat) (d : Nat) (lv9 : Nat → Nat) (te9 : Nat → Nat), n - d = z25 → d ≤ n → lv9 = lsL lv ai d → te9 = lsT te lv ai d → ∀ (H : Heap) (locs : List Loc), va_P D vwCl [oK q t b b2 pp i1 i2 kept tn tw td tr, oB b n lvA aiA laA ac woA drA, oP pp pl pt pa mo dn ea bn stA (remK k), aI cI pl 6 lv9, aI cI pt 6 te9, aI cI pa 6 la, aI cI stA 220 (remS lv te la mo dn ea bn st k), aI cI aiA 6 ai] H → va_D A [oK q t b b2 pp i1 i2 kept tn tw td tr, oB b n lvA aiA laA ac woA drA, oP pp pl pt pa mo dn ea bn stA (remK k), aI cI pl 6 lv9, aI cI pt 6 te9, aI cI pa 6 la, aI cI stA 220 (remS lv te la mo dn ea bn st k), aI cI aiA 6 ai] → va_S A H0 H locs → ∀ ls : Array Slot, lv_has ls 2 [(0, .ref q), (1, .int (nI d))] → W p l e { frames := 2, cells := 0, slots := 0, locals := 61 } s m args below meth c H locs 0 0 (MQ below (qW D [oK q t b b2 pp i1 i2 kept tn tw td tr, oB b n lvA aiA laA ac woA drA, oP pp pl pt pa mo dn ea bn stA k, aI cI pl 6 lv, aI cI pt 6 te, aI cI pa 6 la, aI cI stA 220 st, aI cI aiA 6 ai] [oK q t b b2 pp i1 i2 kept tn tw td tr, oB b n lvA aiA laA ac woA drA, oP pp pl pt pa (mo + 1) dn ea bn stA (remK k), aI cI pl 6 (lsL lv ai n), aI cI pt 6 (lsT te lv ai n), aI cI pa 6 la, aI cI stA 220 (remS lv te la mo dn ea bn st k), aI cI aiA 6 ai] (some (.int (nI (mo + 1))))) args s 0 0 (zA [oK q t b b2 pp i1 i2 kept tn tw td tr, oB b n lvA aiA laA ac woA drA, oP pp pl pt pa mo dn ea bn stA k, aI cI pl 6 lv, aI cI pt 6 te, aI cI pa 6 la, aI cI stA 220 st, aI cI aiA 6 ai])) (F0 m 25 ls []) := by
    intro z25
    induction z25 using Nat.strongRecOn with
    | _ z25 ih25 =>
    intro d lv9 te9 hz25 hd hlv9 hte9 H locs hP hD hS ls hl
    refine lv_iload_n hx hb dX3_month_25 rfl (lv_at hl 1 rfl) ?_
    refine lv_aload_n hx hb dX3_month_26 rfl (lv_at hl 0 rfl) ?_
    refine z_get (k := 1) zcX3 hC hK hP 0 rfl (by decide) lF_X3_19 rfl dX3_month_27 ?_
    refine z_get (k := 0) zcX1 hC hK hP 1 rfl (by decide) lF_X3_123 rfl dX3_month_30 ?_
    refine zc_ge (tgt := 59) hC dX3_month_33 (by decide) (by omega) (by omega) (fun c33 => ?_) (fun c33 => ?_)
    · skip
      refine lv_aload_n hx hb dX3_month_59 rfl (lv_at hl 0 rfl) ?_
      refine z_get (k := 3) zcX3 hC hK hP 0 rfl (by decide) lF_X3_29 rfl dX3_month_60 ?_
      refine lv_dup hx hb dX3_month_63 rfl ?_
      refine z_get (k := 3) zcX0 hC hK hP 2 rfl (by decide) lF_X3_142 rfl dX3_month_64 ?_
      refine lv_iconst (v := nI 1) hx hb dX3_month_67 (by decide) ?_
      refine zi_add hC dX3_month_68 ?_
      refine z_put (k := 3) zcX0 hC hK hP hD hS 2 rfl (by decide) lF_X3_142 rfl rfl rfl (Nat.le_of_ble_eq_true rfl) dX3_month_69 (fun H locs hP hD hS => ?_)
      have hP : va_P D vwCl [oK q t b b2 pp i1 i2 kept tn tw td tr, oB b n lvA aiA laA ac woA drA, oP pp pl pt pa (mo + 1) dn ea bn stA (remK k), aI cI pl 6 lv9, aI cI pt 6 te9, aI cI pa 6 la, aI cI stA 220 (remS lv te la mo dn ea bn st k), aI cI aiA 6 ai] H := hP
      have hD : va_D A [oK q t b b2 pp i1 i2 kept tn tw td tr, oB b n lvA aiA laA ac woA drA, oP pp pl pt pa (mo + 1) dn ea bn stA (remK k), aI cI pl 6 lv9, aI cI pt 6 te9, aI cI pa 6 la, aI cI stA 220 (remS lv te la mo dn ea bn st k), aI cI aiA 6 ai] := hD
      refine lv_aload_n hx hb dX3_month_72 rfl (lv_at hl 0 rfl) ?_
      refine z_get (k := 3) zcX3 hC hK hP 0 rfl (by decide) lF_X3_29 rfl dX3_month_73 ?_
      refine z_get (k := 3) zcX0 hC hK hP 2 rfl (by decide) lF_X3_142 rfl dX3_month_76 ?_
      exact zw_i hC hr hlk hA h0 (by rw [hlv9, hte9, show d = n by omega] at hP; exact hP) hS (by first | rfl | omega) dX3_month_79
    · skip
      refine lv_aload_n hx hb dX3_month_36 rfl (lv_at hl 0 rfl) ?_
      refine z_get (k := 3) zcX3 hC hK hP 0 rfl (by decide) lF_X3_29 rfl dX3_month_37 ?_
      refine lv_iload_n hx hb dX3_month_40 rfl (lv_at hl 1 rfl) ?_
      refine lv_aload_n hx hb dX3_month_41 rfl (lv_at hl 0 rfl) ?_
      refine z_get (k := 1) zcX3 hC hK hP 0 rfl (by decide) lF_X3_19 rfl dX3_month_42 ?_
      refine z_get (k := 2) zcX1 hC hK hP 1 rfl (by decide) lF_X3_82 rfl dX3_month_45 ?_
      refine lv_iload_n hx hb dX3_month_48 rfl (lv_at hl 1 rfl) ?_
      refine z_ald hC hK hP 7 rfl (by omega) (by decide) dX3_month_49 ?_
      refine zXVN (As := [.int (nI d), .int (nI (ai d))]) (b := pp) (rest := []) hC (c_X0_loses (l := l) (hd := by omega) (hk := by have := hai d; omega) (hlv := by rw [hlv9]; exact lsL_le hlv) (hte := by rw [hte9]; exact lsT_le hte)) lM_X3_129 vM_X0_loses (by decide) hK hP hD hS [2, 3, 4] [pp, pl, pt] rfl (by decide) rfl rfl ⟨rfl, rfl, rfl⟩ rfl hl.1 rfl (Nat.le_of_ble_eq_true rfl) dX3_month_50 (by decide) (fun H locs hP hD hS => ?_)
      have hP : va_P D vwCl [oK q t b b2 pp i1 i2 kept tn tw td tr, oB b n lvA aiA laA ac woA drA, oP pp pl pt pa mo dn ea bn stA (remK k), aI cI pl 6 (updN lv9 d (lv9 d - ai d)), aI cI pt 6 (updN te9 d (min (te9 d) (lv9 d - ai d))), aI cI pa 6 la, aI cI stA 220 (remS lv te la mo dn ea bn st k), aI cI aiA 6 ai] H := hP
      have hD : va_D A [oK q t b b2 pp i1 i2 kept tn tw td tr, oB b n lvA aiA laA ac woA drA, oP pp pl pt pa mo dn ea bn stA (remK k), aI cI pl 6 (updN lv9 d (lv9 d - ai d)), aI cI pt 6 (updN te9 d (min (te9 d) (lv9 d - ai d))), aI cI pa 6 la, aI cI stA 220 (remS lv te la mo dn ea bn st k), aI cI aiA 6 ai] := hD
      show W _ _ _ _ _ _ _ _ _ _ _ _ _ _ _ (F0 m 53 ls [])
      refine lv_iinc (v := nI (d + 1)) (lv' := [(1, .int (nI (d + 1))), (0, .ref q)]) hx hb dX3_month_53 hl (k := 1) rfl (z_inc d 1) (by decide) rfl (fun ls hl => ?_)
      refine lv_goto (tgt := 25) hx hb dX3_month_56 (by decide) ?_
      exact ih25 (n - (d + 1)) (by omega) (d + 1) (updN lv9 d (lv9 d - ai d)) (updN te9 d (min (te9 d) (lv9 d - ai d))) rfl (by omega) (by rw [hlv9]; exact lsL_s lv ai d) (by rw [hte9, hlv9]; exact lsT_s te lv ai d) _ _ hP hD hS ls (lv_sub hl [1, 0] rfl)
  exact hL25 _ 0 lv te rfl (by omega) (by exact (lsL_0 _ _).symm) (by exact (lsT_0 _ _ _).symm) _ _ hP hD hS ls (lv_sub hl [1, 0] rfl)
set_option maxHeartbeats 1000000 in
set_option maxRecDepth 100000 in
theorem c_X3_tops_badD {l : Launch} {D : va_G} {cI cZ cB cR : ClassId} {q t b b2 pp i1 i2 kept tn tw td : Nat} {tr : Int64} {n lvA aiA laA ac woA drA : Nat} {x w : Int32} (hn : n ≤ 6) (hbad : ¬ vp_in x n) : mR l yX3_tops cX3_tops 3 (some .int) 1 21 D cI cZ cB cR [oK q t b b2 pp i1 i2 kept tn tw td tr, oB b n lvA aiA laA ac woA drA] [.ref q, .int x, .int w] (some (.int (-1))) := by
  refine mR_of rfl (Nat.le_of_ble_eq_true rfl) ?_
  intro p e s m args below meth c hC hr hlk hK hP ls hl
  have hl : lv_has ls 3 [(0, .ref q), (1, .int x), (2, .int w)] := hl
  obtain ⟨hx, hb, hml, hown, hts⟩ := id hC
  refine lv_aload_n hx hb dX3_tops_0 rfl (lv_at hl 0 rfl) ?_
  refine lv_iload_n hx hb dX3_tops_1 rfl (lv_at hl 1 rfl) ?_
  refine zRV (As := [.int x]) (b := q) (rest := []) hC (c_X3_isDecanter (l := l) (g := false) (hn := by omega) (hg := ⟨fun h => (by cases h), fun h => absurd h hbad⟩)) lM_X3_76 vM_X3_isDecanter (by decide) hK hP [0, 1] rfl ⟨rfl, rfl, rfl⟩ rfl hl.1 rfl (Nat.le_of_ble_eq_true rfl) dX3_tops_2 (by decide) ?_
  show W _ _ _ _ _ _ _ _ _ _ _ _ _ _ _ (F0 m 5 ls [.int (bI false)])
  refine zb_eq (tgt := 19) hC dX3_tops_5 (by decide) (fun c5 => ?_) (fun c5 => by exfalso; cases c5)
  refine lv_iconst (v := (-1)) hx hb dX3_tops_19 (by decide) ?_
  exact zr_i hC hr hlk (by first | rfl | omega) dX3_tops_20
set_option maxHeartbeats 1000000 in
set_option maxRecDepth 100000 in
theorem c_X3_tops_badN {l : Launch} {D : va_G} {cI cZ cB cR : ClassId} {q t b b2 pp i1 i2 kept tn tw td : Nat} {tr : Int64} {n lvA aiA laA ac woA drA : Nat} {d : Nat} {w : Int32} (hn : n ≤ 6) (hd : d < n) (hbw : w < nI 1 ∨ nI 40 < w) : mR l yX3_tops cX3_tops 3 (some .int) 1 21 D cI cZ cB cR [oK q t b b2 pp i1 i2 kept tn tw td tr, oB b n lvA aiA laA ac woA drA] [.ref q, .int (nI d), .int w] (some (.int (-1))) := by
  refine mR_of rfl (Nat.le_of_ble_eq_true rfl) ?_
  intro p e s m args below meth c hC hr hlk hK hP ls hl
  have hl : lv_has ls 3 [(0, .ref q), (1, .int (nI d)), (2, .int w)] := hl
  obtain ⟨hx, hb, hml, hown, hts⟩ := id hC
  refine lv_aload_n hx hb dX3_tops_0 rfl (lv_at hl 0 rfl) ?_
  refine lv_iload_n hx hb dX3_tops_1 rfl (lv_at hl 1 rfl) ?_
  refine zRV (As := [.int (nI d)]) (b := q) (rest := []) hC (c_X3_isDecanter (l := l) (g := true) (hn := by omega) (hg := ⟨fun _ => vp_in_nI (by omega) (by omega), fun _ => rfl⟩)) lM_X3_76 vM_X3_isDecanter (by decide) hK hP [0, 1] rfl ⟨rfl, rfl, rfl⟩ rfl hl.1 rfl (Nat.le_of_ble_eq_true rfl) dX3_tops_2 (by decide) ?_
  show W _ _ _ _ _ _ _ _ _ _ _ _ _ _ _ (F0 m 5 ls [.int (bI true)])
  refine zb_eq (tgt := 19) hC dX3_tops_5 (by decide) (fun c5 => by exfalso; cases c5) (fun c5 => ?_)
  refine lv_iload_n hx hb dX3_tops_8 rfl (lv_at hl 2 rfl) ?_
  refine lv_iconst (v := nI 1) hx hb dX3_tops_9 (by decide) ?_
  refine lv_icmp_lt (tgt := 19) hx hb dX3_tops_10 (by decide) (fun c10 => ?_) (fun c10 => ?_)
  · skip
    refine lv_iconst (v := (-1)) hx hb dX3_tops_19 (by decide) ?_
    exact zr_i hC hr hlk (by first | rfl | omega) dX3_tops_20
  · skip
    refine lv_iload_n hx hb dX3_tops_13 rfl (lv_at hl 2 rfl) ?_
    refine lv_bipush (v := nI 40) hx hb dX3_tops_14 (by decide) ?_
    refine lv_icmp_le (tgt := 21) hx hb dX3_tops_16 (by decide) (fun c16 => by exfalso; rcases hbw with h | h; exact c10 h; exact absurd c16 (Int32.not_le.mpr h)) (fun c16 => ?_)
    refine lv_iconst (v := (-1)) hx hb dX3_tops_19 (by decide) ?_
    exact zr_i hC hr hlk (by first | rfl | omega) dX3_tops_20
set_option maxHeartbeats 1000000 in
set_option maxRecDepth 100000 in
theorem c_X3_tops_state {l : Launch} {D : va_G} {cI cZ cB cR : ClassId} {q t b b2 pp i1 i2 kept tn tw td : Nat} {tr : Int64} {n lvA aiA laA ac woA drA : Nat} {pl pt pa mo dn ea bn stA k : Nat} {lv : Nat → Nat} {d m9 : Nat} (hn : n ≤ 6) (hd : d < n) (hlv : ∀ i, lv i ≤ 40) (hm : 1 ≤ m9 ∧ m9 ≤ 40) (hs : 40 < lv d + m9) : mR l yX3_tops cX3_tops 3 (some .int) 1 21 D cI cZ cB cR [oK q t b b2 pp i1 i2 kept tn tw td tr, oB b n lvA aiA laA ac woA drA, oP pp pl pt pa mo dn ea bn stA k, aI cI pl 6 lv] [.ref q, .int (nI d), .int (nI m9)] (some (.int (-2))) := by
  refine mR_of rfl (Nat.le_of_ble_eq_true rfl) ?_
  intro p e s m args below meth c hC hr hlk hK hP ls hl
  have hl : lv_has ls 3 [(0, .ref q), (1, .int (nI d)), (2, .int (nI m9))] := hl
  obtain ⟨hx, hb, hml, hown, hts⟩ := id hC
  refine lv_aload_n hx hb dX3_tops_0 rfl (lv_at hl 0 rfl) ?_
  refine lv_iload_n hx hb dX3_tops_1 rfl (lv_at hl 1 rfl) ?_
  refine zRV (As := [.int (nI d)]) (b := q) (rest := []) hC (c_X3_isDecanter (l := l) (g := true) (hn := by omega) (hg := ⟨fun _ => vp_in_nI (by omega) (by omega), fun _ => rfl⟩)) lM_X3_76 vM_X3_isDecanter (by decide) hK hP [0, 1] rfl ⟨rfl, rfl, rfl⟩ rfl hl.1 rfl (Nat.le_of_ble_eq_true rfl) dX3_tops_2 (by decide) ?_
  show W _ _ _ _ _ _ _ _ _ _ _ _ _ _ _ (F0 m 5 ls [.int (bI true)])
  refine zb_eq (tgt := 19) hC dX3_tops_5 (by decide) (fun c5 => by exfalso; cases c5) (fun c5 => ?_)
  refine lv_iload_n hx hb dX3_tops_8 rfl (lv_at hl 2 rfl) ?_
  refine lv_iconst (v := nI 1) hx hb dX3_tops_9 (by decide) ?_
  refine zc_lt (tgt := 19) hC dX3_tops_10 (by decide) (by omega) (by omega) (fun c10 => by exfalso; omega) (fun c10 => ?_)
  refine lv_iload_n hx hb dX3_tops_13 rfl (lv_at hl 2 rfl) ?_
  refine lv_bipush (v := nI 40) hx hb dX3_tops_14 (by decide) ?_
  refine zc_le (tgt := 21) hC dX3_tops_16 (by decide) (by omega) (by omega) (fun c16 => ?_) (fun c16 => by exfalso; omega)
  refine lv_aload_n hx hb dX3_tops_21 rfl (lv_at hl 0 rfl) ?_
  refine z_get (k := 3) zcX3 hC hK hP 0 rfl (by decide) lF_X3_29 rfl dX3_tops_22 ?_
  refine z_get (k := 0) zcX0 hC hK hP 2 rfl (by decide) lF_X3_79 rfl dX3_tops_25 ?_
  refine lv_iload_n hx hb dX3_tops_28 rfl (lv_at hl 1 rfl) ?_
  refine z_ald hC hK hP 3 rfl (by omega) (by decide) dX3_tops_29 ?_
  have b29 := hlv d
  refine lv_iload_n hx hb dX3_tops_30 rfl (lv_at hl 2 rfl) ?_
  refine zi_add hC dX3_tops_31 ?_
  refine lv_bipush (v := nI 40) hx hb dX3_tops_32 (by decide) ?_
  refine zc_le (tgt := 40) hC dX3_tops_34 (by decide) (by omega) (by omega) (fun c34 => by exfalso; omega) (fun c34 => ?_)
  refine lv_bipush (v := (-2)) hx hb dX3_tops_37 (by decide) ?_
  exact zr_i hC hr hlk (by first | rfl | omega) dX3_tops_39
set_option maxHeartbeats 1000000 in
set_option maxRecDepth 100000 in
theorem c_X3_tops {l : Launch} {D : va_G} {cI cZ cB cR : ClassId} {q t b b2 pp i1 i2 kept tn tw td : Nat} {tr : Int64} {n lvA aiA laA ac woA drA : Nat} {pl pt pa mo dn ea bn stA k : Nat} {lv : Nat → Nat} {te : Nat → Nat} {la : Nat → Nat} {st : Nat → Nat} {d m9 : Nat} (hn : n ≤ 6) (hd : d < n) (hlv : ∀ i, lv i ≤ 40) (hm : 1 ≤ m9 ∧ m9 ≤ 40) (hs : lv d + m9 ≤ 40) (hk : k ≤ 10) : mW l yX3_tops cX3_tops 3 (some .int) 2 61 D cI cZ cB cR [oK q t b b2 pp i1 i2 kept tn tw td tr, oB b n lvA aiA laA ac woA drA, oP pp pl pt pa mo dn ea bn stA k, aI cI pl 6 lv, aI cI pt 6 te, aI cI pa 6 la, aI cI stA 220 st] [oK q t b b2 pp i1 i2 kept tn tw td tr, oB b n lvA aiA laA ac woA drA, oP pp pl pt pa mo dn ea bn stA (remK k), aI cI pl 6 (updN lv d (lv d + m9)), aI cI pt 6 (updN te d (te d + m9)), aI cI pa 6 la, aI cI stA 220 (remS lv te la mo dn ea bn st k)] [.ref q, .int (nI d), .int (nI m9)] (some (.int (nI (lv d + m9)))) := by
  refine mW_of rfl (Nat.le_of_ble_eq_true rfl) ?_
  intro p e s m args below meth c hC hr hlk hK A hA hD H0 h0 hP hS ls hl
  have hP : va_P D vwCl [oK q t b b2 pp i1 i2 kept tn tw td tr, oB b n lvA aiA laA ac woA drA, oP pp pl pt pa mo dn ea bn stA k, aI cI pl 6 lv, aI cI pt 6 te, aI cI pa 6 la, aI cI stA 220 st] H0 := hP
  have hl : lv_has ls 3 [(0, .ref q), (1, .int (nI d)), (2, .int (nI m9))] := hl
  obtain ⟨hx, hb, hml, hown, hts⟩ := id hC
  refine lv_aload_n hx hb dX3_tops_0 rfl (lv_at hl 0 rfl) ?_
  refine lv_iload_n hx hb dX3_tops_1 rfl (lv_at hl 1 rfl) ?_
  refine zRV (As := [.int (nI d)]) (b := q) (rest := []) hC (c_X3_isDecanter (l := l) (g := true) (hn := by omega) (hg := ⟨fun _ => vp_in_nI (by omega) (by omega), fun _ => rfl⟩)) lM_X3_76 vM_X3_isDecanter (by decide) hK hP [0, 1] rfl ⟨rfl, rfl, rfl⟩ rfl hl.1 rfl (Nat.le_of_ble_eq_true rfl) dX3_tops_2 (by decide) ?_
  show W _ _ _ _ _ _ _ _ _ _ _ _ _ _ _ (F0 m 5 ls [.int (bI true)])
  refine zb_eq (tgt := 19) hC dX3_tops_5 (by decide) (fun c5 => by exfalso; cases c5) (fun c5 => ?_)
  refine lv_iload_n hx hb dX3_tops_8 rfl (lv_at hl 2 rfl) ?_
  refine lv_iconst (v := nI 1) hx hb dX3_tops_9 (by decide) ?_
  refine zc_lt (tgt := 19) hC dX3_tops_10 (by decide) (by omega) (by omega) (fun c10 => by exfalso; omega) (fun c10 => ?_)
  refine lv_iload_n hx hb dX3_tops_13 rfl (lv_at hl 2 rfl) ?_
  refine lv_bipush (v := nI 40) hx hb dX3_tops_14 (by decide) ?_
  refine zc_le (tgt := 21) hC dX3_tops_16 (by decide) (by omega) (by omega) (fun c16 => ?_) (fun c16 => by exfalso; omega)
  refine lv_aload_n hx hb dX3_tops_21 rfl (lv_at hl 0 rfl) ?_
  refine z_get (k := 3) zcX3 hC hK hP 0 rfl (by decide) lF_X3_29 rfl dX3_tops_22 ?_
  refine z_get (k := 0) zcX0 hC hK hP 2 rfl (by decide) lF_X3_79 rfl dX3_tops_25 ?_
  refine lv_iload_n hx hb dX3_tops_28 rfl (lv_at hl 1 rfl) ?_
  refine z_ald hC hK hP 3 rfl (by omega) (by decide) dX3_tops_29 ?_
  have b29 := hlv d
  refine lv_iload_n hx hb dX3_tops_30 rfl (lv_at hl 2 rfl) ?_
  refine zi_add hC dX3_tops_31 ?_
  refine lv_bipush (v := nI 40) hx hb dX3_tops_32 (by decide) ?_
  refine zc_le (tgt := 40) hC dX3_tops_34 (by decide) (by omega) (by omega) (fun c34 => ?_) (fun c34 => by exfalso; omega)
  refine lv_aload_n hx hb dX3_tops_40 rfl (lv_at hl 0 rfl) ?_
  refine z_get (k := 3) zcX3 hC hK hP 0 rfl (by decide) lF_X3_29 rfl dX3_tops_41 ?_
  refine zXVN (As := []) (b := pp) (rest := []) hC (c_X0_remembers (l := l) (hk := hk)) lM_X3_117 vM_X0_remembers (by decide) hK hP hD hS [2, 3, 4, 5, 6] [pp, pl, pt, pa, stA] rfl (by decide) rfl rfl ⟨rfl, rfl, rfl⟩ rfl hl.1 rfl (Nat.le_of_ble_eq_true rfl) dX3_tops_44 (by decide) (fun H locs hP hD hS => ?_)
  have hP : va_P D vwCl [oK q t b b2 pp i1 i2 kept tn tw td tr, oB b n lvA aiA laA ac woA drA, oP pp pl pt pa mo dn ea bn stA (remK k), aI cI pl 6 lv, aI cI pt 6 te, aI cI pa 6 la, aI cI stA 220 (remS lv te la mo dn ea bn st k)] H := hP
  have hD : va_D A [oK q t b b2 pp i1 i2 kept tn tw td tr, oB b n lvA aiA laA ac woA drA, oP pp pl pt pa mo dn ea bn stA (remK k), aI cI pl 6 lv, aI cI pt 6 te, aI cI pa 6 la, aI cI stA 220 (remS lv te la mo dn ea bn st k)] := hD
  show W _ _ _ _ _ _ _ _ _ _ _ _ _ _ _ (F0 m 47 ls [])
  refine lv_aload_n hx hb dX3_tops_47 rfl (lv_at hl 0 rfl) ?_
  refine z_get (k := 3) zcX3 hC hK hP 0 rfl (by decide) lF_X3_29 rfl dX3_tops_48 ?_
  refine z_get (k := 0) zcX0 hC hK hP 2 rfl (by decide) lF_X3_79 rfl dX3_tops_51 ?_
  refine lv_iload_n hx hb dX3_tops_54 rfl (lv_at hl 1 rfl) ?_
  refine lv_dup2_11 hx hb dX3_tops_55 rfl rfl ?_
  refine z_ald hC hK hP 3 rfl (by omega) (by decide) dX3_tops_56 ?_
  have b56 := hlv d
  refine lv_iload_n hx hb dX3_tops_57 rfl (lv_at hl 2 rfl) ?_
  refine zi_add hC dX3_tops_58 ?_
  refine z_ast hC hK hP hD hS 3 rfl (by omega) (by decide) dX3_tops_59 (fun H locs hP hD hS => ?_)
  have hP : va_P D vwCl [oK q t b b2 pp i1 i2 kept tn tw td tr, oB b n lvA aiA laA ac woA drA, oP pp pl pt pa mo dn ea bn stA (remK k), aI cI pl 6 (updN lv d ((lv d) + m9)), aI cI pt 6 te, aI cI pa 6 la, aI cI stA 220 (remS lv te la mo dn ea bn st k)] H := hP
  have hD : va_D A [oK q t b b2 pp i1 i2 kept tn tw td tr, oB b n lvA aiA laA ac woA drA, oP pp pl pt pa mo dn ea bn stA (remK k), aI cI pl 6 (updN lv d ((lv d) + m9)), aI cI pt 6 te, aI cI pa 6 la, aI cI stA 220 (remS lv te la mo dn ea bn st k)] := hD
  refine lv_aload_n hx hb dX3_tops_60 rfl (lv_at hl 0 rfl) ?_
  refine z_get (k := 3) zcX3 hC hK hP 0 rfl (by decide) lF_X3_29 rfl dX3_tops_61 ?_
  refine z_get (k := 1) zcX0 hC hK hP 2 rfl (by decide) lF_X3_85 rfl dX3_tops_64 ?_
  refine lv_iload_n hx hb dX3_tops_67 rfl (lv_at hl 1 rfl) ?_
  refine lv_dup2_11 hx hb dX3_tops_68 rfl rfl ?_
  refine z_ald hC hK hP 4 rfl (by omega) (by decide) dX3_tops_69 ?_
  refine lv_iload_n hx hb dX3_tops_70 rfl (lv_at hl 2 rfl) ?_
  refine zi_add hC dX3_tops_71 ?_
  refine z_ast hC hK hP hD hS 4 rfl (by omega) (by decide) dX3_tops_72 (fun H locs hP hD hS => ?_)
  have hP : va_P D vwCl [oK q t b b2 pp i1 i2 kept tn tw td tr, oB b n lvA aiA laA ac woA drA, oP pp pl pt pa mo dn ea bn stA (remK k), aI cI pl 6 (updN lv d ((lv d) + m9)), aI cI pt 6 (updN te d ((te d) + m9)), aI cI pa 6 la, aI cI stA 220 (remS lv te la mo dn ea bn st k)] H := hP
  have hD : va_D A [oK q t b b2 pp i1 i2 kept tn tw td tr, oB b n lvA aiA laA ac woA drA, oP pp pl pt pa mo dn ea bn stA (remK k), aI cI pl 6 (updN lv d ((lv d) + m9)), aI cI pt 6 (updN te d ((te d) + m9)), aI cI pa 6 la, aI cI stA 220 (remS lv te la mo dn ea bn st k)] := hD
  refine lv_aload_n hx hb dX3_tops_73 rfl (lv_at hl 0 rfl) ?_
  refine z_get (k := 3) zcX3 hC hK hP 0 rfl (by decide) lF_X3_29 rfl dX3_tops_74 ?_
  refine z_get (k := 0) zcX0 hC hK hP 2 rfl (by decide) lF_X3_79 rfl dX3_tops_77 ?_
  refine lv_iload_n hx hb dX3_tops_80 rfl (lv_at hl 1 rfl) ?_
  refine z_ald hC hK hP 3 rfl (by omega) (by decide) dX3_tops_81 ?_
  exact zw_i hC hr hlk hA h0 hP hS (by rw [updN_s]) dX3_tops_82
set_option maxHeartbeats 1000000 in
set_option maxRecDepth 100000 in
theorem c_X3_labels_badD {l : Launch} {D : va_G} {cI cZ cB cR : ClassId} {q t b b2 pp i1 i2 kept tn tw td : Nat} {tr : Int64} {n lvA aiA laA ac woA drA : Nat} {x w : Int32} (hn : n ≤ 6) (hbad : ¬ vp_in x n) : mR l yX3_labels cX3_labels 6 (some .int) 1 21 D cI cZ cB cR [oK q t b b2 pp i1 i2 kept tn tw td tr, oB b n lvA aiA laA ac woA drA] [.ref q, .int x, .int w] (some (.int (-1))) := by
  refine mR_of rfl (Nat.le_of_ble_eq_true rfl) ?_
  intro p e s m args below meth c hC hr hlk hK hP ls hl
  have hl : lv_has ls 6 [(0, .ref q), (1, .int x), (2, .int w)] := hl
  obtain ⟨hx, hb, hml, hown, hts⟩ := id hC
  refine lv_aload_n hx hb dX3_labels_0 rfl (lv_at hl 0 rfl) ?_
  refine lv_iload_n hx hb dX3_labels_1 rfl (lv_at hl 1 rfl) ?_
  refine zRV (As := [.int x]) (b := q) (rest := []) hC (c_X3_isDecanter (l := l) (g := false) (hn := by omega) (hg := ⟨fun h => (by cases h), fun h => absurd h hbad⟩)) lM_X3_76 vM_X3_isDecanter (by decide) hK hP [0, 1] rfl ⟨rfl, rfl, rfl⟩ rfl hl.1 rfl (Nat.le_of_ble_eq_true rfl) dX3_labels_2 (by decide) ?_
  show W _ _ _ _ _ _ _ _ _ _ _ _ _ _ _ (F0 m 5 ls [.int (bI false)])
  refine zb_eq (tgt := 21) hC dX3_labels_5 (by decide) (fun c5 => ?_) (fun c5 => by exfalso; cases c5)
  refine lv_iconst (v := (-1)) hx hb dX3_labels_21 (by decide) ?_
  exact zr_i hC hr hlk (by first | rfl | omega) dX3_labels_22
set_option maxHeartbeats 1000000 in
set_option maxRecDepth 100000 in
theorem c_X3_labels_badE {l : Launch} {D : va_G} {cI cZ cB cR : ClassId} {q t b b2 pp i1 i2 kept tn tw td : Nat} {tr : Int64} {n lvA aiA laA ac woA drA : Nat} {d : Nat} {w : Int32} (hn : n ≤ 6) (hd : d < n) (hbad : ¬ vp_in w n) : mR l yX3_labels cX3_labels 6 (some .int) 1 21 D cI cZ cB cR [oK q t b b2 pp i1 i2 kept tn tw td tr, oB b n lvA aiA laA ac woA drA] [.ref q, .int (nI d), .int w] (some (.int (-1))) := by
  refine mR_of rfl (Nat.le_of_ble_eq_true rfl) ?_
  intro p e s m args below meth c hC hr hlk hK hP ls hl
  have hl : lv_has ls 6 [(0, .ref q), (1, .int (nI d)), (2, .int w)] := hl
  obtain ⟨hx, hb, hml, hown, hts⟩ := id hC
  refine lv_aload_n hx hb dX3_labels_0 rfl (lv_at hl 0 rfl) ?_
  refine lv_iload_n hx hb dX3_labels_1 rfl (lv_at hl 1 rfl) ?_
  refine zRV (As := [.int (nI d)]) (b := q) (rest := []) hC (c_X3_isDecanter (l := l) (g := true) (hn := by omega) (hg := ⟨fun _ => vp_in_nI (by omega) (by omega), fun _ => rfl⟩)) lM_X3_76 vM_X3_isDecanter (by decide) hK hP [0, 1] rfl ⟨rfl, rfl, rfl⟩ rfl hl.1 rfl (Nat.le_of_ble_eq_true rfl) dX3_labels_2 (by decide) ?_
  show W _ _ _ _ _ _ _ _ _ _ _ _ _ _ _ (F0 m 5 ls [.int (bI true)])
  refine zb_eq (tgt := 21) hC dX3_labels_5 (by decide) (fun c5 => by exfalso; cases c5) (fun c5 => ?_)
  refine lv_aload_n hx hb dX3_labels_8 rfl (lv_at hl 0 rfl) ?_
  refine lv_iload_n hx hb dX3_labels_9 rfl (lv_at hl 2 rfl) ?_
  refine zRV (As := [.int w]) (b := q) (rest := []) hC (c_X3_isDecanter (l := l) (g := false) (hn := by omega) (hg := ⟨fun h => (by cases h), fun h => absurd h hbad⟩)) lM_X3_76 vM_X3_isDecanter (by decide) hK hP [0, 1] rfl ⟨rfl, rfl, rfl⟩ rfl hl.1 rfl (Nat.le_of_ble_eq_true rfl) dX3_labels_10 (by decide) ?_
  show W _ _ _ _ _ _ _ _ _ _ _ _ _ _ _ (F0 m 13 ls [.int (bI false)])
  refine zb_eq (tgt := 21) hC dX3_labels_13 (by decide) (fun c13 => ?_) (fun c13 => by exfalso; cases c13)
  refine lv_iconst (v := (-1)) hx hb dX3_labels_21 (by decide) ?_
  exact zr_i hC hr hlk (by first | rfl | omega) dX3_labels_22
set_option maxHeartbeats 1000000 in
set_option maxRecDepth 100000 in
theorem c_X3_labels_same {l : Launch} {D : va_G} {cI cZ cB cR : ClassId} {q t b b2 pp i1 i2 kept tn tw td : Nat} {tr : Int64} {n lvA aiA laA ac woA drA : Nat} {d : Nat} (hn : n ≤ 6) (hd : d < n)  : mR l yX3_labels cX3_labels 6 (some .int) 1 21 D cI cZ cB cR [oK q t b b2 pp i1 i2 kept tn tw td tr, oB b n lvA aiA laA ac woA drA] [.ref q, .int (nI d), .int (nI d)] (some (.int (-1))) := by
  refine mR_of rfl (Nat.le_of_ble_eq_true rfl) ?_
  intro p e s m args below meth c hC hr hlk hK hP ls hl
  have hl : lv_has ls 6 [(0, .ref q), (1, .int (nI d)), (2, .int (nI d))] := hl
  obtain ⟨hx, hb, hml, hown, hts⟩ := id hC
  refine lv_aload_n hx hb dX3_labels_0 rfl (lv_at hl 0 rfl) ?_
  refine lv_iload_n hx hb dX3_labels_1 rfl (lv_at hl 1 rfl) ?_
  refine zRV (As := [.int (nI d)]) (b := q) (rest := []) hC (c_X3_isDecanter (l := l) (g := true) (hn := by omega) (hg := ⟨fun _ => vp_in_nI (by omega) (by omega), fun _ => rfl⟩)) lM_X3_76 vM_X3_isDecanter (by decide) hK hP [0, 1] rfl ⟨rfl, rfl, rfl⟩ rfl hl.1 rfl (Nat.le_of_ble_eq_true rfl) dX3_labels_2 (by decide) ?_
  show W _ _ _ _ _ _ _ _ _ _ _ _ _ _ _ (F0 m 5 ls [.int (bI true)])
  refine zb_eq (tgt := 21) hC dX3_labels_5 (by decide) (fun c5 => by exfalso; cases c5) (fun c5 => ?_)
  refine lv_aload_n hx hb dX3_labels_8 rfl (lv_at hl 0 rfl) ?_
  refine lv_iload_n hx hb dX3_labels_9 rfl (lv_at hl 2 rfl) ?_
  refine zRV (As := [.int (nI d)]) (b := q) (rest := []) hC (c_X3_isDecanter (l := l) (g := true) (hn := by omega) (hg := ⟨fun _ => vp_in_nI (by omega) (by omega), fun _ => rfl⟩)) lM_X3_76 vM_X3_isDecanter (by decide) hK hP [0, 1] rfl ⟨rfl, rfl, rfl⟩ rfl hl.1 rfl (Nat.le_of_ble_eq_true rfl) dX3_labels_10 (by decide) ?_
  show W _ _ _ _ _ _ _ _ _ _ _ _ _ _ _ (F0 m 13 ls [.int (bI true)])
  refine zb_eq (tgt := 21) hC dX3_labels_13 (by decide) (fun c13 => by exfalso; cases c13) (fun c13 => ?_)
  refine lv_iload_n hx hb dX3_labels_16 rfl (lv_at hl 1 rfl) ?_
  refine lv_iload_n hx hb dX3_labels_17 rfl (lv_at hl 2 rfl) ?_
  refine zc_ne (tgt := 23) hC dX3_labels_18 (by decide) (by omega) (by omega) (fun c18 => by exfalso; exact c18 rfl) (fun c18 => ?_)
  refine lv_iconst (v := (-1)) hx hb dX3_labels_21 (by decide) ?_
  exact zr_i hC hr hlk (by first | rfl | omega) dX3_labels_22
set_option maxHeartbeats 1000000 in
set_option maxRecDepth 100000 in
theorem c_X3_labels {l : Launch} {D : va_G} {cI cZ cB cR : ClassId} {q t b b2 pp i1 i2 kept tn tw td : Nat} {tr : Int64} {n lvA aiA laA ac woA drA : Nat} {pl pt pa mo dn ea bn stA k : Nat} {lv : Nat → Nat} {te : Nat → Nat} {la : Nat → Nat} {st : Nat → Nat} {d e9 : Nat} (hn : n ≤ 6) (hd : d < n) (he : e9 < n) (hde : d ≠ e9) (hk : k ≤ 10) (hlaB : ∀ i, la i < 6) : mW l yX3_labels cX3_labels 6 (some .int) 2 61 D cI cZ cB cR [oK q t b b2 pp i1 i2 kept tn tw td tr, oB b n lvA aiA laA ac woA drA, oP pp pl pt pa mo dn ea bn stA k, aI cI pl 6 lv, aI cI pt 6 te, aI cI pa 6 la, aI cI stA 220 st] [oK q t b b2 pp i1 i2 kept tn tw td tr, oB b n lvA aiA laA ac woA drA, oP pp pl pt pa mo dn ea bn stA (remK k), aI cI pl 6 lv, aI cI pt 6 te, aI cI pa 6 (updN (updN la d (la e9)) e9 (la d)), aI cI stA 220 (remS lv te la mo dn ea bn st k)] [.ref q, .int (nI d), .int (nI e9)] (some (.int (nI (sm (fun i => if (updN (updN la d (la e9)) e9 (la d)) i = i then 1 else 0) n)))) := by
  refine mW_of rfl (Nat.le_of_ble_eq_true rfl) ?_
  intro p e s m args below meth c hC hr hlk hK A hA hD H0 h0 hP hS ls hl
  have hP : va_P D vwCl [oK q t b b2 pp i1 i2 kept tn tw td tr, oB b n lvA aiA laA ac woA drA, oP pp pl pt pa mo dn ea bn stA k, aI cI pl 6 lv, aI cI pt 6 te, aI cI pa 6 la, aI cI stA 220 st] H0 := hP
  have hl : lv_has ls 6 [(0, .ref q), (1, .int (nI d)), (2, .int (nI e9))] := hl
  obtain ⟨hx, hb, hml, hown, hts⟩ := id hC
  refine lv_aload_n hx hb dX3_labels_0 rfl (lv_at hl 0 rfl) ?_
  refine lv_iload_n hx hb dX3_labels_1 rfl (lv_at hl 1 rfl) ?_
  refine zRV (As := [.int (nI d)]) (b := q) (rest := []) hC (c_X3_isDecanter (l := l) (g := true) (hn := by omega) (hg := ⟨fun _ => vp_in_nI (by omega) (by omega), fun _ => rfl⟩)) lM_X3_76 vM_X3_isDecanter (by decide) hK hP [0, 1] rfl ⟨rfl, rfl, rfl⟩ rfl hl.1 rfl (Nat.le_of_ble_eq_true rfl) dX3_labels_2 (by decide) ?_
  show W _ _ _ _ _ _ _ _ _ _ _ _ _ _ _ (F0 m 5 ls [.int (bI true)])
  refine zb_eq (tgt := 21) hC dX3_labels_5 (by decide) (fun c5 => by exfalso; cases c5) (fun c5 => ?_)
  refine lv_aload_n hx hb dX3_labels_8 rfl (lv_at hl 0 rfl) ?_
  refine lv_iload_n hx hb dX3_labels_9 rfl (lv_at hl 2 rfl) ?_
  refine zRV (As := [.int (nI e9)]) (b := q) (rest := []) hC (c_X3_isDecanter (l := l) (g := true) (hn := by omega) (hg := ⟨fun _ => vp_in_nI (by omega) (by omega), fun _ => rfl⟩)) lM_X3_76 vM_X3_isDecanter (by decide) hK hP [0, 1] rfl ⟨rfl, rfl, rfl⟩ rfl hl.1 rfl (Nat.le_of_ble_eq_true rfl) dX3_labels_10 (by decide) ?_
  show W _ _ _ _ _ _ _ _ _ _ _ _ _ _ _ (F0 m 13 ls [.int (bI true)])
  refine zb_eq (tgt := 21) hC dX3_labels_13 (by decide) (fun c13 => by exfalso; cases c13) (fun c13 => ?_)
  refine lv_iload_n hx hb dX3_labels_16 rfl (lv_at hl 1 rfl) ?_
  refine lv_iload_n hx hb dX3_labels_17 rfl (lv_at hl 2 rfl) ?_
  refine zc_ne (tgt := 23) hC dX3_labels_18 (by decide) (by omega) (by omega) (fun c18 => ?_) (fun c18 => by exfalso; exact hde c18)
  refine lv_aload_n hx hb dX3_labels_23 rfl (lv_at hl 0 rfl) ?_
  refine z_get (k := 3) zcX3 hC hK hP 0 rfl (by decide) lF_X3_29 rfl dX3_labels_24 ?_
  refine zXVN (As := []) (b := pp) (rest := []) hC (c_X0_remembers (l := l) (hk := hk)) lM_X3_117 vM_X0_remembers (by decide) hK hP hD hS [2, 3, 4, 5, 6] [pp, pl, pt, pa, stA] rfl (by decide) rfl rfl ⟨rfl, rfl, rfl⟩ rfl hl.1 rfl (Nat.le_of_ble_eq_true rfl) dX3_labels_27 (by decide) (fun H locs hP hD hS => ?_)
  have hP : va_P D vwCl [oK q t b b2 pp i1 i2 kept tn tw td tr, oB b n lvA aiA laA ac woA drA, oP pp pl pt pa mo dn ea bn stA (remK k), aI cI pl 6 lv, aI cI pt 6 te, aI cI pa 6 la, aI cI stA 220 (remS lv te la mo dn ea bn st k)] H := hP
  have hD : va_D A [oK q t b b2 pp i1 i2 kept tn tw td tr, oB b n lvA aiA laA ac woA drA, oP pp pl pt pa mo dn ea bn stA (remK k), aI cI pl 6 lv, aI cI pt 6 te, aI cI pa 6 la, aI cI stA 220 (remS lv te la mo dn ea bn st k)] := hD
  show W _ _ _ _ _ _ _ _ _ _ _ _ _ _ _ (F0 m 30 ls [])
  refine lv_aload_n hx hb dX3_labels_30 rfl (lv_at hl 0 rfl) ?_
  refine z_get (k := 3) zcX3 hC hK hP 0 rfl (by decide) lF_X3_29 rfl dX3_labels_31 ?_
  refine z_get (k := 2) zcX0 hC hK hP 2 rfl (by decide) lF_X3_88 rfl dX3_labels_34 ?_
  refine lv_iload_n hx hb dX3_labels_37 rfl (lv_at hl 1 rfl) ?_
  refine z_ald hC hK hP 5 rfl (by omega) (by decide) dX3_labels_38 ?_
  refine lv_istore_n (lv' := [(3, .int (nI (la d))), (0, .ref q), (1, .int (nI d)), (2, .int (nI e9))]) hx hb dX3_labels_39 rfl hl (by decide) rfl (fun ls hl => ?_)
  refine lv_aload_n hx hb dX3_labels_40 rfl (lv_at hl 1 rfl) ?_
  refine z_get (k := 3) zcX3 hC hK hP 0 rfl (by decide) lF_X3_29 rfl dX3_labels_41 ?_
  refine z_get (k := 2) zcX0 hC hK hP 2 rfl (by decide) lF_X3_88 rfl dX3_labels_44 ?_
  refine lv_iload_n hx hb dX3_labels_47 rfl (lv_at hl 2 rfl) ?_
  refine lv_aload_n hx hb dX3_labels_48 rfl (lv_at hl 1 rfl) ?_
  refine z_get (k := 3) zcX3 hC hK hP 0 rfl (by decide) lF_X3_29 rfl dX3_labels_49 ?_
  refine z_get (k := 2) zcX0 hC hK hP 2 rfl (by decide) lF_X3_88 rfl dX3_labels_52 ?_
  refine lv_iload_n hx hb dX3_labels_55 rfl (lv_at hl 3 rfl) ?_
  refine z_ald hC hK hP 5 rfl (by omega) (by decide) dX3_labels_56 ?_
  refine z_ast hC hK hP hD hS 5 rfl (by omega) (by decide) dX3_labels_57 (fun H locs hP hD hS => ?_)
  have hP : va_P D vwCl [oK q t b b2 pp i1 i2 kept tn tw td tr, oB b n lvA aiA laA ac woA drA, oP pp pl pt pa mo dn ea bn stA (remK k), aI cI pl 6 lv, aI cI pt 6 te, aI cI pa 6 (updN la d (la e9)), aI cI stA 220 (remS lv te la mo dn ea bn st k)] H := hP
  have hD : va_D A [oK q t b b2 pp i1 i2 kept tn tw td tr, oB b n lvA aiA laA ac woA drA, oP pp pl pt pa mo dn ea bn stA (remK k), aI cI pl 6 lv, aI cI pt 6 te, aI cI pa 6 (updN la d (la e9)), aI cI stA 220 (remS lv te la mo dn ea bn st k)] := hD
  refine lv_aload_n hx hb dX3_labels_58 rfl (lv_at hl 1 rfl) ?_
  refine z_get (k := 3) zcX3 hC hK hP 0 rfl (by decide) lF_X3_29 rfl dX3_labels_59 ?_
  refine z_get (k := 2) zcX0 hC hK hP 2 rfl (by decide) lF_X3_88 rfl dX3_labels_62 ?_
  refine lv_iload_n hx hb dX3_labels_65 rfl (lv_at hl 3 rfl) ?_
  refine lv_iload_n hx hb dX3_labels_66 rfl (lv_at hl 0 rfl) ?_
  refine z_ast hC hK hP hD hS 5 rfl (by omega) (by decide) dX3_labels_67 (fun H locs hP hD hS => ?_)
  have hP : va_P D vwCl [oK q t b b2 pp i1 i2 kept tn tw td tr, oB b n lvA aiA laA ac woA drA, oP pp pl pt pa mo dn ea bn stA (remK k), aI cI pl 6 lv, aI cI pt 6 te, aI cI pa 6 (updN (updN la d (la e9)) e9 (la d)), aI cI stA 220 (remS lv te la mo dn ea bn st k)] H := hP
  have hD : va_D A [oK q t b b2 pp i1 i2 kept tn tw td tr, oB b n lvA aiA laA ac woA drA, oP pp pl pt pa mo dn ea bn stA (remK k), aI cI pl 6 lv, aI cI pt 6 te, aI cI pa 6 (updN (updN la d (la e9)) e9 (la d)), aI cI stA 220 (remS lv te la mo dn ea bn st k)] := hD
  refine lv_iconst (v := nI 0) hx hb dX3_labels_68 (by decide) ?_
  refine lv_istore (lv' := [(4, .int (nI 0)), (3, .int (nI (la d))), (0, .ref q), (1, .int (nI d)), (2, .int (nI e9))]) hx hb dX3_labels_69 hl (by decide) rfl (fun ls hl => ?_)
  refine lv_iconst (v := nI 0) hx hb dX3_labels_71 (by decide) ?_
  refine lv_istore (lv' := [(5, .int (nI 0)), (4, .int (nI 0)), (3, .int (nI (la d))), (0, .ref q), (1, .int (nI d)), (2, .int (nI e9))]) hx hb dX3_labels_72 hl (by decide) rfl (fun ls hl => ?_)
  have hL74 : ∀ (z74 : Nat) (i9 : Nat) (x9 : Nat), n - i9 = z74 → i9 ≤ n → x9 = sm (fun i => if (updN (updN la d (la e9)) e9 (la d)) i = i then 1 else 0) i9 → ∀ ls : Array Slot, lv_has ls 6 [(0, .ref q), (1, .int (nI d)), (2, .int (nI e9)), (4, .int (nI x9)), (5, .int (nI i9))] → W p l e { frames := 2, cells := 0, slots := 0, locals := 61 } s m args below meth c H locs 0 0 (MQ below (qW D [oK q t b b2 pp i1 i2 kept tn tw td tr, oB b n lvA aiA laA ac woA drA, oP pp pl pt pa mo dn ea bn stA k, aI cI pl 6 lv, aI cI pt 6 te, aI cI pa 6 la, aI cI stA 220 st] [oK q t b b2 pp i1 i2 kept tn tw td tr, oB b n lvA aiA laA ac woA drA, oP pp pl pt pa mo dn ea bn stA (remK k), aI cI pl 6 lv, aI cI pt 6 te, aI cI pa 6 (updN (updN la d (la e9)) e9 (la d)), aI cI stA 220 (remS lv te la mo dn ea bn st k)] (some (.int (nI (sm (fun i => if (updN (updN la d (la e9)) e9 (la d)) i = i then 1 else 0) n))))) args s 0 0 (zA [oK q t b b2 pp i1 i2 kept tn tw td tr, oB b n lvA aiA laA ac woA drA, oP pp pl pt pa mo dn ea bn stA k, aI cI pl 6 lv, aI cI pt 6 te, aI cI pa 6 la, aI cI stA 220 st])) (F0 m 74 ls []) := by
    intro z74
    induction z74 using Nat.strongRecOn with
    | _ z74 ih74 =>
    intro i9 x9 hz74 hi hx9 ls hl
    refine lv_iload hx hb dX3_labels_74 (lv_at hl 4 rfl) ?_
    refine lv_aload_n hx hb dX3_labels_76 rfl (lv_at hl 0 rfl) ?_
    refine z_get (k := 1) zcX3 hC hK hP 0 rfl (by decide) lF_X3_19 rfl dX3_labels_77 ?_
    refine z_get (k := 0) zcX1 hC hK hP 1 rfl (by decide) lF_X3_123 rfl dX3_labels_80 ?_
    refine zc_ge (tgt := 110) hC dX3_labels_83 (by decide) (by omega) (by omega) (fun c83 => ?_) (fun c83 => ?_)
    · skip
      refine lv_iload hx hb dX3_labels_110 (lv_at hl 3 rfl) ?_
      exact zw_i hC hr hlk hA h0 hP hS (by rw [hx9, show i9 = n by omega]) dX3_labels_112
    · skip
      refine lv_aload_n hx hb dX3_labels_86 rfl (lv_at hl 0 rfl) ?_
      refine z_get (k := 3) zcX3 hC hK hP 0 rfl (by decide) lF_X3_29 rfl dX3_labels_87 ?_
      refine z_get (k := 2) zcX0 hC hK hP 2 rfl (by decide) lF_X3_88 rfl dX3_labels_90 ?_
      refine lv_iload hx hb dX3_labels_93 (lv_at hl 4 rfl) ?_
      have b95 : (updN (updN la d (la e9)) e9 (la d)) i9 < 6 := by unfold updN; have h1 := hlaB d; have h2 := hlaB e9; have h3 := hlaB i9; split; exact h1; split; exact h2; exact h3
      refine z_ald hC hK hP 5 rfl (by omega) (by decide) dX3_labels_95 ?_
      refine lv_iload hx hb dX3_labels_96 (lv_at hl 4 rfl) ?_
      refine zc_ne (tgt := 104) hC dX3_labels_98 (by decide) (by omega) (by omega) (fun c98 => ?_) (fun c98 => ?_)
      · skip
        refine lv_iinc (v := nI (i9 + 1)) (lv' := [(5, .int (nI (i9 + 1))), (0, .ref q), (1, .int (nI d)), (2, .int (nI e9)), (4, .int (nI x9))]) hx hb dX3_labels_104 hl (k := 4) rfl (z_inc i9 1) (by decide) rfl (fun ls hl => ?_)
        refine lv_goto (tgt := 74) hx hb dX3_labels_107 (by decide) ?_
        exact ih74 (n - (i9 + 1)) (by omega) (i9 + 1) x9 rfl (by omega) (by rw [hx9, sm_s]; rw [if_neg c98, Nat.add_zero]) ls (lv_sub hl [1, 2, 3, 4, 0] rfl)
      · skip
        refine lv_iinc (v := nI (x9 + 1)) (lv' := [(4, .int (nI (x9 + 1))), (0, .ref q), (1, .int (nI d)), (2, .int (nI e9)), (5, .int (nI i9))]) hx hb dX3_labels_101 hl (k := 3) rfl (z_inc x9 1) (by decide) rfl (fun ls hl => ?_)
        refine lv_iinc (v := nI (i9 + 1)) (lv' := [(5, .int (nI (i9 + 1))), (4, .int (nI (x9 + 1))), (0, .ref q), (1, .int (nI d)), (2, .int (nI e9))]) hx hb dX3_labels_104 hl (k := 4) rfl (z_inc i9 1) (by decide) rfl (fun ls hl => ?_)
        refine lv_goto (tgt := 74) hx hb dX3_labels_107 (by decide) ?_
        exact ih74 (n - (i9 + 1)) (by omega) (i9 + 1) (x9 + 1) rfl (by omega) (by rw [hx9, sm_s]; rw [if_pos c98]) ls (lv_sub hl [2, 3, 4, 1, 0] rfl)
  exact hL74 _ 0 0 rfl (by omega) (by rfl) ls (lv_sub hl [3, 4, 5, 1, 0] rfl)
set_option maxHeartbeats 1000000 in
set_option maxRecDepth 100000 in
theorem c_X3_undo_state {l : Launch} {D : va_G} {cI cZ cB cR : ClassId} {q t b b2 pp i1 i2 kept tn tw td : Nat} {tr : Int64} {pl pt pa mo dn ea bn stA : Nat}  : mR l yX3_undo cX3_undo 1 (some .int) 2 61 D cI cZ cB cR [oK q t b b2 pp i1 i2 kept tn tw td tr, oP pp pl pt pa mo dn ea bn stA 0] [.ref q] (some (.int (-2))) := by
  refine mR_of rfl (Nat.le_of_ble_eq_true rfl) ?_
  intro p e s m args below meth c hC hr hlk hK hP ls hl
  have hl : lv_has ls 1 [(0, .ref q)] := hl
  obtain ⟨hx, hb, hml, hown, hts⟩ := id hC
  refine lv_aload_n hx hb dX3_undo_0 rfl (lv_at hl 0 rfl) ?_
  refine z_get (k := 3) zcX3 hC hK hP 0 rfl (by decide) lF_X3_29 rfl dX3_undo_1 ?_
  refine zRVN (As := []) (b := pp) (rest := []) hC (c_X0_stepsBack_0 (l := l) ) lM_X3_145 vM_X0_stepsBack (by decide) hK hP [1] rfl ⟨rfl, rfl, rfl⟩ rfl hl.1 rfl (Nat.le_of_ble_eq_true rfl) dX3_undo_4 (by decide) ?_
  show W _ _ _ _ _ _ _ _ _ _ _ _ _ _ _ (F0 m 7 ls [.int (bI false)])
  refine zb_eq (tgt := 20) hC dX3_undo_7 (by decide) (fun c7 => ?_) (fun c7 => by exfalso; cases c7)
  refine lv_bipush (v := (-2)) hx hb dX3_undo_20 (by decide) ?_
  exact zr_i hC hr hlk (by first | rfl | omega) dX3_undo_22
set_option maxHeartbeats 1000000 in
set_option maxRecDepth 100000 in
theorem c_X3_undo {l : Launch} {D : va_G} {cI cZ cB cR : ClassId} {q t b b2 pp i1 i2 kept tn tw td : Nat} {tr : Int64} {pl pt pa mo dn ea bn stA k : Nat} {lv : Nat → Nat} {te : Nat → Nat} {la : Nat → Nat} {st : Nat → Nat}  (hk : 0 < k) (hk9 : k ≤ 10) : mW l yX3_undo cX3_undo 1 (some .int) 2 61 D cI cZ cB cR [oK q t b b2 pp i1 i2 kept tn tw td tr, oP pp pl pt pa mo dn ea bn stA k, aI cI pl 6 lv, aI cI pt 6 te, aI cI pa 6 la, aI cI stA 220 st] [oK q t b b2 pp i1 i2 kept tn tw td tr, oP pp pl pt pa (st ((k - 1) * 22 + 18)) (st ((k - 1) * 22 + 18 + 1)) (st ((k - 1) * 22 + 18 + 2)) (st ((k - 1) * 22 + 18 + 3)) stA (k - 1), aI cI pl 6 (cpyN st lv ((k - 1) * 22) 0 6), aI cI pt 6 (cpyN st te ((k - 1) * 22 + 6) 0 6), aI cI pa 6 (cpyN st la ((k - 1) * 22 + 12) 0 6), aI cI stA 220 st] [.ref q] (some (.int (nI (k - 1)))) := by
  refine mW_of rfl (Nat.le_of_ble_eq_true rfl) ?_
  intro p e s m args below meth c hC hr hlk hK A hA hD H0 h0 hP hS ls hl
  have hP : va_P D vwCl [oK q t b b2 pp i1 i2 kept tn tw td tr, oP pp pl pt pa mo dn ea bn stA k, aI cI pl 6 lv, aI cI pt 6 te, aI cI pa 6 la, aI cI stA 220 st] H0 := hP
  have hl : lv_has ls 1 [(0, .ref q)] := hl
  obtain ⟨hx, hb, hml, hown, hts⟩ := id hC
  refine lv_aload_n hx hb dX3_undo_0 rfl (lv_at hl 0 rfl) ?_
  refine z_get (k := 3) zcX3 hC hK hP 0 rfl (by decide) lF_X3_29 rfl dX3_undo_1 ?_
  refine zXVN (As := []) (b := pp) (rest := []) hC (c_X0_stepsBack (l := l) (hk := hk) (hk9 := hk9)) lM_X3_145 vM_X0_stepsBack (by decide) hK hP hD hS [1, 2, 3, 4, 5] [pp, pl, pt, pa, stA] rfl (by decide) rfl rfl ⟨rfl, rfl, rfl⟩ rfl hl.1 rfl (Nat.le_of_ble_eq_true rfl) dX3_undo_4 (by decide) (fun H locs hP hD hS => ?_)
  have hP : va_P D vwCl [oK q t b b2 pp i1 i2 kept tn tw td tr, oP pp pl pt pa (st ((k - 1) * 22 + 18)) (st ((k - 1) * 22 + 18 + 1)) (st ((k - 1) * 22 + 18 + 2)) (st ((k - 1) * 22 + 18 + 3)) stA (k - 1), aI cI pl 6 (cpyN st lv ((k - 1) * 22) 0 6), aI cI pt 6 (cpyN st te ((k - 1) * 22 + 6) 0 6), aI cI pa 6 (cpyN st la ((k - 1) * 22 + 12) 0 6), aI cI stA 220 st] H := hP
  have hD : va_D A [oK q t b b2 pp i1 i2 kept tn tw td tr, oP pp pl pt pa (st ((k - 1) * 22 + 18)) (st ((k - 1) * 22 + 18 + 1)) (st ((k - 1) * 22 + 18 + 2)) (st ((k - 1) * 22 + 18 + 3)) stA (k - 1), aI cI pl 6 (cpyN st lv ((k - 1) * 22) 0 6), aI cI pt 6 (cpyN st te ((k - 1) * 22 + 6) 0 6), aI cI pa 6 (cpyN st la ((k - 1) * 22 + 12) 0 6), aI cI stA 220 st] := hD
  show W _ _ _ _ _ _ _ _ _ _ _ _ _ _ _ (F0 m 7 ls [.int (bI true)])
  refine zb_eq (tgt := 20) hC dX3_undo_7 (by decide) (fun c7 => by exfalso; cases c7) (fun c7 => ?_)
  refine lv_aload_n hx hb dX3_undo_10 rfl (lv_at hl 0 rfl) ?_
  refine z_get (k := 3) zcX3 hC hK hP 0 rfl (by decide) lF_X3_29 rfl dX3_undo_11 ?_
  refine z_get (k := 8) zcX0 hC hK hP 1 rfl (by decide) lF_X3_149 rfl dX3_undo_14 ?_
  refine lv_goto (tgt := 22) hx hb dX3_undo_17 (by decide) ?_
  exact zw_i hC hr hlk hA h0 hP hS (by first | rfl | omega) dX3_undo_22
