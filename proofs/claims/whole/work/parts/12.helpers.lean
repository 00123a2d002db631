set_option maxHeartbeats 1000000 in
set_option maxRecDepth 100000 in
theorem c_X3_isEnoughForAll {l : Launch} {D : va_G} {cI cZ cB cR : ClassId} {q t b b2 pp i1 i2 kept tn tw td : Nat} {tr : Int64} {n lvA aiA laA ac woA drA : Nat} {r : Nat → Nat} {dr : Nat → Nat → Nat} {pl pt pa mo dn ea bn stA k : Nat} {la : Nat → Nat} {lv : Nat → Nat} {st9 : Nat} {g : Bool} (hn : n ≤ 6) (hac : ac ≤ 5) (hla : ∀ i, i < n → la i < n) (hdr : ∀ i j, dr i j ≤ 9) (hlv : ∀ i, lv i ≤ 40) (hst : st9 < 2 ^ 31) (hg : g = true ↔ ∀ d, d < n → sm (fun i => if st9.testBit i then dr i (la d) else 0) ac ≤ lv d) : mR l yX3_isEnoughForAll cX3_isEnoughForAll 5 (some .boolean) 2 44 D cI cZ cB cR [oK q t b b2 pp i1 i2 kept tn tw td tr, oB b n lvA aiA laA ac woA drA, aR cR drA 5 r, aI cI (r 0) 6 (dr 0), aI cI (r 1) 6 (dr 1), aI cI (r 2) 6 (dr 2), aI cI (r 3) 6 (dr 3), aI cI (r 4) 6 (dr 4), oP pp pl pt pa mo dn ea bn stA k, aI cI pa 6 la, aI cI pl 6 lv] [.ref q, .int (nI st9)] (some (.int (bI g))) := by
  refine mR_of rfl (Nat.le_of_ble_eq_true rfl) ?_
  intro p e s m args below meth c hC hr hlk hK hP ls hl
  have hl : lv_has ls 5 [(0, .ref q), (1, .int (nI st9))] := hl
  obtain ⟨hx, hb, hml, hown, hts⟩ := id hC
  refine lv_iconst (v := nI 0) hx hb dX3_isEnoughForAll_0 (by decide) ?_
  refine lv_istore_n (lv' := [(2, .int (nI 0)), (0, .ref q), (1, .int (nI st9))]) hx hb dX3_isEnoughForAll_1 rfl hl (by decide) rfl (fun ls hl => ?_)
  have hL2 : ∀ (z2 : Nat) (d : Nat), n - d = z2 → d ≤ n → (∀ i, i < d → sm (fun j => if st9.testBit j then dr j (la i) else 0) ac ≤ lv i) → ∀ ls : Array Slot, lv_has ls 5 [(0, .ref q), (1, .int (nI st9)), (2, .int (nI d))] → W p l e { frames := 2, cells := 0, slots := 0, locals := 44 } s m args below meth c s.heap [] 0 0 (MQ below (qR (some (.int (bI g)))) args s 0 0 (fun _ => False)) (F0 m 2 ls []) := by
    intro z2
    induction z2 using Nat.strongRecOn with
    | _ z2 ih2 =>
    intro d hz2 hd hall ls hl
    refine lv_iload_n hx hb dX3_isEnoughForAll_2 rfl (lv_at hl 2 rfl) ?_
    refine lv_aload_n hx hb dX3_isEnoughForAll_3 rfl (lv_at hl 0 rfl) ?_
    refine z_get (k := 1) zcX3 hC hK hP 0 rfl (by decide) lF_X3_19 rfl dX3_isEnoughForAll_4 ?_
    refine z_get (k := 0) zcX1 hC hK hP 1 rfl (by decide) lF_X3_123 rfl dX3_isEnoughForAll_7 ?_
    refine zc_ge (tgt := 76) hC dX3_isEnoughForAll_10 (by decide) (by omega) (by omega) (fun c10 => ?_) (fun c10 => ?_)
    · skip
      refine lv_iconst (v := nI 1) hx hb dX3_isEnoughForAll_76 (by decide) ?_
      refine z_top (y := bI true) rfl ?_
      exact zr_z hC hr hlk (by exact (hg.mpr (fun i hi => hall i (by omega))).symm) dX3_isEnoughForAll_77
    · skip
      refine lv_iconst (v := nI 0) hx hb dX3_isEnoughForAll_13 (by decide) ?_
      refine lv_istore_n (lv' := [(3, .int (nI 0)), (0, .ref q), (1, .int (nI st9)), (2, .int (nI d))]) hx hb dX3_isEnoughForAll_14 rfl hl (by decide) rfl (fun ls hl => ?_)
      refine lv_iconst (v := nI 0) hx hb dX3_isEnoughForAll_15 (by decide) ?_
      refine lv_istore (lv' := [(4, .int (nI 0)), (3, .int (nI 0)), (0, .ref q), (1, .int (nI st9)), (2, .int (nI d))]) hx hb dX3_isEnoughForAll_16 hl (by decide) rfl (fun ls hl => ?_)
      have hL18 : ∀ (z18 : Nat) (a : Nat) (x : Nat), ac - a = z18 → a ≤ ac → x = sm (fun i => if st9.testBit i then dr i (la d) else 0) a → x ≤ 9 * a → ∀ ls : Array Slot, lv_has ls 5 [(0, .ref q), (1, .int (nI st9)), (2, .int (nI d)), (3, .int (nI x)), (4, .int (nI a))] → W p l e { frames := 2, cells := 0, slots := 0, locals := 44 } s m args below meth c s.heap [] 0 0 (MQ below (qR (some (.int (bI g)))) args s 0 0 (fun _ => False)) (F0 m 18 ls []) := by
        intro z18
        induction z18 using Nat.strongRecOn with
        | _ z18 ih18 =>
        intro a x hz18 ha hx9 hxb ls hl
        refine lv_iload hx hb dX3_isEnoughForAll_18 (lv_at hl 4 rfl) ?_
        refine lv_aload_n hx hb dX3_isEnoughForAll_20 rfl (lv_at hl 0 rfl) ?_
        refine z_get (k := 1) zcX3 hC hK hP 0 rfl (by decide) lF_X3_19 rfl dX3_isEnoughForAll_21 ?_
        refine z_get (k := 4) zcX1 hC hK hP 1 rfl (by decide) lF_X3_162 rfl dX3_isEnoughForAll_24 ?_
        refine zc_ge (tgt := 55) hC dX3_isEnoughForAll_27 (by decide) (by omega) (by omega) (fun c27 => ?_) (fun c27 => ?_)
        · skip
          have e27 : a = ac := by omega
          rw [e27] at hx9
          refine lv_iload_n hx hb dX3_isEnoughForAll_55 rfl (lv_at hl 3 rfl) ?_
          refine lv_aload_n hx hb dX3_isEnoughForAll_56 rfl (lv_at hl 0 rfl) ?_
          refine z_get (k := 3) zcX3 hC hK hP 0 rfl (by decide) lF_X3_29 rfl dX3_isEnoughForAll_57 ?_
          refine z_get (k := 0) zcX0 hC hK hP 8 rfl (by decide) lF_X3_79 rfl dX3_isEnoughForAll_60 ?_
          refine lv_iload_n hx hb dX3_isEnoughForAll_63 rfl (lv_at hl 2 rfl) ?_
          refine z_ald hC hK hP 10 rfl (by omega) (by decide) dX3_isEnoughForAll_64 ?_
          have b64 := hlv d
          refine zc_le (tgt := 70) hC dX3_isEnoughForAll_65 (by decide) (by omega) (by omega) (fun c65 => ?_) (fun c65 => ?_)
          · skip
            refine lv_iinc (v := nI (d + 1)) (lv' := [(2, .int (nI (d + 1))), (0, .ref q), (1, .int (nI st9)), (3, .int (nI x)), (4, .int (nI a))]) hx hb dX3_isEnoughForAll_70 hl (k := 2) rfl (z_inc d 1) (by decide) rfl (fun ls hl => ?_)
            refine lv_goto (tgt := 2) hx hb dX3_isEnoughForAll_73 (by decide) ?_
            exact ih2 (n - (d + 1)) (by omega) (d + 1) rfl (by omega) (by intro i hi; rcases Nat.lt_succ_iff_lt_or_eq.mp hi with h | h; exact hall i h; subst h; rw [hx9] at c65; exact c65) ls (lv_sub hl [1, 2, 0] rfl)
          · skip
            refine lv_iconst (v := nI 0) hx hb dX3_isEnoughForAll_68 (by decide) ?_
            refine z_top (y := bI false) rfl ?_
            exact zr_z hC hr hlk (by cases g with | false => rfl | true => exact absurd (hg.mp rfl d c10) (by rw [← hx9]; omega)) dX3_isEnoughForAll_69
        · skip
          refine lv_iload_n hx hb dX3_isEnoughForAll_30 rfl (lv_at hl 1 rfl) ?_
          refine lv_iload hx hb dX3_isEnoughForAll_31 (lv_at hl 4 rfl) ?_
          refine zRS (As := [.int (nI st9), .int (nI a)]) (rest := []) hC (c_X3_has (l := l) (b := st9) (i := a) (hb9 := by omega) (hi := by omega)) lM_X3_221 sM_X3_has (by decide) hK rfl hl.1 rfl (Nat.le_of_ble_eq_true rfl) dX3_isEnoughForAll_33 (by decide) ?_
          show W _ _ _ _ _ _ _ _ _ _ _ _ _ _ _ (F0 m 36 ls [.int (bI (st9.testBit a))])
          refine zb_eq (tgt := 49) hC dX3_isEnoughForAll_36 (by decide) (fun c36 => ?_) (fun c36 => ?_)
          · skip
            refine lv_iinc (v := nI (a + 1)) (lv' := [(4, .int (nI (a + 1))), (0, .ref q), (1, .int (nI st9)), (2, .int (nI d)), (3, .int (nI x))]) hx hb dX3_isEnoughForAll_49 hl (k := 4) rfl (z_inc a 1) (by decide) rfl (fun ls hl => ?_)
            refine lv_goto (tgt := 18) hx hb dX3_isEnoughForAll_52 (by decide) ?_
            exact ih18 (ac - (a + 1)) (by omega) (a + 1) x rfl (by omega) (by rw [hx9, sm_s]; simp [c36]) (by omega) ls (lv_sub hl [1, 2, 3, 4, 0] rfl)
          · skip
            have b36 := hdr a (la d)
            refine lv_iload_n hx hb dX3_isEnoughForAll_39 rfl (lv_at hl 3 rfl) ?_
            refine lv_aload_n hx hb dX3_isEnoughForAll_40 rfl (lv_at hl 0 rfl) ?_
            refine lv_iload_n hx hb dX3_isEnoughForAll_41 rfl (lv_at hl 2 rfl) ?_
            refine lv_iload hx hb dX3_isEnoughForAll_42 (lv_at hl 4 rfl) ?_
            refine zRV (As := [.int (nI d), .int (nI a)]) (b := q) (rest := [.int (nI x)]) hC (c_X3_dropsFrom (l := l) (hn := hn) (hac := hac) (ha := by omega) (hd := by omega) (hla := hla _ (by omega))) lM_X3_126 vM_X3_dropsFrom (by decide) hK hP [0, 1, 2, 3, 4, 5, 6, 7, 8, 9] rfl ⟨rfl, rfl, rfl⟩ rfl hl.1 rfl (Nat.le_of_ble_eq_true rfl) dX3_isEnoughForAll_44 (by decide) ?_
            show W _ _ _ _ _ _ _ _ _ _ _ _ _ _ _ (F0 m 47 ls [.int (nI (dr a (la d))), .int (nI x)])
            refine zi_add hC dX3_isEnoughForAll_47 ?_
            refine lv_istore_n (lv' := [(3, .int (nI (x + (dr a (la d))))), (0, .ref q), (1, .int (nI st9)), (2, .int (nI d)), (4, .int (nI a))]) hx hb dX3_isEnoughForAll_48 rfl hl (by decide) rfl (fun ls hl => ?_)
            refine lv_iinc (v := nI (a + 1)) (lv' := [(4, .int (nI (a + 1))), (3, .int (nI (x + (dr a (la d))))), (0, .ref q), (1, .int (nI st9)), (2, .int (nI d))]) hx hb dX3_isEnoughForAll_49 hl (k := 4) rfl (z_inc a 1) (by decide) rfl (fun ls hl => ?_)
            refine lv_goto (tgt := 18) hx hb dX3_isEnoughForAll_52 (by decide) ?_
            exact ih18 (ac - (a + 1)) (by omega) (a + 1) (x + (dr a (la d))) rfl (by omega) (by rw [hx9, sm_s]; simp [c36]) (by omega) ls (lv_sub hl [2, 3, 4, 1, 0] rfl)
      exact hL18 _ 0 0 rfl (by omega) (by rfl) (by omega) ls (lv_sub hl [2, 3, 4, 1, 0] rfl)
  exact hL2 _ 0 rfl (by omega) (by intro i hi; omega) ls (lv_sub hl [1, 2, 0] rfl)
set_option maxHeartbeats 1000000 in
set_option maxRecDepth 100000 in
theorem c_X3_isEnoughFor {l : Launch} {D : va_G} {cI cZ cB cR : ClassId} {q t b b2 pp i1 i2 kept tn tw td : Nat} {tr : Int64} {n lvA aiA laA ac woA drA : Nat} {r : Nat → Nat} {dr : Nat → Nat → Nat} {pl pt pa mo dn ea bn stA k : Nat} {la : Nat → Nat} {lv : Nat → Nat} {a : Nat} {g : Bool} (hn : n ≤ 6) (hac : ac ≤ 5) (hla : ∀ i, i < n → la i < n) (hdr : ∀ i j, dr i j ≤ 9) (hlv : ∀ i, lv i ≤ 40) (ha : a < ac) (hg : g = true ↔ ∀ d, d < n → dr a (la d) ≤ lv d) : mR l yX3_isEnoughFor cX3_isEnoughFor 2 (some .boolean) 3 68 D cI cZ cB cR [oK q t b b2 pp i1 i2 kept tn tw td tr, oB b n lvA aiA laA ac woA drA, aR cR drA 5 r, aI cI (r 0) 6 (dr 0), aI cI (r 1) 6 (dr 1), aI cI (r 2) 6 (dr 2), aI cI (r 3) 6 (dr 3), aI cI (r 4) 6 (dr 4), oP pp pl pt pa mo dn ea bn stA k, aI cI pa 6 la, aI cI pl 6 lv] [.ref q, .int (nI a)] (some (.int (bI g))) := by
  refine mR_of rfl (Nat.le_of_ble_eq_true rfl) ?_
  intro p e s m args below meth c hC hr hlk hK hP ls hl
  have hl : lv_has ls 2 [(0, .ref q), (1, .int (nI a))] := hl
  obtain ⟨hx, hb, hml, hown, hts⟩ := id hC
  refine lv_aload_n hx hb dX3_isEnoughFor_0 rfl (lv_at hl 0 rfl) ?_
  refine lv_iconst (v := nI 1) hx hb dX3_isEnoughFor_1 (by decide) ?_
  refine lv_iload_n hx hb dX3_isEnoughFor_2 rfl (lv_at hl 1 rfl) ?_
  refine zi_shl1 hC dX3_isEnoughFor_3 (by omega) ?_
  refine zRV (As := [.int (nI (2 ^ a))]) (b := q) (rest := []) hC (c_X3_isEnoughForAll (l := l) (g := g) (hn := hn) (hac := hac) (hla := hla) (hdr := hdr) (hlv := hlv) (hst := z_pow31 (by omega)) (hg := by rw [hg]; refine forall_congr' fun d => ⟨fun h hd => ?_, fun h hd => ?_⟩; rw [sm_one (a := a) ha (fun i _ hi => by rw [z_pow_bit]; simp [Ne.symm hi]), z_pow_bit]; simpa using h hd; have h9 := h hd; rw [sm_one (a := a) ha (fun i _ hi => by rw [z_pow_bit]; simp [Ne.symm hi]), z_pow_bit] at h9; simpa using h9)) lM_X3_168 vM_X3_isEnoughForAll (by decide) hK hP [0, 1, 2, 3, 4, 5, 6, 7, 8, 9, 10] rfl ⟨rfl, rfl, rfl⟩ rfl hl.1 rfl (Nat.le_of_ble_eq_true rfl) dX3_isEnoughFor_4 (by decide) ?_
  show W _ _ _ _ _ _ _ _ _ _ _ _ _ _ _ (F0 m 7 ls [.int (bI g)])
  exact zr_z hC hr hlk (by first | rfl | omega) dX3_isEnoughFor_7
set_option maxHeartbeats 1000000 in
set_option maxRecDepth 100000 in
theorem c_X3_isDone {l : Launch} {D : va_G} {cI cZ cB cR : ClassId} {q t b b2 pp i1 i2 kept tn tw td : Nat} {tr : Int64} {pl pt pa mo dn ea bn stA k : Nat} {a : Nat} (ha : a < 31) (hdn : dn < 2 ^ 31) : mR l yX3_isDone cX3_isDone 2 (some .boolean) 1 21 D cI cZ cB cR [oK q t b b2 pp i1 i2 kept tn tw td tr, oP pp pl pt pa mo dn ea bn stA k] [.ref q, .int (nI a)] (some (.int (bI (dn.testBit a)))) := by
  refine mR_of rfl (Nat.le_of_ble_eq_true rfl) ?_
  intro p e s m args below meth c hC hr hlk hK hP ls hl
  have hl : lv_has ls 2 [(0, .ref q), (1, .int (nI a))] := hl
  obtain ⟨hx, hb, hml, hown, hts⟩ := id hC
  refine lv_aload_n hx hb dX3_isDone_0 rfl (lv_at hl 0 rfl) ?_
  refine z_get (k := 3) zcX3 hC hK hP 0 rfl (by decide) lF_X3_29 rfl dX3_isDone_1 ?_
  refine z_get (k := 4) zcX0 hC hK hP 1 rfl (by decide) lF_X3_133 rfl dX3_isDone_4 ?_
  refine lv_iload_n hx hb dX3_isDone_7 rfl (lv_at hl 1 rfl) ?_
  refine zRS (As := [.int (nI dn), .int (nI a)]) (rest := []) hC (c_X3_has (l := l) (b := dn) (i := a) (hb9 := by omega) (hi := by omega)) lM_X3_221 sM_X3_has (by decide) hK rfl hl.1 rfl (Nat.le_of_ble_eq_true rfl) dX3_isDone_8 (by decide) ?_
  show W _ _ _ _ _ _ _ _ _ _ _ _ _ _ _ (F0 m 11 ls [.int (bI (dn.testBit a))])
  exact zr_z hC hr hlk (by first | rfl | omega) dX3_isDone_11
set_option maxHeartbeats 1000000 in
set_option maxRecDepth 100000 in
theorem c_X3_wouldGoWell {l : Launch} {D : va_G} {cI cZ cB cR : ClassId} {q t b b2 pp i1 i2 kept tn tw td : Nat} {tr : Int64} {n lvA aiA laA ac woA drA : Nat} {r : Nat → Nat} {dr : Nat → Nat → Nat} {pl pt pa mo dn ea bn stA k : Nat} {la : Nat → Nat} {te : Nat → Nat} {a : Nat} {g : Bool} (hn : n ≤ 6) (hac : ac ≤ 5) (hla : ∀ i, i < n → la i < n) (hdr : ∀ i j, dr i j ≤ 9) (hte : ∀ i, te i ≤ 40) (ha : a < ac) (hg : g = true ↔ ∀ d, d < n → dr a (la d) = 0 ∨ la d = d ∧ te d = 0) : mR l yX3_wouldGoWell cX3_wouldGoWell 3 (some .boolean) 2 44 D cI cZ cB cR [oK q t b b2 pp i1 i2 kept tn tw td tr, oB b n lvA aiA laA ac woA drA, aR cR drA 5 r, aI cI (r 0) 6 (dr 0), aI cI (r 1) 6 (dr 1), aI cI (r 2) 6 (dr 2), aI cI (r 3) 6 (dr 3), aI cI (r 4) 6 (dr 4), oP pp pl pt pa mo dn ea bn stA k, aI cI pa 6 la, aI cI pt 6 te] [.ref q, .int (nI a)] (some (.int (bI g))) := by
  refine mR_of rfl (Nat.le_of_ble_eq_true rfl) ?_
  intro p e s m args below meth c hC hr hlk hK hP ls hl
  have hl : lv_has ls 3 [(0, .ref q), (1, .int (nI a))] := hl
  obtain ⟨hx, hb, hml, hown, hts⟩ := id hC
  refine lv_iconst (v := nI 0) hx hb dX3_wouldGoWell_0 (by decide) ?_
  refine lv_istore_n (lv' := [(2, .int (nI 0)), (0, .ref q), (1, .int (nI a))]) hx hb dX3_wouldGoWell_1 rfl hl (by decide) rfl (fun ls hl => ?_)
  have hL2 : ∀ (z2 : Nat) (d : Nat), n - d = z2 → d ≤ n → (∀ i, i < d → dr a (la i) = 0 ∨ la i = i ∧ te i = 0) → ∀ ls : Array Slot, lv_has ls 3 [(0, .ref q), (1, .int (nI a)), (2, .int (nI d))] → W p l e { frames := 2, cells := 0, slots := 0, locals := 44 } s m args below meth c s.heap [] 0 0 (MQ below (qR (some (.int (bI g)))) args s 0 0 (fun _ => False)) (F0 m 2 ls []) := by
    intro z2
    induction z2 using Nat.strongRecOn with
    | _ z2 ih2 =>
    intro d hz2 hd hall ls hl
    refine lv_iload_n hx hb dX3_wouldGoWell_2 rfl (lv_at hl 2 rfl) ?_
    refine lv_aload_n hx hb dX3_wouldGoWell_3 rfl (lv_at hl 0 rfl) ?_
    refine z_get (k := 1) zcX3 hC hK hP 0 rfl (by decide) lF_X3_19 rfl dX3_wouldGoWell_4 ?_
    refine z_get (k := 0) zcX1 hC hK hP 1 rfl (by decide) lF_X3_123 rfl dX3_wouldGoWell_7 ?_
    refine zc_ge (tgt := 55) hC dX3_wouldGoWell_10 (by decide) (by omega) (by omega) (fun c10 => ?_) (fun c10 => ?_)
    · skip
      refine lv_iconst (v := nI 1) hx hb dX3_wouldGoWell_55 (by decide) ?_
      refine z_top (y := bI true) rfl ?_
      exact zr_z hC hr hlk (by exact (hg.mpr (fun i hi => hall i (by omega))).symm) dX3_wouldGoWell_56
    · skip
      refine lv_aload_n hx hb dX3_wouldGoWell_13 rfl (lv_at hl 0 rfl) ?_
      refine lv_iload_n hx hb dX3_wouldGoWell_14 rfl (lv_at hl 2 rfl) ?_
      refine lv_iload_n hx hb dX3_wouldGoWell_15 rfl (lv_at hl 1 rfl) ?_
      refine zRV (As := [.int (nI d), .int (nI a)]) (b := q) (rest := []) hC (c_X3_dropsFrom (l := l) (hn := hn) (hac := hac) (ha := by omega) (hd := by omega) (hla := hla _ (by omega))) lM_X3_126 vM_X3_dropsFrom (by decide) hK hP [0, 1, 2, 3, 4, 5, 6, 7, 8, 9] rfl ⟨rfl, rfl, rfl⟩ rfl hl.1 rfl (Nat.le_of_ble_eq_true rfl) dX3_wouldGoWell_16 (by decide) ?_
      show W _ _ _ _ _ _ _ _ _ _ _ _ _ _ _ (F0 m 19 ls [.int (nI (dr a (la d)))])
      have b19 := hdr a (la d)
      refine z0_le (tgt := 49) hC dX3_wouldGoWell_19 (by decide) (by omega) (fun c19 => ?_) (fun c19 => ?_)
      · skip
        refine lv_iinc (v := nI (d + 1)) (lv' := [(2, .int (nI (d + 1))), (0, .ref q), (1, .int (nI a))]) hx hb dX3_wouldGoWell_49 hl (k := 2) rfl (z_inc d 1) (by decide) rfl (fun ls hl => ?_)
        refine lv_goto (tgt := 2) hx hb dX3_wouldGoWell_52 (by decide) ?_
        exact ih2 (n - (d + 1)) (by omega) (d + 1) rfl (by omega) (by intro i hi; rcases Nat.lt_succ_iff_lt_or_eq.mp hi with h | h; exact hall i h; subst h; first | exact Or.inl c19 | exact Or.inr ⟨c32, c44⟩) ls (lv_sub hl [1, 2, 0] rfl)
      · skip
        refine lv_aload_n hx hb dX3_wouldGoWell_22 rfl (lv_at hl 0 rfl) ?_
        refine z_get (k := 3) zcX3 hC hK hP 0 rfl (by decide) lF_X3_29 rfl dX3_wouldGoWell_23 ?_
        refine z_get (k := 2) zcX0 hC hK hP 8 rfl (by decide) lF_X3_88 rfl dX3_wouldGoWell_26 ?_
        refine lv_iload_n hx hb dX3_wouldGoWell_29 rfl (lv_at hl 2 rfl) ?_
        refine z_ald hC hK hP 9 rfl (by omega) (by decide) dX3_wouldGoWell_30 ?_
        refine lv_iload_n hx hb dX3_wouldGoWell_31 rfl (lv_at hl 2 rfl) ?_
        have b32 := hla d c10
        refine zc_ne (tgt := 47) hC dX3_wouldGoWell_32 (by decide) (by omega) (by omega) (fun c32 => ?_) (fun c32 => ?_)
        · skip
          refine lv_iconst (v := nI 0) hx hb dX3_wouldGoWell_47 (by decide) ?_
          refine z_top (y := bI false) rfl ?_
          exact zr_z hC hr hlk (by cases g with | false => rfl | true => exact absurd (hg.mp rfl d c10) (by rintro (h | ⟨h, h2⟩) <;> omega)) dX3_wouldGoWell_48
        · skip
          refine lv_aload_n hx hb dX3_wouldGoWell_35 rfl (lv_at hl 0 rfl) ?_
          refine z_get (k := 3) zcX3 hC hK hP 0 rfl (by decide) lF_X3_29 rfl dX3_wouldGoWell_36 ?_
          refine z_get (k := 1) zcX0 hC hK hP 8 rfl (by decide) lF_X3_85 rfl dX3_wouldGoWell_39 ?_
          refine lv_iload_n hx hb dX3_wouldGoWell_42 rfl (lv_at hl 2 rfl) ?_
          refine z_ald hC hK hP 10 rfl (by omega) (by decide) dX3_wouldGoWell_43 ?_
          have b44 := hte d
          refine z0_le (tgt := 49) hC dX3_wouldGoWell_44 (by decide) (by omega) (fun c44 => ?_) (fun c44 => ?_)
          · skip
            refine lv_iinc (v := nI (d + 1)) (lv' := [(2, .int (nI (d + 1))), (0, .ref q), (1, .int (nI a))]) hx hb dX3_wouldGoWell_49 hl (k := 2) rfl (z_inc d 1) (by decide) rfl (fun ls hl => ?_)
            refine lv_goto (tgt := 2) hx hb dX3_wouldGoWell_52 (by decide) ?_
            exact ih2 (n - (d + 1)) (by omega) (d + 1) rfl (by omega) (by intro i hi; rcases Nat.lt_succ_iff_lt_or_eq.mp hi with h | h; exact hall i h; subst h; first | exact Or.inl c19 | exact Or.inr ⟨c32, c44⟩) ls (lv_sub hl [1, 2, 0] rfl)
          · skip
            refine lv_iconst (v := nI 0) hx hb dX3_wouldGoWell_47 (by decide) ?_
            refine z_top (y := bI false) rfl ?_
            exact zr_z hC hr hlk (by cases g with | false => rfl | true => exact absurd (hg.mp rfl d c10) (by rintro (h | ⟨h, h2⟩) <;> omega)) dX3_wouldGoWell_48
  exact hL2 _ 0 rfl (by omega) (by intro i hi; omega) ls (lv_sub hl [1, 2, 0] rfl)
set_option maxHeartbeats 1000000 in
set_option maxRecDepth 100000 in
theorem c_X3_actsThatCan {l : Launch} {D : va_G} {cI cZ cB cR : ClassId} {q t b b2 pp i1 i2 kept tn tw td : Nat} {tr : Int64} {n lvA aiA laA ac woA drA : Nat} {r : Nat → Nat} {dr : Nat → Nat → Nat} {pl pt pa mo dn ea bn stA k : Nat} {la : Nat → Nat} {lv : Nat → Nat} {E : Nat → Bool} (hn : n ≤ 6) (hac : ac ≤ 5) (hla : ∀ i, i < n → la i < n) (hdr : ∀ i j, dr i j ≤ 9) (hlv : ∀ i, lv i ≤ 40) (hE : ∀ a, a < ac → (E a = true ↔ ∀ d, d < n → dr a (la d) ≤ lv d)) (hdn : dn < 32)  : mR l yX3_actsThatCan cX3_actsThatCan 3 (some .int) 4 89 D cI cZ cB cR [oK q t b b2 pp i1 i2 kept tn tw td tr, oB b n lvA aiA laA ac woA drA, aR cR drA 5 r, aI cI (r 0) 6 (dr 0), aI cI (r 1) 6 (dr 1), aI cI (r 2) 6 (dr 2), aI cI (r 3) 6 (dr 3), aI cI (r 4) 6 (dr 4), oP pp pl pt pa mo dn ea bn stA k, aI cI pa 6 la, aI cI pl 6 lv] [.ref q] (some (.int (nI (orr (fun a => !dn.testBit a && E a) ac)))) := by
  refine mR_of rfl (Nat.le_of_ble_eq_true rfl) ?_
  intro p e s m args below meth c hC hr hlk hK hP ls hl
  have hl : lv_has ls 3 [(0, .ref q)] := hl
  obtain ⟨hx, hb, hml, hown, hts⟩ := id hC
  refine lv_iconst (v := nI 0) hx hb dX3_actsThatCan_0 (by decide) ?_
  refine lv_istore_n (lv' := [(1, .int (nI 0)), (0, .ref q)]) hx hb dX3_actsThatCan_1 rfl hl (by decide) rfl (fun ls hl => ?_)
  refine lv_iconst (v := nI 0) hx hb dX3_actsThatCan_2 (by decide) ?_
  refine lv_istore_n (lv' := [(2, .int (nI 0)), (1, .int (nI 0)), (0, .ref q)]) hx hb dX3_actsThatCan_3 rfl hl (by decide) rfl (fun ls hl => ?_)
  have hL4 : ∀ (z4 : Nat) (a : Nat) (x : Nat), ac - a = z4 → a ≤ ac → x = orr (fun a => !dn.testBit a && E a) a → ∀ ls : Array Slot, lv_has ls 3 [(0, .ref q), (1, .int (nI x)), (2, .int (nI a))] → W p l e { frames := 4, cells := 0, slots := 0, locals := 89 } s m args below meth c s.heap [] 0 0 (MQ below (qR (some (.int (nI (orr (fun a => !dn.testBit a && E a) ac))))) args s 0 0 (fun _ => False)) (F0 m 4 ls []) := by
    intro z4
    induction z4 using Nat.strongRecOn with
    | _ z4 ih4 =>
    intro a x hz4 ha hx9 ls hl
    refine lv_iload_n hx hb dX3_actsThatCan_4 rfl (lv_at hl 2 rfl) ?_
    refine lv_aload_n hx hb dX3_actsThatCan_5 rfl (lv_at hl 0 rfl) ?_
    refine z_get (k := 1) zcX3 hC hK hP 0 rfl (by decide) lF_X3_19 rfl dX3_actsThatCan_6 ?_
    refine z_get (k := 4) zcX1 hC hK hP 1 rfl (by decide) lF_X3_162 rfl dX3_actsThatCan_9 ?_
    refine zc_ge (tgt := 43) hC dX3_actsThatCan_12 (by decide) (by omega) (by omega) (fun c12 => ?_) (fun c12 => ?_)
    · skip
      refine lv_iload_n hx hb dX3_actsThatCan_43 rfl (lv_at hl 1 rfl) ?_
      exact zr_i hC hr hlk (by rw [hx9, show a = ac by omega]) dX3_actsThatCan_44
    · skip
      refine lv_aload_n hx hb dX3_actsThatCan_15 rfl (lv_at hl 0 rfl) ?_
      refine lv_iload_n hx hb dX3_actsThatCan_16 rfl (lv_at hl 2 rfl) ?_
      refine zRV (As := [.int (nI a)]) (b := q) (rest := []) hC (c_X3_isDone (l := l) (a := a) (ha := by omega) (hdn := by omega)) lM_X3_104 vM_X3_isDone (by decide) hK hP [0, 8] rfl ⟨rfl, rfl, rfl⟩ rfl hl.1 rfl (Nat.le_of_ble_eq_true rfl) dX3_actsThatCan_17 (by decide) ?_
      show W _ _ _ _ _ _ _ _ _ _ _ _ _ _ _ (F0 m 20 ls [.int (bI (dn.testBit a))])
      refine zb_ne (tgt := 37) hC dX3_actsThatCan_20 (by decide) (fun c20 => ?_) (fun c20 => ?_)
      · skip
        refine lv_iinc (v := nI (a + 1)) (lv' := [(2, .int (nI (a + 1))), (0, .ref q), (1, .int (nI x))]) hx hb dX3_actsThatCan_37 hl (k := 2) rfl (z_inc a 1) (by decide) rfl (fun ls hl => ?_)
        refine lv_goto (tgt := 4) hx hb dX3_actsThatCan_40 (by decide) ?_
        exact ih4 (ac - (a + 1)) (by omega) (a + 1) x rfl (by omega) (by rw [hx9, orr_s]; first | simp [c20, c28] | simp [c20]) ls (lv_sub hl [1, 2, 0] rfl)
      · skip
        refine lv_aload_n hx hb dX3_actsThatCan_23 rfl (lv_at hl 0 rfl) ?_
        refine lv_iload_n hx hb dX3_actsThatCan_24 rfl (lv_at hl 2 rfl) ?_
        refine zRV (As := [.int (nI a)]) (b := q) (rest := []) hC (c_X3_isEnoughFor (l := l) (g := E a) (hn := hn) (hac := hac) (hla := hla) (hdr := hdr) (hlv := hlv) (ha := by omega) (hg := hE _ (by omega))) lM_X3_114 vM_X3_isEnoughFor (by decide) hK hP [0, 1, 2, 3, 4, 5, 6, 7, 8, 9, 10] rfl ⟨rfl, rfl, rfl⟩ rfl hl.1 rfl (Nat.le_of_ble_eq_true rfl) dX3_actsThatCan_25 (by decide) ?_
        show W _ _ _ _ _ _ _ _ _ _ _ _ _ _ _ (F0 m 28 ls [.int (bI (E a))])
        refine zb_eq (tgt := 37) hC dX3_actsThatCan_28 (by decide) (fun c28 => ?_) (fun c28 => ?_)
        · skip
          refine lv_iinc (v := nI (a + 1)) (lv' := [(2, .int (nI (a + 1))), (0, .ref q), (1, .int (nI x))]) hx hb dX3_actsThatCan_37 hl (k := 2) rfl (z_inc a 1) (by decide) rfl (fun ls hl => ?_)
          refine lv_goto (tgt := 4) hx hb dX3_actsThatCan_40 (by decide) ?_
          exact ih4 (ac - (a + 1)) (by omega) (a + 1) x rfl (by omega) (by rw [hx9, orr_s]; first | simp [c20, c28] | simp [c20]) ls (lv_sub hl [1, 2, 0] rfl)
        · skip
          refine lv_iload_n hx hb dX3_actsThatCan_31 rfl (lv_at hl 1 rfl) ?_
          refine lv_iconst (v := nI 1) hx hb dX3_actsThatCan_32 (by decide) ?_
          refine lv_iload_n hx hb dX3_actsThatCan_33 rfl (lv_at hl 2 rfl) ?_
          refine zi_shl1 hC dX3_actsThatCan_34 (by omega) ?_
          refine zi_or hC dX3_actsThatCan_35 ?_
          refine lv_istore_n (lv' := [(1, .int (nI (x ||| (2 ^ a)))), (0, .ref q), (2, .int (nI a))]) hx hb dX3_actsThatCan_36 rfl hl (by decide) rfl (fun ls hl => ?_)
          refine lv_iinc (v := nI (a + 1)) (lv' := [(2, .int (nI (a + 1))), (1, .int (nI (x ||| (2 ^ a)))), (0, .ref q)]) hx hb dX3_actsThatCan_37 hl (k := 2) rfl (z_inc a 1) (by decide) rfl (fun ls hl => ?_)
          refine lv_goto (tgt := 4) hx hb dX3_actsThatCan_40 (by decide) ?_
          exact ih4 (ac - (a + 1)) (by omega) (a + 1) (x ||| (2 ^ a)) rfl (by omega) (by rw [hx9, orr_s]; first | simp [c20, c28] | simp [c20]) ls (lv_sub hl [2, 1, 0] rfl)
  exact hL4 _ 0 0 rfl (by omega) (by rfl) ls (lv_sub hl [2, 1, 0] rfl)
set_option maxHeartbeats 1000000 in
set_option maxRecDepth 100000 in
theorem c_X3_span {l : Launch} {D : va_G} {cI cZ cB cR : ClassId} {q t b b2 pp i1 i2 kept tn tw td : Nat} {tr : Int64} {n lvA aiA laA ac woA drA : Nat} {pl pt pa mo dn ea bn stA k : Nat} {lv : Nat → Nat} {ai : Nat → Nat} {d : Nat} (hn : n ≤ 6) (hd : d < n) (hlv : ∀ i, lv i ≤ 40) (hai : ∀ i, ai i ≤ 5) : mR l yX3_span cX3_span 4 (some .int) 0 0 D cI cZ cB cR [oK q t b b2 pp i1 i2 kept tn tw td tr, oB b n lvA aiA laA ac woA drA, aI cI aiA 6 ai, oP pp pl pt pa mo dn ea bn stA k, aI cI pl 6 lv] [.ref q, .int (nI d)] (some (.int (spanF (lv d) (ai d)))) := by
  refine mR_of rfl (Nat.le_of_ble_eq_true rfl) ?_
  intro p e s m args below meth c hC hr hlk hK hP ls hl
  have hl : lv_has ls 4 [(0, .ref q), (1, .int (nI d))] := hl
  obtain ⟨hx, hb, hml, hown, hts⟩ := id hC
  refine lv_aload_n hx hb dX3_span_0 rfl (lv_at hl 0 rfl) ?_
  refine z_get (k := 3) zcX3 hC hK hP 0 rfl (by decide) lF_X3_29 rfl dX3_span_1 ?_
  refine z_get (k := 0) zcX0 hC hK hP 3 rfl (by decide) lF_X3_79 rfl dX3_span_4 ?_
  refine lv_iload_n hx hb dX3_span_7 rfl (lv_at hl 1 rfl) ?_
  refine z_ald hC hK hP 4 rfl (by omega) (by decide) dX3_span_8 ?_
  have b8 := hlv d
  refine lv_istore_n (lv' := [(2, .int (nI (lv d))), (0, .ref q), (1, .int (nI d))]) hx hb dX3_span_9 rfl hl (by decide) rfl (fun ls hl => ?_)
  refine lv_aload_n hx hb dX3_span_10 rfl (lv_at hl 1 rfl) ?_
  refine z_get (k := 1) zcX3 hC hK hP 0 rfl (by decide) lF_X3_19 rfl dX3_span_11 ?_
  refine z_get (k := 2) zcX1 hC hK hP 1 rfl (by decide) lF_X3_82 rfl dX3_span_14 ?_
  refine lv_iload_n hx hb dX3_span_17 rfl (lv_at hl 2 rfl) ?_
  refine z_ald hC hK hP 2 rfl (by omega) (by decide) dX3_span_18 ?_
  have b18 := hai d
  refine lv_istore_n (lv' := [(3, .int (nI (ai d))), (2, .int (nI (lv d))), (0, .ref q), (1, .int (nI d))]) hx hb dX3_span_19 rfl hl (by decide) rfl (fun ls hl => ?_)
  refine lv_iload_n hx hb dX3_span_20 rfl (lv_at hl 1 rfl) ?_
  refine z0_ne (tgt := 26) hC dX3_span_21 (by decide) (by omega) (fun c21 => ?_) (fun c21 => ?_)
  · skip
    refine lv_iload_n hx hb dX3_span_26 rfl (lv_at hl 0 rfl) ?_
    refine z0_le (tgt := 40) hC dX3_span_27 (by decide) (by omega) (fun c27 => ?_) (fun c27 => ?_)
    · skip
      refine lv_bipush (v := (-9)) hx hb dX3_span_40 (by decide) ?_
      exact zr_i hC hr hlk (by unfold spanF; rw [if_neg (by omega)]; first | rw [if_neg (by omega)] | (rw [if_pos c27])) dX3_span_42
    · skip
      refine lv_iload_n hx hb dX3_span_30 rfl (lv_at hl 1 rfl) ?_
      refine lv_iload_n hx hb dX3_span_31 rfl (lv_at hl 0 rfl) ?_
      refine zi_add hC dX3_span_32 ?_
      refine lv_iconst (v := nI 1) hx hb dX3_span_33 (by decide) ?_
      refine zi_sub hC dX3_span_34 (by omega) ?_
      refine lv_iload_n hx hb dX3_span_35 rfl (lv_at hl 0 rfl) ?_
      refine zi_div hC dX3_span_36 (by omega) (by omega) (by omega) ?_
      refine lv_goto (tgt := 42) hx hb dX3_span_37 (by decide) ?_
      exact zr_i hC hr hlk (by unfold spanF; rw [if_neg (by omega)]; first | rw [if_neg (by omega)] | (rw [if_pos c27])) dX3_span_42
  · skip
    refine lv_iconst (v := nI 0) hx hb dX3_span_24 (by decide) ?_
    exact zr_i hC hr hlk (by unfold spanF; rw [if_pos c21]; rfl) dX3_span_25
set_option maxHeartbeats 1000000 in
set_option maxRecDepth 100000 in
theorem c_X3_lastMonth {l : Launch} {D : va_G} {cI cZ cB cR : ClassId} {q t b b2 pp i1 i2 kept tn tw td : Nat} {tr : Int64} {n lvA aiA laA ac woA drA : Nat} {r : Nat → Nat} {dr : Nat → Nat → Nat} {pl pt pa mo dn ea bn stA k : Nat} {la : Nat → Nat} {lv : Nat → Nat} {ai : Nat → Nat} {a : Nat} {E : Nat → Bool} (hn : n ≤ 6) (hac : ac ≤ 5) (hla : ∀ i, i < n → la i < n) (hdr : ∀ i j, dr i j ≤ 9) (hlv : ∀ i, lv i ≤ 40) (hai : ∀ i, ai i ≤ 5) (ha : a < ac) (hE : ∀ a, a < ac → (E a = true ↔ ∀ d, d < n → dr a (la d) ≤ lv d)) (hdn : dn < 32)  : mR l yX3_lastMonth cX3_lastMonth 6 (some .int) 4 89 D cI cZ cB cR [oK q t b b2 pp i1 i2 kept tn tw td tr, oB b n lvA aiA laA ac woA drA, aR cR drA 5 r, aI cI (r 0) 6 (dr 0), aI cI (r 1) 6 (dr 1), aI cI (r 2) 6 (dr 2), aI cI (r 3) 6 (dr 3), aI cI (r 4) 6 (dr 4), oP pp pl pt pa mo dn ea bn stA k, aI cI pa 6 la, aI cI pl 6 lv, aI cI aiA 6 ai] [.ref q, .int (nI a)] (some (.int (if dn.testBit a || !E a then -9 else nI (lmin lv ai (fun d => dr a (la d)) n)))) := by
  refine mR_of rfl (Nat.le_of_ble_eq_true rfl) ?_
  intro p e s m args below meth c hC hr hlk hK hP ls hl
  have hl : lv_has ls 6 [(0, .ref q), (1, .int (nI a))] := hl
  obtain ⟨hx, hb, hml, hown, hts⟩ := id hC
  refine lv_aload_n hx hb dX3_lastMonth_0 rfl (lv_at hl 0 rfl) ?_
  refine lv_iload_n hx hb dX3_lastMonth_1 rfl (lv_at hl 1 rfl) ?_
  refine zRV (As := [.int (nI a)]) (b := q) (rest := []) hC (c_X3_isDone (l := l) (a := a) (ha := by omega) (hdn := by omega)) lM_X3_104 vM_X3_isDone (by decide) hK hP [0, 8] rfl ⟨rfl, rfl, rfl⟩ rfl hl.1 rfl (Nat.le_of_ble_eq_true rfl) dX3_lastMonth_2 (by decide) ?_
  show W _ _ _ _ _ _ _ _ _ _ _ _ _ _ _ (F0 m 5 ls [.int (bI (dn.testBit a))])
  refine zb_ne (tgt := 16) hC dX3_lastMonth_5 (by decide) (fun c5 => ?_) (fun c5 => ?_)
  · skip
    refine lv_bipush (v := (-9)) hx hb dX3_lastMonth_16 (by decide) ?_
    exact zr_i hC hr hlk (by first | simp [c13] | simp [c5]) dX3_lastMonth_18
  · skip
    refine lv_aload_n hx hb dX3_lastMonth_8 rfl (lv_at hl 0 rfl) ?_
    refine lv_iload_n hx hb dX3_lastMonth_9 rfl (lv_at hl 1 rfl) ?_
    refine zRV (As := [.int (nI a)]) (b := q) (rest := []) hC (c_X3_isEnoughFor (l := l) (g := E a) (hn := hn) (hac := hac) (hla := hla) (hdr := hdr) (hlv := hlv) (ha := by omega) (hg := hE _ (by omega))) lM_X3_114 vM_X3_isEnoughFor (by decide) hK hP [0, 1, 2, 3, 4, 5, 6, 7, 8, 9, 10] rfl ⟨rfl, rfl, rfl⟩ rfl hl.1 rfl (Nat.le_of_ble_eq_true rfl) dX3_lastMonth_10 (by decide) ?_
    show W _ _ _ _ _ _ _ _ _ _ _ _ _ _ _ (F0 m 13 ls [.int (bI (E a))])
    refine zb_ne (tgt := 19) hC dX3_lastMonth_13 (by decide) (fun c13 => ?_) (fun c13 => ?_)
    · skip
      refine lv_bipush (v := nI 60) hx hb dX3_lastMonth_19 (by decide) ?_
      refine lv_istore_n (lv' := [(2, .int (nI 60)), (0, .ref q), (1, .int (nI a))]) hx hb dX3_lastMonth_21 rfl hl (by decide) rfl (fun ls hl => ?_)
      refine lv_iconst (v := nI 0) hx hb dX3_lastMonth_22 (by decide) ?_
      refine lv_istore_n (lv' := [(3, .int (nI 0)), (2, .int (nI 60)), (0, .ref q), (1, .int (nI a))]) hx hb dX3_lastMonth_23 rfl hl (by decide) rfl (fun ls hl => ?_)
      have hL24 : ∀ (z24 : Nat) (d : Nat) (x : Nat), n - d = z24 → d ≤ n → x = lmin lv ai (fun d => dr a (la d)) d → x ≤ 60 → ∀ ls : Array Slot, lv_has ls 6 [(0, .ref q), (1, .int (nI a)), (2, .int (nI x)), (3, .int (nI d))] → W p l e { frames := 4, cells := 0, slots := 0, locals := 89 } s m args below meth c s.heap [] 0 0 (MQ below (qR (some (.int (if dn.testBit a || !E a then -9 else nI (lmin lv ai (fun d => dr a (la d)) n))))) args s 0 0 (fun _ => False)) (F0 m 24 ls []) := by
        intro z24
        induction z24 using Nat.strongRecOn with
        | _ z24 ih24 =>
        intro d x hz24 hd hx9 hxb ls hl
        refine lv_iload_n hx hb dX3_lastMonth_24 rfl (lv_at hl 3 rfl) ?_
        refine lv_aload_n hx hb dX3_lastMonth_25 rfl (lv_at hl 0 rfl) ?_
        refine z_get (k := 1) zcX3 hC hK hP 0 rfl (by decide) lF_X3_19 rfl dX3_lastMonth_26 ?_
        refine z_get (k := 0) zcX1 hC hK hP 1 rfl (by decide) lF_X3_123 rfl dX3_lastMonth_29 ?_
        refine zc_ge (tgt := 90) hC dX3_lastMonth_32 (by decide) (by omega) (by omega) (fun c32 => ?_) (fun c32 => ?_)
        · skip
          refine lv_iload_n hx hb dX3_lastMonth_90 rfl (lv_at hl 2 rfl) ?_
          exact zr_i hC hr hlk (by rw [hx9, show d = n by omega]; simp [c5, c13]) dX3_lastMonth_91
        · skip
          refine lv_aload_n hx hb dX3_lastMonth_35 rfl (lv_at hl 0 rfl) ?_
          refine lv_iload_n hx hb dX3_lastMonth_36 rfl (lv_at hl 3 rfl) ?_
          refine lv_iload_n hx hb dX3_lastMonth_37 rfl (lv_at hl 1 rfl) ?_
          refine zRV (As := [.int (nI d), .int (nI a)]) (b := q) (rest := []) hC (c_X3_dropsFrom (l := l) (hn := hn) (hac := hac) (ha := by omega) (hd := by omega) (hla := hla _ (by omega))) lM_X3_126 vM_X3_dropsFrom (by decide) hK hP [0, 1, 2, 3, 4, 5, 6, 7, 8, 9] rfl ⟨rfl, rfl, rfl⟩ rfl hl.1 rfl (Nat.le_of_ble_eq_true rfl) dX3_lastMonth_38 (by decide) ?_
          show W _ _ _ _ _ _ _ _ _ _ _ _ _ _ _ (F0 m 41 ls [.int (nI (dr a (la d)))])
          refine lv_istore (lv' := [(4, .int (nI (dr a (la d)))), (0, .ref q), (1, .int (nI a)), (2, .int (nI x)), (3, .int (nI d))]) hx hb dX3_lastMonth_41 hl (by decide) rfl (fun ls hl => ?_)
          refine lv_aload_n hx hb dX3_lastMonth_43 rfl (lv_at hl 1 rfl) ?_
          refine z_get (k := 1) zcX3 hC hK hP 0 rfl (by decide) lF_X3_19 rfl dX3_lastMonth_44 ?_
          refine z_get (k := 2) zcX1 hC hK hP 1 rfl (by decide) lF_X3_82 rfl dX3_lastMonth_47 ?_
          refine lv_iload_n hx hb dX3_lastMonth_50 rfl (lv_at hl 4 rfl) ?_
          refine z_ald hC hK hP 11 rfl (by omega) (by decide) dX3_lastMonth_51 ?_
          have b51 := hai d
          refine lv_istore (lv' := [(5, .int (nI (ai d))), (4, .int (nI (dr a (la d)))), (0, .ref q), (1, .int (nI a)), (2, .int (nI x)), (3, .int (nI d))]) hx hb dX3_lastMonth_52 hl (by decide) rfl (fun ls hl => ?_)
          refine lv_iload hx hb dX3_lastMonth_54 (lv_at hl 1 rfl) ?_
          have b56 := hdr a (la d)
          refine z0_le (tgt := 84) hC dX3_lastMonth_56 (by decide) (by omega) (fun c56 => ?_) (fun c56 => ?_)
          · skip
            refine lv_iinc (v := nI (d + 1)) (lv' := [(3, .int (nI (d + 1))), (5, .int (nI (ai d))), (4, .int (nI (dr a (la d)))), (0, .ref q), (1, .int (nI a)), (2, .int (nI x))]) hx hb dX3_lastMonth_84 hl (k := 5) rfl (z_inc d 1) (by decide) rfl (fun ls hl => ?_)
            refine lv_goto (tgt := 24) hx hb dX3_lastMonth_87 (by decide) ?_
            exact ih24 (n - (d + 1)) (by omega) (d + 1) x rfl (by omega) (by rw [hx9]; first | exact (if_pos ⟨c56, c61⟩).symm | exact (if_neg (by rintro ⟨h1, h2⟩; have h1 : 0 < dr a (la d) := h1; omega)).symm) (by omega) ls (lv_sub hl [3, 4, 5, 0] rfl)
          · skip
            refine lv_iload hx hb dX3_lastMonth_59 (lv_at hl 0 rfl) ?_
            refine z0_le (tgt := 84) hC dX3_lastMonth_61 (by decide) (by omega) (fun c61 => ?_) (fun c61 => ?_)
            · skip
              refine lv_iinc (v := nI (d + 1)) (lv' := [(3, .int (nI (d + 1))), (5, .int (nI (ai d))), (4, .int (nI (dr a (la d)))), (0, .ref q), (1, .int (nI a)), (2, .int (nI x))]) hx hb dX3_lastMonth_84 hl (k := 5) rfl (z_inc d 1) (by decide) rfl (fun ls hl => ?_)
              refine lv_goto (tgt := 24) hx hb dX3_lastMonth_87 (by decide) ?_
              exact ih24 (n - (d + 1)) (by omega) (d + 1) x rfl (by omega) (by rw [hx9]; first | exact (if_pos ⟨c56, c61⟩).symm | exact (if_neg (by rintro ⟨h1, h2⟩; have h1 : 0 < dr a (la d) := h1; omega)).symm) (by omega) ls (lv_sub hl [3, 4, 5, 0] rfl)
            · skip
              refine lv_iload_n hx hb dX3_lastMonth_64 rfl (lv_at hl 4 rfl) ?_
              refine lv_aload_n hx hb dX3_lastMonth_65 rfl (lv_at hl 2 rfl) ?_
              refine z_get (k := 3) zcX3 hC hK hP 0 rfl (by decide) lF_X3_29 rfl dX3_lastMonth_66 ?_
              refine z_get (k := 0) zcX0 hC hK hP 8 rfl (by decide) lF_X3_79 rfl dX3_lastMonth_69 ?_
              refine lv_iload_n hx hb dX3_lastMonth_72 rfl (lv_at hl 5 rfl) ?_
              refine z_ald hC hK hP 10 rfl (by omega) (by decide) dX3_lastMonth_73 ?_
              have b73 := hlv d
              refine lv_iload hx hb dX3_lastMonth_74 (lv_at hl 1 rfl) ?_
              have b76 := (hE a ha).mp c13 d c32
              refine zi_sub hC dX3_lastMonth_76 (by omega) ?_
              refine lv_iload hx hb dX3_lastMonth_77 (lv_at hl 0 rfl) ?_
              refine zi_div hC dX3_lastMonth_79 (by omega) (by omega) (by omega) ?_
              refine va_mmin hx hb (hml.trans hl.1.symm) hown (hts _ lX_X3_225) (hts _ sX_min) (hts _ iX_Math) (hts _ kX_min) (Nat.le_of_ble_eq_true rfl) (Nat.le_of_ble_eq_true rfl) (Nat.le_of_ble_eq_true rfl) (Nat.le_of_ble_eq_true rfl) dX3_lastMonth_80 ?_
              have b83 := Nat.div_le_self (lv d - dr a (la d)) (ai d)
              refine z_top (show (if nI (((lv d) - (dr a (la d))) / (ai d)) < nI x then nI (((lv d) - (dr a (la d))) / (ai d)) else nI x) = nI (min x ((lv d - dr a (la d)) / ai d)) from by exact z_min (by omega) (by omega)) ?_
              refine lv_istore_n (lv' := [(2, .int (nI (min x ((lv d - dr a (la d)) / ai d)))), (5, .int (nI (ai d))), (4, .int (nI (dr a (la d)))), (0, .ref q), (1, .int (nI a)), (3, .int (nI d))]) hx hb dX3_lastMonth_83 rfl hl (by decide) rfl (fun ls hl => ?_)
              refine lv_iinc (v := nI (d + 1)) (lv' := [(3, .int (nI (d + 1))), (2, .int (nI (min x ((lv d - dr a (la d)) / ai d)))), (5, .int (nI (ai d))), (4, .int (nI (dr a (la d)))), (0, .ref q), (1, .int (nI a))]) hx hb dX3_lastMonth_84 hl (k := 5) rfl (z_inc d 1) (by decide) rfl (fun ls hl => ?_)
              refine lv_goto (tgt := 24) hx hb dX3_lastMonth_87 (by decide) ?_
              exact ih24 (n - (d + 1)) (by omega) (d + 1) (min x ((lv d - dr a (la d)) / ai d)) rfl (by omega) (by rw [hx9]; first | exact (if_pos ⟨c56, c61⟩).symm | exact (if_neg (by rintro ⟨h1, h2⟩; have h1 : 0 < dr a (la d) := h1; omega)).symm) (by omega) ls (lv_sub hl [4, 5, 1, 0] rfl)
      exact hL24 _ 0 60 rfl (by omega) (by rfl) (by omega) ls (lv_sub hl [2, 3, 1, 0] rfl)
    · skip
      refine lv_bipush (v := (-9)) hx hb dX3_lastMonth_16 (by decide) ?_
      exact zr_i hC hr hlk (by first | simp [c13] | simp [c5]) dX3_lastMonth_18
set_option maxHeartbeats 1000000 in
set_option maxRecDepth 100000 in
theorem c_X3_ringOf {l : Launch} {D : va_G} {cI cZ cB cR : ClassId} {q t b b2 pp i1 i2 kept tn tw td : Nat} {tr : Int64} {n lvA aiA laA ac woA drA : Nat} {pl pt pa mo dn ea bn stA k : Nat} {la : Nat → Nat} {d0 : Nat} (hn : n ≤ 6) (hla : ∀ i, i < n → la i < n) (hd : d0 < n) : mR l yX3_ringOf cX3_ringOf 5 (some .int) 1 21 D cI cZ cB cR [oK q t b b2 pp i1 i2 kept tn tw td tr, oB b n lvA aiA laA ac woA drA, oP pp pl pt pa mo dn ea bn stA k, aI cI pa 6 la] [.ref q, .int (nI d0)] (some (.int (nI (rg la n d0 0)))) := by
  refine mR_of rfl (Nat.le_of_ble_eq_true rfl) ?_
  intro p e s m args below meth c hC hr hlk hK hP ls hl
  have hl : lv_has ls 5 [(0, .ref q), (1, .int (nI d0))] := hl
  obtain ⟨hx, hb, hml, hown, hts⟩ := id hC
  refine lv_iconst (v := nI 0) hx hb dX3_ringOf_0 (by decide) ?_
  refine lv_istore_n (lv' := [(2, .int (nI 0)), (0, .ref q), (1, .int (nI d0))]) hx hb dX3_ringOf_1 rfl hl (by decide) rfl (fun ls hl => ?_)
  refine lv_iload_n hx hb dX3_ringOf_2 rfl (lv_at hl 2 rfl) ?_
  refine lv_istore_n (lv' := [(3, .int (nI d0)), (2, .int (nI 0)), (0, .ref q), (1, .int (nI d0))]) hx hb dX3_ringOf_3 rfl hl (by decide) rfl (fun ls hl => ?_)
  refine lv_iconst (v := nI 0) hx hb dX3_ringOf_4 (by decide) ?_
  refine lv_istore (lv' := [(4, .int (nI 0)), (3, .int (nI d0)), (2, .int (nI 0)), (0, .ref q), (1, .int (nI d0))]) hx hb dX3_ringOf_5 hl (by decide) rfl (fun ls hl => ?_)
  have hL7 : ∀ (z7 : Nat) (i : Nat) (e9 : Nat) (x : Nat), n - i = z7 → i ≤ n → e9 < n → rg la (n - i) e9 x = rg la n d0 0 → ∀ ls : Array Slot, lv_has ls 5 [(0, .ref q), (1, .int (nI d0)), (2, .int (nI x)), (3, .int (nI e9)), (4, .int (nI i))] → W p l e { frames := 1, cells := 0, slots := 0, locals := 21 } s m args below meth c s.heap [] 0 0 (MQ below (qR (some (.int (nI (rg la n d0 0))))) args s 0 0 (fun _ => False)) (F0 m 7 ls []) := by
    intro z7
    induction z7 using Nat.strongRecOn with
    | _ z7 ih7 =>
    intro i e9 x hz7 hi he hq9 ls hl
    refine lv_iload hx hb dX3_ringOf_7 (lv_at hl 4 rfl) ?_
    refine lv_aload_n hx hb dX3_ringOf_9 rfl (lv_at hl 0 rfl) ?_
    refine z_get (k := 1) zcX3 hC hK hP 0 rfl (by decide) lF_X3_19 rfl dX3_ringOf_10 ?_
    refine z_get (k := 0) zcX1 hC hK hP 1 rfl (by decide) lF_X3_123 rfl dX3_ringOf_13 ?_
    refine zc_ge (tgt := 49) hC dX3_ringOf_16 (by decide) (by omega) (by omega) (fun c16 => ?_) (fun c16 => ?_)
    · skip
      refine lv_iload_n hx hb dX3_ringOf_49 rfl (lv_at hl 2 rfl) ?_
      exact zr_i hC hr hlk (by rw [← hq9, show n - i = 0 by omega]; rfl) dX3_ringOf_50
    · skip
      refine lv_aload_n hx hb dX3_ringOf_19 rfl (lv_at hl 0 rfl) ?_
      refine lv_iload_n hx hb dX3_ringOf_20 rfl (lv_at hl 3 rfl) ?_
      refine zRV (As := [.int (nI e9)]) (b := q) (rest := []) hC (c_X3_isDecanter (l := l) (g := true) (hn := by omega) (hg := ⟨fun _ => vp_in_nI he (by omega), fun _ => rfl⟩)) lM_X3_76 vM_X3_isDecanter (by decide) hK hP [0, 1] rfl ⟨rfl, rfl, rfl⟩ rfl hl.1 rfl (Nat.le_of_ble_eq_true rfl) dX3_ringOf_21 (by decide) ?_
      show W _ _ _ _ _ _ _ _ _ _ _ _ _ _ _ (F0 m 24 ls [.int (bI true)])
      refine zb_eq (tgt := 49) hC dX3_ringOf_24 (by decide) (fun c24 => by exfalso; cases c24) (fun c24 => ?_)
      refine lv_iload_n hx hb dX3_ringOf_27 rfl (lv_at hl 2 rfl) ?_
      refine lv_iconst (v := nI 1) hx hb dX3_ringOf_28 (by decide) ?_
      refine lv_iload_n hx hb dX3_ringOf_29 rfl (lv_at hl 3 rfl) ?_
      refine zi_shl1 hC dX3_ringOf_30 (by omega) ?_
      refine zi_or hC dX3_ringOf_31 ?_
      refine lv_istore_n (lv' := [(2, .int (nI (x ||| (2 ^ e9)))), (0, .ref q), (1, .int (nI d0)), (3, .int (nI e9)), (4, .int (nI i))]) hx hb dX3_ringOf_32 rfl hl (by decide) rfl (fun ls hl => ?_)
      refine lv_aload_n hx hb dX3_ringOf_33 rfl (lv_at hl 1 rfl) ?_
      refine z_get (k := 3) zcX3 hC hK hP 0 rfl (by decide) lF_X3_29 rfl dX3_ringOf_34 ?_
      refine z_get (k := 2) zcX0 hC hK hP 2 rfl (by decide) lF_X3_88 rfl dX3_ringOf_37 ?_
      refine lv_iload_n hx hb dX3_ringOf_40 rfl (lv_at hl 3 rfl) ?_
      refine z_ald hC hK hP 3 rfl (by omega) (by decide) dX3_ringOf_41 ?_
      refine lv_istore_n (lv' := [(3, .int (nI (la e9))), (2, .int (nI (x ||| (2 ^ e9)))), (0, .ref q), (1, .int (nI d0)), (4, .int (nI i))]) hx hb dX3_ringOf_42 rfl hl (by decide) rfl (fun ls hl => ?_)
      refine lv_iinc (v := nI (i + 1)) (lv' := [(4, .int (nI (i + 1))), (3, .int (nI (la e9))), (2, .int (nI (x ||| (2 ^ e9)))), (0, .ref q), (1, .int (nI d0))]) hx hb dX3_ringOf_43 hl (k := 4) rfl (z_inc i 1) (by decide) rfl (fun ls hl => ?_)
      refine lv_goto (tgt := 7) hx hb dX3_ringOf_46 (by decide) ?_
      exact ih7 (n - (i + 1)) (by omega) (i + 1) (la e9) (x ||| (2 ^ e9)) rfl (by omega) (by exact hla _ he) (by rw [← hq9, show n - i = (n - (i + 1)) + 1 by omega]; rfl) ls (lv_sub hl [3, 4, 2, 1, 0] rfl)
  exact hL7 _ 0 d0 0 rfl (by omega) (by omega) (by rfl) ls (lv_sub hl [3, 4, 2, 1, 0] rfl)
set_option maxHeartbeats 1000000 in
set_option maxRecDepth 100000 in
theorem c_X3_fewestChanges {l : Launch} {D : va_G} {cI cZ cB cR : ClassId} {q t b b2 pp i1 i2 kept tn tw td : Nat} {tr : Int64} {n lvA aiA laA ac woA drA : Nat} {pl pt pa mo dn ea bn stA k : Nat} {la : Nat → Nat}  (hn : n ≤ 6) (hla : ∀ i, i < n → la i < n) (hrg : ∀ d, d < n → rg la n d 0 < 64) : mR l yX3_fewestChanges cX3_fewestChanges 4 (some .int) 2 45 D cI cZ cB cR [oK q t b b2 pp i1 i2 kept tn tw td tr, oB b n lvA aiA laA ac woA drA, oP pp pl pt pa mo dn ea bn stA k, aI cI pa 6 la] [.ref q] (some (.int (nI (fcS la n n).1))) := by
  refine mR_of rfl (Nat.le_of_ble_eq_true rfl) ?_
  intro p e s m args below meth c hC hr hlk hK hP ls hl
  have hl : lv_has ls 4 [(0, .ref q)] := hl
  obtain ⟨hx, hb, hml, hown, hts⟩ := id hC
  refine lv_aload_n hx hb dX3_fewestChanges_0 rfl (lv_at hl 0 rfl) ?_
  refine z_get (k := 1) zcX3 hC hK hP 0 rfl (by decide) lF_X3_19 rfl dX3_fewestChanges_1 ?_
  refine z_get (k := 0) zcX1 hC hK hP 1 rfl (by decide) lF_X3_123 rfl dX3_fewestChanges_4 ?_
  refine lv_istore_n (lv' := [(1, .int (nI n)), (0, .ref q)]) hx hb dX3_fewestChanges_7 rfl hl (by decide) rfl (fun ls hl => ?_)
  refine lv_iconst (v := nI 0) hx hb dX3_fewestChanges_8 (by decide) ?_
  refine lv_istore_n (lv' := [(2, .int (nI 0)), (1, .int (nI n)), (0, .ref q)]) hx hb dX3_fewestChanges_9 rfl hl (by decide) rfl (fun ls hl => ?_)
  refine lv_iconst (v := nI 0) hx hb dX3_fewestChanges_10 (by decide) ?_
  refine lv_istore_n (lv' := [(3, .int (nI 0)), (2, .int (nI 0)), (1, .int (nI n)), (0, .ref q)]) hx hb dX3_fewestChanges_11 rfl hl (by decide) rfl (fun ls hl => ?_)
  have hL12 : ∀ (z12 : Nat) (d : Nat) (x : Nat) (y : Nat), n - d = z12 → d ≤ n → (x, y) = fcS la n d → y < 64 → n - d ≤ x → ∀ ls : Array Slot, lv_has ls 4 [(0, .ref q), (1, .int (nI x)), (2, .int (nI y)), (3, .int (nI d))] → W p l e { frames := 2, cells := 0, slots := 0, locals := 45 } s m args below meth c s.heap [] 0 0 (MQ below (qR (some (.int (nI (fcS la n n).1)))) args s 0 0 (fun _ => False)) (F0 m 12 ls []) := by
    intro z12
    induction z12 using Nat.strongRecOn with
    | _ z12 ih12 =>
    intro d x y hz12 hd hxy hy hxn ls hl
    refine lv_iload_n hx hb dX3_fewestChanges_12 rfl (lv_at hl 3 rfl) ?_
    refine lv_aload_n hx hb dX3_fewestChanges_13 rfl (lv_at hl 0 rfl) ?_
    refine z_get (k := 1) zcX3 hC hK hP 0 rfl (by decide) lF_X3_19 rfl dX3_fewestChanges_14 ?_
    refine z_get (k := 0) zcX1 hC hK hP 1 rfl (by decide) lF_X3_123 rfl dX3_fewestChanges_17 ?_
    refine zc_ge (tgt := 48) hC dX3_fewestChanges_20 (by decide) (by omega) (by omega) (fun c20 => ?_) (fun c20 => ?_)
    · skip
      refine lv_iload_n hx hb dX3_fewestChanges_48 rfl (lv_at hl 1 rfl) ?_
      exact zr_i hC hr hlk (by have h9 : d = n := (by omega); rw [h9] at hxy; rw [← hxy]) dX3_fewestChanges_49
    · skip
      refine lv_iload_n hx hb dX3_fewestChanges_23 rfl (lv_at hl 2 rfl) ?_
      refine lv_iload_n hx hb dX3_fewestChanges_24 rfl (lv_at hl 3 rfl) ?_
      refine zRS (As := [.int (nI y), .int (nI d)]) (rest := []) hC (c_X3_has (l := l) (b := y) (i := d) (hb9 := by omega) (hi := by omega)) lM_X3_221 sM_X3_has (by decide) hK rfl hl.1 rfl (Nat.le_of_ble_eq_true rfl) dX3_fewestChanges_25 (by decide) ?_
      show W _ _ _ _ _ _ _ _ _ _ _ _ _ _ _ (F0 m 28 ls [.int (bI (y.testBit d))])
      refine zb_ne (tgt := 42) hC dX3_fewestChanges_28 (by decide) (fun c28 => ?_) (fun c28 => ?_)
      · skip
        refine lv_iinc (v := nI (d + 1)) (lv' := [(3, .int (nI (d + 1))), (0, .ref q), (1, .int (nI x)), (2, .int (nI y))]) hx hb dX3_fewestChanges_42 hl (k := 3) rfl (z_inc d 1) (by decide) rfl (fun ls hl => ?_)
        refine lv_goto (tgt := 12) hx hb dX3_fewestChanges_45 (by decide) ?_
        exact ih12 (n - (d + 1)) (by omega) (d + 1) x y rfl (by omega) (by unfold fcS; rw [← hxy]; first | exact (if_pos c28).symm | exact (if_neg (by rw [c28]; decide)).symm) (by first | omega | exact z_or64 hy (hrg d (by omega))) (by omega) ls (lv_sub hl [1, 2, 3, 0] rfl)
      · skip
        refine lv_iinc (v := nI (x - 1)) (lv' := [(1, .int (nI (x - 1))), (0, .ref q), (2, .int (nI y)), (3, .int (nI d))]) hx hb dX3_fewestChanges_31 hl (k := 1) rfl (z_dec1 (by omega)) (by decide) rfl (fun ls hl => ?_)
        refine lv_iload_n hx hb dX3_fewestChanges_34 rfl (lv_at hl 2 rfl) ?_
        refine lv_aload_n hx hb dX3_fewestChanges_35 rfl (lv_at hl 1 rfl) ?_
        refine lv_iload_n hx hb dX3_fewestChanges_36 rfl (lv_at hl 3 rfl) ?_
        refine zRV (As := [.int (nI d)]) (b := q) (rest := [.int (nI y)]) hC (c_X3_ringOf (l := l) (hn := hn) (hla := hla) (hd := by omega)) lM_X3_230 vM_X3_ringOf (by decide) hK hP [0, 1, 2, 3] rfl ⟨rfl, rfl, rfl⟩ rfl hl.1 rfl (Nat.le_of_ble_eq_true rfl) dX3_fewestChanges_37 (by decide) ?_
        show W _ _ _ _ _ _ _ _ _ _ _ _ _ _ _ (F0 m 40 ls [.int (nI (rg la n d 0)), .int (nI y)])
        refine zi_or hC dX3_fewestChanges_40 ?_
        refine lv_istore_n (lv' := [(2, .int (nI (y ||| (rg la n d 0)))), (1, .int (nI (x - 1))), (0, .ref q), (3, .int (nI d))]) hx hb dX3_fewestChanges_41 rfl hl (by decide) rfl (fun ls hl => ?_)
        refine lv_iinc (v := nI (d + 1)) (lv' := [(3, .int (nI (d + 1))), (2, .int (nI (y ||| (rg la n d 0)))), (1, .int (nI (x - 1))), (0, .ref q)]) hx hb dX3_fewestChanges_42 hl (k := 3) rfl (z_inc d 1) (by decide) rfl (fun ls hl => ?_)
        refine lv_goto (tgt := 12) hx hb dX3_fewestChanges_45 (by decide) ?_
        exact ih12 (n - (d + 1)) (by omega) (d + 1) (x - 1) (y ||| (rg la n d 0)) rfl (by omega) (by unfold fcS; rw [← hxy]; first | exact (if_pos c28).symm | exact (if_neg (by rw [c28]; decide)).symm) (by first | omega | exact z_or64 hy (hrg d (by omega))) (by omega) ls (lv_sub hl [3, 2, 1, 0] rfl)
  exact hL12 _ 0 n 0 rfl (by omega) (by rfl) (by omega) (by omega) ls (lv_sub hl [3, 2, 1, 0] rfl)
set_option maxHeartbeats 1000000 in
set_option maxRecDepth 100000 in
theorem c_X3_firstChange {l : Launch} {D : va_G} {cI cZ cB cR : ClassId} {q t b b2 pp i1 i2 kept tn tw td : Nat} {tr : Int64} {n lvA aiA laA ac woA drA : Nat} {pl pt pa mo dn ea bn stA k : Nat} {la : Nat → Nat}  (hn : n ≤ 6) (hla : ∀ i, i < n → la i < n)  : mR l yX3_firstChange cX3_firstChange 3 (some .int) 0 0 D cI cZ cB cR [oK q t b b2 pp i1 i2 kept tn tw td tr, oB b n lvA aiA laA ac woA drA, oP pp pl pt pa mo dn ea bn stA k, aI cI pa 6 la] [.ref q] (some (.int (oI (fou9 la n 0 n)))) := by
  refine mR_of rfl (Nat.le_of_ble_eq_true rfl) ?_
  intro p e s m args below meth c hC hr hlk hK hP ls hl
  have hl : lv_has ls 3 [(0, .ref q)] := hl
  obtain ⟨hx, hb, hml, hown, hts⟩ := id hC
  refine lv_iconst (v := nI 0) hx hb dX3_firstChange_0 (by decide) ?_
  refine lv_istore_n (lv' := [(1, .int (nI 0)), (0, .ref q)]) hx hb dX3_firstChange_1 rfl hl (by decide) rfl (fun ls hl => ?_)
  have hL2 : ∀ (z2 : Nat) (d : Nat), n - d = z2 → d ≤ n → fou9 la n d (n - d) = fou9 la n 0 n → ∀ ls : Array Slot, lv_has ls 3 [(0, .ref q), (1, .int (nI d))] → W p l e { frames := 0, cells := 0, slots := 0, locals := 0 } s m args below meth c s.heap [] 0 0 (MQ below (qR (some (.int (oI (fou9 la n 0 n))))) args s 0 0 (fun _ => False)) (F0 m 2 ls []) := by
    intro z2
    induction z2 using Nat.strongRecOn with
    | _ z2 ih2 =>
    intro d hz2 hd ho ls hl
    refine lv_iload_n hx hb dX3_firstChange_2 rfl (lv_at hl 1 rfl) ?_
    refine lv_aload_n hx hb dX3_firstChange_3 rfl (lv_at hl 0 rfl) ?_
    refine z_get (k := 1) zcX3 hC hK hP 0 rfl (by decide) lF_X3_19 rfl dX3_firstChange_4 ?_
    refine z_get (k := 0) zcX1 hC hK hP 1 rfl (by decide) lF_X3_123 rfl dX3_firstChange_7 ?_
    refine zc_ge (tgt := 73) hC dX3_firstChange_10 (by decide) (by omega) (by omega) (fun c10 => ?_) (fun c10 => ?_)
    · skip
      refine lv_bipush (v := (-9)) hx hb dX3_firstChange_73 (by decide) ?_
      exact zr_i hC hr hlk (by rw [← ho, show n - d = 0 by omega]; rfl) dX3_firstChange_75
    · skip
      refine lv_iload_n hx hb dX3_firstChange_13 rfl (lv_at hl 1 rfl) ?_
      refine lv_iconst (v := nI 1) hx hb dX3_firstChange_14 (by decide) ?_
      refine zi_add hC dX3_firstChange_15 ?_
      refine lv_istore_n (lv' := [(2, .int (nI (d + 1))), (0, .ref q), (1, .int (nI d))]) hx hb dX3_firstChange_16 rfl hl (by decide) rfl (fun ls hl => ?_)
      have hL17 : ∀ (z17 : Nat) (e9 : Nat), n - e9 = z17 → d + 1 ≤ e9 ∧ e9 ≤ n → fin9 la d e9 (n - e9) = fin9 la d (d + 1) (n - (d + 1)) → ∀ ls : Array Slot, lv_has ls 3 [(0, .ref q), (1, .int (nI d)), (2, .int (nI e9))] → W p l e { frames := 0, cells := 0, slots := 0, locals := 0 } s m args below meth c s.heap [] 0 0 (MQ below (qR (some (.int (oI (fou9 la n 0 n))))) args s 0 0 (fun _ => False)) (F0 m 17 ls []) := by
        intro z17
        induction z17 using Nat.strongRecOn with
        | _ z17 ih17 =>
        intro e9 hz17 he hi ls hl
        refine lv_iload_n hx hb dX3_firstChange_17 rfl (lv_at hl 2 rfl) ?_
        refine lv_aload_n hx hb dX3_firstChange_18 rfl (lv_at hl 0 rfl) ?_
        refine z_get (k := 1) zcX3 hC hK hP 0 rfl (by decide) lF_X3_19 rfl dX3_firstChange_19 ?_
        refine z_get (k := 0) zcX1 hC hK hP 1 rfl (by decide) lF_X3_123 rfl dX3_firstChange_22 ?_
        refine zc_ge (tgt := 67) hC dX3_firstChange_25 (by decide) (by omega) (by omega) (fun c25 => ?_) (fun c25 => ?_)
        · skip
          refine lv_iinc (v := nI (d + 1)) (lv' := [(1, .int (nI (d + 1))), (0, .ref q), (2, .int (nI e9))]) hx hb dX3_firstChange_67 hl (k := 1) rfl (z_inc d 1) (by decide) rfl (fun ls hl => ?_)
          refine lv_goto (tgt := 2) hx hb dX3_firstChange_70 (by decide) ?_
          exact ih2 (n - (d + 1)) (by omega) (d + 1) rfl (by omega) (by rw [← ho, show n - d = (n - (d + 1)) + 1 by omega]; show _ = (match fin9 la d (d + 1) (n - (d + 1)) with | some v => some v | none => fou9 la n (d + 1) (n - (d + 1))); rw [← hi, show n - e9 = 0 by omega]; rfl) ls (lv_sub hl [1, 0] rfl)
        · skip
          refine lv_aload_n hx hb dX3_firstChange_28 rfl (lv_at hl 0 rfl) ?_
          refine z_get (k := 3) zcX3 hC hK hP 0 rfl (by decide) lF_X3_29 rfl dX3_firstChange_29 ?_
          refine z_get (k := 2) zcX0 hC hK hP 2 rfl (by decide) lF_X3_88 rfl dX3_firstChange_32 ?_
          refine lv_iload_n hx hb dX3_firstChange_35 rfl (lv_at hl 1 rfl) ?_
          refine z_ald hC hK hP 3 rfl (by omega) (by decide) dX3_firstChange_36 ?_
          refine lv_iload_n hx hb dX3_firstChange_37 rfl (lv_at hl 2 rfl) ?_
          have b38 := hla d (by omega)
          refine zc_eq (tgt := 54) hC dX3_firstChange_38 (by decide) (by omega) (by omega) (fun c38 => ?_) (fun c38 => ?_)
          · skip
            refine lv_bipush (v := nI 10) hx hb dX3_firstChange_54 (by decide) ?_
            refine lv_iload_n hx hb dX3_firstChange_56 rfl (lv_at hl 1 rfl) ?_
            refine zi_mul hC dX3_firstChange_57 ?_
            refine lv_iload_n hx hb dX3_firstChange_58 rfl (lv_at hl 2 rfl) ?_
            refine zi_add hC dX3_firstChange_59 ?_
            exact zr_i hC hr hlk (by rw [← ho, show n - d = (n - (d + 1)) + 1 by omega]; show _ = oI (match fin9 la d (d + 1) (n - (d + 1)) with | some v => some v | none => fou9 la n (d + 1) (n - (d + 1))); rw [← hi, show n - e9 = (n - (e9 + 1)) + 1 by omega]; show _ = oI (match (if la d = e9 ∨ la e9 = d then some (10 * d + e9) else _) with | some v => some v | none => _); rw [if_pos (by first | exact Or.inl c38 | exact Or.inr c51)]; rfl) dX3_firstChange_60
          · skip
            refine lv_aload_n hx hb dX3_firstChange_41 rfl (lv_at hl 0 rfl) ?_
            refine z_get (k := 3) zcX3 hC hK hP 0 rfl (by decide) lF_X3_29 rfl dX3_firstChange_42 ?_
            refine z_get (k := 2) zcX0 hC hK hP 2 rfl (by decide) lF_X3_88 rfl dX3_firstChange_45 ?_
            refine lv_iload_n hx hb dX3_firstChange_48 rfl (lv_at hl 2 rfl) ?_
            refine z_ald hC hK hP 3 rfl (by omega) (by decide) dX3_firstChange_49 ?_
            refine lv_iload_n hx hb dX3_firstChange_50 rfl (lv_at hl 1 rfl) ?_
            have b51 := hla e9 (by omega)
            refine zc_ne (tgt := 61) hC dX3_firstChange_51 (by decide) (by omega) (by omega) (fun c51 => ?_) (fun c51 => ?_)
            · skip
              refine lv_iinc (v := nI (e9 + 1)) (lv' := [(2, .int (nI (e9 + 1))), (0, .ref q), (1, .int (nI d))]) hx hb dX3_firstChange_61 hl (k := 2) rfl (z_inc e9 1) (by decide) rfl (fun ls hl => ?_)
              refine lv_goto (tgt := 17) hx hb dX3_firstChange_64 (by decide) ?_
              exact ih17 (n - (e9 + 1)) (by omega) (e9 + 1) rfl (by omega) (by rw [← hi, show n - e9 = (n - (e9 + 1)) + 1 by omega]; exact (if_neg (by rintro (h | h); exact c38 h; exact c51 h)).symm) ls (lv_sub hl [1, 2, 0] rfl)
            · skip
              refine lv_bipush (v := nI 10) hx hb dX3_firstChange_54 (by decide) ?_
              refine lv_iload_n hx hb dX3_firstChange_56 rfl (lv_at hl 1 rfl) ?_
              refine zi_mul hC dX3_firstChange_57 ?_
              refine lv_iload_n hx hb dX3_firstChange_58 rfl (lv_at hl 2 rfl) ?_
              refine zi_add hC dX3_firstChange_59 ?_
              exact zr_i hC hr hlk (by rw [← ho, show n - d = (n - (d + 1)) + 1 by omega]; show _ = oI (match fin9 la d (d + 1) (n - (d + 1)) with | some v => some v | none => fou9 la n (d + 1) (n - (d + 1))); rw [← hi, show n - e9 = (n - (e9 + 1)) + 1 by omega]; show _ = oI (match (if la d = e9 ∨ la e9 = d then some (10 * d + e9) else _) with | some v => some v | none => _); rw [if_pos (by first | exact Or.inl c38 | exact Or.inr c51)]; rfl) dX3_firstChange_60
      exact hL17 _ (d + 1) rfl (by omega) (by rfl) ls (lv_sub hl [1, 2, 0] rfl)
  exact hL2 _ 0 rfl (by omega) (by rfl) ls (lv_sub hl [1, 0] rfl)
set_option maxHeartbeats 1000000 in
set_option maxRecDepth 100000 in
theorem c_X3_levelsTogether {l : Launch} {D : va_G} {cI cZ cB cR : ClassId} {q t b b2 pp i1 i2 kept tn tw td : Nat} {tr : Int64} {n lvA aiA laA ac woA drA : Nat} {pl pt pa mo dn ea bn stA k : Nat} {lv : Nat → Nat}  (hn : n ≤ 6) : mR l yX3_levelsTogether cX3_levelsTogether 3 (some .int) 0 0 D cI cZ cB cR [oK q t b b2 pp i1 i2 kept tn tw td tr, oB b n lvA aiA laA ac woA drA, oP pp pl pt pa mo dn ea bn stA k, aI cI pl 6 lv] [.ref q] (some (.int (nI (sm lv n)))) := by
  refine mR_of rfl (Nat.le_of_ble_eq_true rfl) ?_
  intro p e s m args below meth c hC hr hlk hK hP ls hl
  have hl : lv_has ls 3 [(0, .ref q)] := hl
  obtain ⟨hx, hb, hml, hown, hts⟩ := id hC
  refine lv_iconst (v := nI 0) hx hb dX3_levelsTogether_0 (by decide) ?_
  refine lv_istore_n (lv' := [(1, .int (nI 0)), (0, .ref q)]) hx hb dX3_levelsTogether_1 rfl hl (by decide) rfl (fun ls hl => ?_)
  refine lv_iconst (v := nI 0) hx hb dX3_levelsTogether_2 (by decide) ?_
  refine lv_istore_n (lv' := [(2, .int (nI 0)), (1, .int (nI 0)), (0, .ref q)]) hx hb dX3_levelsTogether_3 rfl hl (by decide) rfl (fun ls hl => ?_)
  have hL4 : ∀ (z4 : Nat) (d : Nat) (x : Nat), n - d = z4 → d ≤ n → x = sm lv d → ∀ ls : Array Slot, lv_has ls 3 [(0, .ref q), (1, .int (nI x)), (2, .int (nI d))] → W p l e { frames := 0, cells := 0, slots := 0, locals := 0 } s m args below meth c s.heap [] 0 0 (MQ below (qR (some (.int (nI (sm lv n))))) args s 0 0 (fun _ => False)) (F0 m 4 ls []) := by
    intro z4
    induction z4 using Nat.strongRecOn with
    | _ z4 ih4 =>
    intro d x hz4 hd hx9 ls hl
    refine lv_iload_n hx hb dX3_levelsTogether_4 rfl (lv_at hl 2 rfl) ?_
    refine lv_aload_n hx hb dX3_levelsTogether_5 rfl (lv_at hl 0 rfl) ?_
    refine z_get (k := 1) zcX3 hC hK hP 0 rfl (by decide) lF_X3_19 rfl dX3_levelsTogether_6 ?_
    refine z_get (k := 0) zcX1 hC hK hP 1 rfl (by decide) lF_X3_123 rfl dX3_levelsTogether_9 ?_
    refine zc_ge (tgt := 33) hC dX3_levelsTogether_12 (by decide) (by omega) (by omega) (fun c12 => ?_) (fun c12 => ?_)
    · skip
      refine lv_iload_n hx hb dX3_levelsTogether_33 rfl (lv_at hl 1 rfl) ?_
      exact zr_i hC hr hlk (by rw [hx9, show d = n by omega]) dX3_levelsTogether_34
    · skip
      refine lv_iload_n hx hb dX3_levelsTogether_15 rfl (lv_at hl 1 rfl) ?_
      refine lv_aload_n hx hb dX3_levelsTogether_16 rfl (lv_at hl 0 rfl) ?_
      refine z_get (k := 3) zcX3 hC hK hP 0 rfl (by decide) lF_X3_29 rfl dX3_levelsTogether_17 ?_
      refine z_get (k := 0) zcX0 hC hK hP 2 rfl (by decide) lF_X3_79 rfl dX3_levelsTogether_20 ?_
      refine lv_iload_n hx hb dX3_levelsTogether_23 rfl (lv_at hl 2 rfl) ?_
      refine z_ald hC hK hP 3 rfl (by omega) (by decide) dX3_levelsTogether_24 ?_
      refine zi_add hC dX3_levelsTogether_25 ?_
      refine lv_istore_n (lv' := [(1, .int (nI (x + (lv d)))), (0, .ref q), (2, .int (nI d))]) hx hb dX3_levelsTogether_26 rfl hl (by decide) rfl (fun ls hl => ?_)
      refine lv_iinc (v := nI (d + 1)) (lv' := [(2, .int (nI (d + 1))), (1, .int (nI (x + (lv d)))), (0, .ref q)]) hx hb dX3_levelsTogether_27 hl (k := 2) rfl (z_inc d 1) (by decide) rfl (fun ls hl => ?_)
      refine lv_goto (tgt := 4) hx hb dX3_levelsTogether_30 (by decide) ?_
      exact ih4 (n - (d + 1)) (by omega) (d + 1) (x + (lv d)) rfl (by omega) (by rw [hx9]; rfl) ls (lv_sub hl [2, 1, 0] rfl)
  exact hL4 _ 0 0 rfl (by omega) (by rfl) ls (lv_sub hl [2, 1, 0] rfl)
set_option maxHeartbeats 1000000 in
set_option maxRecDepth 100000 in
theorem c_X3_differenceOf {l : Launch} {D : va_G} {cI cZ cB cR : ClassId} {q t b b2 pp i1 i2 kept tn tw td : Nat} {tr : Int64} {n lvA aiA laA ac woA drA : Nat} {pl pt pa mo dn ea bn stA k : Nat} {lv : Nat → Nat} {st9 : Nat} (hn : n ≤ 6) (hlv : ∀ i, lv i ≤ 40) (hst : st9 < 2 ^ 31) : mR l yX3_differenceOf cX3_differenceOf 4 (some .int) 1 21 D cI cZ cB cR [oK q t b b2 pp i1 i2 kept tn tw td tr, oB b n lvA aiA laA ac woA drA, oP pp pl pt pa mo dn ea bn stA k, aI cI pl 6 lv] [.ref q, .int (nI st9)] (some (.int (nI (dabs lv st9 n)))) := by
  refine mR_of rfl (Nat.le_of_ble_eq_true rfl) ?_
  intro p e s m args below meth c hC hr hlk hK hP ls hl
  have hl : lv_has ls 4 [(0, .ref q), (1, .int (nI st9))] := hl
  obtain ⟨hx, hb, hml, hown, hts⟩ := id hC
  refine lv_iconst (v := nI 0) hx hb dX3_differenceOf_0 (by decide) ?_
  refine lv_istore_n (lv' := [(2, .int (nI 0)), (0, .ref q), (1, .int (nI st9))]) hx hb dX3_differenceOf_1 rfl hl (by decide) rfl (fun ls hl => ?_)
  refine lv_iconst (v := nI 0) hx hb dX3_differenceOf_2 (by decide) ?_
  refine lv_istore_n (lv' := [(3, .int (nI 0)), (2, .int (nI 0)), (0, .ref q), (1, .int (nI st9))]) hx hb dX3_differenceOf_3 rfl hl (by decide) rfl (fun ls hl => ?_)
  have hL4 : ∀ (z4 : Nat) (d : Nat) (x : Int32), n - d = z4 → d ≤ n → x = nI (sm (fun i => if st9.testBit i then lv i else 0) d) - nI (sm (fun i => if st9.testBit i then 0 else lv i) d) → ∀ ls : Array Slot, lv_has ls 4 [(0, .ref q), (1, .int (nI st9)), (2, .int x), (3, .int (nI d))] → W p l e { frames := 1, cells := 0, slots := 0, locals := 21 } s m args below meth c s.heap [] 0 0 (MQ below (qR (some (.int (nI (dabs lv st9 n))))) args s 0 0 (fun _ => False)) (F0 m 4 ls []) := by
    intro z4
    induction z4 using Nat.strongRecOn with
    | _ z4 ih4 =>
    intro d x hz4 hd hx9 ls hl
    refine lv_iload_n hx hb dX3_differenceOf_4 rfl (lv_at hl 3 rfl) ?_
    refine lv_aload_n hx hb dX3_differenceOf_5 rfl (lv_at hl 0 rfl) ?_
    refine z_get (k := 1) zcX3 hC hK hP 0 rfl (by decide) lF_X3_19 rfl dX3_differenceOf_6 ?_
    refine z_get (k := 0) zcX1 hC hK hP 1 rfl (by decide) lF_X3_123 rfl dX3_differenceOf_9 ?_
    refine zc_ge (tgt := 54) hC dX3_differenceOf_12 (by decide) (by omega) (by omega) (fun c12 => ?_) (fun c12 => ?_)
    · skip
      refine lv_iload_n hx hb dX3_differenceOf_54 rfl (lv_at hl 2 rfl) ?_
      have e55 : d = n := by omega
      rw [e55] at hx9
      have b55 : sm (fun i => if st9.testBit i then lv i else 0) n ≤ 40 * n := sm_le (fun i _ => by have := hlv i; split <;> omega)
      have b56 : sm (fun i => if st9.testBit i then 0 else lv i) n ≤ 40 * n := sm_le (fun i _ => by have := hlv i; split <;> omega)
      rw [hx9]
      refine va_mabs hx hb (hml.trans hl.1.symm) hown (hts _ lX_X3_233) (hts _ sX_abs) (hts _ iX_Math) (hts _ kX_abs) (Nat.le_of_ble_eq_true rfl) (Nat.le_of_ble_eq_true rfl) (Nat.le_of_ble_eq_true rfl) (Nat.le_of_ble_eq_true rfl) dX3_differenceOf_55 ?_
      exact zr_i hC hr hlk (by have e1 := z_abs (a := sm (fun i => if st9.testBit i then lv i else 0) n) (b := sm (fun i => if st9.testBit i then 0 else lv i) n) (by omega) (by omega); exact e1) dX3_differenceOf_58
    · skip
      refine lv_iload_n hx hb dX3_differenceOf_15 rfl (lv_at hl 2 rfl) ?_
      refine lv_iload_n hx hb dX3_differenceOf_16 rfl (lv_at hl 1 rfl) ?_
      refine lv_iload_n hx hb dX3_differenceOf_17 rfl (lv_at hl 3 rfl) ?_
      refine zRS (As := [.int (nI st9), .int (nI d)]) (rest := [.int x]) hC (c_X3_has (l := l) (b := st9) (i := d) (hb9 := by omega) (hi := by omega)) lM_X3_221 sM_X3_has (by decide) hK rfl hl.1 rfl (Nat.le_of_ble_eq_true rfl) dX3_differenceOf_18 (by decide) ?_
      show W _ _ _ _ _ _ _ _ _ _ _ _ _ _ _ (F0 m 21 ls [.int (bI (st9.testBit d)), .int x])
      refine zb_eq (tgt := 36) hC dX3_differenceOf_21 (by decide) (fun c21 => ?_) (fun c21 => ?_)
      · skip
        refine lv_aload_n hx hb dX3_differenceOf_36 rfl (lv_at hl 0 rfl) ?_
        refine z_get (k := 3) zcX3 hC hK hP 0 rfl (by decide) lF_X3_29 rfl dX3_differenceOf_37 ?_
        refine z_get (k := 0) zcX0 hC hK hP 2 rfl (by decide) lF_X3_79 rfl dX3_differenceOf_40 ?_
        refine lv_iload_n hx hb dX3_differenceOf_43 rfl (lv_at hl 3 rfl) ?_
        refine z_ald hC hK hP 3 rfl (by omega) (by decide) dX3_differenceOf_44 ?_
        refine lv_ineg hx hb dX3_differenceOf_45 ?_
        refine lv_iadd hx hb dX3_differenceOf_46 ?_
        refine lv_istore_n (lv' := [(2, .int (x + (-(nI (lv d))))), (0, .ref q), (1, .int (nI st9)), (3, .int (nI d))]) hx hb dX3_differenceOf_47 rfl hl (by decide) rfl (fun ls hl => ?_)
        refine lv_iinc (v := nI (d + 1)) (lv' := [(3, .int (nI (d + 1))), (2, .int (x + (-(nI (lv d))))), (0, .ref q), (1, .int (nI st9))]) hx hb dX3_differenceOf_48 hl (k := 3) rfl (z_inc d 1) (by decide) rfl (fun ls hl => ?_)
        refine lv_goto (tgt := 4) hx hb dX3_differenceOf_51 (by decide) ?_
        exact ih4 (n - (d + 1)) (by omega) (d + 1) (x + (-(nI (lv d)))) rfl (by omega) (by rw [hx9, sm_s, sm_s]; simp only [c21, if_true, if_false, Bool.false_eq_true, Nat.add_zero, ← nI_add]; grind) ls (lv_sub hl [2, 3, 1, 0] rfl)
      · skip
        refine lv_aload_n hx hb dX3_differenceOf_24 rfl (lv_at hl 0 rfl) ?_
        refine z_get (k := 3) zcX3 hC hK hP 0 rfl (by decide) lF_X3_29 rfl dX3_differenceOf_25 ?_
        refine z_get (k := 0) zcX0 hC hK hP 2 rfl (by decide) lF_X3_79 rfl dX3_differenceOf_28 ?_
        refine lv_iload_n hx hb dX3_differenceOf_31 rfl (lv_at hl 3 rfl) ?_
        refine z_ald hC hK hP 3 rfl (by omega) (by decide) dX3_differenceOf_32 ?_
        refine lv_goto (tgt := 46) hx hb dX3_differenceOf_33 (by decide) ?_
        refine lv_iadd hx hb dX3_differenceOf_46 ?_
        refine lv_istore_n (lv' := [(2, .int (x + (nI (lv d)))), (0, .ref q), (1, .int (nI st9)), (3, .int (nI d))]) hx hb dX3_differenceOf_47 rfl hl (by decide) rfl (fun ls hl => ?_)
        refine lv_iinc (v := nI (d + 1)) (lv' := [(3, .int (nI (d + 1))), (2, .int (x + (nI (lv d)))), (0, .ref q), (1, .int (nI st9))]) hx hb dX3_differenceOf_48 hl (k := 3) rfl (z_inc d 1) (by decide) rfl (fun ls hl => ?_)
        refine lv_goto (tgt := 4) hx hb dX3_differenceOf_51 (by decide) ?_
        exact ih4 (n - (d + 1)) (by omega) (d + 1) (x + (nI (lv d))) rfl (by omega) (by rw [hx9, sm_s, sm_s]; simp only [c21, if_true, if_false, Bool.false_eq_true, Nat.add_zero, ← nI_add]; grind) ls (lv_sub hl [2, 3, 1, 0] rfl)
  exact hL4 _ 0 (nI 0) rfl (by omega) (by exact (by decide : nI 0 = nI 0 - nI 0)) ls (lv_sub hl [2, 3, 1, 0] rfl)
set_option maxHeartbeats 1000000 in
set_option maxRecDepth 100000 in
theorem c_X3_inLeastTerms {l : Launch} {D : va_G} {cI cZ cB cR : ClassId} {num x : Nat} (hnum : num ≤ 10) (hx9 : x ≤ 10) : mR l yX3_inLeastTerms cX3_inLeastTerms 3 (some .int) 0 0 D cI cZ cB cR [] [.int (nI num), .int (nI x)] (some (.int (nI (iltL num x 10)))) := by
  refine mR_of rfl (Nat.le_of_ble_eq_true rfl) ?_
  intro p e s m args below meth c hC hr hlk hK hP ls hl
  have hl : lv_has ls 3 [(0, .int (nI num)), (1, .int (nI x))] := hl
  obtain ⟨hx, hb, hml, hown, hts⟩ := id hC
  refine lv_bipush (v := nI 10) hx hb dX3_inLeastTerms_0 (by decide) ?_
  refine lv_istore_n (lv' := [(2, .int (nI 10)), (0, .int (nI num)), (1, .int (nI x))]) hx hb dX3_inLeastTerms_2 rfl hl (by decide) rfl (fun ls hl => ?_)
  have hL3 : ∀ (z3 : Nat) (d : Nat), d = z3 → 1 ≤ d ∧ d ≤ 10 → iltL num x d = iltL num x 10 → ∀ ls : Array Slot, lv_has ls 3 [(0, .int (nI num)), (1, .int (nI x)), (2, .int (nI d))] → W p l e { frames := 0, cells := 0, slots := 0, locals := 0 } s m args below meth c s.heap [] 0 0 (MQ below (qR (some (.int (nI (iltL num x 10))))) args s 0 0 (fun _ => False)) (F0 m 3 ls []) := by
    intro z3
    induction z3 using Nat.strongRecOn with
    | _ z3 ih3 =>
    intro d hz3 hd ht ls hl
    refine lv_iload_n hx hb dX3_inLeastTerms_3 rfl (lv_at hl 2 rfl) ?_
    refine lv_iconst (v := nI 1) hx hb dX3_inLeastTerms_4 (by decide) ?_
    refine zc_le (tgt := 31) hC dX3_inLeastTerms_5 (by decide) (by omega) (by omega) (fun c5 => ?_) (fun c5 => ?_)
    · skip
      refine lv_iload_n hx hb dX3_inLeastTerms_31 rfl (lv_at hl 0 rfl) ?_
      exact zr_i hC hr hlk (by rw [← ht, show d = 1 by omega]; rfl) dX3_inLeastTerms_32
    · skip
      have b5 := Nat.mod_lt 10 (show 0 < d by omega)
      have b6 := Nat.mod_lt x (show 0 < d by omega)
      refine lv_bipush (v := nI 10) hx hb dX3_inLeastTerms_8 (by decide) ?_
      refine lv_iload_n hx hb dX3_inLeastTerms_10 rfl (lv_at hl 2 rfl) ?_
      refine zi_rem hC dX3_inLeastTerms_11 (by omega) (by omega) (by omega) ?_
      refine z0_ne (tgt := 25) hC dX3_inLeastTerms_12 (by decide) (by omega) (fun c12 => ?_) (fun c12 => ?_)
      · skip
        refine lv_iinc (v := nI (d - 1)) (lv' := [(2, .int (nI (d - 1))), (0, .int (nI num)), (1, .int (nI x))]) hx hb dX3_inLeastTerms_25 hl (k := 2) rfl (z_dec1 (by omega)) (by decide) rfl (fun ls hl => ?_)
        refine lv_goto (tgt := 3) hx hb dX3_inLeastTerms_28 (by decide) ?_
        exact ih3 (d - 1) (by omega) (d - 1) rfl (by omega) (by rw [← ht, iltL_s num x d c5]; exact (if_neg (by omega)).symm) ls (lv_sub hl [1, 2, 0] rfl)
      · skip
        refine lv_iload_n hx hb dX3_inLeastTerms_15 rfl (lv_at hl 1 rfl) ?_
        refine lv_iload_n hx hb dX3_inLeastTerms_16 rfl (lv_at hl 2 rfl) ?_
        refine zi_rem hC dX3_inLeastTerms_17 (by omega) (by omega) (by omega) ?_
        refine z0_ne (tgt := 25) hC dX3_inLeastTerms_18 (by decide) (by omega) (fun c18 => ?_) (fun c18 => ?_)
        · skip
          refine lv_iinc (v := nI (d - 1)) (lv' := [(2, .int (nI (d - 1))), (0, .int (nI num)), (1, .int (nI x))]) hx hb dX3_inLeastTerms_25 hl (k := 2) rfl (z_dec1 (by omega)) (by decide) rfl (fun ls hl => ?_)
          refine lv_goto (tgt := 3) hx hb dX3_inLeastTerms_28 (by decide) ?_
          exact ih3 (d - 1) (by omega) (d - 1) rfl (by omega) (by rw [← ht, iltL_s num x d c5]; exact (if_neg (by omega)).symm) ls (lv_sub hl [1, 2, 0] rfl)
        · skip
          refine lv_iload_n hx hb dX3_inLeastTerms_21 rfl (lv_at hl 0 rfl) ?_
          refine lv_iload_n hx hb dX3_inLeastTerms_22 rfl (lv_at hl 2 rfl) ?_
          refine zi_div hC dX3_inLeastTerms_23 (by omega) (by omega) (by omega) ?_
          exact zr_i hC hr hlk (by rw [← ht, iltL_s num x d c5, if_pos ⟨c12, c18⟩]) dX3_inLeastTerms_24
  exact hL3 _ 10 rfl (by omega) (by rfl) ls (lv_sub hl [1, 2, 0] rfl)
set_option maxHeartbeats 1000000 in
set_option maxRecDepth 100000 in
theorem c_X3_agreesWithTold {l : Launch} {D : va_G} {cI cZ cB cR : ClassId} {q t b b2 pp i1 i2 kept tn tw td : Nat} {tr : Int64} {tnF : Nat → Nat} {twF : Nat → Bool} {ow : Nat} {g : Bool} (htd : td ≤ 6) (how : ow < 64) (htn : ∀ i, tnF i < 64) (hg : g = true ↔ ∀ i, i < td → decide (tnF i ^^^ (tnF i &&& ow) = 0) = twF i) : mR l yX3_agreesWithTold cX3_agreesWithTold 4 (some .boolean) 0 0 D cI cZ cB cR [oK q t b b2 pp i1 i2 kept tn tw td tr, aI cI tn 6 tnF, aZ cZ tw 6 twF] [.ref q, .int (nI ow)] (some (.int (bI g))) := by
  refine mR_of rfl (Nat.le_of_ble_eq_true rfl) ?_
  intro p e s m args below meth c hC hr hlk hK hP ls hl
  have hl : lv_has ls 4 [(0, .ref q), (1, .int (nI ow))] := hl
  obtain ⟨hx, hb, hml, hown, hts⟩ := id hC
  refine lv_iconst (v := nI 0) hx hb dX3_agreesWithTold_0 (by decide) ?_
  refine lv_istore_n (lv' := [(2, .int (nI 0)), (0, .ref q), (1, .int (nI ow))]) hx hb dX3_agreesWithTold_1 rfl hl (by decide) rfl (fun ls hl => ?_)
  have hL2 : ∀ (z2 : Nat) (i : Nat), td - i = z2 → i ≤ td → (∀ j, j < i → decide (tnF j ^^^ (tnF j &&& ow) = 0) = twF j) → ∀ ls : Array Slot, lv_has ls 4 [(0, .ref q), (1, .int (nI ow)), (2, .int (nI i))] → W p l e { frames := 0, cells := 0, slots := 0, locals := 0 } s m args below meth c s.heap [] 0 0 (MQ below (qR (some (.int (bI g)))) args s 0 0 (fun _ => False)) (F0 m 2 ls []) := by
    intro z2
    induction z2 using Nat.strongRecOn with
    | _ z2 ih2 =>
    intro i hz2 hi hall ls hl
    refine lv_iload_n hx hb dX3_agreesWithTold_2 rfl (lv_at hl 2 rfl) ?_
    refine lv_aload_n hx hb dX3_agreesWithTold_3 rfl (lv_at hl 0 rfl) ?_
    refine z_get (k := 9) zcX3 hC hK hP 0 rfl (by decide) lF_X3_51 rfl dX3_agreesWithTold_4 ?_
    refine zc_ge (tgt := 47) hC dX3_agreesWithTold_7 (by decide) (by omega) (by omega) (fun c7 => ?_) (fun c7 => ?_)
    · skip
      refine lv_iconst (v := nI 1) hx hb dX3_agreesWithTold_47 (by decide) ?_
      refine z_top (y := bI true) rfl ?_
      exact zr_z hC hr hlk (by exact (hg.mpr (fun j hj => hall j (by omega))).symm) dX3_agreesWithTold_48
    · skip
      have hJ28 : ∀ (w9 : Bool), True → w9 = decide (tnF i ^^^ (tnF i &&& ow) = 0) → ∀ ls : Array Slot, lv_has ls 4 [(0, .ref q), (1, .int (nI ow)), (2, .int (nI i))] → W p l e { frames := 0, cells := 0, slots := 0, locals := 0 } s m args below meth c s.heap [] 0 0 (MQ below (qR (some (.int (bI g)))) args s 0 0 (fun _ => False)) (F0 m 28 ls [.int (bI w9)]) := by
        intro w9 _ hw9 ls hl
        refine lv_istore_n (lv' := [(3, .int (bI w9)), (0, .ref q), (1, .int (nI ow)), (2, .int (nI i))]) hx hb dX3_agreesWithTold_28 rfl hl (by decide) rfl (fun ls hl => ?_)
        refine lv_iload_n hx hb dX3_agreesWithTold_29 rfl (lv_at hl 0 rfl) ?_
        refine lv_aload_n hx hb dX3_agreesWithTold_30 rfl (lv_at hl 1 rfl) ?_
        refine z_get (k := 8) zcX3 hC hK hP 0 rfl (by decide) lF_X3_47 rfl dX3_agreesWithTold_31 ?_
        refine lv_iload_n hx hb dX3_agreesWithTold_34 rfl (lv_at hl 3 rfl) ?_
        refine z_zld hC hK hP 2 rfl (by omega) (by decide) dX3_agreesWithTold_35 ?_
        refine zbb_eq (tgt := 41) hC dX3_agreesWithTold_36 (by decide) (fun c36 => ?_) (fun c36 => ?_)
        · skip
          refine lv_iinc (v := nI (i + 1)) (lv' := [(2, .int (nI (i + 1))), (3, .int (bI w9)), (0, .ref q), (1, .int (nI ow))]) hx hb dX3_agreesWithTold_41 hl (k := 3) rfl (z_inc i 1) (by decide) rfl (fun ls hl => ?_)
          refine lv_goto (tgt := 2) hx hb dX3_agreesWithTold_44 (by decide) ?_
          exact ih2 (td - (i + 1)) (by omega) (i + 1) rfl (by omega) (by intro j hj; rcases Nat.lt_succ_iff_lt_or_eq.mp hj with h | h; exact hall j h; subst h; exact hw9.symm.trans c36) ls (lv_sub hl [2, 3, 0] rfl)
        · skip
          refine lv_iconst (v := nI 0) hx hb dX3_agreesWithTold_39 (by decide) ?_
          refine z_top (y := bI false) rfl ?_
          exact zr_z hC hr hlk (by cases g with | false => rfl | true => exact absurd (hw9.trans (hg.mp rfl i c7)) c36) dX3_agreesWithTold_40
      refine lv_aload_n hx hb dX3_agreesWithTold_10 rfl (lv_at hl 0 rfl) ?_
      refine z_get (k := 7) zcX3 hC hK hP 0 rfl (by decide) lF_X3_43 rfl dX3_agreesWithTold_11 ?_
      refine lv_iload_n hx hb dX3_agreesWithTold_14 rfl (lv_at hl 2 rfl) ?_
      refine z_ald hC hK hP 1 rfl (by omega) (by decide) dX3_agreesWithTold_15 ?_
      refine lv_iload_n hx hb dX3_agreesWithTold_16 rfl (lv_at hl 1 rfl) ?_
      refine lv_iconst (v := (-1)) hx hb dX3_agreesWithTold_17 (by decide) ?_
      refine lv_ixor hx hb dX3_agreesWithTold_18 ?_
      refine lv_iand hx hb dX3_agreesWithTold_19 ?_
      have b20 : tnF i ^^^ (tnF i &&& ow) < 2 ^ 6 := Nat.xor_lt_two_pow (htn i) (Nat.and_lt_two_pow _ how)
      refine z_top (show ((nI (tnF i)) &&& ((nI ow) ^^^ (-1))) = nI (tnF i ^^^ (tnF i &&& ow)) from by exact z_andnot (htn i)) ?_
      refine z0_ne (tgt := 27) hC dX3_agreesWithTold_20 (by decide) (by omega) (fun c20 => ?_) (fun c20 => ?_)
      · skip
        refine lv_iconst (v := nI 0) hx hb dX3_agreesWithTold_27 (by decide) ?_
        exact hJ28 false trivial (by first | exact (decide_eq_true c20).symm | exact (decide_eq_false (by omega)).symm) ls (lv_sub hl [0, 1, 2] rfl)
      · skip
        refine lv_iconst (v := nI 1) hx hb dX3_agreesWithTold_23 (by decide) ?_
        refine lv_goto (tgt := 28) hx hb dX3_agreesWithTold_24 (by decide) ?_
        exact hJ28 true trivial (by first | exact (decide_eq_true c20).symm | exact (decide_eq_false (by omega)).symm) ls (lv_sub hl [0, 1, 2] rfl)
  exact hL2 _ 0 rfl (by omega) (by intro j hj; omega) ls (lv_sub hl [1, 2, 0] rfl)
