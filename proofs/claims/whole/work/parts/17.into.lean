abbrev Bds : Type := Nat × (Nat → Nat) × (Nat → Nat) × (Nat → Nat) × Nat × (Nat → Nat) × (Nat → Nat → Nat)
def itF (by_ : Nat → Nat) (len : Nat) (u : Cu) (D : Bds) : Bool × Cu × Bds :=
  if u.2.1 = 1 then
    (if u.2.2.2 = nI 97 then
      (if D.2.2.2.2.1 < 5 then ((raF by_ len u D.1 D.2.2.2.2.1 D.2.2.2.2.2.1 D.2.2.2.2.2.2).1, (raF by_ len u D.1 D.2.2.2.2.1 D.2.2.2.2.2.1 D.2.2.2.2.2.2).2.1, (D.1, D.2.1, D.2.2.1, D.2.2.2.1, (raF by_ len u D.1 D.2.2.2.2.1 D.2.2.2.2.2.1 D.2.2.2.2.2.2).2.2.1, (raF by_ len u D.1 D.2.2.2.2.1 D.2.2.2.2.2.1 D.2.2.2.2.2.2).2.2.2.1, (raF by_ len u D.1 D.2.2.2.2.1 D.2.2.2.2.2.1 D.2.2.2.2.2.2).2.2.2.2)) else (false, u, D))
    else if u.2.2.2 = nI 100 then
      (if D.1 < 6 then ((rdF by_ len u D.1 D.2.1 D.2.2.1 D.2.2.2.1).1, (rdF by_ len u D.1 D.2.1 D.2.2.1 D.2.2.2.1).2.1, ((rdF by_ len u D.1 D.2.1 D.2.2.1 D.2.2.2.1).2.2.1, (rdF by_ len u D.1 D.2.1 D.2.2.1 D.2.2.2.1).2.2.2.1, (rdF by_ len u D.1 D.2.1 D.2.2.1 D.2.2.2.1).2.2.2.2.1, (rdF by_ len u D.1 D.2.1 D.2.2.1 D.2.2.2.1).2.2.2.2.2, D.2.2.2.2)) else (false, u, D))
    else if u.2.2.2 = nI 120 then ((rxF by_ len u D.1 D.2.2.2.1).1, (rxF by_ len u D.1 D.2.2.2.1).2.1, (D.1, D.2.1, D.2.2.1, (rxF by_ len u D.1 D.2.2.2.1).2.2, D.2.2.2.2))
    else (false, u, D))
  else (false, u, D)
def inL (by_ : Nat → Nat) (len : Nat) : Nat → Nat → Cu → Bds → Bool × Nat × Cu × Bds
  | 0, i, u, D => (true, i, u, D)
  | k + 1, i, u, D => if u.2.1 = 0 then (true, i, u, D) else if (itF by_ len u D).1 = true then inL by_ len k (i + 1) (adv by_ len (itF by_ len u D).2.1) (itF by_ len u D).2.2 else (false, (itF by_ len u D).2.1.2.2.1, (itF by_ len u D).2.1, (itF by_ len u D).2.2)
theorem inL_0 (by_ : Nat → Nat) (len i : Nat) (u : Cu) (D : Bds) : inL by_ len 0 i u D = (true, i, u, D) := rfl
theorem inL_s (by_ : Nat → Nat) (len k i : Nat) (u : Cu) (D : Bds) : inL by_ len (k + 1) i u D = if u.2.1 = 0 then (true, i, u, D) else if (itF by_ len u D).1 = true then inL by_ len k (i + 1) (adv by_ len (itF by_ len u D).2.1) (itF by_ len u D).2.2 else (false, (itF by_ len u D).2.1.2.2.1, (itF by_ len u D).2.1, (itF by_ len u D).2.2) := rfl
theorem actL_wf {by_ : Nat → Nat} {len n a : Nat} : ∀ {k : Nat} {u : Cu} {dr : Nat → Nat → Nat}, wfU len u → wfU len (actL by_ len n a k u dr).2.1
  | 0, u, dr, h => h
  | k + 1, u, dr, h => by
    rw [actL_s]
    by_cases h1 : u.2.1 = 2
    · rw [if_pos h1]
      by_cases h2 : vN u < n
      · rw [if_pos h2]
        by_cases h3 : numOk by_ len u (nI 9) = true
        · rw [if_pos h3]
          exact actL_wf (adv_wf (adv_wf h.1).1)
        · rw [if_neg h3]
          exact adv_wf h.1
      · rw [if_neg h2]; exact h
    · rw [if_neg h1]; exact h
theorem itF_wf {by_ : Nat → Nat} {len : Nat} {u : Cu} {D : Bds} (h : wfU len u) : wfU len (itF by_ len u D).2.1 := by
  have a1 := adv_wf (by_ := by_) h.1
  have a2 := adv_wf (by_ := by_) a1.1
  have a3 := adv_wf (by_ := by_) a2.1
  unfold itF
  by_cases h1 : u.2.1 = 1
  · rw [if_pos h1]
    by_cases h2 : u.2.2.2 = nI 97
    · rw [if_pos h2]
      by_cases h3 : D.2.2.2.2.1 < 5
      · rw [if_pos h3]
        show wfU len (raF _ _ _ _ _ _ _).2.1
        unfold raF
        by_cases h4 : numOk by_ len u (nI 99) = true
        · rw [if_pos h4]; exact actL_wf a2
        · rw [if_neg h4]; exact a1
      · rw [if_neg h3]; exact h
    · rw [if_neg h2]
      by_cases h3 : u.2.2.2 = nI 100
      · rw [if_pos h3]
        by_cases h4 : D.1 < 6
        · rw [if_pos h4]
          show wfU len (rdF _ _ _ _ _ _ _).2.1
          unfold rdF
          by_cases h5 : numOk by_ len u (nI 40) = true
          · rw [if_pos h5]
            by_cases h6 : numOk by_ len (adv by_ len u) (nI 5) = true
            · rw [if_pos h6]; exact a3
            · rw [if_neg h6]; exact a2
          · rw [if_neg h5]; exact a1
        · rw [if_neg h4]; exact h
      · rw [if_neg h3]
        by_cases h4 : u.2.2.2 = nI 120
        · rw [if_pos h4]
          show wfU len (rxF _ _ _ _ _).2.1
          unfold rxF
          by_cases h5 : numOk by_ len u (nI D.1 - nI 1) = true
          · rw [if_pos h5]
            by_cases h6 : numOk by_ len (adv by_ len u) (nI D.1 - nI 1) = true ∧ vN (adv by_ len (adv by_ len u)) ≠ vN (adv by_ len u)
            · rw [if_pos h6]; exact a3
            · rw [if_neg h6]; exact a2
          · rw [if_neg h5]; exact a1
        · rw [if_neg h4]; exact h
  · rw [if_neg h1]; exact h
theorem itF_D {by_ : Nat → Nat} {len : Nat} {u : Cu} {D : Bds} (h : D.1 ≤ 6 ∧ D.2.2.2.2.1 ≤ 5) : (itF by_ len u D).2.2.1 ≤ 6 ∧ (itF by_ len u D).2.2.2.2.2.2.1 ≤ 5 := by
  unfold itF
  by_cases h1 : u.2.1 = 1
  · rw [if_pos h1]
    by_cases h2 : u.2.2.2 = nI 97
    · rw [if_pos h2]
      by_cases h3 : D.2.2.2.2.1 < 5
      · rw [if_pos h3]
        refine ⟨h.1, ?_⟩
        show (raF _ _ _ _ _ _ _).2.2.1 ≤ 5
        unfold raF
        by_cases h4 : numOk by_ len u (nI 99) = true
        · rw [if_pos h4]; exact h3
        · rw [if_neg h4]; exact h.2
      · rw [if_neg h3]; exact h
    · rw [if_neg h2]
      by_cases h3 : u.2.2.2 = nI 100
      · rw [if_pos h3]
        by_cases h4 : D.1 < 6
        · rw [if_pos h4]
          refine ⟨?_, h.2⟩
          show (rdF _ _ _ _ _ _ _).2.2.1 ≤ 6
          unfold rdF
          by_cases h5 : numOk by_ len u (nI 40) = true
          · rw [if_pos h5]
            by_cases h6 : numOk by_ len (adv by_ len u) (nI 5) = true
            · rw [if_pos h6]; exact h4
            · rw [if_neg h6]; exact h.1
          · rw [if_neg h5]; exact h.1
        · rw [if_neg h4]; exact h
      · rw [if_neg h3]
        by_cases h4 : u.2.2.2 = nI 120
        · rw [if_pos h4]; exact h
        · rw [if_neg h4]; exact h
  · rw [if_neg h1]; exact h
set_option maxHeartbeats 1000000 in
set_option maxRecDepth 100000 in
theorem c_X2_readsItem {l : Launch} {D : va_G} {cI cZ cB cR : ClassId} {t byA len : Nat} {u : Cu} {by_ : Nat → Nat} {b : Nat} {n lvA aiA laA ac woA drA : Nat} {bl bla : Nat → Nat} {ai : Nat → Nat} {wo : Nat → Nat} {r : Nat → Nat} {dr : Nat → Nat → Nat}  (hlen : len ≤ 150) (hby : ∀ i, by_ i < 256) (hw : wfU len u) (hn : n ≤ 6) (hac : ac ≤ 5) : mW l yX2_readsItem cX2_readsItem 2 (some .boolean) 4 90 D cI cZ cB cR [oT t byA len u.1 u.2.1 u.2.2.1 u.2.2.2, aI cI byA 150 by_, oB b n lvA aiA laA ac woA drA, aI cI lvA 6 bl, aI cI aiA 6 ai, aI cI laA 6 bla, aI cI woA 5 wo, aR cR drA 5 r, aI cI (r 0) 6 (dr 0), aI cI (r 1) 6 (dr 1), aI cI (r 2) 6 (dr 2), aI cI (r 3) 6 (dr 3), aI cI (r 4) 6 (dr 4)] [oT t byA len (((itF by_ len u (n, bl, ai, bla, ac, wo, dr)).2.1).1) (((itF by_ len u (n, bl, ai, bla, ac, wo, dr)).2.1).2.1) (((itF by_ len u (n, bl, ai, bla, ac, wo, dr)).2.1).2.2.1) (((itF by_ len u (n, bl, ai, bla, ac, wo, dr)).2.1).2.2.2), aI cI byA 150 by_, oB b ((itF by_ len u (n, bl, ai, bla, ac, wo, dr)).2.2.1) lvA aiA laA ((itF by_ len u (n, bl, ai, bla, ac, wo, dr)).2.2.2.2.2.2.1) woA drA, aI cI lvA 6 ((itF by_ len u (n, bl, ai, bla, ac, wo, dr)).2.2.2.1), aI cI aiA 6 ((itF by_ len u (n, bl, ai, bla, ac, wo, dr)).2.2.2.2.1), aI cI laA 6 ((itF by_ len u (n, bl, ai, bla, ac, wo, dr)).2.2.2.2.2.1), aI cI woA 5 ((itF by_ len u (n, bl, ai, bla, ac, wo, dr)).2.2.2.2.2.2.2.1), aR cR drA 5 r, aI cI (r 0) 6 ((itF by_ len u (n, bl, ai, bla, ac, wo, dr)).2.2.2.2.2.2.2.2 0), aI cI (r 1) 6 ((itF by_ len u (n, bl, ai, bla, ac, wo, dr)).2.2.2.2.2.2.2.2 1), aI cI (r 2) 6 ((itF by_ len u (n, bl, ai, bla, ac, wo, dr)).2.2.2.2.2.2.2.2 2), aI cI (r 3) 6 ((itF by_ len u (n, bl, ai, bla, ac, wo, dr)).2.2.2.2.2.2.2.2 3), aI cI (r 4) 6 ((itF by_ len u (n, bl, ai, bla, ac, wo, dr)).2.2.2.2.2.2.2.2 4)] [.ref t, .ref b] (some (.int (bI (itF by_ len u (n, bl, ai, bla, ac, wo, dr)).1))) := by
  refine mW_of rfl (Nat.le_of_ble_eq_true rfl) ?_
  intro p e s m args below meth c hC hr hlk hK A hA hD H0 h0 hP hS ls hl
  have hP : va_P D vwCl [oT t byA len u.1 u.2.1 u.2.2.1 u.2.2.2, aI cI byA 150 by_, oB b n lvA aiA laA ac woA drA, aI cI lvA 6 bl, aI cI aiA 6 ai, aI cI laA 6 bla, aI cI woA 5 wo, aR cR drA 5 r, aI cI (r 0) 6 (dr 0), aI cI (r 1) 6 (dr 1), aI cI (r 2) 6 (dr 2), aI cI (r 3) 6 (dr 3), aI cI (r 4) 6 (dr 4)] H0 := hP
  have hl : lv_has ls 2 [(0, .ref t), (1, .ref b)] := hl
  obtain ⟨hx, hb, hml, hown, hts⟩ := id hC
  refine lv_aload_n hx hb dX2_readsItem_0 rfl (lv_at hl 0 rfl) ?_
  refine z_get (k := 3) zcX2 hC hK hP 0 rfl (by decide) lF_X2_22 rfl dX2_readsItem_1 ?_
  have b4 := hw.2.1
  refine lv_iconst (v := nI 1) hx hb dX2_readsItem_4 (by decide) ?_
  refine zc_eq (tgt := 10) hC dX2_readsItem_5 (by decide) (by omega) (by omega) (fun c5 => ?_) (fun c5 => ?_)
  · skip
    refine lv_aload_n hx hb dX2_readsItem_10 rfl (lv_at hl 0 rfl) ?_
    refine z_get (k := 5) zcX2 hC hK hP 0 rfl (by decide) lF_X2_28 rfl dX2_readsItem_11 ?_
    by_cases k97 : u.2.2.2 = nI 97
    · refine lv_lookup (off := 57) (tgt := 71) hx hb dX2_readsItem_14 (by decide) (by rw [k97]; decide) (by decide) ?_
      refine lv_aload_n hx hb dX2_readsItem_71 rfl (lv_at hl 1 rfl) ?_
      refine z_get (k := 4) zcX1 hC hK hP 2 rfl (by decide) lF_X2_46 rfl dX2_readsItem_72 ?_
      refine lv_iconst (v := nI 5) hx hb dX2_readsItem_75 (by decide) ?_
      refine zc_ge (tgt := 91) hC dX2_readsItem_76 (by decide) (by omega) (by omega) (fun c76 => ?_) (fun c76 => ?_)
      · skip
        refine lv_iconst (v := nI 0) hx hb dX2_readsItem_91 (by decide) ?_
        refine z_top (y := bI false) rfl ?_
        exact zw_z hC hr hlk hA h0 (by unfold itF; rw [if_pos c5, if_pos k97, if_neg (Nat.not_lt.mpr c76)]; exact hP) hS (by unfold itF; rw [if_pos c5, if_pos k97, if_neg (Nat.not_lt.mpr c76)]) dX2_readsItem_92
      · skip
        refine lv_aload_n hx hb dX2_readsItem_79 rfl (lv_at hl 0 rfl) ?_
        refine lv_aload_n hx hb dX2_readsItem_80 rfl (lv_at hl 1 rfl) ?_
        refine zXV (As := [.ref b]) (b := t) (rest := []) hC (c_X2_readsAct (l := l) (u := u) (hlen := hlen) (hby := hby) (hu := hw.1) (hn := hn) (hac := c76)) lM_X2_49 vM_X2_readsAct (by decide) hK hP hD hS [0, 1, 2, 6, 7, 8, 9, 10, 11, 12] [t, byA, b, woA, drA, r 0, r 1, r 2, r 3, r 4] rfl (by decide) rfl rfl ⟨rfl, rfl, rfl⟩ rfl hl.1 rfl (Nat.le_of_ble_eq_true rfl) dX2_readsItem_81 (by decide) (fun H locs hP hD hS => ?_)
        have hP : va_P D vwCl [oT t byA len (((raF by_ len u n ac wo dr).2.1).1) (((raF by_ len u n ac wo dr).2.1).2.1) (((raF by_ len u n ac wo dr).2.1).2.2.1) (((raF by_ len u n ac wo dr).2.1).2.2.2), aI cI byA 150 by_, oB b n lvA aiA laA ((raF by_ len u n ac wo dr).2.2.1) woA drA, aI cI lvA 6 bl, aI cI aiA 6 ai, aI cI laA 6 bla, aI cI woA 5 ((raF by_ len u n ac wo dr).2.2.2.1), aR cR drA 5 r, aI cI (r 0) 6 ((raF by_ len u n ac wo dr).2.2.2.2 0), aI cI (r 1) 6 ((raF by_ len u n ac wo dr).2.2.2.2 1), aI cI (r 2) 6 ((raF by_ len u n ac wo dr).2.2.2.2 2), aI cI (r 3) 6 ((raF by_ len u n ac wo dr).2.2.2.2 3), aI cI (r 4) 6 ((raF by_ len u n ac wo dr).2.2.2.2 4)] H := hP
        have hD : va_D A [oT t byA len (((raF by_ len u n ac wo dr).2.1).1) (((raF by_ len u n ac wo dr).2.1).2.1) (((raF by_ len u n ac wo dr).2.1).2.2.1) (((raF by_ len u n ac wo dr).2.1).2.2.2), aI cI byA 150 by_, oB b n lvA aiA laA ((raF by_ len u n ac wo dr).2.2.1) woA drA, aI cI lvA 6 bl, aI cI aiA 6 ai, aI cI laA 6 bla, aI cI woA 5 ((raF by_ len u n ac wo dr).2.2.2.1), aR cR drA 5 r, aI cI (r 0) 6 ((raF by_ len u n ac wo dr).2.2.2.2 0), aI cI (r 1) 6 ((raF by_ len u n ac wo dr).2.2.2.2 1), aI cI (r 2) 6 ((raF by_ len u n ac wo dr).2.2.2.2 2), aI cI (r 3) 6 ((raF by_ len u n ac wo dr).2.2.2.2 3), aI cI (r 4) 6 ((raF by_ len u n ac wo dr).2.2.2.2 4)] := hD
        show W _ _ _ _ _ _ _ _ _ _ _ _ _ _ _ (F0 m 84 ls [.int (bI ((raF by_ len u n ac wo dr).1))])
        refine zb_eq (tgt := 91) hC dX2_readsItem_84 (by decide) (fun c84 => ?_) (fun c84 => ?_)
        · skip
          refine lv_iconst (v := nI 0) hx hb dX2_readsItem_91 (by decide) ?_
          refine z_top (y := bI false) rfl ?_
          exact zw_z hC hr hlk hA h0 (by unfold itF; rw [if_pos c5, if_pos k97, if_pos c76]; exact hP) hS (by unfold itF; rw [if_pos c5, if_pos k97, if_pos c76]; exact c84.symm) dX2_readsItem_92
        · skip
          refine lv_iconst (v := nI 1) hx hb dX2_readsItem_87 (by decide) ?_
          refine lv_goto (tgt := 92) hx hb dX2_readsItem_88 (by decide) ?_
          refine z_top (y := bI true) rfl ?_
          exact zw_z hC hr hlk hA h0 (by unfold itF; rw [if_pos c5, if_pos k97, if_pos c76]; exact hP) hS (by unfold itF; rw [if_pos c5, if_pos k97, if_pos c76]; exact c84.symm) dX2_readsItem_92
    · skip
      by_cases k100 : u.2.2.2 = nI 100
      · refine lv_lookup (off := 34) (tgt := 48) hx hb dX2_readsItem_14 (by decide) (by rw [k100]; decide) (by decide) ?_
        refine lv_aload_n hx hb dX2_readsItem_48 rfl (lv_at hl 1 rfl) ?_
        refine z_get (k := 0) zcX1 hC hK hP 2 rfl (by decide) lF_X2_38 rfl dX2_readsItem_49 ?_
        refine lv_bipush (v := nI 6) hx hb dX2_readsItem_52 (by decide) ?_
        refine zc_ge (tgt := 69) hC dX2_readsItem_54 (by decide) (by omega) (by omega) (fun c54 => ?_) (fun c54 => ?_)
        · skip
          refine lv_iconst (v := nI 0) hx hb dX2_readsItem_69 (by decide) ?_
          refine z_top (y := bI false) rfl ?_
          exact zw_z hC hr hlk hA h0 (by unfold itF; rw [if_pos c5, if_neg k97, if_pos k100, if_neg (Nat.not_lt.mpr c54)]; exact hP) hS (by unfold itF; rw [if_pos c5, if_neg k97, if_pos k100, if_neg (Nat.not_lt.mpr c54)]) dX2_readsItem_70
        · skip
          refine lv_aload_n hx hb dX2_readsItem_57 rfl (lv_at hl 0 rfl) ?_
          refine lv_aload_n hx hb dX2_readsItem_58 rfl (lv_at hl 1 rfl) ?_
          refine zXV (As := [.ref b]) (b := t) (rest := []) hC (c_X2_readsDecanter (l := l) (u := u) (hlen := hlen) (hby := hby) (hu := hw.1) (hn := c54)) lM_X2_43 vM_X2_readsDecanter (by decide) hK hP hD hS [0, 1, 2, 3, 4, 5] [t, byA, b, lvA, aiA, laA] rfl (by decide) rfl rfl ⟨rfl, rfl, rfl⟩ rfl hl.1 rfl (Nat.le_of_ble_eq_true rfl) dX2_readsItem_59 (by decide) (fun H locs hP hD hS => ?_)
          have hP : va_P D vwCl [oT t byA len (((rdF by_ len u n bl ai bla).2.1).1) (((rdF by_ len u n bl ai bla).2.1).2.1) (((rdF by_ len u n bl ai bla).2.1).2.2.1) (((rdF by_ len u n bl ai bla).2.1).2.2.2), aI cI byA 150 by_, oB b ((rdF by_ len u n bl ai bla).2.2.1) lvA aiA laA ac woA drA, aI cI lvA 6 ((rdF by_ len u n bl ai bla).2.2.2.1), aI cI aiA 6 ((rdF by_ len u n bl ai bla).2.2.2.2.1), aI cI laA 6 ((rdF by_ len u n bl ai bla).2.2.2.2.2), aI cI woA 5 wo, aR cR drA 5 r, aI cI (r 0) 6 (dr 0), aI cI (r 1) 6 (dr 1), aI cI (r 2) 6 (dr 2), aI cI (r 3) 6 (dr 3), aI cI (r 4) 6 (dr 4)] H := hP
          have hD : va_D A [oT t byA len (((rdF by_ len u n bl ai bla).2.1).1) (((rdF by_ len u n bl ai bla).2.1).2.1) (((rdF by_ len u n bl ai bla).2.1).2.2.1) (((rdF by_ len u n bl ai bla).2.1).2.2.2), aI cI byA 150 by_, oB b ((rdF by_ len u n bl ai bla).2.2.1) lvA aiA laA ac woA drA, aI cI lvA 6 ((rdF by_ len u n bl ai bla).2.2.2.1), aI cI aiA 6 ((rdF by_ len u n bl ai bla).2.2.2.2.1), aI cI laA 6 ((rdF by_ len u n bl ai bla).2.2.2.2.2), aI cI woA 5 wo, aR cR drA 5 r, aI cI (r 0) 6 (dr 0), aI cI (r 1) 6 (dr 1), aI cI (r 2) 6 (dr 2), aI cI (r 3) 6 (dr 3), aI cI (r 4) 6 (dr 4)] := hD
          show W _ _ _ _ _ _ _ _ _ _ _ _ _ _ _ (F0 m 62 ls [.int (bI ((rdF by_ len u n bl ai bla).1))])
          refine zb_eq (tgt := 69) hC dX2_readsItem_62 (by decide) (fun c62 => ?_) (fun c62 => ?_)
          · skip
            refine lv_iconst (v := nI 0) hx hb dX2_readsItem_69 (by decide) ?_
            refine z_top (y := bI false) rfl ?_
            exact zw_z hC hr hlk hA h0 (by unfold itF; rw [if_pos c5, if_neg k97, if_pos k100, if_pos c54]; exact hP) hS (by unfold itF; rw [if_pos c5, if_neg k97, if_pos k100, if_pos c54]; exact c62.symm) dX2_readsItem_70
          · skip
            refine lv_iconst (v := nI 1) hx hb dX2_readsItem_65 (by decide) ?_
            refine lv_goto (tgt := 70) hx hb dX2_readsItem_66 (by decide) ?_
            refine z_top (y := bI true) rfl ?_
            exact zw_z hC hr hlk hA h0 (by unfold itF; rw [if_pos c5, if_neg k97, if_pos k100, if_pos c54]; exact hP) hS (by unfold itF; rw [if_pos c5, if_neg k97, if_pos k100, if_pos c54]; exact c62.symm) dX2_readsItem_70
      · skip
        by_cases k120 : u.2.2.2 = nI 120
        · refine lv_lookup (off := 79) (tgt := 93) hx hb dX2_readsItem_14 (by decide) (by rw [k120]; decide) (by decide) ?_
          refine lv_aload_n hx hb dX2_readsItem_93 rfl (lv_at hl 0 rfl) ?_
          refine lv_aload_n hx hb dX2_readsItem_94 rfl (lv_at hl 1 rfl) ?_
          refine zXV (As := [.ref b]) (b := t) (rest := []) hC (c_X2_readsExchange (l := l) (u := u) (hlen := hlen) (hby := hby) (hu := hw.1) (hn := hn)) lM_X2_52 vM_X2_readsExchange (by decide) hK hP hD hS [0, 1, 2, 5] [t, byA, b, laA] rfl (by decide) rfl rfl ⟨rfl, rfl, rfl⟩ rfl hl.1 rfl (Nat.le_of_ble_eq_true rfl) dX2_readsItem_95 (by decide) (fun H locs hP hD hS => ?_)
          have hP : va_P D vwCl [oT t byA len (((rxF by_ len u n bla).2.1).1) (((rxF by_ len u n bla).2.1).2.1) (((rxF by_ len u n bla).2.1).2.2.1) (((rxF by_ len u n bla).2.1).2.2.2), aI cI byA 150 by_, oB b n lvA aiA laA ac woA drA, aI cI lvA 6 bl, aI cI aiA 6 ai, aI cI laA 6 ((rxF by_ len u n bla).2.2), aI cI woA 5 wo, aR cR drA 5 r, aI cI (r 0) 6 (dr 0), aI cI (r 1) 6 (dr 1), aI cI (r 2) 6 (dr 2), aI cI (r 3) 6 (dr 3), aI cI (r 4) 6 (dr 4)] H := hP
          have hD : va_D A [oT t byA len (((rxF by_ len u n bla).2.1).1) (((rxF by_ len u n bla).2.1).2.1) (((rxF by_ len u n bla).2.1).2.2.1) (((rxF by_ len u n bla).2.1).2.2.2), aI cI byA 150 by_, oB b n lvA aiA laA ac woA drA, aI cI lvA 6 bl, aI cI aiA 6 ai, aI cI laA 6 ((rxF by_ len u n bla).2.2), aI cI woA 5 wo, aR cR drA 5 r, aI cI (r 0) 6 (dr 0), aI cI (r 1) 6 (dr 1), aI cI (r 2) 6 (dr 2), aI cI (r 3) 6 (dr 3), aI cI (r 4) 6 (dr 4)] := hD
          show W _ _ _ _ _ _ _ _ _ _ _ _ _ _ _ (F0 m 98 ls [.int (bI ((rxF by_ len u n bla).1))])
          exact zw_z hC hr hlk hA h0 (by unfold itF; rw [if_pos c5, if_neg k97, if_neg k100, if_pos k120]; exact hP) hS (by unfold itF; rw [if_pos c5, if_neg k97, if_neg k100, if_pos k120]) dX2_readsItem_98
        · skip
          refine lv_lookup (off := 85) (tgt := 99) hx hb dX2_readsItem_14 (by decide) (by show Op.lookupswitch.offset [(97, 57), (100, 34), (120, 79)] 85 _ = 85; rw [lv_osw k97 (by decide), lv_osw k100 (by decide), lv_osw k120 (by decide)]; rfl) (by decide) ?_
          refine lv_iconst (v := nI 0) hx hb dX2_readsItem_99 (by decide) ?_
          refine z_top (y := bI false) rfl ?_
          exact zw_z hC hr hlk hA h0 (by unfold itF; rw [if_pos c5, if_neg k97, if_neg k100, if_neg k120]; exact hP) hS (by unfold itF; rw [if_pos c5, if_neg k97, if_neg k100, if_neg k120]) dX2_readsItem_100
  · skip
    refine lv_iconst (v := nI 0) hx hb dX2_readsItem_8 (by decide) ?_
    refine z_top (y := bI false) rfl ?_
    exact zw_z hC hr hlk hA h0 (by unfold itF; rw [if_neg c5]; exact hP) hS (by unfold itF; rw [if_neg c5]) dX2_readsItem_9
set_option maxHeartbeats 1000000 in
set_option maxRecDepth 100000 in
theorem c_X2_readsInto {l : Launch} {D : va_G} {cI cZ cB cR : ClassId} {t byA len : Nat} {u : Cu} {by_ : Nat → Nat} {b : Nat} {n lvA aiA laA ac woA drA : Nat} {bl bla : Nat → Nat} {ai : Nat → Nat} {wo : Nat → Nat} {r : Nat → Nat} {dr : Nat → Nat → Nat}  (hlen : len ≤ 150) (hby : ∀ i, by_ i < 256) (hn : n ≤ 6) (hac : ac ≤ 5) : mW l yX2_readsInto cX2_readsInto 3 (some .int) 5 111 D cI cZ cB cR [oT t byA len u.1 u.2.1 u.2.2.1 u.2.2.2, aI cI byA 150 by_, oB b n lvA aiA laA ac woA drA, aI cI lvA 6 bl, aI cI aiA 6 ai, aI cI laA 6 bla, aI cI woA 5 wo, aR cR drA 5 r, aI cI (r 0) 6 (dr 0), aI cI (r 1) 6 (dr 1), aI cI (r 2) 6 (dr 2), aI cI (r 3) 6 (dr 3), aI cI (r 4) 6 (dr 4)] [oT t byA len (((inL by_ len 150 0 (adv by_ len (0, u.2.1, u.2.2.1, u.2.2.2)) (n, bl, ai, bla, ac, wo, dr)).2.2.1).1) (((inL by_ len 150 0 (adv by_ len (0, u.2.1, u.2.2.1, u.2.2.2)) (n, bl, ai, bla, ac, wo, dr)).2.2.1).2.1) (((inL by_ len 150 0 (adv by_ len (0, u.2.1, u.2.2.1, u.2.2.2)) (n, bl, ai, bla, ac, wo, dr)).2.2.1).2.2.1) (((inL by_ len 150 0 (adv by_ len (0, u.2.1, u.2.2.1, u.2.2.2)) (n, bl, ai, bla, ac, wo, dr)).2.2.1).2.2.2), aI cI byA 150 by_, oB b ((inL by_ len 150 0 (adv by_ len (0, u.2.1, u.2.2.1, u.2.2.2)) (n, bl, ai, bla, ac, wo, dr)).2.2.2.1) lvA aiA laA ((inL by_ len 150 0 (adv by_ len (0, u.2.1, u.2.2.1, u.2.2.2)) (n, bl, ai, bla, ac, wo, dr)).2.2.2.2.2.2.2.1) woA drA, aI cI lvA 6 ((inL by_ len 150 0 (adv by_ len (0, u.2.1, u.2.2.1, u.2.2.2)) (n, bl, ai, bla, ac, wo, dr)).2.2.2.2.1), aI cI aiA 6 ((inL by_ len 150 0 (adv by_ len (0, u.2.1, u.2.2.1, u.2.2.2)) (n, bl, ai, bla, ac, wo, dr)).2.2.2.2.2.1), aI cI laA 6 ((inL by_ len 150 0 (adv by_ len (0, u.2.1, u.2.2.1, u.2.2.2)) (n, bl, ai, bla, ac, wo, dr)).2.2.2.2.2.2.1), aI cI woA 5 ((inL by_ len 150 0 (adv by_ len (0, u.2.1, u.2.2.1, u.2.2.2)) (n, bl, ai, bla, ac, wo, dr)).2.2.2.2.2.2.2.2.1), aR cR drA 5 r, aI cI (r 0) 6 ((inL by_ len 150 0 (adv by_ len (0, u.2.1, u.2.2.1, u.2.2.2)) (n, bl, ai, bla, ac, wo, dr)).2.2.2.2.2.2.2.2.2 0), aI cI (r 1) 6 ((inL by_ len 150 0 (adv by_ len (0, u.2.1, u.2.2.1, u.2.2.2)) (n, bl, ai, bla, ac, wo, dr)).2.2.2.2.2.2.2.2.2 1), aI cI (r 2) 6 ((inL by_ len 150 0 (adv by_ len (0, u.2.1, u.2.2.1, u.2.2.2)) (n, bl, ai, bla, ac, wo, dr)).2.2.2.2.2.2.2.2.2 2), aI cI (r 3) 6 ((inL by_ len 150 0 (adv by_ len (0, u.2.1, u.2.2.1, u.2.2.2)) (n, bl, ai, bla, ac, wo, dr)).2.2.2.2.2.2.2.2.2 3), aI cI (r 4) 6 ((inL by_ len 150 0 (adv by_ len (0, u.2.1, u.2.2.1, u.2.2.2)) (n, bl, ai, bla, ac, wo, dr)).2.2.2.2.2.2.2.2.2 4)] [.ref t, .ref b] (some (.int (if (inL by_ len 150 0 (adv by_ len (0, u.2.1, u.2.2.1, u.2.2.2)) (n, bl, ai, bla, ac, wo, dr)).1 = true then nI (inL by_ len 150 0 (adv by_ len (0, u.2.1, u.2.2.1, u.2.2.2)) (n, bl, ai, bla, ac, wo, dr)).2.1 else -10 - nI (inL by_ len 150 0 (adv by_ len (0, u.2.1, u.2.2.1, u.2.2.2)) (n, bl, ai, bla, ac, wo, dr)).2.1))) := by
  refine mW_of rfl (Nat.le_of_ble_eq_true rfl) ?_
  intro p e s m args below meth c hC hr hlk hK A hA hD H0 h0 hP hS ls hl
  have hP : va_P D vwCl [oT t byA len u.1 u.2.1 u.2.2.1 u.2.2.2, aI cI byA 150 by_, oB b n lvA aiA laA ac woA drA, aI cI lvA 6 bl, aI cI aiA 6 ai, aI cI laA 6 bla, aI cI woA 5 wo, aR cR drA 5 r, aI cI (r 0) 6 (dr 0), aI cI (r 1) 6 (dr 1), aI cI (r 2) 6 (dr 2), aI cI (r 3) 6 (dr 3), aI cI (r 4) 6 (dr 4)] H0 := hP
  have hl : lv_has ls 3 [(0, .ref t), (1, .ref b)] := hl
  obtain ⟨hx, hb, hml, hown, hts⟩ := id hC
  refine lv_aload_n hx hb dX2_readsInto_0 rfl (lv_at hl 0 rfl) ?_
  refine lv_iconst (v := nI 0) hx hb dX2_readsInto_1 (by decide) ?_
  refine z_put (k := 2) zcX2 hC hK hP hD hS 0 rfl (by decide) lF_X2_19 rfl rfl rfl (Nat.le_of_ble_eq_true rfl) dX2_readsInto_2 (fun H locs hP hD hS => ?_)
  have hP : va_P D vwCl [oT t byA len 0 u.2.1 u.2.2.1 u.2.2.2, aI cI byA 150 by_, oB b n lvA aiA laA ac woA drA, aI cI lvA 6 bl, aI cI aiA 6 ai, aI cI laA 6 bla, aI cI woA 5 wo, aR cR drA 5 r, aI cI (r 0) 6 (dr 0), aI cI (r 1) 6 (dr 1), aI cI (r 2) 6 (dr 2), aI cI (r 3) 6 (dr 3), aI cI (r 4) 6 (dr 4)] H := hP
  have hD : va_D A [oT t byA len 0 u.2.1 u.2.2.1 u.2.2.2, aI cI byA 150 by_, oB b n lvA aiA laA ac woA drA, aI cI lvA 6 bl, aI cI aiA 6 ai, aI cI laA 6 bla, aI cI woA 5 wo, aR cR drA 5 r, aI cI (r 0) 6 (dr 0), aI cI (r 1) 6 (dr 1), aI cI (r 2) 6 (dr 2), aI cI (r 3) 6 (dr 3), aI cI (r 4) 6 (dr 4)] := hD
  refine lv_iconst (v := nI 0) hx hb dX2_readsInto_5 (by decide) ?_
  refine lv_istore_n (lv' := [(2, .int (nI 0)), (0, .ref t), (1, .ref b)]) hx hb dX2_readsInto_6 rfl hl (by decide) rfl (fun ls hl => ?_)
  refine lv_aload_n hx hb dX2_readsInto_7 rfl (lv_at hl 1 rfl) ?_
  refine zXV (As := []) (b := t) (rest := []) hC (c_X2_advances (l := l) (hlen := hlen) (hby := hby) (hpl := Nat.zero_le _)) lM_X2_31 vM_X2_advances (by decide) hK hP hD hS [0, 1] [t, byA] rfl (by decide) rfl rfl ⟨rfl, rfl, rfl⟩ rfl hl.1 rfl (Nat.le_of_ble_eq_true rfl) dX2_readsInto_8 (by decide) (fun H locs hP hD hS => ?_)
  have hP : va_P D vwCl [oT t byA len ((adv by_ len (0, u.2.1, u.2.2.1, u.2.2.2)).1) ((adv by_ len (0, u.2.1, u.2.2.1, u.2.2.2)).2.1) ((adv by_ len (0, u.2.1, u.2.2.1, u.2.2.2)).2.2.1) ((adv by_ len (0, u.2.1, u.2.2.1, u.2.2.2)).2.2.2), aI cI byA 150 by_, oB b n lvA aiA laA ac woA drA, aI cI lvA 6 bl, aI cI aiA 6 ai, aI cI laA 6 bla, aI cI woA 5 wo, aR cR drA 5 r, aI cI (r 0) 6 (dr 0), aI cI (r 1) 6 (dr 1), aI cI (r 2) 6 (dr 2), aI cI (r 3) 6 (dr 3), aI cI (r 4) 6 (dr 4)] H := hP
  have hD : va_D A [oT t byA len ((adv by_ len (0, u.2.1, u.2.2.1, u.2.2.2)).1) ((adv by_ len (0, u.2.1, u.2.2.1, u.2.2.2)).2.1) ((adv by_ len (0, u.2.1, u.2.2.1, u.2.2.2)).2.2.1) ((adv by_ len (0, u.2.1, u.2.2.1, u.2.2.2)).2.2.2), aI cI byA 150 by_, oB b n lvA aiA laA ac woA drA, aI cI lvA 6 bl, aI cI aiA 6 ai, aI cI laA 6 bla, aI cI woA 5 wo, aR cR drA 5 r, aI cI (r 0) 6 (dr 0), aI cI (r 1) 6 (dr 1), aI cI (r 2) 6 (dr 2), aI cI (r 3) 6 (dr 3), aI cI (r 4) 6 (dr 4)] := hD
  show W _ _ _ _ _ _ _ _ _ _ _ _ _ _ _ (F0 m 11 ls [])
  have hL11 : ∀ (z11 : Nat) (i9 : Nat) (u9 : Cu) (D9 : Bds), 150 - i9 = z11 → i9 ≤ 150 → inL by_ len (150 - i9) i9 u9 D9 = inL by_ len 150 0 (adv by_ len (0, u.2.1, u.2.2.1, u.2.2.2)) (n, bl, ai, bla, ac, wo, dr) → wfU len u9 → D9.1 ≤ 6 ∧ D9.2.2.2.2.1 ≤ 5 → ∀ (H : Heap) (locs : List Loc), va_P D vwCl [oT t byA len u9.1 u9.2.1 u9.2.2.1 u9.2.2.2, aI cI byA 150 by_, oB b D9.1 lvA aiA laA D9.2.2.2.2.1 woA drA, aI cI lvA 6 D9.2.1, aI cI aiA 6 D9.2.2.1, aI cI laA 6 D9.2.2.2.1, aI cI woA 5 D9.2.2.2.2.2.1, aR cR drA 5 r, aI cI (r 0) 6 (D9.2.2.2.2.2.2 0), aI cI (r 1) 6 (D9.2.2.2.2.2.2 1), aI cI (r 2) 6 (D9.2.2.2.2.2.2 2), aI cI (r 3) 6 (D9.2.2.2.2.2.2 3), aI cI (r 4) 6 (D9.2.2.2.2.2.2 4)] H → va_D A [oT t byA len u9.1 u9.2.1 u9.2.2.1 u9.2.2.2, aI cI byA 150 by_, oB b D9.1 lvA aiA laA D9.2.2.2.2.1 woA drA, aI cI lvA 6 D9.2.1, aI cI aiA 6 D9.2.2.1, aI cI laA 6 D9.2.2.2.1, aI cI woA 5 D9.2.2.2.2.2.1, aR cR drA 5 r, aI cI (r 0) 6 (D9.2.2.2.2.2.2 0), aI cI (r 1) 6 (D9.2.2.2.2.2.2 1), aI cI (r 2) 6 (D9.2.2.2.2.2.2 2), aI cI (r 3) 6 (D9.2.2.2.2.2.2 3), aI cI (r 4) 6 (D9.2.2.2.2.2.2 4)] → va_S A H0 H locs → ∀ ls : Array Slot, lv_has ls 3 [(0, .ref t), (1, .ref b), (2, .int (nI i9))] → W p l e { frames := 5, cells := 0, slots := 0, locals := 111 } s m args below meth c H locs 0 0 (MQ below (qW D [oT t byA len u.1 u.2.1 u.2.2.1 u.2.2.2, aI cI byA 150 by_, oB b n lvA aiA laA ac woA drA, aI cI lvA 6 bl, aI cI aiA 6 ai, aI cI laA 6 bla, aI cI woA 5 wo, aR cR drA 5 r, aI cI (r 0) 6 (dr 0), aI cI (r 1) 6 (dr 1), aI cI (r 2) 6 (dr 2), aI cI (r 3) 6 (dr 3), aI cI (r 4) 6 (dr 4)] [oT t byA len (((inL by_ len 150 0 (adv by_ len (0, u.2.1, u.2.2.1, u.2.2.2)) (n, bl, ai, bla, ac, wo, dr)).2.2.1).1) (((inL by_ len 150 0 (adv by_ len (0, u.2.1, u.2.2.1, u.2.2.2)) (n, bl, ai, bla, ac, wo, dr)).2.2.1).2.1) (((inL by_ len 150 0 (adv by_ len (0, u.2.1, u.2.2.1, u.2.2.2)) (n, bl, ai, bla, ac, wo, dr)).2.2.1).2.2.1) (((inL by_ len 150 0 (adv by_ len (0, u.2.1, u.2.2.1, u.2.2.2)) (n, bl, ai, bla, ac, wo, dr)).2.2.1).2.2.2), aI cI byA 150 by_, oB b ((inL by_ len 150 0 (adv by_ len (0, u.2.1, u.2.2.1, u.2.2.2)) (n, bl, ai, bla, ac, wo, dr)).2.2.2.1) lvA aiA laA ((inL by_ len 150 0 (adv by_ len (0, u.2.1, u.2.2.1, u.2.2.2)) (n, bl, ai, bla, ac, wo, dr)).2.2.2.2.2.2.2.1) woA drA, aI cI lvA 6 ((inL by_ len 150 0 (adv by_ len (0, u.2.1, u.2.2.1, u.2.2.2)) (n, bl, ai, bla, ac, wo, dr)).2.2.2.2.1), aI cI aiA 6 ((inL by_ len 150 0 (adv by_ len (0, u.2.1, u.2.2.1, u.2.2.2)) (n, bl, ai, bla, ac, wo, dr)).2.2.2.2.2.1), aI cI laA 6 ((inL by_ len 150 0 (adv by_ len (0, u.2.1, u.2.2.1, u.2.2.2)) (n, bl, ai, bla, ac, wo, dr)).2.2.2.2.2.2.1), aI cI woA 5 ((inL by_ len 150 0 (adv by_ len (0, u.2.1, u.2.2.1, u.2.2.2)) (n, bl, ai, bla, ac, wo, dr)).2.2.2.2.2.2.2.2.1), aR cR drA 5 r, aI cI (r 0) 6 ((inL by_ len 150 0 (adv by_ len (0, u.2.1, u.2.2.1, u.2.2.2)) (n, bl, ai, bla, ac, wo, dr)).2.2.2.2.2.2.2.2.2 0), aI cI (r 1) 6 ((inL by_ len 150 0 (adv by_ len (0, u.2.1, u.2.2.1, u.2.2.2)) (n, bl, ai, bla, ac, wo, dr)).2.2.2.2.2.2.2.2.2 1), aI cI (r 2) 6 ((inL by_ len 150 0 (adv by_ len (0, u.2.1, u.2.2.1, u.2.2.2)) (n, bl, ai, bla, ac, wo, dr)).2.2.2.2.2.2.2.2.2 2), aI cI (r 3) 6 ((inL by_ len 150 0 (adv by_ len (0, u.2.1, u.2.2.1, u.2.2.2)) (n, bl, ai, bla, ac, wo, dr)).2.2.2.2.2.2.2.2.2 3), aI cI (r 4) 6 ((inL by_ len 150 0 (adv by_ len (0, u.2.1, u.2.2.1, u.2.2.2)) (n, bl, ai, bla, ac, wo, dr)).2.2.2.2.2.2.2.2.2 4)] (some (.int (if (inL by_ len 150 0 (adv by_ len (0, u.2.1, u.2.2.1, u.2.2.2)) (n, bl, ai, bla, ac, wo, dr)).1 = true then nI (inL by_ len 150 0 (adv by_ len (0, u.2.1, u.2.2.1, u.2.2.2)) (n, bl, ai, bla, ac, wo, dr)).2.1 else -10 - nI (inL by_ len 150 0 (adv by_ len (0, u.2.1, u.2.2.1, u.2.2.2)) (n, bl, ai, bla, ac, wo, dr)).2.1)))) args s 0 0 (zA [oT t byA len u.1 u.2.1 u.2.2.1 u.2.2.2, aI cI byA 150 by_, oB b n lvA aiA laA ac woA drA, aI cI lvA 6 bl, aI cI aiA 6 ai, aI cI laA 6 bla, aI cI woA 5 wo, aR cR drA 5 r, aI cI (r 0) 6 (dr 0), aI cI (r 1) 6 (dr 1), aI cI (r 2) 6 (dr 2), aI cI (r 3) 6 (dr 3), aI cI (r 4) 6 (dr 4)])) (F0 m 11 ls []) := by
    intro z11
    induction z11 using Nat.strongRecOn with
    | _ z11 ih11 =>
    intro i9 u9 D9 hz11 hi hq hw hD9 H locs hP hD hS ls hl
    refine lv_aload_n hx hb dX2_readsInto_11 rfl (lv_at hl 0 rfl) ?_
    refine z_get (k := 3) zcX2 hC hK hP 0 rfl (by decide) lF_X2_22 rfl dX2_readsInto_12 ?_
    have b15 := hw.2.1
    refine z0_eq (tgt := 51) hC dX2_readsInto_15 (by decide) (by omega) (fun c15 => ?_) (fun c15 => ?_)
    · skip
      refine lv_iload_n hx hb dX2_readsInto_51 rfl (lv_at hl 2 rfl) ?_
      exact zw_i hC hr hlk hA h0 (by rw [← hq]; rcases Nat.lt_or_ge i9 150 with h9 | h9; rw [show 150 - i9 = (150 - (i9 + 1)) + 1 by omega, inL_s, if_pos c15]; exact hP; rw [show 150 - i9 = 0 by omega, inL_0]; exact hP) hS (by rw [← hq]; rcases Nat.lt_or_ge i9 150 with h9 | h9; (rw [show 150 - i9 = (150 - (i9 + 1)) + 1 by omega, inL_s, if_pos c15]; rfl); (rw [show 150 - i9 = 0 by omega, inL_0]; rfl)) dX2_readsInto_52
    · skip
      refine lv_iload_n hx hb dX2_readsInto_18 rfl (lv_at hl 2 rfl) ?_
      refine lv_sipush (v := nI 150) hx hb dX2_readsInto_19 (by decide) ?_
      refine zc_ge (tgt := 51) hC dX2_readsInto_22 (by decide) (by omega) (by omega) (fun c22 => ?_) (fun c22 => ?_)
      · skip
        refine lv_iload_n hx hb dX2_readsInto_51 rfl (lv_at hl 2 rfl) ?_
        exact zw_i hC hr hlk hA h0 (by rw [← hq, show 150 - i9 = 0 by omega, inL_0]; exact hP) hS (by rw [← hq, show 150 - i9 = 0 by omega, inL_0]; exact (if_pos rfl).symm) dX2_readsInto_52
      · skip
        refine lv_aload_n hx hb dX2_readsInto_25 rfl (lv_at hl 0 rfl) ?_
        refine lv_aload_n hx hb dX2_readsInto_26 rfl (lv_at hl 1 rfl) ?_
        refine zXV (As := [.ref b]) (b := t) (rest := []) hC (c_X2_readsItem (l := l) (u := u9) (hlen := hlen) (hby := hby) (hw := hw) (hn := hD9.1) (hac := hD9.2)) lM_X2_34 vM_X2_readsItem (by decide) hK hP hD hS [0, 1, 2, 3, 4, 5, 6, 7, 8, 9, 10, 11, 12] [t, byA, b, lvA, aiA, laA, woA, drA, r 0, r 1, r 2, r 3, r 4] rfl (by decide) rfl rfl ⟨rfl, rfl, rfl⟩ rfl hl.1 rfl (Nat.le_of_ble_eq_true rfl) dX2_readsInto_27 (by decide) (fun H locs hP hD hS => ?_)
        have hP : va_P D vwCl [oT t byA len (((itF by_ len u9 D9).2.1).1) (((itF by_ len u9 D9).2.1).2.1) (((itF by_ len u9 D9).2.1).2.2.1) (((itF by_ len u9 D9).2.1).2.2.2), aI cI byA 150 by_, oB b ((itF by_ len u9 D9).2.2.1) lvA aiA laA ((itF by_ len u9 D9).2.2.2.2.2.2.1) woA drA, aI cI lvA 6 ((itF by_ len u9 D9).2.2.2.1), aI cI aiA 6 ((itF by_ len u9 D9).2.2.2.2.1), aI cI laA 6 ((itF by_ len u9 D9).2.2.2.2.2.1), aI cI woA 5 ((itF by_ len u9 D9).2.2.2.2.2.2.2.1), aR cR drA 5 r, aI cI (r 0) 6 ((itF by_ len u9 D9).2.2.2.2.2.2.2.2 0), aI cI (r 1) 6 ((itF by_ len u9 D9).2.2.2.2.2.2.2.2 1), aI cI (r 2) 6 ((itF by_ len u9 D9).2.2.2.2.2.2.2.2 2), aI cI (r 3) 6 ((itF by_ len u9 D9).2.2.2.2.2.2.2.2 3), aI cI (r 4) 6 ((itF by_ len u9 D9).2.2.2.2.2.2.2.2 4)] H := hP
        have hD : va_D A [oT t byA len (((itF by_ len u9 D9).2.1).1) (((itF by_ len u9 D9).2.1).2.1) (((itF by_ len u9 D9).2.1).2.2.1) (((itF by_ len u9 D9).2.1).2.2.2), aI cI byA 150 by_, oB b ((itF by_ len u9 D9).2.2.1) lvA aiA laA ((itF by_ len u9 D9).2.2.2.2.2.2.1) woA drA, aI cI lvA 6 ((itF by_ len u9 D9).2.2.2.1), aI cI aiA 6 ((itF by_ len u9 D9).2.2.2.2.1), aI cI laA 6 ((itF by_ len u9 D9).2.2.2.2.2.1), aI cI woA 5 ((itF by_ len u9 D9).2.2.2.2.2.2.2.1), aR cR drA 5 r, aI cI (r 0) 6 ((itF by_ len u9 D9).2.2.2.2.2.2.2.2 0), aI cI (r 1) 6 ((itF by_ len u9 D9).2.2.2.2.2.2.2.2 1), aI cI (r 2) 6 ((itF by_ len u9 D9).2.2.2.2.2.2.2.2 2), aI cI (r 3) 6 ((itF by_ len u9 D9).2.2.2.2.2.2.2.2 3), aI cI (r 4) 6 ((itF by_ len u9 D9).2.2.2.2.2.2.2.2 4)] := hD
        show W _ _ _ _ _ _ _ _ _ _ _ _ _ _ _ (F0 m 30 ls [.int (bI ((itF by_ len u9 D9).1))])
        refine zb_ne (tgt := 41) hC dX2_readsInto_30 (by decide) (fun c30 => ?_) (fun c30 => ?_)
        · skip
          refine lv_iinc (v := nI (i9 + 1)) (lv' := [(2, .int (nI (i9 + 1))), (0, .ref t), (1, .ref b)]) hx hb dX2_readsInto_41 hl (k := 2) rfl (z_inc i9 1) (by decide) rfl (fun ls hl => ?_)
          refine lv_aload_n hx hb dX2_readsInto_44 rfl (lv_at hl 1 rfl) ?_
          refine zXV (As := []) (b := t) (rest := []) hC (c_X2_advances (l := l) (hlen := hlen) (hby := hby) (hpl := (itF_wf hw).1)) lM_X2_31 vM_X2_advances (by decide) hK hP hD hS [0, 1] [t, byA] rfl (by decide) rfl rfl ⟨rfl, rfl, rfl⟩ rfl hl.1 rfl (Nat.le_of_ble_eq_true rfl) dX2_readsInto_45 (by decide) (fun H locs hP hD hS => ?_)
          have hP : va_P D vwCl [oT t byA len ((adv by_ len (itF by_ len u9 D9).2.1).1) ((adv by_ len (itF by_ len u9 D9).2.1).2.1) ((adv by_ len (itF by_ len u9 D9).2.1).2.2.1) ((adv by_ len (itF by_ len u9 D9).2.1).2.2.2), aI cI byA 150 by_, oB b ((itF by_ len u9 D9).2.2.1) lvA aiA laA ((itF by_ len u9 D9).2.2.2.2.2.2.1) woA drA, aI cI lvA 6 ((itF by_ len u9 D9).2.2.2.1), aI cI aiA 6 ((itF by_ len u9 D9).2.2.2.2.1), aI cI laA 6 ((itF by_ len u9 D9).2.2.2.2.2.1), aI cI woA 5 ((itF by_ len u9 D9).2.2.2.2.2.2.2.1), aR cR drA 5 r, aI cI (r 0) 6 ((itF by_ len u9 D9).2.2.2.2.2.2.2.2 0), aI cI (r 1) 6 ((itF by_ len u9 D9).2.2.2.2.2.2.2.2 1), aI cI (r 2) 6 ((itF by_ len u9 D9).2.2.2.2.2.2.2.2 2), aI cI (r 3) 6 ((itF by_ len u9 D9).2.2.2.2.2.2.2.2 3), aI cI (r 4) 6 ((itF by_ len u9 D9).2.2.2.2.2.2.2.2 4)] H := hP
          have hD : va_D A [oT t byA len ((adv by_ len (itF by_ len u9 D9).2.1).1) ((adv by_ len (itF by_ len u9 D9).2.1).2.1) ((adv by_ len (itF by_ len u9 D9).2.1).2.2.1) ((adv by_ len (itF by_ len u9 D9).2.1).2.2.2), aI cI byA 150 by_, oB b ((itF by_ len u9 D9).2.2.1) lvA aiA laA ((itF by_ len u9 D9).2.2.2.2.2.2.1) woA drA, aI cI lvA 6 ((itF by_ len u9 D9).2.2.2.1), aI cI aiA 6 ((itF by_ len u9 D9).2.2.2.2.1), aI cI laA 6 ((itF by_ len u9 D9).2.2.2.2.2.1), aI cI woA 5 ((itF by_ len u9 D9).2.2.2.2.2.2.2.1), aR cR drA 5 r, aI cI (r 0) 6 ((itF by_ len u9 D9).2.2.2.2.2.2.2.2 0), aI cI (r 1) 6 ((itF by_ len u9 D9).2.2.2.2.2.2.2.2 1), aI cI (r 2) 6 ((itF by_ len u9 D9).2.2.2.2.2.2.2.2 2), aI cI (r 3) 6 ((itF by_ len u9 D9).2.2.2.2.2.2.2.2 3), aI cI (r 4) 6 ((itF by_ len u9 D9).2.2.2.2.2.2.2.2 4)] := hD
          show W _ _ _ _ _ _ _ _ _ _ _ _ _ _ _ (F0 m 48 ls [])
          refine lv_goto (tgt := 11) hx hb dX2_readsInto_48 (by decide) ?_
          exact ih11 (150 - (i9 + 1)) (by omega) (i9 + 1) (adv by_ len (itF by_ len u9 D9).2.1) ((itF by_ len u9 D9).2.2) rfl (by omega) (by rw [← hq, show 150 - i9 = (150 - (i9 + 1)) + 1 by omega, inL_s, if_neg (Nat.pos_iff_ne_zero.mp c15), if_pos c30]) (by exact adv_wf (itF_wf hw).1) (by exact itF_D hD9) _ _ hP hD hS ls (lv_sub hl [1, 2, 0] rfl)
        · skip
          refine lv_bipush (v := (-10)) hx hb dX2_readsInto_33 (by decide) ?_
          refine lv_aload_n hx hb dX2_readsInto_35 rfl (lv_at hl 0 rfl) ?_
          refine z_get (k := 4) zcX2 hC hK hP 0 rfl (by decide) lF_X2_25 rfl dX2_readsInto_36 ?_
          refine lv_isub hx hb dX2_readsInto_39 ?_
          exact zw_i hC hr hlk hA h0 (by rw [← hq, show 150 - i9 = (150 - (i9 + 1)) + 1 by omega, inL_s, if_neg (Nat.pos_iff_ne_zero.mp c15), if_neg (show ¬ (itF by_ len u9 D9).1 = true by rw [c30]; decide)]; exact hP) hS (by rw [← hq, show 150 - i9 = (150 - (i9 + 1)) + 1 by omega, inL_s, if_neg (Nat.pos_iff_ne_zero.mp c15), if_neg (show ¬ (itF by_ len u9 D9).1 = true by rw [c30]; decide)]; exact (if_neg Bool.false_ne_true).symm) dX2_readsInto_40
  exact hL11 _ 0 (adv by_ len (0, u.2.1, u.2.2.1, u.2.2.2)) (n, bl, ai, bla, ac, wo, dr) rfl (by omega) (by rfl) (by exact adv_wf (Nat.zero_le _)) (by exact ⟨hn, hac⟩) _ _ hP hD hS ls (lv_sub hl [1, 2, 0] rfl)
