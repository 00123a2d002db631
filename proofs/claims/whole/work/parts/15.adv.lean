theorem adv_x {by_ : Nat → Nat} {len p e l : Nat} {r : Bool} (hr9 : r = decide (sortN (by_ p) = 1 ∨ sortN (by_ p) = 2)) (hrel : (e = p ∧ l = by_ p) ∨ (p < e ∧ l = by_ (e - 1) ∧ (r = false → e = p + 1) ∧ (r = true → sortN l = sortN (by_ p) ∧ rn by_ (sortN (by_ p)) (len - e) e = rn by_ (sortN (by_ p)) (len - (p + 1)) (p + 1)))) (hne : e ≠ p) (hstop : r = true → rn by_ (sortN (by_ p)) (len - e) e = e) : advE by_ len p = e ∧ l = by_ (e - 1) ∧ (sortN (by_ p) = 2 → 48 ≤ by_ (e - 1)) := by
  rcases hrel with h | ⟨h1, h2, h3, h4⟩
  · exact absurd h.1 hne
  · refine ⟨?_, h2, fun h => ?_⟩
    · unfold advE
      cases hr : r with
      | true =>
        rw [hr] at hr9
        rw [if_pos (of_decide_eq_true hr9.symm), ← (h4 hr).2]
        exact hstop hr
      | false =>
        rw [hr] at hr9
        rw [if_neg (of_decide_eq_false hr9.symm)]
        exact (h3 hr).symm
    · have hr : r = true := by rw [hr9]; exact decide_eq_true (Or.inr h)
      rw [← h2]
      exact (sortN_2 ((h4 hr).1.trans h)).1
theorem adv_end {by_ : Nat → Nat} {len p9 pl tk ta : Nat} {va : Int32} (h : skp by_ (len - pl) pl = p9) (h2 : p9 = len) : adv by_ len (pl, tk, ta, va) = (p9, 0, p9, -1) := by
  unfold adv
  show (if skp by_ (len - pl) pl < len then _ else _) = _
  rw [h, if_neg (by omega), h2]
theorem adv_tok {by_ : Nat → Nat} {len p9 pl tk ta : Nat} {va : Int32} (h : skp by_ (len - pl) pl = p9) (h2 : p9 < len) : adv by_ len (pl, tk, ta, va) = advW by_ len p9 va := by
  unfold adv
  show (if skp by_ (len - pl) pl < len then advW by_ len (skp by_ (len - pl) pl) va else _) = _
  rw [h, if_pos h2]
set_option maxHeartbeats 1000000 in
set_option maxRecDepth 100000 in
theorem c_X2_advances {l : Launch} {D : va_G} {cI cZ cB cR : ClassId} {t byA len pl tk ta : Nat} {va : Int32} {by_ : Nat → Nat}  (hlen : len ≤ 150) (hby : ∀ i, by_ i < 256) (hpl : pl ≤ len) : mW l yX2_advances cX2_advances 4 none 1 23 D cI cZ cB cR [oT t byA len pl tk ta va, aI cI byA 150 by_] [oT t byA len ((adv by_ len (pl, tk, ta, va)).1) ((adv by_ len (pl, tk, ta, va)).2.1) ((adv by_ len (pl, tk, ta, va)).2.2.1) ((adv by_ len (pl, tk, ta, va)).2.2.2), aI cI byA 150 by_] [.ref t] (none) := by
  refine mW_of rfl (Nat.le_of_ble_eq_true rfl) ?_
  intro p e s m args below meth c hC hr hlk hK A hA hD H0 h0 hP hS ls hl
  have hP : va_P D vwCl [oT t byA len pl tk ta va, aI cI byA 150 by_] H0 := hP
  have hl : lv_has ls 4 [(0, .ref t)] := hl
  obtain ⟨hx, hb, hml, hown, hts⟩ := id hC
  have hL0 : ∀ (z0 : Nat) (p9 : Nat), len - p9 = z0 → p9 ≤ len → skp by_ (len - p9) p9 = skp by_ (len - pl) pl → ∀ (H : Heap) (locs : List Loc), va_P D vwCl [oT t byA len p9 tk ta va, aI cI byA 150 by_] H → va_D A [oT t byA len p9 tk ta va, aI cI byA 150 by_] → va_S A H0 H locs → ∀ ls : Array Slot, lv_has ls 4 [(0, .ref t)] → W p l e { frames := 1, cells := 0, slots := 0, locals := 23 } s m args below meth c H locs 0 0 (MQ below (qW D [oT t byA len pl tk ta va, aI cI byA 150 by_] [oT t byA len ((adv by_ len (pl, tk, ta, va)).1) ((adv by_ len (pl, tk, ta, va)).2.1) ((adv by_ len (pl, tk, ta, va)).2.2.1) ((adv by_ len (pl, tk, ta, va)).2.2.2), aI cI byA 150 by_] (none)) args s 0 0 (zA [oT t byA len pl tk ta va, aI cI byA 150 by_])) (F0 m 0 ls []) := by
    intro z0
    induction z0 using Nat.strongRecOn with
    | _ z0 ih0 =>
    intro p9 hz0 hp hs H locs hP hD hS ls hl
    refine lv_aload_n hx hb dX2_advances_0 rfl (lv_at hl 0 rfl) ?_
    refine z_get (k := 2) zcX2 hC hK hP 0 rfl (by decide) lF_X2_19 rfl dX2_advances_1 ?_
    refine lv_aload_n hx hb dX2_advances_4 rfl (lv_at hl 0 rfl) ?_
    refine z_get (k := 1) zcX2 hC hK hP 0 rfl (by decide) lF_X2_15 rfl dX2_advances_5 ?_
    refine zc_ge (tgt := 37) hC dX2_advances_8 (by decide) (by omega) (by omega) (fun c8 => ?_) (fun c8 => ?_)
    · skip
      refine lv_aload_n hx hb dX2_advances_37 rfl (lv_at hl 0 rfl) ?_
      refine lv_aload_n hx hb dX2_advances_38 rfl (lv_at hl 0 rfl) ?_
      refine z_get (k := 2) zcX2 hC hK hP 0 rfl (by decide) lF_X2_19 rfl dX2_advances_39 ?_
      refine z_put (k := 4) zcX2 hC hK hP hD hS 0 rfl (by decide) lF_X2_25 rfl rfl rfl (Nat.le_of_ble_eq_true rfl) dX2_advances_42 (fun H locs hP hD hS => ?_)
      have hP : va_P D vwCl [oT t byA len p9 tk p9 va, aI cI byA 150 by_] H := hP
      have hD : va_D A [oT t byA len p9 tk p9 va, aI cI byA 150 by_] := hD
      refine lv_aload_n hx hb dX2_advances_45 rfl (lv_at hl 0 rfl) ?_
      refine lv_aload_n hx hb dX2_advances_46 rfl (lv_at hl 0 rfl) ?_
      refine z_get (k := 2) zcX2 hC hK hP 0 rfl (by decide) lF_X2_19 rfl dX2_advances_47 ?_
      refine zRV (As := [.int (nI p9)]) (b := t) (rest := []) hC (c_X2_byteAt_e (l := l) (hlen := hlen) (hby := hby) (hp := by omega) (hp2 := by omega)) lM_X2_77 vM_X2_byteAt (by decide) hK hP [0, 1] rfl ⟨rfl, rfl, rfl⟩ rfl hl.1 rfl (Nat.le_of_ble_eq_true rfl) dX2_advances_50 (by decide) ?_
      show W _ _ _ _ _ _ _ _ _ _ _ _ _ _ _ (F0 m 53 ls [.int (-1)])
      refine lv_istore_n (lv' := [(1, .int (-1)), (0, .ref t)]) hx hb dX2_advances_53 rfl hl (by decide) rfl (fun ls hl => ?_)
      refine lv_iload_n hx hb dX2_advances_54 rfl (lv_at hl 0 rfl) ?_
      refine lv_istore_n (lv' := [(2, .int (-1)), (1, .int (-1)), (0, .ref t)]) hx hb dX2_advances_55 rfl hl (by decide) rfl (fun ls hl => ?_)
      refine lv_aload_n hx hb dX2_advances_56 rfl (lv_at hl 2 rfl) ?_
      refine lv_iload_n hx hb dX2_advances_57 rfl (lv_at hl 1 rfl) ?_
      refine zRS (As := [.int (-1)]) (rest := [.ref t]) hC (c_X2_sortOf_e (l := l) ) lM_X2_81 sM_X2_sortOf (by decide) hK rfl hl.1 rfl (Nat.le_of_ble_eq_true rfl) dX2_advances_58 (by decide) ?_
      show W _ _ _ _ _ _ _ _ _ _ _ _ _ _ _ (F0 m 61 ls [.int (nI 0), .ref t])
      have b61 := sortN_le (by_ p9)
      refine z_put (k := 3) zcX2 hC hK hP hD hS 0 rfl (by decide) lF_X2_22 rfl rfl rfl (Nat.le_of_ble_eq_true rfl) dX2_advances_61 (fun H locs hP hD hS => ?_)
      have hP : va_P D vwCl [oT t byA len p9 0 p9 va, aI cI byA 150 by_] H := hP
      have hD : va_D A [oT t byA len p9 0 p9 va, aI cI byA 150 by_] := hD
      refine lv_aload_n hx hb dX2_advances_64 rfl (lv_at hl 2 rfl) ?_
      refine z_get (k := 3) zcX2 hC hK hP 0 rfl (by decide) lF_X2_22 rfl dX2_advances_65 ?_
      refine lv_iconst (v := nI 1) hx hb dX2_advances_68 (by decide) ?_
      refine zc_eq (tgt := 80) hC dX2_advances_69 (by decide) (by omega) (by omega) (fun c69 => by exfalso; cases c69) (fun c69 => ?_)
      refine lv_aload_n hx hb dX2_advances_72 rfl (lv_at hl 2 rfl) ?_
      refine z_get (k := 3) zcX2 hC hK hP 0 rfl (by decide) lF_X2_22 rfl dX2_advances_73 ?_
      refine lv_iconst (v := nI 2) hx hb dX2_advances_76 (by decide) ?_
      refine zc_ne (tgt := 84) hC dX2_advances_77 (by decide) (by omega) (by omega) (fun c77 => ?_) (fun c77 => ?_)
      · skip
        refine lv_iconst (v := nI 0) hx hb dX2_advances_84 (by decide) ?_
        refine lv_istore_n (lv' := [(3, .int (nI 0)), (2, .int (-1)), (1, .int (-1)), (0, .ref t)]) hx hb dX2_advances_85 rfl hl (by decide) rfl (fun ls hl => ?_)
        refine lv_aload_n hx hb dX2_advances_86 rfl (lv_at hl 3 rfl) ?_
        refine z_get (k := 2) zcX2 hC hK hP 0 rfl (by decide) lF_X2_19 rfl dX2_advances_87 ?_
        refine lv_aload_n hx hb dX2_advances_90 rfl (lv_at hl 3 rfl) ?_
        refine z_get (k := 1) zcX2 hC hK hP 0 rfl (by decide) lF_X2_15 rfl dX2_advances_91 ?_
        refine zc_ge (tgt := 152) hC dX2_advances_94 (by decide) (by omega) (by omega) (fun c94 => ?_) (fun c94 => by exfalso; omega)
        refine lv_aload_n hx hb dX2_advances_152 rfl (lv_at hl 3 rfl) ?_
        refine lv_iload_n hx hb dX2_advances_153 rfl (lv_at hl 2 rfl) ?_
        refine lv_iload_n hx hb dX2_advances_154 rfl (lv_at hl 1 rfl) ?_
        refine lv_aload_n hx hb dX2_advances_155 rfl (lv_at hl 3 rfl) ?_
        refine z_get (k := 2) zcX2 hC hK hP 0 rfl (by decide) lF_X2_19 rfl dX2_advances_156 ?_
        refine lv_aload_n hx hb dX2_advances_159 rfl (lv_at hl 3 rfl) ?_
        refine z_get (k := 4) zcX2 hC hK hP 0 rfl (by decide) lF_X2_25 rfl dX2_advances_160 ?_
        refine zi_sub hC dX2_advances_163 (by omega) ?_
        refine z_top (show (nI (p9 - p9)) = nI 0 from by rw [Nat.sub_self]) ?_
        refine zXV (As := [.int (-1), .int (-1), .int (nI 0)]) (b := t) (rest := []) hC (c_X2_setsValue_e (l := l) ) lM_X2_84 vM_X2_setsValue (by decide) hK hP hD hS [0] [t] rfl (by decide) rfl rfl ⟨rfl, rfl, rfl⟩ rfl hl.1 rfl (Nat.le_of_ble_eq_true rfl) dX2_advances_164 (by decide) (fun H locs hP hD hS => ?_)
        have hP : va_P D vwCl [oT t byA len p9 0 p9 (-1), aI cI byA 150 by_] H := hP
        have hD : va_D A [oT t byA len p9 0 p9 (-1), aI cI byA 150 by_] := hD
        show W _ _ _ _ _ _ _ _ _ _ _ _ _ _ _ (F0 m 167 ls [])
        exact zw_v hC hr hlk hA h0 (by rw [adv_end (hs.symm.trans (skp_end c8)) (by omega)]; exact hP) hS dX2_advances_167
      · skip
        refine lv_iconst (v := nI 1) hx hb dX2_advances_80 (by decide) ?_
        refine lv_goto (tgt := 85) hx hb dX2_advances_81 (by decide) ?_
        refine lv_istore_n (lv' := [(3, .int (nI 1)), (2, .int (-1)), (1, .int (-1)), (0, .ref t)]) hx hb dX2_advances_85 rfl hl (by decide) rfl (fun ls hl => ?_)
        refine lv_aload_n hx hb dX2_advances_86 rfl (lv_at hl 3 rfl) ?_
        refine z_get (k := 2) zcX2 hC hK hP 0 rfl (by decide) lF_X2_19 rfl dX2_advances_87 ?_
        refine lv_aload_n hx hb dX2_advances_90 rfl (lv_at hl 3 rfl) ?_
        refine z_get (k := 1) zcX2 hC hK hP 0 rfl (by decide) lF_X2_15 rfl dX2_advances_91 ?_
        refine zc_ge (tgt := 152) hC dX2_advances_94 (by decide) (by omega) (by omega) (fun c94 => ?_) (fun c94 => by exfalso; omega)
        refine lv_aload_n hx hb dX2_advances_152 rfl (lv_at hl 3 rfl) ?_
        refine lv_iload_n hx hb dX2_advances_153 rfl (lv_at hl 2 rfl) ?_
        refine lv_iload_n hx hb dX2_advances_154 rfl (lv_at hl 1 rfl) ?_
        refine lv_aload_n hx hb dX2_advances_155 rfl (lv_at hl 3 rfl) ?_
        refine z_get (k := 2) zcX2 hC hK hP 0 rfl (by decide) lF_X2_19 rfl dX2_advances_156 ?_
        refine lv_aload_n hx hb dX2_advances_159 rfl (lv_at hl 3 rfl) ?_
        refine z_get (k := 4) zcX2 hC hK hP 0 rfl (by decide) lF_X2_25 rfl dX2_advances_160 ?_
        refine zi_sub hC dX2_advances_163 (by omega) ?_
        refine z_top (show (nI (p9 - p9)) = nI 0 from by rw [Nat.sub_self]) ?_
        refine zXV (As := [.int (-1), .int (-1), .int (nI 0)]) (b := t) (rest := []) hC (c_X2_setsValue_e (l := l) ) lM_X2_84 vM_X2_setsValue (by decide) hK hP hD hS [0] [t] rfl (by decide) rfl rfl ⟨rfl, rfl, rfl⟩ rfl hl.1 rfl (Nat.le_of_ble_eq_true rfl) dX2_advances_164 (by decide) (fun H locs hP hD hS => ?_)
        have hP : va_P D vwCl [oT t byA len p9 0 p9 (-1), aI cI byA 150 by_] H := hP
        have hD : va_D A [oT t byA len p9 0 p9 (-1), aI cI byA 150 by_] := hD
        show W _ _ _ _ _ _ _ _ _ _ _ _ _ _ _ (F0 m 167 ls [])
        exact zw_v hC hr hlk hA h0 (by rw [adv_end (hs.symm.trans (skp_end c8)) (by omega)]; exact hP) hS dX2_advances_167
    · skip
      refine lv_aload_n hx hb dX2_advances_11 rfl (lv_at hl 0 rfl) ?_
      refine lv_aload_n hx hb dX2_advances_12 rfl (lv_at hl 0 rfl) ?_
      refine z_get (k := 2) zcX2 hC hK hP 0 rfl (by decide) lF_X2_19 rfl dX2_advances_13 ?_
      refine zRV (As := [.int (nI p9)]) (b := t) (rest := []) hC (c_X2_byteAt (l := l) (hlen := hlen) (hby := hby) (hp := by omega)) lM_X2_77 vM_X2_byteAt (by decide) hK hP [0, 1] rfl ⟨rfl, rfl, rfl⟩ rfl hl.1 rfl (Nat.le_of_ble_eq_true rfl) dX2_advances_16 (by decide) ?_
      show W _ _ _ _ _ _ _ _ _ _ _ _ _ _ _ (F0 m 19 ls [.int (nI (by_ p9))])
      refine lv_bipush (v := nI 32) hx hb dX2_advances_19 (by decide) ?_
      have b21 := hby p9
      refine zc_ne (tgt := 37) hC dX2_advances_21 (by decide) (by omega) (by omega) (fun c21 => ?_) (fun c21 => ?_)
      · skip
        refine lv_aload_n hx hb dX2_advances_37 rfl (lv_at hl 0 rfl) ?_
        refine lv_aload_n hx hb dX2_advances_38 rfl (lv_at hl 0 rfl) ?_
        refine z_get (k := 2) zcX2 hC hK hP 0 rfl (by decide) lF_X2_19 rfl dX2_advances_39 ?_
        refine z_put (k := 4) zcX2 hC hK hP hD hS 0 rfl (by decide) lF_X2_25 rfl rfl rfl (Nat.le_of_ble_eq_true rfl) dX2_advances_42 (fun H locs hP hD hS => ?_)
        have hP : va_P D vwCl [oT t byA len p9 tk p9 va, aI cI byA 150 by_] H := hP
        have hD : va_D A [oT t byA len p9 tk p9 va, aI cI byA 150 by_] := hD
        refine lv_aload_n hx hb dX2_advances_45 rfl (lv_at hl 0 rfl) ?_
        refine lv_aload_n hx hb dX2_advances_46 rfl (lv_at hl 0 rfl) ?_
        refine z_get (k := 2) zcX2 hC hK hP 0 rfl (by decide) lF_X2_19 rfl dX2_advances_47 ?_
        refine zRV (As := [.int (nI p9)]) (b := t) (rest := []) hC (c_X2_byteAt (l := l) (hlen := hlen) (hby := hby) (hp := by omega)) lM_X2_77 vM_X2_byteAt (by decide) hK hP [0, 1] rfl ⟨rfl, rfl, rfl⟩ rfl hl.1 rfl (Nat.le_of_ble_eq_true rfl) dX2_advances_50 (by decide) ?_
        show W _ _ _ _ _ _ _ _ _ _ _ _ _ _ _ (F0 m 53 ls [.int (nI (by_ p9))])
        refine lv_istore_n (lv' := [(1, .int (nI (by_ p9))), (0, .ref t)]) hx hb dX2_advances_53 rfl hl (by decide) rfl (fun ls hl => ?_)
        refine lv_iload_n hx hb dX2_advances_54 rfl (lv_at hl 0 rfl) ?_
        refine lv_istore_n (lv' := [(2, .int (nI (by_ p9))), (1, .int (nI (by_ p9))), (0, .ref t)]) hx hb dX2_advances_55 rfl hl (by decide) rfl (fun ls hl => ?_)
        refine lv_aload_n hx hb dX2_advances_56 rfl (lv_at hl 2 rfl) ?_
        refine lv_iload_n hx hb dX2_advances_57 rfl (lv_at hl 1 rfl) ?_
        refine zRS (As := [.int (nI (by_ p9))]) (rest := [.ref t]) hC (c_X2_sortOf (l := l) (hx9 := hby _)) lM_X2_81 sM_X2_sortOf (by decide) hK rfl hl.1 rfl (Nat.le_of_ble_eq_true rfl) dX2_advances_58 (by decide) ?_
        show W _ _ _ _ _ _ _ _ _ _ _ _ _ _ _ (F0 m 61 ls [.int (nI (sortN (by_ p9))), .ref t])
        have b61 := sortN_le (by_ p9)
        refine z_put (k := 3) zcX2 hC hK hP hD hS 0 rfl (by decide) lF_X2_22 rfl rfl rfl (Nat.le_of_ble_eq_true rfl) dX2_advances_61 (fun H locs hP hD hS => ?_)
        have hP : va_P D vwCl [oT t byA len p9 (sortN (by_ p9)) p9 va, aI cI byA 150 by_] H := hP
        have hD : va_D A [oT t byA len p9 (sortN (by_ p9)) p9 va, aI cI byA 150 by_] := hD
        have hJ85 : ∀ (r9 : Bool), True → r9 = decide (sortN (by_ p9) = 1 ∨ sortN (by_ p9) = 2) → ∀ (H : Heap) (locs : List Loc), va_P D vwCl [oT t byA len p9 (sortN (by_ p9)) p9 va, aI cI byA 150 by_] H → va_D A [oT t byA len p9 (sortN (by_ p9)) p9 va, aI cI byA 150 by_] → va_S A H0 H locs → ∀ ls : Array Slot, lv_has ls 4 [(0, .ref t), (1, .int (nI (by_ p9))), (2, .int (nI (by_ p9)))] → W p l e { frames := 1, cells := 0, slots := 0, locals := 23 } s m args below meth c H locs 0 0 (MQ below (qW D [oT t byA len pl tk ta va, aI cI byA 150 by_] [oT t byA len ((adv by_ len (pl, tk, ta, va)).1) ((adv by_ len (pl, tk, ta, va)).2.1) ((adv by_ len (pl, tk, ta, va)).2.2.1) ((adv by_ len (pl, tk, ta, va)).2.2.2), aI cI byA 150 by_] (none)) args s 0 0 (zA [oT t byA len pl tk ta va, aI cI byA 150 by_])) (F0 m 85 ls [.int (bI r9)]) := by
          intro r9 _ hr9 H locs hP hD hS ls hl
          refine lv_istore_n (lv' := [(3, .int (bI r9)), (0, .ref t), (1, .int (nI (by_ p9))), (2, .int (nI (by_ p9)))]) hx hb dX2_advances_85 rfl hl (by decide) rfl (fun ls hl => ?_)
          have hL86 : ∀ (z86 : Nat) (e9 : Nat) (l9 : Nat), len - e9 = z86 → p9 ≤ e9 ∧ e9 ≤ len → (e9 = p9 ∧ l9 = by_ p9) ∨ (p9 < e9 ∧ l9 = by_ (e9 - 1) ∧ (r9 = false → e9 = p9 + 1) ∧ (r9 = true → sortN l9 = sortN (by_ p9) ∧ rn by_ (sortN (by_ p9)) (len - e9) e9 = rn by_ (sortN (by_ p9)) (len - (p9 + 1)) (p9 + 1))) → ∀ (H : Heap) (locs : List Loc), va_P D vwCl [oT t byA len e9 (sortN (by_ p9)) p9 va, aI cI byA 150 by_] H → va_D A [oT t byA len e9 (sortN (by_ p9)) p9 va, aI cI byA 150 by_] → va_S A H0 H locs → ∀ ls : Array Slot, lv_has ls 4 [(0, .ref t), (1, .int (nI (by_ p9))), (3, .int (bI r9)), (2, .int (nI l9))] → W p l e { frames := 1, cells := 0, slots := 0, locals := 23 } s m args below meth c H locs 0 0 (MQ below (qW D [oT t byA len pl tk ta va, aI cI byA 150 by_] [oT t byA len ((adv by_ len (pl, tk, ta, va)).1) ((adv by_ len (pl, tk, ta, va)).2.1) ((adv by_ len (pl, tk, ta, va)).2.2.1) ((adv by_ len (pl, tk, ta, va)).2.2.2), aI cI byA 150 by_] (none)) args s 0 0 (zA [oT t byA len pl tk ta va, aI cI byA 150 by_])) (F0 m 86 ls []) := by
            intro z86
            induction z86 using Nat.strongRecOn with
            | _ z86 ih86 =>
            intro e9 l9 hz86 he hrel H locs hP hD hS ls hl
            refine lv_aload_n hx hb dX2_advances_86 rfl (lv_at hl 0 rfl) ?_
            refine z_get (k := 2) zcX2 hC hK hP 0 rfl (by decide) lF_X2_19 rfl dX2_advances_87 ?_
            refine lv_aload_n hx hb dX2_advances_90 rfl (lv_at hl 0 rfl) ?_
            refine z_get (k := 1) zcX2 hC hK hP 0 rfl (by decide) lF_X2_15 rfl dX2_advances_91 ?_
            refine zc_ge (tgt := 152) hC dX2_advances_94 (by decide) (by omega) (by omega) (fun c94 => ?_) (fun c94 => ?_)
            · skip
              obtain ⟨hE, hl9, hlx⟩ := adv_x hr9 hrel (by omega) (fun _ => rn_end c94)
              refine lv_aload_n hx hb dX2_advances_152 rfl (lv_at hl 0 rfl) ?_
              refine lv_iload_n hx hb dX2_advances_153 rfl (lv_at hl 1 rfl) ?_
              refine lv_iload_n hx hb dX2_advances_154 rfl (lv_at hl 3 rfl) ?_
              refine lv_aload_n hx hb dX2_advances_155 rfl (lv_at hl 0 rfl) ?_
              refine z_get (k := 2) zcX2 hC hK hP 0 rfl (by decide) lF_X2_19 rfl dX2_advances_156 ?_
              refine lv_aload_n hx hb dX2_advances_159 rfl (lv_at hl 0 rfl) ?_
              refine z_get (k := 4) zcX2 hC hK hP 0 rfl (by decide) lF_X2_25 rfl dX2_advances_160 ?_
              refine zi_sub hC dX2_advances_163 (by omega) ?_
              refine zXV (As := [.int (nI (by_ p9)), .int (nI l9), .int (nI (e9 - p9))]) (b := t) (rest := []) hC (c_X2_setsValue (l := l) (hw := by omega) (hc := hby _) (hl9 := by rw [hl9]; exact hby _) (htk := by omega) (h2 := fun h => ⟨(sortN_2 h).1, by rw [hl9]; exact hlx h⟩)) lM_X2_84 vM_X2_setsValue (by decide) hK hP hD hS [0] [t] rfl (by decide) rfl rfl ⟨rfl, rfl, rfl⟩ rfl hl.1 rfl (Nat.le_of_ble_eq_true rfl) dX2_advances_164 (by decide) (fun H locs hP hD hS => ?_)
              have hP : va_P D vwCl [oT t byA len e9 (svK (sortN (by_ p9)) (by_ p9) (e9 - p9)) p9 (svV (sortN (by_ p9)) (by_ p9) l9 (e9 - p9) va), aI cI byA 150 by_] H := hP
              have hD : va_D A [oT t byA len e9 (svK (sortN (by_ p9)) (by_ p9) (e9 - p9)) p9 (svV (sortN (by_ p9)) (by_ p9) l9 (e9 - p9) va), aI cI byA 150 by_] := hD
              show W _ _ _ _ _ _ _ _ _ _ _ _ _ _ _ (F0 m 167 ls [])
              exact zw_v hC hr hlk hA h0 (by rw [adv_tok (hs.symm.trans (skp_stop c8 c21)) c8]; unfold advW; rw [hE, ← hl9]; exact hP) hS dX2_advances_167
            · skip
              refine lv_aload_n hx hb dX2_advances_97 rfl (lv_at hl 0 rfl) ?_
              refine z_get (k := 2) zcX2 hC hK hP 0 rfl (by decide) lF_X2_19 rfl dX2_advances_98 ?_
              refine lv_aload_n hx hb dX2_advances_101 rfl (lv_at hl 0 rfl) ?_
              refine z_get (k := 4) zcX2 hC hK hP 0 rfl (by decide) lF_X2_25 rfl dX2_advances_102 ?_
              refine zc_eq (tgt := 130) hC dX2_advances_105 (by decide) (by omega) (by omega) (fun c105 => ?_) (fun c105 => ?_)
              · skip
                refine lv_aload_n hx hb dX2_advances_130 rfl (lv_at hl 0 rfl) ?_
                refine lv_aload_n hx hb dX2_advances_131 rfl (lv_at hl 0 rfl) ?_
                refine z_get (k := 2) zcX2 hC hK hP 0 rfl (by decide) lF_X2_19 rfl dX2_advances_132 ?_
                refine zRV (As := [.int (nI e9)]) (b := t) (rest := []) hC (c_X2_byteAt (l := l) (hlen := hlen) (hby := hby) (hp := by omega)) lM_X2_77 vM_X2_byteAt (by decide) hK hP [0, 1] rfl ⟨rfl, rfl, rfl⟩ rfl hl.1 rfl (Nat.le_of_ble_eq_true rfl) dX2_advances_135 (by decide) ?_
                show W _ _ _ _ _ _ _ _ _ _ _ _ _ _ _ (F0 m 138 ls [.int (nI (by_ e9))])
                refine lv_istore_n (lv' := [(2, .int (nI (by_ e9))), (0, .ref t), (1, .int (nI (by_ p9))), (3, .int (bI r9))]) hx hb dX2_advances_138 rfl hl (by decide) rfl (fun ls hl => ?_)
                refine lv_aload_n hx hb dX2_advances_139 rfl (lv_at hl 1 rfl) ?_
                refine lv_dup hx hb dX2_advances_140 rfl ?_
                refine z_get (k := 2) zcX2 hC hK hP 0 rfl (by decide) lF_X2_19 rfl dX2_advances_141 ?_
                refine lv_iconst (v := nI 1) hx hb dX2_advances_144 (by decide) ?_
                refine zi_add hC dX2_advances_145 ?_
                refine z_put (k := 2) zcX2 hC hK hP hD hS 0 rfl (by decide) lF_X2_19 rfl rfl rfl (Nat.le_of_ble_eq_true rfl) dX2_advances_146 (fun H locs hP hD hS => ?_)
                have hP : va_P D vwCl [oT t byA len (e9 + 1) (sortN (by_ p9)) p9 va, aI cI byA 150 by_] H := hP
                have hD : va_D A [oT t byA len (e9 + 1) (sortN (by_ p9)) p9 va, aI cI byA 150 by_] := hD
                refine lv_goto (tgt := 86) hx hb dX2_advances_149 (by decide) ?_
                exact ih86 (len - (e9 + 1)) (by omega) (e9 + 1) (by_ e9) rfl (by omega) (by first | exact Or.inr ⟨by omega, by rw [Nat.add_sub_cancel], fun _ => by omega, fun _ => ⟨by rw [c105], by rw [c105]⟩⟩ | exact Or.inr ⟨by omega, by rw [Nat.add_sub_cancel], fun h => absurd (h.symm.trans c109) (by decide), fun _ => ⟨c127, (rn_go c94 c127).symm.trans (by rcases hrel with h | h; exact absurd h.1 c105; exact (h.2.2.2 c109).2)⟩⟩) _ _ hP hD hS ls (lv_sub hl [1, 2, 3, 0] rfl)
              · skip
                refine lv_iload_n hx hb dX2_advances_108 rfl (lv_at hl 2 rfl) ?_
                refine zb_eq (tgt := 152) hC dX2_advances_109 (by decide) (fun c109 => ?_) (fun c109 => ?_)
                · skip
                  obtain ⟨hE, hl9, hlx⟩ := adv_x hr9 hrel c105 (fun h => absurd (h.symm.trans c109) (by decide))
                  refine lv_aload_n hx hb dX2_advances_152 rfl (lv_at hl 0 rfl) ?_
                  refine lv_iload_n hx hb dX2_advances_153 rfl (lv_at hl 1 rfl) ?_
                  refine lv_iload_n hx hb dX2_advances_154 rfl (lv_at hl 3 rfl) ?_
                  refine lv_aload_n hx hb dX2_advances_155 rfl (lv_at hl 0 rfl) ?_
                  refine z_get (k := 2) zcX2 hC hK hP 0 rfl (by decide) lF_X2_19 rfl dX2_advances_156 ?_
                  refine lv_aload_n hx hb dX2_advances_159 rfl (lv_at hl 0 rfl) ?_
                  refine z_get (k := 4) zcX2 hC hK hP 0 rfl (by decide) lF_X2_25 rfl dX2_advances_160 ?_
                  refine zi_sub hC dX2_advances_163 (by omega) ?_
                  refine zXV (As := [.int (nI (by_ p9)), .int (nI l9), .int (nI (e9 - p9))]) (b := t) (rest := []) hC (c_X2_setsValue (l := l) (hw := by omega) (hc := hby _) (hl9 := by rw [hl9]; exact hby _) (htk := by omega) (h2 := fun h => ⟨(sortN_2 h).1, by rw [hl9]; exact hlx h⟩)) lM_X2_84 vM_X2_setsValue (by decide) hK hP hD hS [0] [t] rfl (by decide) rfl rfl ⟨rfl, rfl, rfl⟩ rfl hl.1 rfl (Nat.le_of_ble_eq_true rfl) dX2_advances_164 (by decide) (fun H locs hP hD hS => ?_)
                  have hP : va_P D vwCl [oT t byA len e9 (svK (sortN (by_ p9)) (by_ p9) (e9 - p9)) p9 (svV (sortN (by_ p9)) (by_ p9) l9 (e9 - p9) va), aI cI byA 150 by_] H := hP
                  have hD : va_D A [oT t byA len e9 (svK (sortN (by_ p9)) (by_ p9) (e9 - p9)) p9 (svV (sortN (by_ p9)) (by_ p9) l9 (e9 - p9) va), aI cI byA 150 by_] := hD
                  show W _ _ _ _ _ _ _ _ _ _ _ _ _ _ _ (F0 m 167 ls [])
                  exact zw_v hC hr hlk hA h0 (by rw [adv_tok (hs.symm.trans (skp_stop c8 c21)) c8]; unfold advW; rw [hE, ← hl9]; exact hP) hS dX2_advances_167
                · skip
                  refine lv_aload_n hx hb dX2_advances_112 rfl (lv_at hl 0 rfl) ?_
                  refine lv_aload_n hx hb dX2_advances_113 rfl (lv_at hl 0 rfl) ?_
                  refine z_get (k := 2) zcX2 hC hK hP 0 rfl (by decide) lF_X2_19 rfl dX2_advances_114 ?_
                  refine zRV (As := [.int (nI e9)]) (b := t) (rest := []) hC (c_X2_byteAt (l := l) (hlen := hlen) (hby := hby) (hp := by omega)) lM_X2_77 vM_X2_byteAt (by decide) hK hP [0, 1] rfl ⟨rfl, rfl, rfl⟩ rfl hl.1 rfl (Nat.le_of_ble_eq_true rfl) dX2_advances_117 (by decide) ?_
                  show W _ _ _ _ _ _ _ _ _ _ _ _ _ _ _ (F0 m 120 ls [.int (nI (by_ e9))])
                  refine zRS (As := [.int (nI (by_ e9))]) (rest := []) hC (c_X2_sortOf (l := l) (hx9 := hby _)) lM_X2_81 sM_X2_sortOf (by decide) hK rfl hl.1 rfl (Nat.le_of_ble_eq_true rfl) dX2_advances_120 (by decide) ?_
                  show W _ _ _ _ _ _ _ _ _ _ _ _ _ _ _ (F0 m 123 ls [.int (nI (sortN (by_ e9)))])
                  refine lv_aload_n hx hb dX2_advances_123 rfl (lv_at hl 0 rfl) ?_
                  have b124 := sortN_le (by_ e9)
                  refine z_get (k := 3) zcX2 hC hK hP 0 rfl (by decide) lF_X2_22 rfl dX2_advances_124 ?_
                  refine zc_ne (tgt := 152) hC dX2_advances_127 (by decide) (by omega) (by omega) (fun c127 => ?_) (fun c127 => ?_)
                  · skip
                    obtain ⟨hE, hl9, hlx⟩ := adv_x hr9 hrel c105 (fun _ => rn_stop c94 c127)
                    refine lv_aload_n hx hb dX2_advances_152 rfl (lv_at hl 0 rfl) ?_
                    refine lv_iload_n hx hb dX2_advances_153 rfl (lv_at hl 1 rfl) ?_
                    refine lv_iload_n hx hb dX2_advances_154 rfl (lv_at hl 3 rfl) ?_
                    refine lv_aload_n hx hb dX2_advances_155 rfl (lv_at hl 0 rfl) ?_
                    refine z_get (k := 2) zcX2 hC hK hP 0 rfl (by decide) lF_X2_19 rfl dX2_advances_156 ?_
                    refine lv_aload_n hx hb dX2_advances_159 rfl (lv_at hl 0 rfl) ?_
                    refine z_get (k := 4) zcX2 hC hK hP 0 rfl (by decide) lF_X2_25 rfl dX2_advances_160 ?_
                    refine zi_sub hC dX2_advances_163 (by omega) ?_
                    refine zXV (As := [.int (nI (by_ p9)), .int (nI l9), .int (nI (e9 - p9))]) (b := t) (rest := []) hC (c_X2_setsValue (l := l) (hw := by omega) (hc := hby _) (hl9 := by rw [hl9]; exact hby _) (htk := by omega) (h2 := fun h => ⟨(sortN_2 h).1, by rw [hl9]; exact hlx h⟩)) lM_X2_84 vM_X2_setsValue (by decide) hK hP hD hS [0] [t] rfl (by decide) rfl rfl ⟨rfl, rfl, rfl⟩ rfl hl.1 rfl (Nat.le_of_ble_eq_true rfl) dX2_advances_164 (by decide) (fun H locs hP hD hS => ?_)
                    have hP : va_P D vwCl [oT t byA len e9 (svK (sortN (by_ p9)) (by_ p9) (e9 - p9)) p9 (svV (sortN (by_ p9)) (by_ p9) l9 (e9 - p9) va), aI cI byA 150 by_] H := hP
                    have hD : va_D A [oT t byA len e9 (svK (sortN (by_ p9)) (by_ p9) (e9 - p9)) p9 (svV (sortN (by_ p9)) (by_ p9) l9 (e9 - p9) va), aI cI byA 150 by_] := hD
                    show W _ _ _ _ _ _ _ _ _ _ _ _ _ _ _ (F0 m 167 ls [])
                    exact zw_v hC hr hlk hA h0 (by rw [adv_tok (hs.symm.trans (skp_stop c8 c21)) c8]; unfold advW; rw [hE, ← hl9]; exact hP) hS dX2_advances_167
                  · skip
                    refine lv_aload_n hx hb dX2_advances_130 rfl (lv_at hl 0 rfl) ?_
                    refine lv_aload_n hx hb dX2_advances_131 rfl (lv_at hl 0 rfl) ?_
                    refine z_get (k := 2) zcX2 hC hK hP 0 rfl (by decide) lF_X2_19 rfl dX2_advances_132 ?_
                    refine zRV (As := [.int (nI e9)]) (b := t) (rest := []) hC (c_X2_byteAt (l := l) (hlen := hlen) (hby := hby) (hp := by omega)) lM_X2_77 vM_X2_byteAt (by decide) hK hP [0, 1] rfl ⟨rfl, rfl, rfl⟩ rfl hl.1 rfl (Nat.le_of_ble_eq_true rfl) dX2_advances_135 (by decide) ?_
                    show W _ _ _ _ _ _ _ _ _ _ _ _ _ _ _ (F0 m 138 ls [.int (nI (by_ e9))])
                    refine lv_istore_n (lv' := [(2, .int (nI (by_ e9))), (0, .ref t), (1, .int (nI (by_ p9))), (3, .int (bI r9))]) hx hb dX2_advances_138 rfl hl (by decide) rfl (fun ls hl => ?_)
                    refine lv_aload_n hx hb dX2_advances_139 rfl (lv_at hl 1 rfl) ?_
                    refine lv_dup hx hb dX2_advances_140 rfl ?_
                    refine z_get (k := 2) zcX2 hC hK hP 0 rfl (by decide) lF_X2_19 rfl dX2_advances_141 ?_
                    refine lv_iconst (v := nI 1) hx hb dX2_advances_144 (by decide) ?_
                    refine zi_add hC dX2_advances_145 ?_
                    refine z_put (k := 2) zcX2 hC hK hP hD hS 0 rfl (by decide) lF_X2_19 rfl rfl rfl (Nat.le_of_ble_eq_true rfl) dX2_advances_146 (fun H locs hP hD hS => ?_)
                    have hP : va_P D vwCl [oT t byA len (e9 + 1) (sortN (by_ p9)) p9 va, aI cI byA 150 by_] H := hP
                    have hD : va_D A [oT t byA len (e9 + 1) (sortN (by_ p9)) p9 va, aI cI byA 150 by_] := hD
                    refine lv_goto (tgt := 86) hx hb dX2_advances_149 (by decide) ?_
                    exact ih86 (len - (e9 + 1)) (by omega) (e9 + 1) (by_ e9) rfl (by omega) (by first | exact Or.inr ⟨by omega, by rw [Nat.add_sub_cancel], fun _ => by omega, fun _ => ⟨by rw [c105], by rw [c105]⟩⟩ | exact Or.inr ⟨by omega, by rw [Nat.add_sub_cancel], fun h => absurd (h.symm.trans c109) (by decide), fun _ => ⟨c127, (rn_go c94 c127).symm.trans (by rcases hrel with h | h; exact absurd h.1 c105; exact (h.2.2.2 c109).2)⟩⟩) _ _ hP hD hS ls (lv_sub hl [1, 2, 3, 0] rfl)
          exact hL86 _ p9 (by_ p9) rfl (by omega) (by exact Or.inl ⟨rfl, rfl⟩) _ _ hP hD hS ls (lv_sub hl [1, 2, 0, 3] rfl)
        refine lv_aload_n hx hb dX2_advances_64 rfl (lv_at hl 2 rfl) ?_
        refine z_get (k := 3) zcX2 hC hK hP 0 rfl (by decide) lF_X2_22 rfl dX2_advances_65 ?_
        refine lv_iconst (v := nI 1) hx hb dX2_advances_68 (by decide) ?_
        refine zc_eq (tgt := 80) hC dX2_advances_69 (by decide) (by omega) (by omega) (fun c69 => ?_) (fun c69 => ?_)
        · skip
          refine lv_iconst (v := nI 1) hx hb dX2_advances_80 (by decide) ?_
          refine lv_goto (tgt := 85) hx hb dX2_advances_81 (by decide) ?_
          exact hJ85 true trivial (by first | exact (decide_eq_true (Or.inl c69)).symm | exact (decide_eq_true (Or.inr c77)).symm | exact (decide_eq_false (by omega)).symm) _ _ hP hD hS ls (lv_sub hl [2, 1, 0] rfl)
        · skip
          refine lv_aload_n hx hb dX2_advances_72 rfl (lv_at hl 2 rfl) ?_
          refine z_get (k := 3) zcX2 hC hK hP 0 rfl (by decide) lF_X2_22 rfl dX2_advances_73 ?_
          refine lv_iconst (v := nI 2) hx hb dX2_advances_76 (by decide) ?_
          refine zc_ne (tgt := 84) hC dX2_advances_77 (by decide) (by omega) (by omega) (fun c77 => ?_) (fun c77 => ?_)
          · skip
            refine lv_iconst (v := nI 0) hx hb dX2_advances_84 (by decide) ?_
            exact hJ85 false trivial (by first | exact (decide_eq_true (Or.inl c69)).symm | exact (decide_eq_true (Or.inr c77)).symm | exact (decide_eq_false (by omega)).symm) _ _ hP hD hS ls (lv_sub hl [2, 1, 0] rfl)
          · skip
            refine lv_iconst (v := nI 1) hx hb dX2_advances_80 (by decide) ?_
            refine lv_goto (tgt := 85) hx hb dX2_advances_81 (by decide) ?_
            exact hJ85 true trivial (by first | exact (decide_eq_true (Or.inl c69)).symm | exact (decide_eq_true (Or.inr c77)).symm | exact (decide_eq_false (by omega)).symm) _ _ hP hD hS ls (lv_sub hl [2, 1, 0] rfl)
      · skip
        refine lv_aload_n hx hb dX2_advances_24 rfl (lv_at hl 0 rfl) ?_
        refine lv_dup hx hb dX2_advances_25 rfl ?_
        refine z_get (k := 2) zcX2 hC hK hP 0 rfl (by decide) lF_X2_19 rfl dX2_advances_26 ?_
        refine lv_iconst (v := nI 1) hx hb dX2_advances_29 (by decide) ?_
        refine zi_add hC dX2_advances_30 ?_
        refine z_put (k := 2) zcX2 hC hK hP hD hS 0 rfl (by decide) lF_X2_19 rfl rfl rfl (Nat.le_of_ble_eq_true rfl) dX2_advances_31 (fun H locs hP hD hS => ?_)
        have hP : va_P D vwCl [oT t byA len (p9 + 1) tk ta va, aI cI byA 150 by_] H := hP
        have hD : va_D A [oT t byA len (p9 + 1) tk ta va, aI cI byA 150 by_] := hD
        refine lv_goto (tgt := 0) hx hb dX2_advances_34 (by decide) ?_
        exact ih0 (len - (p9 + 1)) (by omega) (p9 + 1) rfl (by omega) (by rw [← hs, skp_go c8 c21]) _ _ hP hD hS ls (lv_sub hl [0] rfl)
  exact hL0 _ pl rfl (by omega) (by rfl) _ _ hP hD hS ls (lv_sub hl [0] rfl)
