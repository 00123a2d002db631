/-- drops poured off by the labels 0 .. i-1 -/
def puS (base : Nat → Nat) (W9 f : Nat → Nat) : Nat → Nat → Nat
  | 0 => base
  | i + 1 => updN (puS base W9 f i) (W9 i) (base (W9 i) - f i)
theorem puS_hi {base W9 f : Nat → Nat} {n : Nat} (h : ∀ i, i < n → W9 i < 6) : ∀ {i j : Nat}, i ≤ n → 6 ≤ j → puS base W9 f i j = base j
  | 0, _, _, _ => rfl
  | i + 1, j, hi, hj => by
    show updN (puS base W9 f i) (W9 i) _ j = _
    rw [updN_n (by have := h i (by omega); omega), puS_hi h (by omega) hj]
theorem puS_W {base W9 f : Nat → Nat} {n : Nat} (h : ∀ i j, i < n → j < n → W9 i = W9 j → i = j) : ∀ {i j : Nat}, i ≤ j → j < n → puS base W9 f i (W9 j) = base (W9 j)
  | 0, _, _, _ => rfl
  | i + 1, j, hi, hj => by
    show updN (puS base W9 f i) (W9 i) _ (W9 j) = _
    rw [updN_n (fun e => by have := h j i hj (by omega) e; omega), puS_W h (by omega) hj]
theorem puS_le {base W9 f : Nat → Nat} {c : Nat} (h : ∀ j, j < 6 → base j ≤ c) (hw : ∀ i, W9 i < 6 ∨ True) : ∀ {i j : Nat}, (∀ k, k < i → W9 k < 6) → j < 6 → puS base W9 f i j ≤ c
  | 0, j, _, hj => h j hj
  | i + 1, j, hk, hj => by
    show updN (puS base W9 f i) (W9 i) _ j ≤ _
    by_cases e : j = W9 i
    · rw [e, updN_s]
      have := h (W9 i) (hk i (by omega))
      omega
    · rw [updN_n e]
      exact puS_le h hw (fun k q => hk k (by omega)) hj
/-- products -/
def pm (f : Nat → Nat) : Nat → Nat
  | 0 => 1
  | k + 1 => pm f k * f k
theorem pm_s (f : Nat → Nat) (k : Nat) : pm f (k + 1) = pm f k * f k := rfl
theorem pm_le {f : Nat → Nat} (h : ∀ i, f i ≤ 10) : ∀ k, pm f k ≤ 10 ^ k
  | 0 => Nat.le_refl _
  | k + 1 => by rw [pm_s, Nat.pow_succ]; exact Nat.mul_le_mul (pm_le h k) (h k)
theorem pm_pos {f : Nat → Nat} (h : ∀ i, 0 < f i) : ∀ k, 0 < pm f k
  | 0 => Nat.one_pos
  | k + 1 => by rw [pm_s]; exact Nat.mul_pos (pm_pos h k) (h k)
theorem z_m9 {x : Nat} (h : x < 2 ^ 31) : (-9 : Int32) ≤ nI x := by
  apply Int32.le_iff_toInt_le.mpr
  rw [nI_toInt h]
  have : (-9 : Int32).toInt = -9 := rfl
  omega
set_option maxHeartbeats 1000000 in
set_option maxRecDepth 100000 in
theorem c_X4_pours_bad {l : Launch} {D : va_G} {cI cZ cB cR : ClassId} {q xtx ty xdc xdl xdb xar xac xwm xnd at9 sta sor val xnw xkp xta xtw td xhg : Nat} {tr : Int64} {fau : Int32} {acn : Nat → Nat} {x : Int32} (hac : acn 0 ≤ 5) (hbad : ¬ vp_in x (acn 0)) : mR l yX4_pours cX4_pours 5 (some .int) 2 43 D cI cZ cB cR [oM q tr xtx ty xdc xdl xdb xar xac xwm xnd at9 sta sor val fau xnw xkp xta xtw td xhg, aI cI xac 2 acn] [.ref q, .int x] (some (.int (-1))) := by
  refine mR_of rfl (Nat.le_of_ble_eq_true rfl) ?_
  intro p e s m args below meth c hC hr hlk hK hP ls hl
  have hl : lv_has ls 5 [(0, .ref q), (1, .int x)] := hl
  obtain ⟨hx, hb, hml, hown, hts⟩ := id hC
  refine lv_aload_n hx hb dX4_pours_0 rfl (lv_at hl 0 rfl) ?_
  refine lv_iload_n hx hb dX4_pours_1 rfl (lv_at hl 1 rfl) ?_
  refine zRV (As := [.int x]) (b := q) (rest := []) hC (c_X4_isAct (l := l) (g := false) (hn := by omega) (hg := ⟨fun h => (by cases h), fun h => absurd h hbad⟩)) lM_X4_132 vM_X4_isAct (by decide) hK hP [0, 1] rfl ⟨rfl, rfl, rfl⟩ rfl hl.1 rfl (Nat.le_of_ble_eq_true rfl) dX4_pours_2 (by decide) ?_
  show W _ _ _ _ _ _ _ _ _ _ _ _ _ _ _ (F0 m 5 ls [.int (bI false)])
  refine zb_ne (tgt := 10) hC dX4_pours_5 (by decide) (fun c5 => by exfalso; cases c5) (fun c5 => ?_)
  refine lv_iconst (v := (-1)) hx hb dX4_pours_8 (by decide) ?_
  exact zr_i hC hr hlk (by first | rfl | omega) dX4_pours_9
set_option maxHeartbeats 1000000 in
set_option maxRecDepth 100000 in
theorem c_X4_pours_state {l : Launch} {D : va_G} {cI cZ cB cR : ClassId} {q xtx ty xdc xdl xdb xar xac xwm xnd at9 sta sor val xnw xkp xta xtw td xhg : Nat} {tr : Int64} {fau : Int32} {acn dc nw ar nd : Nat → Nat} {W9 : Nat → Nat} {a : Nat} {C9 : Bool} (hn : dc 0 ≤ 6) (hac : acn 0 ≤ 5) (hlv : ∀ j, j < 6 → nw j ≤ 40) (hlb : ∀ j, j < 6 → nw (12 + j) < 6) (har : ∀ i, i < 6 → ar i ≤ 5) (hnd : ∀ i, nd i ≤ 9) (hW : ∀ j, j < dc 0 → W9 j < dc 0 ∧ nw (12 + W9 j) = j ∧ ∀ i, i < W9 j → nw (12 + i) ≠ j) (ha : a < acn 0) (hdn : nw 19 < 32) (hC9 : C9 = true ↔ ∀ d, d < dc 0 → nd (6 * a + d) ≤ nw (W9 d) - 0 * ar (W9 d)) (hst : Nat.testBit (nw 19) a = true ∨ C9 = false) : mR l yX4_pours cX4_pours 5 (some .int) 2 47 D cI cZ cB cR [oM q tr xtx ty xdc xdl xdb xar xac xwm xnd at9 sta sor val fau xnw xkp xta xtw td xhg, aI cI xac 2 acn, aI cI xdc 2 dc, aI cI xnw 729 nw, aI cI xar 12 ar, aI cI xnd 60 nd] [.ref q, .int (nI a)] (some (.int (-2))) := by
  refine mR_of rfl (Nat.le_of_ble_eq_true rfl) ?_
  intro p e s m args below meth c hC hr hlk hK hP ls hl
  have hl : lv_has ls 5 [(0, .ref q), (1, .int (nI a))] := hl
  obtain ⟨hx, hb, hml, hown, hts⟩ := id hC
  refine lv_aload_n hx hb dX4_pours_0 rfl (lv_at hl 0 rfl) ?_
  refine lv_iload_n hx hb dX4_pours_1 rfl (lv_at hl 1 rfl) ?_
  refine zRV (As := [.int (nI a)]) (b := q) (rest := []) hC (c_X4_isAct (l := l) (g := true) (hn := by omega) (hg := ⟨fun _ => vp_in_nI (by omega) (by omega), fun _ => rfl⟩)) lM_X4_132 vM_X4_isAct (by decide) hK hP [0, 1] rfl ⟨rfl, rfl, rfl⟩ rfl hl.1 rfl (Nat.le_of_ble_eq_true rfl) dX4_pours_2 (by decide) ?_
  show W _ _ _ _ _ _ _ _ _ _ _ _ _ _ _ (F0 m 5 ls [.int (bI true)])
  refine zb_ne (tgt := 10) hC dX4_pours_5 (by decide) (fun c5 => ?_) (fun c5 => by exfalso; cases c5)
  refine lv_aload_n hx hb dX4_pours_10 rfl (lv_at hl 0 rfl) ?_
  refine lv_iload_n hx hb dX4_pours_11 rfl (lv_at hl 1 rfl) ?_
  refine zRV (As := [.int (nI a)]) (b := q) (rest := []) hC (c_X4_isDone (l := l) (a := a) (ha := by omega) (hdn := hdn)) lM_X4_119 vM_X4_isDone (by decide) hK hP [0, 3] rfl ⟨rfl, rfl, rfl⟩ rfl hl.1 rfl (Nat.le_of_ble_eq_true rfl) dX4_pours_12 (by decide) ?_
  show W _ _ _ _ _ _ _ _ _ _ _ _ _ _ _ (F0 m 15 ls [.int (bI (Nat.testBit (nw 19) a))])
  refine zb_ne (tgt := 27) hC dX4_pours_15 (by decide) (fun c15 => ?_) (fun c15 => ?_)
  · skip
    refine lv_bipush (v := (-2)) hx hb dX4_pours_27 (by decide) ?_
    exact zr_i hC hr hlk (by first | rfl | omega) dX4_pours_29
  · skip
    refine lv_aload_n hx hb dX4_pours_18 rfl (lv_at hl 0 rfl) ?_
    refine lv_iload_n hx hb dX4_pours_19 rfl (lv_at hl 1 rfl) ?_
    refine lv_iconst (v := nI 0) hx hb dX4_pours_20 (by decide) ?_
    refine zRV (As := [.int (nI a), .int (nI 0)]) (b := q) (rest := []) hC (c_X4_can (l := l) (W9 := W9) (g := C9) (hn := hn) (hlv := hlv) (hlb := hlb) (har := har) (hnd := hnd) (hW := hW) (ha := by omega) (hm := by decide) (hg := hC9)) lM_X4_122 vM_X4_can (by decide) hK hP [0, 2, 3, 4, 5] rfl ⟨rfl, rfl, rfl⟩ rfl hl.1 rfl (Nat.le_of_ble_eq_true rfl) dX4_pours_21 (by decide) ?_
    show W _ _ _ _ _ _ _ _ _ _ _ _ _ _ _ (F0 m 24 ls [.int (bI C9)])
    refine zb_ne (tgt := 30) hC dX4_pours_24 (by decide) (fun c24 => by exfalso; rcases hst with h | h; exact absurd (h.symm.trans c15) (by decide); exact absurd (c24.symm.trans h) (by decide)) (fun c24 => ?_)
    refine lv_bipush (v := (-2)) hx hb dX4_pours_27 (by decide) ?_
    exact zr_i hC hr hlk (by first | rfl | omega) dX4_pours_29
set_option maxHeartbeats 1000000 in
set_option maxRecDepth 100000 in
theorem c_X4_pours {l : Launch} {D : va_G} {cI cZ cB cR : ClassId} {q xtx ty xdc xdl xdb xar xac xwm xnd at9 sta sor val xnw xkp xta xtw td xhg : Nat} {tr : Int64} {fau : Int32} {acn dc nw ar nd wm : Nat → Nat} {W9 : Nat → Nat} {a : Nat} {C9 g9 : Bool} (hn : dc 0 ≤ 6) (hac : acn 0 ≤ 5) (hlv : ∀ j, j < 6 → nw j ≤ 40) (hlb : ∀ j, j < 6 → nw (12 + j) < 6) (har : ∀ i, i < 6 → ar i ≤ 5) (hnd : ∀ i, nd i ≤ 9) (hW : ∀ j, j < dc 0 → W9 j < dc 0 ∧ nw (12 + W9 j) = j ∧ ∀ i, i < W9 j → nw (12 + i) ≠ j) (ha : a < acn 0) (hdn : nw 19 < 32) (hC9 : C9 = true ↔ ∀ d, d < dc 0 → nd (6 * a + d) ≤ nw (W9 d) - 0 * ar (W9 d)) (hte : ∀ j, j < 6 → nw (6 + j) ≤ 40) (hk : nw 22 ≤ 10) (hnd9 : Nat.testBit (nw 19) a = false) (hc9 : C9 = true) (hg : g9 = true ↔ ∀ d, d < dc 0 → nd (6 * a + d) = 0 ∨ W9 d = d ∧ nw (6 + W9 d) = 0) : mW l yX4_pours cX4_pours 5 (some .int) 2 47 D cI cZ cB cR [oM q tr xtx ty xdc xdl xdb xar xac xwm xnd at9 sta sor val fau xnw xkp xta xtw td xhg, aI cI xac 2 acn, aI cI xdc 2 dc, aI cI xnw 729 nw, aI cI xar 12 ar, aI cI xnd 60 nd, aI cI xwm 10 wm] [oM q tr xtx ty xdc xdl xdb xar xac xwm xnd at9 sta sor val fau xnw xkp xta xtw td xhg, aI cI xac 2 acn, aI cI xdc 2 dc, aI cI xnw 729 (updN (updN (updN (blk (puS (knF nw) W9 (fun i => nd (6 * a + i)) (dc 0)) 6 (dc 0) (fun m => min ((puS (knF nw) W9 (fun i => nd (6 * a + i)) (dc 0)) (6 + m)) ((puS (knF nw) W9 (fun i => nd (6 * a + i)) (dc 0)) m))) 19 (nw 19 ||| 2 ^ a)) 20 (nw 20 + (if g9 = true then wm a else 0))) 21 (nw 21 + (if g9 = true then 0 else 1))), aI cI xar 12 ar, aI cI xnd 60 nd, aI cI xwm 10 wm] [.ref q, .int (nI a)] (some (.int (bI g9))) := by
  refine mW_of rfl (Nat.le_of_ble_eq_true rfl) ?_
  intro p e s m args below meth c hC hr hlk hK A hA hD H0 h0 hP hS ls hl
  have hP : va_P D vwCl [oM q tr xtx ty xdc xdl xdb xar xac xwm xnd at9 sta sor val fau xnw xkp xta xtw td xhg, aI cI xac 2 acn, aI cI xdc 2 dc, aI cI xnw 729 nw, aI cI xar 12 ar, aI cI xnd 60 nd, aI cI xwm 10 wm] H0 := hP
  have hl : lv_has ls 5 [(0, .ref q), (1, .int (nI a))] := hl
  obtain ⟨hx, hb, hml, hown, hts⟩ := id hC
  refine lv_aload_n hx hb dX4_pours_0 rfl (lv_at hl 0 rfl) ?_
  refine lv_iload_n hx hb dX4_pours_1 rfl (lv_at hl 1 rfl) ?_
  refine zRV (As := [.int (nI a)]) (b := q) (rest := []) hC (c_X4_isAct (l := l) (g := true) (hn := by omega) (hg := ⟨fun _ => vp_in_nI (by omega) (by omega), fun _ => rfl⟩)) lM_X4_132 vM_X4_isAct (by decide) hK hP [0, 1] rfl ⟨rfl, rfl, rfl⟩ rfl hl.1 rfl (Nat.le_of_ble_eq_true rfl) dX4_pours_2 (by decide) ?_
  show W _ _ _ _ _ _ _ _ _ _ _ _ _ _ _ (F0 m 5 ls [.int (bI true)])
  refine zb_ne (tgt := 10) hC dX4_pours_5 (by decide) (fun c5 => ?_) (fun c5 => by exfalso; cases c5)
  refine lv_aload_n hx hb dX4_pours_10 rfl (lv_at hl 0 rfl) ?_
  refine lv_iload_n hx hb dX4_pours_11 rfl (lv_at hl 1 rfl) ?_
  refine zRV (As := [.int (nI a)]) (b := q) (rest := []) hC (c_X4_isDone (l := l) (a := a) (ha := by omega) (hdn := hdn)) lM_X4_119 vM_X4_isDone (by decide) hK hP [0, 3] rfl ⟨rfl, rfl, rfl⟩ rfl hl.1 rfl (Nat.le_of_ble_eq_true rfl) dX4_pours_12 (by decide) ?_
  show W _ _ _ _ _ _ _ _ _ _ _ _ _ _ _ (F0 m 15 ls [.int (bI (Nat.testBit (nw 19) a))])
  refine zb_ne (tgt := 27) hC dX4_pours_15 (by decide) (fun c15 => by exfalso; exact absurd (hnd9.symm.trans c15) (by decide)) (fun c15 => ?_)
  refine lv_aload_n hx hb dX4_pours_18 rfl (lv_at hl 0 rfl) ?_
  refine lv_iload_n hx hb dX4_pours_19 rfl (lv_at hl 1 rfl) ?_
  refine lv_iconst (v := nI 0) hx hb dX4_pours_20 (by decide) ?_
  refine zRV (As := [.int (nI a), .int (nI 0)]) (b := q) (rest := []) hC (c_X4_can (l := l) (W9 := W9) (g := C9) (hn := hn) (hlv := hlv) (hlb := hlb) (har := har) (hnd := hnd) (hW := hW) (ha := by omega) (hm := by decide) (hg := hC9)) lM_X4_122 vM_X4_can (by decide) hK hP [0, 2, 3, 4, 5] rfl ⟨rfl, rfl, rfl⟩ rfl hl.1 rfl (Nat.le_of_ble_eq_true rfl) dX4_pours_21 (by decide) ?_
  show W _ _ _ _ _ _ _ _ _ _ _ _ _ _ _ (F0 m 24 ls [.int (bI C9)])
  refine zb_ne (tgt := 30) hC dX4_pours_24 (by decide) (fun c24 => ?_) (fun c24 => by exfalso; exact absurd (hc9.symm.trans c24) (by decide))
  refine lv_aload_n hx hb dX4_pours_30 rfl (lv_at hl 0 rfl) ?_
  refine zXV (As := []) (b := q) (rest := []) hC (c_X4_know (l := l) (hk := hk)) lM_X4_141 vM_X4_know (by decide) hK hP hD hS [0, 3] [q, xnw] rfl (by decide) rfl rfl ⟨rfl, rfl, rfl⟩ rfl hl.1 rfl (Nat.le_of_ble_eq_true rfl) dX4_pours_31 (by decide) (fun H locs hP hD hS => ?_)
  have hP : va_P D vwCl [oM q tr xtx ty xdc xdl xdb xar xac xwm xnd at9 sta sor val fau xnw xkp xta xtw td xhg, aI cI xac 2 acn, aI cI xdc 2 dc, aI cI xnw 729 (knF nw), aI cI xar 12 ar, aI cI xnd 60 nd, aI cI xwm 10 wm] H := hP
  have hD : va_D A [oM q tr xtx ty xdc xdl xdb xar xac xwm xnd at9 sta sor val fau xnw xkp xta xtw td xhg, aI cI xac 2 acn, aI cI xdc 2 dc, aI cI xnw 729 (knF nw), aI cI xar 12 ar, aI cI xnd 60 nd, aI cI xwm 10 wm] := hD
  show W _ _ _ _ _ _ _ _ _ _ _ _ _ _ _ (F0 m 34 ls [])
  refine lv_iconst (v := nI 1) hx hb dX4_pours_34 (by decide) ?_
  refine lv_istore_n (lv' := [(2, .int (nI 1)), (0, .ref q), (1, .int (nI a))]) hx hb dX4_pours_35 rfl hl (by decide) rfl (fun ls hl => ?_)
  refine lv_iconst (v := nI 0) hx hb dX4_pours_36 (by decide) ?_
  refine lv_istore_n (lv' := [(3, .int (nI 0)), (2, .int (nI 1)), (0, .ref q), (1, .int (nI a))]) hx hb dX4_pours_37 rfl hl (by decide) rfl (fun ls hl => ?_)
  have hL38 : ∀ (z38 : Nat) (d : Nat) (b9 : Bool) (n8 : Nat → Nat), dc 0 - d = z38 → (d ≤ dc 0) → (b9 = true ↔ ∀ i, i < d → nd (6 * a + i) = 0 ∨ W9 i = i ∧ nw (6 + W9 i) = 0) → (n8 = puS (knF nw) W9 (fun i => nd (6 * a + i)) d) → ∀ (H : Heap) (locs : List Loc), va_P D vwCl [oM q tr xtx ty xdc xdl xdb xar xac xwm xnd at9 sta sor val fau xnw xkp xta xtw td xhg, aI cI xac 2 acn, aI cI xdc 2 dc, aI cI xnw 729 n8, aI cI xar 12 ar, aI cI xnd 60 nd, aI cI xwm 10 wm] H → va_D A [oM q tr xtx ty xdc xdl xdb xar xac xwm xnd at9 sta sor val fau xnw xkp xta xtw td xhg, aI cI xac 2 acn, aI cI xdc 2 dc, aI cI xnw 729 n8, aI cI xar 12 ar, aI cI xnd 60 nd, aI cI xwm 10 wm] → va_S A H0 H locs → ∀ ls : Array Slot, lv_has ls 5 [(0, .ref q), (1, .int (nI a)), (2, .int (bI b9)), (3, .int (nI d))] → W p l e { frames := 2, cells := 0, slots := 0, locals := 47 } s m args below meth c H locs 0 0 (MQ below (qW D [oM q tr xtx ty xdc xdl xdb xar xac xwm xnd at9 sta sor val fau xnw xkp xta xtw td xhg, aI cI xac 2 acn, aI cI xdc 2 dc, aI cI xnw 729 nw, aI cI xar 12 ar, aI cI xnd 60 nd, aI cI xwm 10 wm] [oM q tr xtx ty xdc xdl xdb xar xac xwm xnd at9 sta sor val fau xnw xkp xta xtw td xhg, aI cI xac 2 acn, aI cI xdc 2 dc, aI cI xnw 729 (updN (updN (updN (blk (puS (knF nw) W9 (fun i => nd (6 * a + i)) (dc 0)) 6 (dc 0) (fun m => min ((puS (knF nw) W9 (fun i => nd (6 * a + i)) (dc 0)) (6 + m)) ((puS (knF nw) W9 (fun i => nd (6 * a + i)) (dc 0)) m))) 19 (nw 19 ||| 2 ^ a)) 20 (nw 20 + (if g9 = true then wm a else 0))) 21 (nw 21 + (if g9 = true then 0 else 1))), aI cI xar 12 ar, aI cI xnd 60 nd, aI cI xwm 10 wm] (some (.int (bI g9)))) args s 0 0 (zA [oM q tr xtx ty xdc xdl xdb xar xac xwm xnd at9 sta sor val fau xnw xkp xta xtw td xhg, aI cI xac 2 acn, aI cI xdc 2 dc, aI cI xnw 729 nw, aI cI xar 12 ar, aI cI xnd 60 nd, aI cI xwm 10 wm])) (F0 m 38 ls []) := by
    intro z38
    induction z38 using Nat.strongRecOn with
    | _ z38 ih38 =>
    intro d b9 n8 hz38 hd hb9 hn8 H locs hP hD hS ls hl
    refine lv_iload_n hx hb dX4_pours_38 rfl (lv_at hl 3 rfl) ?_
    refine lv_aload_n hx hb dX4_pours_39 rfl (lv_at hl 0 rfl) ?_
    refine z_get (k := 3) zcX4 hC hK hP 0 rfl (by decide) lF_X4_13 rfl dX4_pours_40 ?_
    refine lv_iconst (v := nI 0) hx hb dX4_pours_43 (by decide) ?_
    refine z_ald hC hK hP 2 rfl (by omega) (by decide) dX4_pours_44 ?_
    refine zc_ge (tgt := 115) hC dX4_pours_45 (by decide) (by omega) (by omega) (fun c45 => ?_) (fun c45 => ?_)
    · skip
      have e45 : d = dc 0 := by omega
      rw [e45] at hn8 hb9
      refine lv_aload_n hx hb dX4_pours_115 rfl (lv_at hl 0 rfl) ?_
      refine zXV (As := []) (b := q) (rest := []) hC (c_X4_settle (l := l) (hn := hn) (hlv := fun j hj => by rw [hn8]; exact puS_le (fun k hk => by rw [knF_lo nw (by omega)]; exact hlv k hk) (fun _ => Or.inr trivial) (fun k hk => by have := (hW k hk).1; omega) hj) (hte := fun j hj => by rw [hn8, puS_hi (n := dc 0) (fun k hk => by have := (hW k hk).1; omega) (by omega) (by omega), knF_lo nw (by omega)]; exact hte j hj)) lM_X4_144 vM_X4_settle (by decide) hK hP hD hS [0, 2, 3] [q, xdc, xnw] rfl (by decide) rfl rfl ⟨rfl, rfl, rfl⟩ rfl hl.1 rfl (Nat.le_of_ble_eq_true rfl) dX4_pours_116 (by decide) (fun H locs hP hD hS => ?_)
      have hP : va_P D vwCl [oM q tr xtx ty xdc xdl xdb xar xac xwm xnd at9 sta sor val fau xnw xkp xta xtw td xhg, aI cI xac 2 acn, aI cI xdc 2 dc, aI cI xnw 729 (blk n8 6 (dc 0) (fun m => min (n8 (6 + m)) (n8 m))), aI cI xar 12 ar, aI cI xnd 60 nd, aI cI xwm 10 wm] H := hP
      have hD : va_D A [oM q tr xtx ty xdc xdl xdb xar xac xwm xnd at9 sta sor val fau xnw xkp xta xtw td xhg, aI cI xac 2 acn, aI cI xdc 2 dc, aI cI xnw 729 (blk n8 6 (dc 0) (fun m => min (n8 (6 + m)) (n8 m))), aI cI xar 12 ar, aI cI xnd 60 nd, aI cI xwm 10 wm] := hD
      show W _ _ _ _ _ _ _ _ _ _ _ _ _ _ _ (F0 m 119 ls [])
      refine lv_aload_n hx hb dX4_pours_119 rfl (lv_at hl 0 rfl) ?_
      refine z_get (k := 15) zcX4 hC hK hP 0 rfl (by decide) lF_X4_35 rfl dX4_pours_120 ?_
      refine lv_bipush (v := nI 19) hx hb dX4_pours_123 (by decide) ?_
      refine lv_dup2_11 hx hb dX4_pours_125 rfl rfl ?_
      have b126 : ∀ j, 12 ≤ j → j < 22 → blk n8 6 (dc 0) (fun m => min (n8 (6 + m)) (n8 m)) j = nw j := fun j h1 h2 => by rw [blk_hi (by omega), hn8, puS_hi (n := dc 0) (fun k hk => by have := (hW k hk).1; omega) (Nat.le_refl _) (by omega), knF_lo nw h2]
      have b127 : b9 = g9 := by cases b9 <;> cases g9 <;> first | rfl | exact absurd (hg.mpr (hb9.mp rfl)) (by decide) | exact absurd (hb9.mpr (hg.mp rfl)) (by decide)
      refine z_ald hC hK hP 3 rfl (by omega) (by decide) dX4_pours_126 ?_
      refine z_top (show (nI ((blk n8 6 (dc 0) (fun m => min (n8 (6 + m)) (n8 m))) 19)) = nI (nw 19) from by rw [b126 19 (by omega) (by omega)]) ?_
      refine lv_iconst (v := nI 1) hx hb dX4_pours_127 (by decide) ?_
      refine lv_iload_n hx hb dX4_pours_128 rfl (lv_at hl 1 rfl) ?_
      refine zi_shl1 hC dX4_pours_129 (by omega) ?_
      refine zi_or hC dX4_pours_130 ?_
      refine z_ast hC hK hP hD hS 3 rfl (by omega) (by decide) dX4_pours_131 (fun H locs hP hD hS => ?_)
      have hP : va_P D vwCl [oM q tr xtx ty xdc xdl xdb xar xac xwm xnd at9 sta sor val fau xnw xkp xta xtw td xhg, aI cI xac 2 acn, aI cI xdc 2 dc, aI cI xnw 729 (updN (blk n8 6 (dc 0) (fun m => min (n8 (6 + m)) (n8 m))) 19 ((nw 19) ||| (2 ^ a))), aI cI xar 12 ar, aI cI xnd 60 nd, aI cI xwm 10 wm] H := hP
      have hD : va_D A [oM q tr xtx ty xdc xdl xdb xar xac xwm xnd at9 sta sor val fau xnw xkp xta xtw td xhg, aI cI xac 2 acn, aI cI xdc 2 dc, aI cI xnw 729 (updN (blk n8 6 (dc 0) (fun m => min (n8 (6 + m)) (n8 m))) 19 ((nw 19) ||| (2 ^ a))), aI cI xar 12 ar, aI cI xnd 60 nd, aI cI xwm 10 wm] := hD
      refine lv_aload_n hx hb dX4_pours_132 rfl (lv_at hl 0 rfl) ?_
      refine z_get (k := 15) zcX4 hC hK hP 0 rfl (by decide) lF_X4_35 rfl dX4_pours_133 ?_
      refine lv_bipush (v := nI 20) hx hb dX4_pours_136 (by decide) ?_
      refine lv_dup2_11 hx hb dX4_pours_138 rfl rfl ?_
      refine z_ald hC hK hP 3 rfl (by omega) (by decide) dX4_pours_139 ?_
      refine z_top (show (nI ((updN (blk n8 6 (dc 0) (fun m => min (n8 (6 + m)) (n8 m))) 19 ((nw 19) ||| (2 ^ a))) 20)) = nI (nw 20) from by rw [updN_n (by omega), b126 20 (by omega) (by omega)]) ?_
      refine lv_iload_n hx hb dX4_pours_140 rfl (lv_at hl 2 rfl) ?_
      refine zb_eq (tgt := 153) hC dX4_pours_141 (by decide) (fun c141 => ?_) (fun c141 => ?_)
      · skip
        refine lv_iconst (v := nI 0) hx hb dX4_pours_153 (by decide) ?_
        refine zi_add hC dX4_pours_154 ?_
        refine z_ast hC hK hP hD hS 3 rfl (by omega) (by decide) dX4_pours_155 (fun H locs hP hD hS => ?_)
        have hP : va_P D vwCl [oM q tr xtx ty xdc xdl xdb xar xac xwm xnd at9 sta sor val fau xnw xkp xta xtw td xhg, aI cI xac 2 acn, aI cI xdc 2 dc, aI cI xnw 729 (updN (updN (blk n8 6 (dc 0) (fun m => min (n8 (6 + m)) (n8 m))) 19 ((nw 19) ||| (2 ^ a))) 20 ((nw 20) + 0)), aI cI xar 12 ar, aI cI xnd 60 nd, aI cI xwm 10 wm] H := hP
        have hD : va_D A [oM q tr xtx ty xdc xdl xdb xar xac xwm xnd at9 sta sor val fau xnw xkp xta xtw td xhg, aI cI xac 2 acn, aI cI xdc 2 dc, aI cI xnw 729 (updN (updN (blk n8 6 (dc 0) (fun m => min (n8 (6 + m)) (n8 m))) 19 ((nw 19) ||| (2 ^ a))) 20 ((nw 20) + 0)), aI cI xar 12 ar, aI cI xnd 60 nd, aI cI xwm 10 wm] := hD
        refine lv_aload_n hx hb dX4_pours_156 rfl (lv_at hl 0 rfl) ?_
        refine z_get (k := 15) zcX4 hC hK hP 0 rfl (by decide) lF_X4_35 rfl dX4_pours_157 ?_
        refine lv_bipush (v := nI 21) hx hb dX4_pours_160 (by decide) ?_
        refine lv_dup2_11 hx hb dX4_pours_162 rfl rfl ?_
        refine z_ald hC hK hP 3 rfl (by omega) (by decide) dX4_pours_163 ?_
        refine z_top (show (nI ((updN (updN (blk n8 6 (dc 0) (fun m => min (n8 (6 + m)) (n8 m))) 19 ((nw 19) ||| (2 ^ a))) 20 ((nw 20) + 0)) 21)) = nI (nw 21) from by rw [updN_n (by omega), updN_n (by omega), b126 21 (by omega) (by omega)]) ?_
        refine lv_iload_n hx hb dX4_pours_164 rfl (lv_at hl 2 rfl) ?_
        refine zb_eq (tgt := 172) hC dX4_pours_165 (by decide) (fun c165 => ?_) (fun c165 => by exfalso; exact absurd (c141.symm.trans c165) (by decide))
        refine lv_iconst (v := nI 1) hx hb dX4_pours_172 (by decide) ?_
        refine zi_add hC dX4_pours_173 ?_
        refine z_ast hC hK hP hD hS 3 rfl (by omega) (by decide) dX4_pours_174 (fun H locs hP hD hS => ?_)
        have hP : va_P D vwCl [oM q tr xtx ty xdc xdl xdb xar xac xwm xnd at9 sta sor val fau xnw xkp xta xtw td xhg, aI cI xac 2 acn, aI cI xdc 2 dc, aI cI xnw 729 (updN (updN (updN (blk n8 6 (dc 0) (fun m => min (n8 (6 + m)) (n8 m))) 19 ((nw 19) ||| (2 ^ a))) 20 ((nw 20) + 0)) 21 ((nw 21) + 1)), aI cI xar 12 ar, aI cI xnd 60 nd, aI cI xwm 10 wm] H := hP
        have hD : va_D A [oM q tr xtx ty xdc xdl xdb xar xac xwm xnd at9 sta sor val fau xnw xkp xta xtw td xhg, aI cI xac 2 acn, aI cI xdc 2 dc, aI cI xnw 729 (updN (updN (updN (blk n8 6 (dc 0) (fun m => min (n8 (6 + m)) (n8 m))) 19 ((nw 19) ||| (2 ^ a))) 20 ((nw 20) + 0)) 21 ((nw 21) + 1)), aI cI xar 12 ar, aI cI xnd 60 nd, aI cI xwm 10 wm] := hD
        refine lv_iload_n hx hb dX4_pours_175 rfl (lv_at hl 2 rfl) ?_
        refine zb_eq (tgt := 183) hC dX4_pours_176 (by decide) (fun c176 => ?_) (fun c176 => by exfalso; exact absurd (c141.symm.trans c176) (by decide))
        refine lv_iconst (v := nI 0) hx hb dX4_pours_183 (by decide) ?_
        exact zw_i hC hr hlk hA h0 (by rw [hn8] at hP; rw [← b127, c141]; exact hP) hS (by rw [← b127, c141]; rfl) dX4_pours_184
      · skip
        refine lv_aload_n hx hb dX4_pours_144 rfl (lv_at hl 0 rfl) ?_
        refine z_get (k := 8) zcX4 hC hK hP 0 rfl (by decide) lF_X4_29 rfl dX4_pours_145 ?_
        refine lv_iload_n hx hb dX4_pours_148 rfl (lv_at hl 1 rfl) ?_
        refine z_ald hC hK hP 6 rfl (by omega) (by decide) dX4_pours_149 ?_
        refine lv_goto (tgt := 154) hx hb dX4_pours_150 (by decide) ?_
        refine zi_add hC dX4_pours_154 ?_
        refine z_ast hC hK hP hD hS 3 rfl (by omega) (by decide) dX4_pours_155 (fun H locs hP hD hS => ?_)
        have hP : va_P D vwCl [oM q tr xtx ty xdc xdl xdb xar xac xwm xnd at9 sta sor val fau xnw xkp xta xtw td xhg, aI cI xac 2 acn, aI cI xdc 2 dc, aI cI xnw 729 (updN (updN (blk n8 6 (dc 0) (fun m => min (n8 (6 + m)) (n8 m))) 19 ((nw 19) ||| (2 ^ a))) 20 ((nw 20) + (wm a))), aI cI xar 12 ar, aI cI xnd 60 nd, aI cI xwm 10 wm] H := hP
        have hD : va_D A [oM q tr xtx ty xdc xdl xdb xar xac xwm xnd at9 sta sor val fau xnw xkp xta xtw td xhg, aI cI xac 2 acn, aI cI xdc 2 dc, aI cI xnw 729 (updN (updN (blk n8 6 (dc 0) (fun m => min (n8 (6 + m)) (n8 m))) 19 ((nw 19) ||| (2 ^ a))) 20 ((nw 20) + (wm a))), aI cI xar 12 ar, aI cI xnd 60 nd, aI cI xwm 10 wm] := hD
        refine lv_aload_n hx hb dX4_pours_156 rfl (lv_at hl 0 rfl) ?_
        refine z_get (k := 15) zcX4 hC hK hP 0 rfl (by decide) lF_X4_35 rfl dX4_pours_157 ?_
        refine lv_bipush (v := nI 21) hx hb dX4_pours_160 (by decide) ?_
        refine lv_dup2_11 hx hb dX4_pours_162 rfl rfl ?_
        refine z_ald hC hK hP 3 rfl (by omega) (by decide) dX4_pours_163 ?_
        refine z_top (show (nI ((updN (updN (blk n8 6 (dc 0) (fun m => min (n8 (6 + m)) (n8 m))) 19 ((nw 19) ||| (2 ^ a))) 20 ((nw 20) + (wm a))) 21)) = nI (nw 21) from by rw [updN_n (by omega), updN_n (by omega), b126 21 (by omega) (by omega)]) ?_
        refine lv_iload_n hx hb dX4_pours_164 rfl (lv_at hl 2 rfl) ?_
        refine zb_eq (tgt := 172) hC dX4_pours_165 (by decide) (fun c165 => by exfalso; exact absurd (c141.symm.trans c165) (by decide)) (fun c165 => ?_)
        refine lv_iconst (v := nI 0) hx hb dX4_pours_168 (by decide) ?_
        refine lv_goto (tgt := 173) hx hb dX4_pours_169 (by decide) ?_
        refine zi_add hC dX4_pours_173 ?_
        refine z_ast hC hK hP hD hS 3 rfl (by omega) (by decide) dX4_pours_174 (fun H locs hP hD hS => ?_)
        have hP : va_P D vwCl [oM q tr xtx ty xdc xdl xdb xar xac xwm xnd at9 sta sor val fau xnw xkp xta xtw td xhg, aI cI xac 2 acn, aI cI xdc 2 dc, aI cI xnw 729 (updN (updN (updN (blk n8 6 (dc 0) (fun m => min (n8 (6 + m)) (n8 m))) 19 ((nw 19) ||| (2 ^ a))) 20 ((nw 20) + (wm a))) 21 ((nw 21) + 0)), aI cI xar 12 ar, aI cI xnd 60 nd, aI cI xwm 10 wm] H := hP
        have hD : va_D A [oM q tr xtx ty xdc xdl xdb xar xac xwm xnd at9 sta sor val fau xnw xkp xta xtw td xhg, aI cI xac 2 acn, aI cI xdc 2 dc, aI cI xnw 729 (updN (updN (updN (blk n8 6 (dc 0) (fun m => min (n8 (6 + m)) (n8 m))) 19 ((nw 19) ||| (2 ^ a))) 20 ((nw 20) + (wm a))) 21 ((nw 21) + 0)), aI cI xar 12 ar, aI cI xnd 60 nd, aI cI xwm 10 wm] := hD
        refine lv_iload_n hx hb dX4_pours_175 rfl (lv_at hl 2 rfl) ?_
        refine zb_eq (tgt := 183) hC dX4_pours_176 (by decide) (fun c176 => by exfalso; exact absurd (c141.symm.trans c176) (by decide)) (fun c176 => ?_)
        refine lv_iconst (v := nI 1) hx hb dX4_pours_179 (by decide) ?_
        refine lv_goto (tgt := 184) hx hb dX4_pours_180 (by decide) ?_
        exact zw_i hC hr hlk hA h0 (by rw [hn8] at hP; rw [← b127, c141]; exact hP) hS (by rw [← b127, c141]; rfl) dX4_pours_184
    · skip
      have b48 : W9 d < 6 := by have := (hW d (by omega)).1; omega
      have b50 : ∀ j, 6 ≤ j → j < 22 → n8 j = nw j := fun j h1 h2 => by rw [hn8, puS_hi (n := dc 0) (fun k hk => by have := (hW k hk).1; omega) (by omega) h1, knF_lo nw h2]
      have b51 : n8 (W9 d) = nw (W9 d) := by rw [hn8, puS_W (n := dc 0) (fun i j hi hj e => by have h1 := (hW i hi).2.1; have h2 := (hW j hj).2.1; rw [e] at h1; omega) (Nat.le_refl _) (by omega), knF_lo nw (by omega)]
      have b52 := hlv (W9 d) b48
      have b53 := hnd (6 * a + d)
      have b54 : nd (6 * a + d) ≤ nw (W9 d) := by have := hC9.mp hc9 d (by omega); rw [Nat.zero_mul, Nat.sub_zero] at this; exact this
      refine lv_aload_n hx hb dX4_pours_48 rfl (lv_at hl 0 rfl) ?_
      refine lv_iload_n hx hb dX4_pours_49 rfl (lv_at hl 3 rfl) ?_
      refine zRV (As := [.int (nI d)]) (b := q) (rest := []) hC (c_X4_with (l := l) (w9 := W9 d) (hlb := fun j hj => by rw [hn8, puS_hi (n := dc 0) (fun k hk => by have := (hW k hk).1; omega) (by omega) (by omega), knF_lo nw (by omega)]; exact hlb j hj) (hw := by have := (hW d (by omega)).1; omega) (hj := by rw [b50 (12 + W9 d) (by omega) (by have := (hW d (by omega)).1; omega)]; exact (hW d (by omega)).2.1) (hm := fun i hi => by have h1 := (hW d (by omega)).1; rw [b50 (12 + i) (by omega) (by omega)]; exact (hW d (by omega)).2.2 i hi)) lM_X4_109 vM_X4_with (by decide) hK hP [0, 3] rfl ⟨rfl, rfl, rfl⟩ rfl hl.1 rfl (Nat.le_of_ble_eq_true rfl) dX4_pours_50 (by decide) ?_
      show W _ _ _ _ _ _ _ _ _ _ _ _ _ _ _ (F0 m 53 ls [.int (nI (W9 d))])
      refine lv_istore (lv' := [(4, .int (nI (W9 d))), (0, .ref q), (1, .int (nI a)), (2, .int (bI b9)), (3, .int (nI d))]) hx hb dX4_pours_53 hl (by decide) rfl (fun ls hl => ?_)
      have hJ92 : ∀ (j9 : Bool), True → (j9 = true ↔ ∀ i, i < d + 1 → nd (6 * a + i) = 0 ∨ W9 i = i ∧ nw (6 + W9 i) = 0) → ∀ ls : Array Slot, lv_has ls 5 [(0, .ref q), (1, .int (nI a)), (3, .int (nI d)), (4, .int (nI (W9 d)))] → W p l e { frames := 2, cells := 0, slots := 0, locals := 47 } s m args below meth c H locs 0 0 (MQ below (qW D [oM q tr xtx ty xdc xdl xdb xar xac xwm xnd at9 sta sor val fau xnw xkp xta xtw td xhg, aI cI xac 2 acn, aI cI xdc 2 dc, aI cI xnw 729 nw, aI cI xar 12 ar, aI cI xnd 60 nd, aI cI xwm 10 wm] [oM q tr xtx ty xdc xdl xdb xar xac xwm xnd at9 sta sor val fau xnw xkp xta xtw td xhg, aI cI xac 2 acn, aI cI xdc 2 dc, aI cI xnw 729 (updN (updN (updN (blk (puS (knF nw) W9 (fun i => nd (6 * a + i)) (dc 0)) 6 (dc 0) (fun m => min ((puS (knF nw) W9 (fun i => nd (6 * a + i)) (dc 0)) (6 + m)) ((puS (knF nw) W9 (fun i => nd (6 * a + i)) (dc 0)) m))) 19 (nw 19 ||| 2 ^ a)) 20 (nw 20 + (if g9 = true then wm a else 0))) 21 (nw 21 + (if g9 = true then 0 else 1))), aI cI xar 12 ar, aI cI xnd 60 nd, aI cI xwm 10 wm] (some (.int (bI g9)))) args s 0 0 (zA [oM q tr xtx ty xdc xdl xdb xar xac xwm xnd at9 sta sor val fau xnw xkp xta xtw td xhg, aI cI xac 2 acn, aI cI xdc 2 dc, aI cI xnw 729 nw, aI cI xar 12 ar, aI cI xnd 60 nd, aI cI xwm 10 wm])) (F0 m 92 ls [.int (bI j9)]) := by
        intro j9 _ hj9 ls hl
        refine lv_istore_n (lv' := [(2, .int (bI j9)), (0, .ref q), (1, .int (nI a)), (3, .int (nI d)), (4, .int (nI (W9 d)))]) hx hb dX4_pours_92 rfl hl (by decide) rfl (fun ls hl => ?_)
        refine lv_aload_n hx hb dX4_pours_93 rfl (lv_at hl 1 rfl) ?_
        refine z_get (k := 15) zcX4 hC hK hP 0 rfl (by decide) lF_X4_35 rfl dX4_pours_94 ?_
        refine lv_iload hx hb dX4_pours_97 (lv_at hl 4 rfl) ?_
        refine lv_dup2_11 hx hb dX4_pours_99 rfl rfl ?_
        refine z_ald hC hK hP 3 rfl (by omega) (by decide) dX4_pours_100 ?_
        refine z_top (show (nI (n8 (W9 d))) = nI (nw (W9 d)) from by rw [b51]) ?_
        refine lv_aload_n hx hb dX4_pours_101 rfl (lv_at hl 1 rfl) ?_
        refine lv_iload_n hx hb dX4_pours_102 rfl (lv_at hl 2 rfl) ?_
        refine lv_iload_n hx hb dX4_pours_103 rfl (lv_at hl 3 rfl) ?_
        refine zRV (As := [.int (nI a), .int (nI d)]) (b := q) (rest := [.int (nI (nw (W9 d))), .int (nI (W9 d)), .ref xnw]) hC (c_X4_needOf (l := l) (ha := by omega) (hd := by omega)) lM_X4_116 vM_X4_needOf (by decide) hK hP [0, 5] rfl ⟨rfl, rfl, rfl⟩ rfl hl.1 rfl (Nat.le_of_ble_eq_true rfl) dX4_pours_104 (by decide) ?_
        show W _ _ _ _ _ _ _ _ _ _ _ _ _ _ _ (F0 m 107 ls [.int (nI (nd (6 * a + d))), .int (nI (nw (W9 d))), .int (nI (W9 d)), .ref xnw])
        refine zi_sub hC dX4_pours_107 (by omega) ?_
        refine z_ast hC hK hP hD hS 3 rfl (by omega) (by decide) dX4_pours_108 (fun H locs hP hD hS => ?_)
        have hP : va_P D vwCl [oM q tr xtx ty xdc xdl xdb xar xac xwm xnd at9 sta sor val fau xnw xkp xta xtw td xhg, aI cI xac 2 acn, aI cI xdc 2 dc, aI cI xnw 729 (updN n8 (W9 d) ((nw (W9 d)) - (nd (6 * a + d)))), aI cI xar 12 ar, aI cI xnd 60 nd, aI cI xwm 10 wm] H := hP
        have hD : va_D A [oM q tr xtx ty xdc xdl xdb xar xac xwm xnd at9 sta sor val fau xnw xkp xta xtw td xhg, aI cI xac 2 acn, aI cI xdc 2 dc, aI cI xnw 729 (updN n8 (W9 d) ((nw (W9 d)) - (nd (6 * a + d)))), aI cI xar 12 ar, aI cI xnd 60 nd, aI cI xwm 10 wm] := hD
        refine lv_iinc (v := nI (d + 1)) (lv' := [(3, .int (nI (d + 1))), (2, .int (bI j9)), (0, .ref q), (1, .int (nI a)), (4, .int (nI (W9 d)))]) hx hb dX4_pours_109 hl (k := 3) rfl (z_inc d 1) (by decide) rfl (fun ls hl => ?_)
        refine lv_goto (tgt := 38) hx hb dX4_pours_112 (by decide) ?_
        exact ih38 (dc 0 - (d + 1)) (by omega) (d + 1) j9 (updN n8 (W9 d) ((nw (W9 d)) - (nd (6 * a + d)))) rfl (by omega) (by exact hj9) (by rw [hn8, ← knF_lo nw (show W9 d < 22 by omega)]; rfl) _ _ hP hD hS ls (lv_sub hl [2, 3, 1, 0] rfl)
      refine lv_iload_n hx hb dX4_pours_55 rfl (lv_at hl 3 rfl) ?_
      refine zb_eq (tgt := 91) hC dX4_pours_56 (by decide) (fun c56 => ?_) (fun c56 => ?_)
      · skip
        refine lv_iconst (v := nI 0) hx hb dX4_pours_91 (by decide) ?_
        exact hJ92 false trivial (by exact all_f1 (P := (fun d => nd (6 * a + d) = 0 ∨ W9 d = d ∧ nw (6 + W9 d) = 0)) hb9 c56) ls (lv_sub hl [1, 2, 4, 0] rfl)
      · skip
        refine lv_aload_n hx hb dX4_pours_59 rfl (lv_at hl 1 rfl) ?_
        refine lv_iload_n hx hb dX4_pours_60 rfl (lv_at hl 2 rfl) ?_
        refine lv_iload_n hx hb dX4_pours_61 rfl (lv_at hl 4 rfl) ?_
        refine zRV (As := [.int (nI a), .int (nI d)]) (b := q) (rest := []) hC (c_X4_needOf (l := l) (ha := by omega) (hd := by omega)) lM_X4_116 vM_X4_needOf (by decide) hK hP [0, 5] rfl ⟨rfl, rfl, rfl⟩ rfl hl.1 rfl (Nat.le_of_ble_eq_true rfl) dX4_pours_62 (by decide) ?_
        show W _ _ _ _ _ _ _ _ _ _ _ _ _ _ _ (F0 m 65 ls [.int (nI (nd (6 * a + d)))])
        refine z0_eq (tgt := 87) hC dX4_pours_65 (by decide) (by omega) (fun c65 => ?_) (fun c65 => ?_)
        · skip
          refine lv_iconst (v := nI 1) hx hb dX4_pours_87 (by decide) ?_
          refine lv_goto (tgt := 92) hx hb dX4_pours_88 (by decide) ?_
          exact hJ92 true trivial (by exact all_t (P := (fun d => nd (6 * a + d) = 0 ∨ W9 d = d ∧ nw (6 + W9 d) = 0)) hb9 c56 (Or.inl c65)) ls (lv_sub hl [1, 2, 4, 0] rfl)
        · skip
          have b68 := hte (W9 d) b48
          refine lv_iload hx hb dX4_pours_68 (lv_at hl 0 rfl) ?_
          refine lv_iload_n hx hb dX4_pours_70 rfl (lv_at hl 4 rfl) ?_
          refine zc_ne (tgt := 91) hC dX4_pours_71 (by decide) (by omega) (by omega) (fun c71 => ?_) (fun c71 => ?_)
          · skip
            refine lv_iconst (v := nI 0) hx hb dX4_pours_91 (by decide) ?_
            exact hJ92 false trivial (by exact all_f2 (P := (fun d => nd (6 * a + d) = 0 ∨ W9 d = d ∧ nw (6 + W9 d) = 0)) (fun h => by rcases h with h | h; omega; exact c71 h.1)) ls (lv_sub hl [1, 2, 4, 0] rfl)
          · skip
            refine lv_aload_n hx hb dX4_pours_74 rfl (lv_at hl 1 rfl) ?_
            refine z_get (k := 15) zcX4 hC hK hP 0 rfl (by decide) lF_X4_35 rfl dX4_pours_75 ?_
            refine lv_bipush (v := nI 6) hx hb dX4_pours_78 (by decide) ?_
            refine lv_iload hx hb dX4_pours_80 (lv_at hl 0 rfl) ?_
            refine zi_add hC dX4_pours_82 ?_
            refine z_ald hC hK hP 3 rfl (by omega) (by decide) dX4_pours_83 ?_
            refine z_top (show (nI (n8 (6 + (W9 d)))) = nI (nw (6 + W9 d)) from by rw [b50 (6 + W9 d) (by omega) (by omega)]) ?_
            refine z0_ne (tgt := 91) hC dX4_pours_84 (by decide) (by omega) (fun c84 => ?_) (fun c84 => ?_)
            · skip
              refine lv_iconst (v := nI 0) hx hb dX4_pours_91 (by decide) ?_
              exact hJ92 false trivial (by exact all_f2 (P := (fun d => nd (6 * a + d) = 0 ∨ W9 d = d ∧ nw (6 + W9 d) = 0)) (fun h => by rcases h with h | h; omega; have := h.2; omega)) ls (lv_sub hl [1, 2, 4, 0] rfl)
            · skip
              refine lv_iconst (v := nI 1) hx hb dX4_pours_87 (by decide) ?_
              refine lv_goto (tgt := 92) hx hb dX4_pours_88 (by decide) ?_
              exact hJ92 true trivial (by exact all_t (P := (fun d => nd (6 * a + d) = 0 ∨ W9 d = d ∧ nw (6 + W9 d) = 0)) hb9 c56 (Or.inr ⟨c71, c84⟩)) ls (lv_sub hl [1, 2, 4, 0] rfl)
  exact hL38 _ 0 true (knF nw) rfl (by omega) (by exact all_0) (by rfl) _ _ hP hD hS ls (lv_sub hl [2, 3, 1, 0] rfl)
set_option maxHeartbeats 1000000 in
set_option maxRecDepth 100000 in
theorem c_X4_now_0 {l : Launch} {D : va_G} {cI cZ cB cR : ClassId} {q xtx ty xdc xdl xdb xar xac xwm xnd at9 sta sor val xnw xkp xta xtw td xhg : Nat} {tr : Int64} {fau : Int32} {nw : Nat → Nat}   : mR l yX4_now cX4_now 4 (some .int) 0 0 D cI cZ cB cR [oM q tr xtx ty xdc xdl xdb xar xac xwm xnd at9 sta sor val fau xnw xkp xta xtw td xhg, aI cI xnw 729 nw] [.ref q, .int (nI 0)] (some (.int (nI (nw 18)))) := by
  refine mR_of rfl (Nat.le_of_ble_eq_true rfl) ?_
  intro p e s m args below meth c hC hr hlk hK hP ls hl
  have hl : lv_has ls 4 [(0, .ref q), (1, .int (nI 0))] := hl
  obtain ⟨hx, hb, hml, hown, hts⟩ := id hC
  refine lv_iconst (v := nI 0) hx hb dX4_now_0 (by decide) ?_
  refine lv_istore_n (lv' := [(2, .int (nI 0)), (0, .ref q), (1, .int (nI 0))]) hx hb dX4_now_1 rfl hl (by decide) rfl (fun ls hl => ?_)
  refine lv_iload_n hx hb dX4_now_2 rfl (lv_at hl 2 rfl) ?_
  refine lv_tableIn (off := 37) (tgt := 40) hx hb dX4_now_3 (by decide) (by decide) (by decide) (by decide) ?_
  refine lv_aload_n hx hb dX4_now_40 rfl (lv_at hl 1 rfl) ?_
  refine z_get (k := 15) zcX4 hC hK hP 0 rfl (by decide) lF_X4_35 rfl dX4_now_41 ?_
  refine lv_bipush (v := nI 18) hx hb dX4_now_44 (by decide) ?_
  refine z_ald hC hK hP 1 rfl (by omega) (by decide) dX4_now_46 ?_
  exact zr_i hC hr hlk (by first | rfl | omega) dX4_now_47
set_option maxHeartbeats 1000000 in
set_option maxRecDepth 100000 in
theorem c_X4_now_1 {l : Launch} {D : va_G} {cI cZ cB cR : ClassId} {q xtx ty xdc xdl xdb xar xac xwm xnd at9 sta sor val xnw xkp xta xtw td xhg : Nat} {tr : Int64} {fau : Int32} {nw : Nat → Nat}   : mR l yX4_now cX4_now 4 (some .int) 0 0 D cI cZ cB cR [oM q tr xtx ty xdc xdl xdb xar xac xwm xnd at9 sta sor val fau xnw xkp xta xtw td xhg, aI cI xnw 729 nw] [.ref q, .int (nI 1)] (some (.int (nI (nw 19)))) := by
  refine mR_of rfl (Nat.le_of_ble_eq_true rfl) ?_
  intro p e s m args below meth c hC hr hlk hK hP ls hl
  have hl : lv_has ls 4 [(0, .ref q), (1, .int (nI 1))] := hl
  obtain ⟨hx, hb, hml, hown, hts⟩ := id hC
  refine lv_iconst (v := nI 0) hx hb dX4_now_0 (by decide) ?_
  refine lv_istore_n (lv' := [(2, .int (nI 0)), (0, .ref q), (1, .int (nI 1))]) hx hb dX4_now_1 rfl hl (by decide) rfl (fun ls hl => ?_)
  refine lv_iload_n hx hb dX4_now_2 rfl (lv_at hl 2 rfl) ?_
  refine lv_tableIn (off := 45) (tgt := 48) hx hb dX4_now_3 (by decide) (by decide) (by decide) (by decide) ?_
  refine lv_aload_n hx hb dX4_now_48 rfl (lv_at hl 1 rfl) ?_
  refine z_get (k := 15) zcX4 hC hK hP 0 rfl (by decide) lF_X4_35 rfl dX4_now_49 ?_
  refine lv_bipush (v := nI 19) hx hb dX4_now_52 (by decide) ?_
  refine z_ald hC hK hP 1 rfl (by omega) (by decide) dX4_now_54 ?_
  exact zr_i hC hr hlk (by first | rfl | omega) dX4_now_55
set_option maxHeartbeats 1000000 in
set_option maxRecDepth 100000 in
theorem c_X4_now_2 {l : Launch} {D : va_G} {cI cZ cB cR : ClassId} {q xtx ty xdc xdl xdb xar xac xwm xnd at9 sta sor val xnw xkp xta xtw td xhg : Nat} {tr : Int64} {fau : Int32} {nw : Nat → Nat}   : mR l yX4_now cX4_now 4 (some .int) 0 0 D cI cZ cB cR [oM q tr xtx ty xdc xdl xdb xar xac xwm xnd at9 sta sor val fau xnw xkp xta xtw td xhg, aI cI xnw 729 nw] [.ref q, .int (nI 2)] (some (.int (nI (nw 20)))) := by
  refine mR_of rfl (Nat.le_of_ble_eq_true rfl) ?_
  intro p e s m args below meth c hC hr hlk hK hP ls hl
  have hl : lv_has ls 4 [(0, .ref q), (1, .int (nI 2))] := hl
  obtain ⟨hx, hb, hml, hown, hts⟩ := id hC
  refine lv_iconst (v := nI 0) hx hb dX4_now_0 (by decide) ?_
  refine lv_istore_n (lv' := [(2, .int (nI 0)), (0, .ref q), (1, .int (nI 2))]) hx hb dX4_now_1 rfl hl (by decide) rfl (fun ls hl => ?_)
  refine lv_iload_n hx hb dX4_now_2 rfl (lv_at hl 2 rfl) ?_
  refine lv_tableIn (off := 53) (tgt := 56) hx hb dX4_now_3 (by decide) (by decide) (by decide) (by decide) ?_
  refine lv_aload_n hx hb dX4_now_56 rfl (lv_at hl 1 rfl) ?_
  refine z_get (k := 15) zcX4 hC hK hP 0 rfl (by decide) lF_X4_35 rfl dX4_now_57 ?_
  refine lv_bipush (v := nI 20) hx hb dX4_now_60 (by decide) ?_
  refine z_ald hC hK hP 1 rfl (by omega) (by decide) dX4_now_62 ?_
  exact zr_i hC hr hlk (by first | rfl | omega) dX4_now_63
set_option maxHeartbeats 1000000 in
set_option maxRecDepth 100000 in
theorem c_X4_now_3 {l : Launch} {D : va_G} {cI cZ cB cR : ClassId} {q xtx ty xdc xdl xdb xar xac xwm xnd at9 sta sor val xnw xkp xta xtw td xhg : Nat} {tr : Int64} {fau : Int32} {nw : Nat → Nat}   : mR l yX4_now cX4_now 4 (some .int) 0 0 D cI cZ cB cR [oM q tr xtx ty xdc xdl xdb xar xac xwm xnd at9 sta sor val fau xnw xkp xta xtw td xhg, aI cI xnw 729 nw] [.ref q, .int (nI 3)] (some (.int (nI (nw 21)))) := by
  refine mR_of rfl (Nat.le_of_ble_eq_true rfl) ?_
  intro p e s m args below meth c hC hr hlk hK hP ls hl
  have hl : lv_has ls 4 [(0, .ref q), (1, .int (nI 3))] := hl
  obtain ⟨hx, hb, hml, hown, hts⟩ := id hC
  refine lv_iconst (v := nI 0) hx hb dX4_now_0 (by decide) ?_
  refine lv_istore_n (lv' := [(2, .int (nI 0)), (0, .ref q), (1, .int (nI 3))]) hx hb dX4_now_1 rfl hl (by decide) rfl (fun ls hl => ?_)
  refine lv_iload_n hx hb dX4_now_2 rfl (lv_at hl 2 rfl) ?_
  refine lv_tableIn (off := 61) (tgt := 64) hx hb dX4_now_3 (by decide) (by decide) (by decide) (by decide) ?_
  refine lv_aload_n hx hb dX4_now_64 rfl (lv_at hl 1 rfl) ?_
  refine z_get (k := 15) zcX4 hC hK hP 0 rfl (by decide) lF_X4_35 rfl dX4_now_65 ?_
  refine lv_bipush (v := nI 21) hx hb dX4_now_68 (by decide) ?_
  refine z_ald hC hK hP 1 rfl (by omega) (by decide) dX4_now_70 ?_
  exact zr_i hC hr hlk (by first | rfl | omega) dX4_now_71
set_option maxHeartbeats 1000000 in
set_option maxRecDepth 100000 in
theorem c_X4_now_out {l : Launch} {D : va_G} {cI cZ cB cR : ClassId} {q xtx ty xdc xdl xdb xar xac xwm xnd at9 sta sor val xnw xkp xta xtw td xhg : Nat} {tr : Int64} {fau : Int32} {w : Int32} (hwo : w.toInt < 0 ∨ 5 < w.toInt) : mR l yX4_now cX4_now 4 (some .int) 0 0 D cI cZ cB cR [oM q tr xtx ty xdc xdl xdb xar xac xwm xnd at9 sta sor val fau xnw xkp xta xtw td xhg] [.ref q, .int w] (some (.int (-1))) := by
  refine mR_of rfl (Nat.le_of_ble_eq_true rfl) ?_
  intro p e s m args below meth c hC hr hlk hK hP ls hl
  have hl : lv_has ls 4 [(0, .ref q), (1, .int w)] := hl
  obtain ⟨hx, hb, hml, hown, hts⟩ := id hC
  refine lv_iconst (v := nI 0) hx hb dX4_now_0 (by decide) ?_
  refine lv_istore_n (lv' := [(2, .int (nI 0)), (0, .ref q), (1, .int w)]) hx hb dX4_now_1 rfl hl (by decide) rfl (fun ls hl => ?_)
  refine lv_iload_n hx hb dX4_now_2 rfl (lv_at hl 2 rfl) ?_
  refine lv_tableOut (tgt := 148) hx hb dX4_now_3 hwo (by decide) ?_
  refine lv_iconst (v := (-1)) hx hb dX4_now_148 (by decide) ?_
  exact zr_i hC hr hlk (by first | rfl | omega) dX4_now_149
set_option maxHeartbeats 1000000 in
set_option maxRecDepth 100000 in
theorem c_X4_now_4 {l : Launch} {D : va_G} {cI cZ cB cR : ClassId} {q xtx ty xdc xdl xdb xar xac xwm xnd at9 sta sor val xnw xkp xta xtw td xhg : Nat} {tr : Int64} {fau : Int32} {acn dc nw ar nd : Nat → Nat} {W9 : Nat → Nat} {E : Nat → Bool}  (hn : dc 0 ≤ 6) (hac : acn 0 ≤ 5) (hlv : ∀ j, j < 6 → nw j ≤ 40) (hlb : ∀ j, j < 6 → nw (12 + j) < 6) (har : ∀ i, i < 6 → ar i ≤ 5) (hnd : ∀ i, nd i ≤ 9) (hW : ∀ j, j < dc 0 → W9 j < dc 0 ∧ nw (12 + W9 j) = j ∧ ∀ i, i < W9 j → nw (12 + i) ≠ j) (hdn : nw 19 < 32) (hE : ∀ a, a < acn 0 → (E a = true ↔ ∀ d, d < dc 0 → nd (6 * a + d) ≤ nw (W9 d) - 0 * ar (W9 d)))  : mR l yX4_now cX4_now 4 (some .int) 2 47 D cI cZ cB cR [oM q tr xtx ty xdc xdl xdb xar xac xwm xnd at9 sta sor val fau xnw xkp xta xtw td xhg, aI cI xac 2 acn, aI cI xdc 2 dc, aI cI xnw 729 nw, aI cI xar 12 ar, aI cI xnd 60 nd] [.ref q, .int (nI 4)] (some (.int (nI (orr (fun a => !Nat.testBit (nw 19) a && E a) (acn 0))))) := by
  refine mR_of rfl (Nat.le_of_ble_eq_true rfl) ?_
  intro p e s m args below meth c hC hr hlk hK hP ls hl
  have hl : lv_has ls 4 [(0, .ref q), (1, .int (nI 4))] := hl
  obtain ⟨hx, hb, hml, hown, hts⟩ := id hC
  refine lv_iconst (v := nI 0) hx hb dX4_now_0 (by decide) ?_
  refine lv_istore_n (lv' := [(2, .int (nI 0)), (0, .ref q), (1, .int (nI 4))]) hx hb dX4_now_1 rfl hl (by decide) rfl (fun ls hl => ?_)
  refine lv_iload_n hx hb dX4_now_2 rfl (lv_at hl 2 rfl) ?_
  refine lv_tableIn (off := 69) (tgt := 72) hx hb dX4_now_3 (by decide) (by decide) (by decide) (by decide) ?_
  refine lv_iconst (v := nI 0) hx hb dX4_now_72 (by decide) ?_
  refine lv_istore_n (lv' := [(3, .int (nI 0)), (2, .int (nI 0)), (0, .ref q), (1, .int (nI 4))]) hx hb dX4_now_73 rfl hl (by decide) rfl (fun ls hl => ?_)
  have hL74 : ∀ (z74 : Nat) (a : Nat) (x : Nat), acn 0 - a = z74 → (a ≤ acn 0) → (x = orr (fun a => !Nat.testBit (nw 19) a && E a) a) → ∀ ls : Array Slot, lv_has ls 4 [(0, .ref q), (1, .int (nI 4)), (2, .int (nI x)), (3, .int (nI a))] → W p l e { frames := 2, cells := 0, slots := 0, locals := 47 } s m args below meth c s.heap [] 0 0 (MQ below (qR (some (.int (nI (orr (fun a => !Nat.testBit (nw 19) a && E a) (acn 0)))))) args s 0 0 (fun _ => False)) (F0 m 74 ls []) := by
    intro z74
    induction z74 using Nat.strongRecOn with
    | _ z74 ih74 =>
    intro a x hz74 ha hx9 ls hl
    refine lv_iload_n hx hb dX4_now_74 rfl (lv_at hl 3 rfl) ?_
    refine lv_aload_n hx hb dX4_now_75 rfl (lv_at hl 0 rfl) ?_
    refine z_get (k := 7) zcX4 hC hK hP 0 rfl (by decide) lF_X4_26 rfl dX4_now_76 ?_
    refine lv_iconst (v := nI 0) hx hb dX4_now_79 (by decide) ?_
    refine z_ald hC hK hP 1 rfl (by omega) (by decide) dX4_now_80 ?_
    refine zc_ge (tgt := 117) hC dX4_now_81 (by decide) (by omega) (by omega) (fun c81 => ?_) (fun c81 => ?_)
    · skip
      refine lv_iload_n hx hb dX4_now_117 rfl (lv_at hl 2 rfl) ?_
      exact zr_i hC hr hlk (by rw [hx9, show a = acn 0 by omega]) dX4_now_118
    · skip
      refine lv_iload_n hx hb dX4_now_84 rfl (lv_at hl 2 rfl) ?_
      refine lv_aload_n hx hb dX4_now_85 rfl (lv_at hl 0 rfl) ?_
      refine lv_iload_n hx hb dX4_now_86 rfl (lv_at hl 3 rfl) ?_
      refine zRV (As := [.int (nI a)]) (b := q) (rest := [.int (nI x)]) hC (c_X4_isDone (l := l) (a := a) (ha := by omega) (hdn := hdn)) lM_X4_119 vM_X4_isDone (by decide) hK hP [0, 3] rfl ⟨rfl, rfl, rfl⟩ rfl hl.1 rfl (Nat.le_of_ble_eq_true rfl) dX4_now_87 (by decide) ?_
      show W _ _ _ _ _ _ _ _ _ _ _ _ _ _ _ (F0 m 90 ls [.int (bI (Nat.testBit (nw 19) a)), .int (nI x)])
      refine zb_ne (tgt := 108) hC dX4_now_90 (by decide) (fun c90 => ?_) (fun c90 => ?_)
      · skip
        refine lv_iconst (v := nI 0) hx hb dX4_now_108 (by decide) ?_
        refine zi_or hC dX4_now_109 ?_
        refine lv_istore_n (lv' := [(2, .int (nI (x ||| 0))), (0, .ref q), (1, .int (nI 4)), (3, .int (nI a))]) hx hb dX4_now_110 rfl hl (by decide) rfl (fun ls hl => ?_)
        refine lv_iinc (v := nI (a + 1)) (lv' := [(3, .int (nI (a + 1))), (2, .int (nI (x ||| 0))), (0, .ref q), (1, .int (nI 4))]) hx hb dX4_now_111 hl (k := 3) rfl (z_inc a 1) (by decide) rfl (fun ls hl => ?_)
        refine lv_goto (tgt := 74) hx hb dX4_now_114 (by decide) ?_
        exact ih74 (acn 0 - (a + 1)) (by omega) (a + 1) (x ||| 0) rfl (by omega) (by rw [hx9, orr_s]; simp [c90]) ls (lv_sub hl [2, 3, 1, 0] rfl)
      · skip
        refine lv_aload_n hx hb dX4_now_93 rfl (lv_at hl 0 rfl) ?_
        refine lv_iload_n hx hb dX4_now_94 rfl (lv_at hl 3 rfl) ?_
        refine lv_iconst (v := nI 0) hx hb dX4_now_95 (by decide) ?_
        refine zRV (As := [.int (nI a), .int (nI 0)]) (b := q) (rest := [.int (nI x)]) hC (c_X4_can (l := l) (W9 := W9) (g := E a) (hn := hn) (hlv := hlv) (hlb := hlb) (har := har) (hnd := hnd) (hW := hW) (ha := by omega) (hm := by decide) (hg := hE a (by omega))) lM_X4_122 vM_X4_can (by decide) hK hP [0, 2, 3, 4, 5] rfl ⟨rfl, rfl, rfl⟩ rfl hl.1 rfl (Nat.le_of_ble_eq_true rfl) dX4_now_96 (by decide) ?_
        show W _ _ _ _ _ _ _ _ _ _ _ _ _ _ _ (F0 m 99 ls [.int (bI (E a)), .int (nI x)])
        refine zb_eq (tgt := 108) hC dX4_now_99 (by decide) (fun c99 => ?_) (fun c99 => ?_)
        · skip
          refine lv_iconst (v := nI 0) hx hb dX4_now_108 (by decide) ?_
          refine zi_or hC dX4_now_109 ?_
          refine lv_istore_n (lv' := [(2, .int (nI (x ||| 0))), (0, .ref q), (1, .int (nI 4)), (3, .int (nI a))]) hx hb dX4_now_110 rfl hl (by decide) rfl (fun ls hl => ?_)
          refine lv_iinc (v := nI (a + 1)) (lv' := [(3, .int (nI (a + 1))), (2, .int (nI (x ||| 0))), (0, .ref q), (1, .int (nI 4))]) hx hb dX4_now_111 hl (k := 3) rfl (z_inc a 1) (by decide) rfl (fun ls hl => ?_)
          refine lv_goto (tgt := 74) hx hb dX4_now_114 (by decide) ?_
          exact ih74 (acn 0 - (a + 1)) (by omega) (a + 1) (x ||| 0) rfl (by omega) (by rw [hx9, orr_s]; simp [c90, c99]) ls (lv_sub hl [2, 3, 1, 0] rfl)
        · skip
          refine lv_iconst (v := nI 1) hx hb dX4_now_102 (by decide) ?_
          refine lv_iload_n hx hb dX4_now_103 rfl (lv_at hl 3 rfl) ?_
          refine zi_shl1 hC dX4_now_104 (by omega) ?_
          refine lv_goto (tgt := 109) hx hb dX4_now_105 (by decide) ?_
          refine zi_or hC dX4_now_109 ?_
          refine lv_istore_n (lv' := [(2, .int (nI (x ||| (2 ^ a)))), (0, .ref q), (1, .int (nI 4)), (3, .int (nI a))]) hx hb dX4_now_110 rfl hl (by decide) rfl (fun ls hl => ?_)
          refine lv_iinc (v := nI (a + 1)) (lv' := [(3, .int (nI (a + 1))), (2, .int (nI (x ||| (2 ^ a)))), (0, .ref q), (1, .int (nI 4))]) hx hb dX4_now_111 hl (k := 3) rfl (z_inc a 1) (by decide) rfl (fun ls hl => ?_)
          refine lv_goto (tgt := 74) hx hb dX4_now_114 (by decide) ?_
          exact ih74 (acn 0 - (a + 1)) (by omega) (a + 1) (x ||| (2 ^ a)) rfl (by omega) (by rw [hx9, orr_s]; simp [c90, c99]) ls (lv_sub hl [2, 3, 1, 0] rfl)
  exact hL74 _ 0 0 rfl (by omega) (by rfl) ls (lv_sub hl [2, 3, 1, 0] rfl)
set_option maxHeartbeats 1000000 in
set_option maxRecDepth 100000 in
theorem c_X4_now_5 {l : Launch} {D : va_G} {cI cZ cB cR : ClassId} {q xtx ty xdc xdl xdb xar xac xwm xnd at9 sta sor val xnw xkp xta xtw td xhg : Nat} {tr : Int64} {fau : Int32} {dc nw : Nat → Nat}  (hn : dc 0 ≤ 6)  : mR l yX4_now cX4_now 4 (some .int) 0 0 D cI cZ cB cR [oM q tr xtx ty xdc xdl xdb xar xac xwm xnd at9 sta sor val fau xnw xkp xta xtw td xhg, aI cI xdc 2 dc, aI cI xnw 729 nw] [.ref q, .int (nI 5)] (some (.int (nI (sm nw (dc 0))))) := by
  refine mR_of rfl (Nat.le_of_ble_eq_true rfl) ?_
  intro p e s m args below meth c hC hr hlk hK hP ls hl
  have hl : lv_has ls 4 [(0, .ref q), (1, .int (nI 5))] := hl
  obtain ⟨hx, hb, hml, hown, hts⟩ := id hC
  refine lv_iconst (v := nI 0) hx hb dX4_now_0 (by decide) ?_
  refine lv_istore_n (lv' := [(2, .int (nI 0)), (0, .ref q), (1, .int (nI 5))]) hx hb dX4_now_1 rfl hl (by decide) rfl (fun ls hl => ?_)
  refine lv_iload_n hx hb dX4_now_2 rfl (lv_at hl 2 rfl) ?_
  refine lv_tableIn (off := 116) (tgt := 119) hx hb dX4_now_3 (by decide) (by decide) (by decide) (by decide) ?_
  refine lv_iconst (v := nI 0) hx hb dX4_now_119 (by decide) ?_
  refine lv_istore_n (lv' := [(3, .int (nI 0)), (2, .int (nI 0)), (0, .ref q), (1, .int (nI 5))]) hx hb dX4_now_120 rfl hl (by decide) rfl (fun ls hl => ?_)
  have hL121 : ∀ (z121 : Nat) (d : Nat) (x : Nat), dc 0 - d = z121 → (d ≤ dc 0) → (x = sm nw d) → ∀ ls : Array Slot, lv_has ls 4 [(0, .ref q), (1, .int (nI 5)), (2, .int (nI x)), (3, .int (nI d))] → W p l e { frames := 0, cells := 0, slots := 0, locals := 0 } s m args below meth c s.heap [] 0 0 (MQ below (qR (some (.int (nI (sm nw (dc 0)))))) args s 0 0 (fun _ => False)) (F0 m 121 ls []) := by
    intro z121
    induction z121 using Nat.strongRecOn with
    | _ z121 ih121 =>
    intro d x hz121 hd hx9 ls hl
    refine lv_iload_n hx hb dX4_now_121 rfl (lv_at hl 3 rfl) ?_
    refine lv_aload_n hx hb dX4_now_122 rfl (lv_at hl 0 rfl) ?_
    refine z_get (k := 3) zcX4 hC hK hP 0 rfl (by decide) lF_X4_13 rfl dX4_now_123 ?_
    refine lv_iconst (v := nI 0) hx hb dX4_now_126 (by decide) ?_
    refine z_ald hC hK hP 1 rfl (by omega) (by decide) dX4_now_127 ?_
    refine zc_ge (tgt := 146) hC dX4_now_128 (by decide) (by omega) (by omega) (fun c128 => ?_) (fun c128 => ?_)
    · skip
      refine lv_iload_n hx hb dX4_now_146 rfl (lv_at hl 2 rfl) ?_
      exact zr_i hC hr hlk (by rw [hx9, show d = dc 0 by omega]) dX4_now_147
    · skip
      refine lv_iload_n hx hb dX4_now_131 rfl (lv_at hl 2 rfl) ?_
      refine lv_aload_n hx hb dX4_now_132 rfl (lv_at hl 0 rfl) ?_
      refine z_get (k := 15) zcX4 hC hK hP 0 rfl (by decide) lF_X4_35 rfl dX4_now_133 ?_
      refine lv_iload_n hx hb dX4_now_136 rfl (lv_at hl 3 rfl) ?_
      refine z_ald hC hK hP 2 rfl (by omega) (by decide) dX4_now_137 ?_
      refine zi_add hC dX4_now_138 ?_
      refine lv_istore_n (lv' := [(2, .int (nI (x + (nw d)))), (0, .ref q), (1, .int (nI 5)), (3, .int (nI d))]) hx hb dX4_now_139 rfl hl (by decide) rfl (fun ls hl => ?_)
      refine lv_iinc (v := nI (d + 1)) (lv' := [(3, .int (nI (d + 1))), (2, .int (nI (x + (nw d)))), (0, .ref q), (1, .int (nI 5))]) hx hb dX4_now_140 hl (k := 3) rfl (z_inc d 1) (by decide) rfl (fun ls hl => ?_)
      refine lv_goto (tgt := 121) hx hb dX4_now_143 (by decide) ?_
      exact ih121 (dc 0 - (d + 1)) (by omega) (d + 1) (x + (nw d)) rfl (by omega) (by rw [hx9, sm_s]) ls (lv_sub hl [2, 3, 1, 0] rfl)
  exact hL121 _ 0 0 rfl (by omega) (by rfl) ls (lv_sub hl [2, 3, 1, 0] rfl)
set_option maxHeartbeats 1000000 in
set_option maxRecDepth 100000 in
theorem c_X4_worthOf {l : Launch} {D : va_G} {cI cZ cB cR : ClassId} {q xtx ty xdc xdl xdb xar xac xwm xnd at9 sta sor val xnw xkp xta xtw td xhg : Nat} {tr : Int64} {fau : Int32} {acn dc nw nd wm : Nat → Nat} {W9 : Nat → Nat} {s9 : Nat} {F9 : Bool} (hn : dc 0 ≤ 6) (hac : acn 0 ≤ 5) (hlv : ∀ j, j < 6 → nw j ≤ 40) (hlb : ∀ j, j < 6 → nw (12 + j) < 6) (hnd : ∀ i, nd i ≤ 9) (hW : ∀ j, j < dc 0 → W9 j < dc 0 ∧ nw (12 + W9 j) = j ∧ ∀ i, i < W9 j → nw (12 + i) ≠ j) (hs : s9 < 32) (hF : F9 = true ↔ ∀ d, d < dc 0 → sm (fun i => if Nat.testBit s9 i then nd (6 * i + d) else 0) (acn 0) ≤ nw (W9 d))  : mR l yX4_worthOf cX4_worthOf 6 (some .int) 1 22 D cI cZ cB cR [oM q tr xtx ty xdc xdl xdb xar xac xwm xnd at9 sta sor val fau xnw xkp xta xtw td xhg, aI cI xac 2 acn, aI cI xdc 2 dc, aI cI xnw 729 nw, aI cI xnd 60 nd, aI cI xwm 10 wm] [.ref q, .int (nI s9)] (some (.int (if F9 = true then nI (sm (fun i => if Nat.testBit s9 i then wm i else 0) (acn 0)) else -9))) := by
  refine mR_of rfl (Nat.le_of_ble_eq_true rfl) ?_
  intro p e s m args below meth c hC hr hlk hK hP ls hl
  have hl : lv_has ls 6 [(0, .ref q), (1, .int (nI s9))] := hl
  obtain ⟨hx, hb, hml, hown, hts⟩ := id hC
  refine lv_iconst (v := nI 0) hx hb dX4_worthOf_0 (by decide) ?_
  refine lv_istore_n (lv' := [(2, .int (nI 0)), (0, .ref q), (1, .int (nI s9))]) hx hb dX4_worthOf_1 rfl hl (by decide) rfl (fun ls hl => ?_)
  refine lv_iconst (v := nI 0) hx hb dX4_worthOf_2 (by decide) ?_
  refine lv_istore_n (lv' := [(3, .int (nI 0)), (2, .int (nI 0)), (0, .ref q), (1, .int (nI s9))]) hx hb dX4_worthOf_3 rfl hl (by decide) rfl (fun ls hl => ?_)
  have hL4 : ∀ (z4 : Nat) (d : Nat), dc 0 - d = z4 → (d ≤ dc 0) → (∀ i, i < d → sm (fun j => if Nat.testBit s9 j then nd (6 * j + i) else 0) (acn 0) ≤ nw (W9 i)) → ∀ ls : Array Slot, lv_has ls 6 [(0, .ref q), (1, .int (nI s9)), (2, .int (nI 0)), (3, .int (nI d))] → W p l e { frames := 1, cells := 0, slots := 0, locals := 22 } s m args below meth c s.heap [] 0 0 (MQ below (qR (some (.int (if F9 = true then nI (sm (fun i => if Nat.testBit s9 i then wm i else 0) (acn 0)) else -9)))) args s 0 0 (fun _ => False)) (F0 m 4 ls []) := by
    intro z4
    induction z4 using Nat.strongRecOn with
    | _ z4 ih4 =>
    intro d hz4 hd hall ls hl
    refine lv_iload_n hx hb dX4_worthOf_4 rfl (lv_at hl 3 rfl) ?_
    refine lv_aload_n hx hb dX4_worthOf_5 rfl (lv_at hl 0 rfl) ?_
    refine z_get (k := 3) zcX4 hC hK hP 0 rfl (by decide) lF_X4_13 rfl dX4_worthOf_6 ?_
    refine lv_iconst (v := nI 0) hx hb dX4_worthOf_9 (by decide) ?_
    refine z_ald hC hK hP 2 rfl (by omega) (by decide) dX4_worthOf_10 ?_
    refine zc_ge (tgt := 87) hC dX4_worthOf_11 (by decide) (by omega) (by omega) (fun c11 => ?_) (fun c11 => ?_)
    · skip
      refine lv_iconst (v := nI 0) hx hb dX4_worthOf_87 (by decide) ?_
      refine lv_istore_n (lv' := [(3, .int (nI 0)), (0, .ref q), (1, .int (nI s9)), (2, .int (nI 0))]) hx hb dX4_worthOf_88 rfl hl (by decide) rfl (fun ls hl => ?_)
      have hL89 : ∀ (z89 : Nat) (k9 : Nat) (y9 : Nat), acn 0 - k9 = z89 → (k9 ≤ acn 0) → (y9 = sm (fun i => if Nat.testBit s9 i then wm i else 0) k9) → ∀ ls : Array Slot, lv_has ls 6 [(0, .ref q), (1, .int (nI s9)), (2, .int (nI y9)), (3, .int (nI k9))] → W p l e { frames := 1, cells := 0, slots := 0, locals := 22 } s m args below meth c s.heap [] 0 0 (MQ below (qR (some (.int (if F9 = true then nI (sm (fun i => if Nat.testBit s9 i then wm i else 0) (acn 0)) else -9)))) args s 0 0 (fun _ => False)) (F0 m 89 ls []) := by
        intro z89
        induction z89 using Nat.strongRecOn with
        | _ z89 ih89 =>
        intro k9 y9 hz89 hk9 hy9 ls hl
        refine lv_iload_n hx hb dX4_worthOf_89 rfl (lv_at hl 3 rfl) ?_
        refine lv_aload_n hx hb dX4_worthOf_90 rfl (lv_at hl 0 rfl) ?_
        refine z_get (k := 7) zcX4 hC hK hP 0 rfl (by decide) lF_X4_26 rfl dX4_worthOf_91 ?_
        refine lv_iconst (v := nI 0) hx hb dX4_worthOf_94 (by decide) ?_
        refine z_ald hC hK hP 1 rfl (by omega) (by decide) dX4_worthOf_95 ?_
        refine zc_ge (tgt := 127) hC dX4_worthOf_96 (by decide) (by omega) (by omega) (fun c96 => ?_) (fun c96 => ?_)
        · skip
          refine lv_iload_n hx hb dX4_worthOf_127 rfl (lv_at hl 2 rfl) ?_
          exact zr_i hC hr hlk (by rw [hy9, show k9 = acn 0 by omega]; exact (if_pos (hF.mpr (fun i hi => hall i (by omega)))).symm) dX4_worthOf_128
        · skip
          refine lv_iload_n hx hb dX4_worthOf_99 rfl (lv_at hl 2 rfl) ?_
          refine lv_iload_n hx hb dX4_worthOf_100 rfl (lv_at hl 1 rfl) ?_
          refine lv_iload_n hx hb dX4_worthOf_101 rfl (lv_at hl 3 rfl) ?_
          refine zi_shr hC dX4_worthOf_102 (by omega) (by omega) ?_
          refine lv_iconst (v := nI 1) hx hb dX4_worthOf_103 (by decide) ?_
          refine zi_and hC dX4_worthOf_104 ?_
          have b105 : (Nat.testBit s9 k9).toNat < 2 := Bool.toNat_lt _
          refine z_top (show (nI ((s9 / 2 ^ k9) &&& 1)) = nI ((Nat.testBit s9 k9).toNat) from by exact z_bit s9 k9) ?_
          refine lv_iconst (v := nI 1) hx hb dX4_worthOf_105 (by decide) ?_
          refine zc_ne (tgt := 118) hC dX4_worthOf_106 (by decide) (by omega) (by omega) (fun c106 => ?_) (fun c106 => ?_)
          · skip
            refine lv_iconst (v := nI 0) hx hb dX4_worthOf_118 (by decide) ?_
            refine zi_add hC dX4_worthOf_119 ?_
            refine lv_istore_n (lv' := [(2, .int (nI (y9 + 0))), (0, .ref q), (1, .int (nI s9)), (3, .int (nI k9))]) hx hb dX4_worthOf_120 rfl hl (by decide) rfl (fun ls hl => ?_)
            refine lv_iinc (v := nI (k9 + 1)) (lv' := [(3, .int (nI (k9 + 1))), (2, .int (nI (y9 + 0))), (0, .ref q), (1, .int (nI s9))]) hx hb dX4_worthOf_121 hl (k := 3) rfl (z_inc k9 1) (by decide) rfl (fun ls hl => ?_)
            refine lv_goto (tgt := 89) hx hb dX4_worthOf_124 (by decide) ?_
            exact ih89 (acn 0 - (k9 + 1)) (by omega) (k9 + 1) (y9 + 0) rfl (by omega) (by rw [hy9, sm_s]; rw [if_neg (fun h => c106 (z_bt1.mpr h))]) ls (lv_sub hl [2, 3, 1, 0] rfl)
          · skip
            refine lv_aload_n hx hb dX4_worthOf_109 rfl (lv_at hl 0 rfl) ?_
            refine z_get (k := 8) zcX4 hC hK hP 0 rfl (by decide) lF_X4_29 rfl dX4_worthOf_110 ?_
            refine lv_iload_n hx hb dX4_worthOf_113 rfl (lv_at hl 3 rfl) ?_
            refine z_ald hC hK hP 5 rfl (by omega) (by decide) dX4_worthOf_114 ?_
            refine lv_goto (tgt := 119) hx hb dX4_worthOf_115 (by decide) ?_
            refine zi_add hC dX4_worthOf_119 ?_
            refine lv_istore_n (lv' := [(2, .int (nI (y9 + (wm k9)))), (0, .ref q), (1, .int (nI s9)), (3, .int (nI k9))]) hx hb dX4_worthOf_120 rfl hl (by decide) rfl (fun ls hl => ?_)
            refine lv_iinc (v := nI (k9 + 1)) (lv' := [(3, .int (nI (k9 + 1))), (2, .int (nI (y9 + (wm k9)))), (0, .ref q), (1, .int (nI s9))]) hx hb dX4_worthOf_121 hl (k := 3) rfl (z_inc k9 1) (by decide) rfl (fun ls hl => ?_)
            refine lv_goto (tgt := 89) hx hb dX4_worthOf_124 (by decide) ?_
            exact ih89 (acn 0 - (k9 + 1)) (by omega) (k9 + 1) (y9 + (wm k9)) rfl (by omega) (by rw [hy9, sm_s]; rw [if_pos (z_bt1.mp c106)]) ls (lv_sub hl [2, 3, 1, 0] rfl)
      exact hL89 _ 0 0 rfl (by omega) (by rfl) ls (lv_sub hl [1, 2, 3, 0] rfl)
    · skip
      refine lv_iconst (v := nI 0) hx hb dX4_worthOf_14 (by decide) ?_
      refine lv_istore (lv' := [(4, .int (nI 0)), (0, .ref q), (1, .int (nI s9)), (2, .int (nI 0)), (3, .int (nI d))]) hx hb dX4_worthOf_15 hl (by decide) rfl (fun ls hl => ?_)
      refine lv_iconst (v := nI 0) hx hb dX4_worthOf_17 (by decide) ?_
      refine lv_istore (lv' := [(5, .int (nI 0)), (4, .int (nI 0)), (0, .ref q), (1, .int (nI s9)), (2, .int (nI 0)), (3, .int (nI d))]) hx hb dX4_worthOf_18 hl (by decide) rfl (fun ls hl => ?_)
      have hL20 : ∀ (z20 : Nat) (i9 : Nat) (x9 : Nat), acn 0 - i9 = z20 → (i9 ≤ acn 0) → (x9 = sm (fun i => if Nat.testBit s9 i then nd (6 * i + d) else 0) i9) → (x9 ≤ 9 * i9) → ∀ ls : Array Slot, lv_has ls 6 [(0, .ref q), (1, .int (nI s9)), (2, .int (nI 0)), (3, .int (nI d)), (4, .int (nI x9)), (5, .int (nI i9))] → W p l e { frames := 1, cells := 0, slots := 0, locals := 22 } s m args below meth c s.heap [] 0 0 (MQ below (qR (some (.int (if F9 = true then nI (sm (fun i => if Nat.testBit s9 i then wm i else 0) (acn 0)) else -9)))) args s 0 0 (fun _ => False)) (F0 m 20 ls []) := by
        intro z20
        induction z20 using Nat.strongRecOn with
        | _ z20 ih20 =>
        intro i9 x9 hz20 hi hx9 hxb ls hl
        refine lv_iload hx hb dX4_worthOf_20 (lv_at hl 5 rfl) ?_
        refine lv_aload_n hx hb dX4_worthOf_22 rfl (lv_at hl 0 rfl) ?_
        refine z_get (k := 7) zcX4 hC hK hP 0 rfl (by decide) lF_X4_26 rfl dX4_worthOf_23 ?_
        refine lv_iconst (v := nI 0) hx hb dX4_worthOf_26 (by decide) ?_
        refine z_ald hC hK hP 1 rfl (by omega) (by decide) dX4_worthOf_27 ?_
        refine zc_ge (tgt := 63) hC dX4_worthOf_28 (by decide) (by omega) (by omega) (fun c28 => ?_) (fun c28 => ?_)
        · skip
          have e28 : i9 = acn 0 := by omega
          rw [e28] at hx9
          refine lv_iload hx hb dX4_worthOf_63 (lv_at hl 4 rfl) ?_
          refine lv_aload_n hx hb dX4_worthOf_65 rfl (lv_at hl 0 rfl) ?_
          refine z_get (k := 15) zcX4 hC hK hP 0 rfl (by decide) lF_X4_35 rfl dX4_worthOf_66 ?_
          refine lv_aload_n hx hb dX4_worthOf_69 rfl (lv_at hl 0 rfl) ?_
          refine lv_iload_n hx hb dX4_worthOf_70 rfl (lv_at hl 3 rfl) ?_
          have b71 : W9 d < 6 := by have := (hW d (by omega)).1; omega
          refine zRV (As := [.int (nI d)]) (b := q) (rest := [.ref xnw, .int (nI x9)]) hC (c_X4_with (l := l) (hlb := hlb) (w9 := W9 d) (hw := by have := (hW d (by omega)).1; omega) (hj := (hW d (by omega)).2.1) (hm := (hW d (by omega)).2.2)) lM_X4_109 vM_X4_with (by decide) hK hP [0, 3] rfl ⟨rfl, rfl, rfl⟩ rfl hl.1 rfl (Nat.le_of_ble_eq_true rfl) dX4_worthOf_71 (by decide) ?_
          show W _ _ _ _ _ _ _ _ _ _ _ _ _ _ _ (F0 m 74 ls [.int (nI (W9 d)), .ref xnw, .int (nI x9)])
          refine z_ald hC hK hP 3 rfl (by omega) (by decide) dX4_worthOf_74 ?_
          have b75 := hlv (W9 d) b71
          refine zc_le (tgt := 81) hC dX4_worthOf_75 (by decide) (by omega) (by omega) (fun c75 => ?_) (fun c75 => ?_)
          · skip
            refine lv_iinc (v := nI (d + 1)) (lv' := [(3, .int (nI (d + 1))), (0, .ref q), (1, .int (nI s9)), (2, .int (nI 0)), (4, .int (nI x9)), (5, .int (nI i9))]) hx hb dX4_worthOf_81 hl (k := 3) rfl (z_inc d 1) (by decide) rfl (fun ls hl => ?_)
            refine lv_goto (tgt := 4) hx hb dX4_worthOf_84 (by decide) ?_
            exact ih4 (dc 0 - (d + 1)) (by omega) (d + 1) rfl (by omega) (by intro i hi; rcases Nat.lt_succ_iff_lt_or_eq.mp hi with h | h; exact hall i h; subst h; rw [hx9] at c75; exact c75) ls (lv_sub hl [1, 2, 3, 0] rfl)
          · skip
            refine lv_bipush (v := (-9)) hx hb dX4_worthOf_78 (by decide) ?_
            exact zr_i hC hr hlk (by exact (if_neg (fun h => by have := hF.mp h d (by omega); omega)).symm) dX4_worthOf_80
        · skip
          refine lv_iload hx hb dX4_worthOf_31 (lv_at hl 4 rfl) ?_
          refine lv_iload_n hx hb dX4_worthOf_33 rfl (lv_at hl 1 rfl) ?_
          refine lv_iload hx hb dX4_worthOf_34 (lv_at hl 5 rfl) ?_
          refine zi_shr hC dX4_worthOf_36 (by omega) (by omega) ?_
          refine lv_iconst (v := nI 1) hx hb dX4_worthOf_37 (by decide) ?_
          refine zi_and hC dX4_worthOf_38 ?_
          have b39 : (Nat.testBit s9 i9).toNat < 2 := Bool.toNat_lt _
          refine z_top (show (nI ((s9 / 2 ^ i9) &&& 1)) = nI ((Nat.testBit s9 i9).toNat) from by exact z_bit s9 i9) ?_
          refine lv_iconst (v := nI 1) hx hb dX4_worthOf_39 (by decide) ?_
          refine zc_ne (tgt := 53) hC dX4_worthOf_40 (by decide) (by omega) (by omega) (fun c40 => ?_) (fun c40 => ?_)
          · skip
            refine lv_iconst (v := nI 0) hx hb dX4_worthOf_53 (by decide) ?_
            refine zi_add hC dX4_worthOf_54 ?_
            refine lv_istore (lv' := [(4, .int (nI (x9 + 0))), (0, .ref q), (1, .int (nI s9)), (2, .int (nI 0)), (3, .int (nI d)), (5, .int (nI i9))]) hx hb dX4_worthOf_55 hl (by decide) rfl (fun ls hl => ?_)
            refine lv_iinc (v := nI (i9 + 1)) (lv' := [(5, .int (nI (i9 + 1))), (4, .int (nI (x9 + 0))), (0, .ref q), (1, .int (nI s9)), (2, .int (nI 0)), (3, .int (nI d))]) hx hb dX4_worthOf_57 hl (k := 5) rfl (z_inc i9 1) (by decide) rfl (fun ls hl => ?_)
            refine lv_goto (tgt := 20) hx hb dX4_worthOf_60 (by decide) ?_
            exact ih20 (acn 0 - (i9 + 1)) (by omega) (i9 + 1) (x9 + 0) rfl (by omega) (by rw [hx9, sm_s]; rw [if_neg (fun h => c40 (z_bt1.mpr h))]) (by omega) ls (lv_sub hl [2, 3, 4, 5, 1, 0] rfl)
          · skip
            refine lv_aload_n hx hb dX4_worthOf_43 rfl (lv_at hl 0 rfl) ?_
            refine lv_iload hx hb dX4_worthOf_44 (lv_at hl 5 rfl) ?_
            refine lv_iload_n hx hb dX4_worthOf_46 rfl (lv_at hl 3 rfl) ?_
            have b47 := hnd (6 * i9 + d)
            refine zRV (As := [.int (nI i9), .int (nI d)]) (b := q) (rest := [.int (nI x9)]) hC (c_X4_needOf (l := l) (ha := by omega) (hd := by omega)) lM_X4_116 vM_X4_needOf (by decide) hK hP [0, 4] rfl ⟨rfl, rfl, rfl⟩ rfl hl.1 rfl (Nat.le_of_ble_eq_true rfl) dX4_worthOf_47 (by decide) ?_
            show W _ _ _ _ _ _ _ _ _ _ _ _ _ _ _ (F0 m 50 ls [.int (nI (nd (6 * i9 + d))), .int (nI x9)])
            refine lv_goto (tgt := 54) hx hb dX4_worthOf_50 (by decide) ?_
            refine zi_add hC dX4_worthOf_54 ?_
            refine lv_istore (lv' := [(4, .int (nI (x9 + (nd (6 * i9 + d))))), (0, .ref q), (1, .int (nI s9)), (2, .int (nI 0)), (3, .int (nI d)), (5, .int (nI i9))]) hx hb dX4_worthOf_55 hl (by decide) rfl (fun ls hl => ?_)
            refine lv_iinc (v := nI (i9 + 1)) (lv' := [(5, .int (nI (i9 + 1))), (4, .int (nI (x9 + (nd (6 * i9 + d))))), (0, .ref q), (1, .int (nI s9)), (2, .int (nI 0)), (3, .int (nI d))]) hx hb dX4_worthOf_57 hl (k := 5) rfl (z_inc i9 1) (by decide) rfl (fun ls hl => ?_)
            refine lv_goto (tgt := 20) hx hb dX4_worthOf_60 (by decide) ?_
            exact ih20 (acn 0 - (i9 + 1)) (by omega) (i9 + 1) (x9 + (nd (6 * i9 + d))) rfl (by omega) (by rw [hx9, sm_s]; rw [if_pos (z_bt1.mp c40)]) (by omega) ls (lv_sub hl [2, 3, 4, 5, 1, 0] rfl)
      exact hL20 _ 0 0 rfl (by omega) (by rfl) (by omega) ls (lv_sub hl [2, 3, 4, 5, 1, 0] rfl)
  exact hL4 _ 0 rfl (by omega) (by intro i hi; omega) ls (lv_sub hl [2, 3, 1, 0] rfl)
