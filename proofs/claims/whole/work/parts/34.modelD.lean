theorem wS_le2 {wo : Nat → Nat} {st9 ac : Nat} (h : ∀ i, i < ac → wo i ≤ 99) : sm (fun i => if st9.testBit i then wo i else 0) ac ≤ 99 * ac := sm_le (fun i hi => by have := h i hi; split <;> omega)
theorem z_mI1 (x : Int32) : x + Int32.ofInt (-1) = x - nI 1 := by
  have h : Int32.ofInt (-1) = -nI 1 := by decide
  rw [h]
  grind
theorem z_orgt {s i : Nat} (h : s.testBit i = false) : s < s ||| 2 ^ i := by
  refine Nat.lt_of_le_of_ne Nat.left_le_or (fun e => ?_)
  have h1 : (s ||| 2 ^ i).testBit i = true := by rw [Nat.testBit_or, z_pow_bit]; simp
  rw [← e, h] at h1
  cases h1
theorem z_pred {k : Nat} (hk : k < 2 ^ 30) : (nI k - nI 1 < 0) ↔ k = 0 := by
  constructor
  · intro h
    rcases Nat.eq_zero_or_pos k with e | e
    · exact e
    · rw [pk_sub e] at h
      have h1 := Int32.lt_iff_toInt_lt.mp h
      rw [nI_toInt (by omega)] at h1
      have h5 : (0 : Int32).toInt = 0 := rfl
      omega
  · rintro rfl
    decide
/-- a walk along a ring that ends at a bit that is set -/
def rgR (la : Nat → Nat) : Nat → Nat → Nat → Nat
  | 0, _, s => s
  | k + 1, e, s => if s.testBit e = true then s else rgR la k (la e) (s ||| 2 ^ e)
theorem rgR_t {la : Nat → Nat} {k e s : Nat} (h : s.testBit e = true) : rgR la k e s = s := by
  cases k with
  | zero => rfl
  | succ k => exact if_pos h
theorem rgR_f {la : Nat → Nat} {k e s : Nat} (hk : 0 < k) (h : s.testBit e = false) : rgR la k e s = rgR la (k - 1) (la e) (s ||| 2 ^ e) := by
  obtain ⟨j, rfl⟩ : ∃ j, k = j + 1 := ⟨k - 1, by omega⟩
  exact if_neg (by rw [h]; decide)
/-- rings begun and decanters seen -/
def mcS (la : Nat → Nat) : Nat → Nat × Nat
  | 0 => (0, 0)
  | d + 1 => ((mcS la d).1 + (if (mcS la d).2.testBit d = true then 0 else 1), rgR la 65 d (mcS la d).2)
theorem mcS_s (la : Nat → Nat) (d : Nat) : mcS la (d + 1) = ((mcS la d).1 + (if (mcS la d).2.testBit d = true then 0 else 1), rgR la 65 d (mcS la d).2) := rfl
/-- the least pair of one decanter, from the back -/
def mfI (la : Nat → Nat) (d : Nat) : Nat → Int32 → Int32
  | 0, f => f
  | e + 1, f => if e + 1 ≤ d then f else mfI la d e (if la d = e + 1 ∨ la (e + 1) = d then nI (10 * d + (e + 1)) else f)
theorem mfI_le {la : Nat → Nat} {d e : Nat} {f : Int32} (h : e ≤ d) : mfI la d e f = f := by
  cases e with
  | zero => rfl
  | succ e => exact if_pos h
theorem mfI_s {la : Nat → Nat} {d e : Nat} {f : Int32} (h : d < e) : mfI la d e f = mfI la d (e - 1) (if la d = e ∨ la e = d then nI (10 * d + e) else f) := by
  obtain ⟨j, rfl⟩ : ∃ j, e = j + 1 := ⟨e - 1, by omega⟩
  exact if_neg (by omega)
def mfO (la : Nat → Nat) (n : Nat) : Nat → Int32 → Int32
  | 0, f => f
  | k + 1, f => mfO la n k (mfI la k (n - 1) f)
theorem mfO_s {la : Nat → Nat} {n k : Nat} {f : Int32} (h : 0 < k) : mfO la n k f = mfO la n (k - 1) (mfI la (k - 1) (n - 1) f) := by
  obtain ⟨j, rfl⟩ : ∃ j, k = j + 1 := ⟨k - 1, by omega⟩
  rfl
/-- the first share with the least difference -/
def dO (lv : Nat → Nat) (n : Nat) : Option Nat → Nat
  | none => 0
  | some s => dabs lv s n
def shm (lv : Nat → Nat) (n : Nat) : Nat → Option Nat
  | 0 => none
  | k + 1 => if (n = 0 ∨ k &&& 1 = 1) ∧ (shm lv n k = none ∨ dabs lv k n < dO lv n (shm lv n k)) then some k else shm lv n k
theorem shm_s (lv : Nat → Nat) (n k : Nat) : shm lv n (k + 1) = if (n = 0 ∨ k &&& 1 = 1) ∧ (shm lv n k = none ∨ dabs lv k n < dO lv n (shm lv n k)) then some k else shm lv n k := rfl
theorem oI_no {o : Option Nat} (h : ∀ s, o = some s → s < 64) : oI o = -9 ↔ o = none := by
  cases o with
  | none => exact ⟨fun _ => rfl, fun _ => rfl⟩
  | some s =>
    have h1 := h s rfl
    refine ⟨fun q => ?_, fun q => (by cases q)⟩
    have h2 : (nI s).toInt = (-9 : Int32).toInt := congrArg Int32.toInt q
    rw [nI_toInt (by omega)] at h2
    have h3 : (-9 : Int32).toInt = -9 := rfl
    omega
theorem dabs_leN {lv : Nat → Nat} {st n : Nat} (h : ∀ i, i < n → lv i ≤ 40) : dabs lv st n ≤ 40 * n := by
  have h1 : sm (fun i => if st.testBit i then lv i else 0) n ≤ 40 * n := sm_le (fun i hi => by have := h i hi; split <;> omega)
  have h2 : sm (fun i => if st.testBit i then 0 else lv i) n ≤ 40 * n := sm_le (fun i hi => by have := h i hi; split <;> omega)
  unfold dabs
  split <;> omega
theorem dO_le {lv : Nat → Nat} {o : Option Nat} {n : Nat} (h : ∀ i, i < n → lv i ≤ 40) : dO lv n o ≤ 40 * n := by
  cases o with
  | none => exact Nat.zero_le _
  | some s => exact dabs_leN h
theorem dabs_T {lv : Nat → Nat} {st n : Nat} (hn : n ≤ 6) (h : ∀ i, i < n → lv i ≤ 40) (q : 0 ≤ nI (sm (fun i => if st.testBit i then lv i else 0) n) - nI (sm (fun i => if st.testBit i then 0 else lv i) n)) : nI (sm (fun i => if st.testBit i then lv i else 0) n) - nI (sm (fun i => if st.testBit i then 0 else lv i) n) = nI (dabs lv st n) := by
  have h1 : sm (fun i => if st.testBit i then lv i else 0) n ≤ 40 * n := sm_le (fun i hi => by have := h i hi; split <;> omega)
  have h2 : sm (fun i => if st.testBit i then 0 else lv i) n ≤ 40 * n := sm_le (fun i hi => by have := h i hi; split <;> omega)
  have h3 := z_abs (a := sm (fun i => if st.testBit i then lv i else 0) n) (b := sm (fun i => if st.testBit i then 0 else lv i) n) (by omega) (by omega)
  rw [if_pos q] at h3
  exact h3
theorem dabs_F {lv : Nat → Nat} {st n : Nat} (hn : n ≤ 6) (h : ∀ i, i < n → lv i ≤ 40) (q : ¬ 0 ≤ nI (sm (fun i => if st.testBit i then lv i else 0) n) - nI (sm (fun i => if st.testBit i then 0 else lv i) n)) : -(nI (sm (fun i => if st.testBit i then lv i else 0) n) - nI (sm (fun i => if st.testBit i then 0 else lv i) n)) = nI (dabs lv st n) := by
  have h1 : sm (fun i => if st.testBit i then lv i else 0) n ≤ 40 * n := sm_le (fun i hi => by have := h i hi; split <;> omega)
  have h2 : sm (fun i => if st.testBit i then 0 else lv i) n ≤ 40 * n := sm_le (fun i hi => by have := h i hi; split <;> omega)
  have h3 := z_abs (a := sm (fun i => if st.testBit i then lv i else 0) n) (b := sm (fun i => if st.testBit i then 0 else lv i) n) (by omega) (by omega)
  rw [if_neg q] at h3
  refine Eq.trans ?_ h3
  grind
set_option maxHeartbeats 1000000 in
set_option maxRecDepth 100000 in
theorem c_X4_tray_0 {l : Launch} {D : va_G} {cI cZ cB cR : ClassId} {q xtx ty xdc xdl xdb xar xac xwm xnd at9 sta sor val xnw xkp xta xtw td xhg : Nat} {tr : Int64} {fau : Int32} {acn dc nw nd wm : Nat → Nat} {W9 : Nat → Nat} {E9 : Nat → Bool} (hn : dc 0 ≤ 6) (hac : acn 0 ≤ 5) (hlv : ∀ j, j < 6 → nw j ≤ 40) (hlb : ∀ j, j < 6 → nw (12 + j) < 6) (hnd : ∀ i, nd i ≤ 9) (hW : ∀ j, j < dc 0 → W9 j < dc 0 ∧ nw (12 + W9 j) = j ∧ ∀ i, i < W9 j → nw (12 + i) ≠ j) (hdn : nw 19 < 32) (hE9 : ∀ s9, s9 < 32 → (E9 s9 = true ↔ ∀ d, d < dc 0 → sm (fun i => if Nat.testBit s9 i then nd (6 * i + d) else 0) (acn 0) ≤ nw (W9 d))) (hwm : ∀ i, i < acn 0 → wm i ≤ 99)  : mR l yX4_tray cX4_tray 6 (some .int) 2 47 D cI cZ cB cR [oM q tr xtx ty xdc xdl xdb xar xac xwm xnd at9 sta sor val fau xnw xkp xta xtw td xhg, aI cI xac 2 acn, aI cI xdc 2 dc, aI cI xnw 729 nw, aI cI xnd 60 nd, aI cI xwm 10 wm] [.ref q, .int (nI 0)] (some (.int (nI (trB (fun s9 => sm (fun i => if Nat.testBit s9 i then wm i else 0) (acn 0)) E9 (nw 19) (2 ^ acn 0 - 1))))) := by
  refine mR_of rfl (Nat.le_of_ble_eq_true rfl) ?_
  intro p e s m args below meth c hC hr hlk hK hP ls hl
  have hl : lv_has ls 6 [(0, .ref q), (1, .int (nI 0))] := hl
  obtain ⟨hx, hb, hml, hown, hts⟩ := id hC
  refine lv_iload_n hx hb dX4_tray_0 rfl (lv_at hl 1 rfl) ?_
  refine lv_iconst (v := nI 0) hx hb dX4_tray_1 (by decide) ?_
  refine lv_iconst (v := nI 1) hx hb dX4_tray_2 (by decide) ?_
  refine zRS (As := [.int (nI 0), .int (nI 0), .int (nI 1)]) (rest := []) hC (c_X4_in (l := l) (g := true) (hg := ⟨fun _ => ⟨(nI_leI (by omega) (by omega)).mpr (by omega), (nI_leI (by omega) (by omega)).mpr (by omega)⟩, fun _ => rfl⟩)) lM_X4_57 sM_X4_in (by decide) hK rfl hl.1 rfl (Nat.le_of_ble_eq_true rfl) dX4_tray_3 (by decide) ?_
  show W _ _ _ _ _ _ _ _ _ _ _ _ _ _ _ (F0 m 6 ls [.int (bI true)])
  refine zb_ne (tgt := 11) hC dX4_tray_6 (by decide) (fun c6 => ?_) (fun c6 => by exfalso; cases c6)
  refine lv_iconst (v := nI 0) hx hb dX4_tray_11 (by decide) ?_
  refine lv_istore_n (lv' := [(2, .int (nI 0)), (0, .ref q), (1, .int (nI 0))]) hx hb dX4_tray_12 rfl hl (by decide) rfl (fun ls hl => ?_)
  refine lv_iconst (v := nI 0) hx hb dX4_tray_13 (by decide) ?_
  refine lv_istore_n (lv' := [(3, .int (nI 0)), (2, .int (nI 0)), (0, .ref q), (1, .int (nI 0))]) hx hb dX4_tray_14 rfl hl (by decide) rfl (fun ls hl => ?_)
  refine lv_iconst (v := nI 1) hx hb dX4_tray_15 (by decide) ?_
  refine lv_istore (lv' := [(4, .int (nI 1)), (3, .int (nI 0)), (2, .int (nI 0)), (0, .ref q), (1, .int (nI 0))]) hx hb dX4_tray_16 hl (by decide) rfl (fun ls hl => ?_)
  have hL18 : ∀ (z18 : Nat) (s9 : Nat) (x9 : Nat) (y9 : Nat), 33 - s9 = z18 → (1 ≤ s9 ∧ s9 ≤ 2 ^ acn 0) → (x9 = trB (fun s9 => sm (fun i => if Nat.testBit s9 i then wm i else 0) (acn 0)) E9 (nw 19) (s9 - 1)) → (x9 < 32) → (y9 = sm (fun i => if Nat.testBit x9 i then wm i else 0) (acn 0)) → (2 ^ acn 0 ≤ 32) → ∀ ls : Array Slot, lv_has ls 6 [(0, .ref q), (1, .int (nI 0)), (2, .int (nI x9)), (3, .int (nI y9)), (4, .int (nI s9))] → W p l e { frames := 2, cells := 0, slots := 0, locals := 47 } s m args below meth c s.heap [] 0 0 (MQ below (qR (some (.int (nI (trB (fun s9 => sm (fun i => if Nat.testBit s9 i then wm i else 0) (acn 0)) E9 (nw 19) (2 ^ acn 0 - 1)))))) args s 0 0 (fun _ => False)) (F0 m 18 ls []) := by
    intro z18
    induction z18 using Nat.strongRecOn with
    | _ z18 ih18 =>
    intro s9 x9 y9 hz18 hs hx9 hx8 hy9 hpw ls hl
    refine lv_iload hx hb dX4_tray_18 (lv_at hl 4 rfl) ?_
    refine lv_iconst (v := nI 1) hx hb dX4_tray_20 (by decide) ?_
    refine lv_aload_n hx hb dX4_tray_21 rfl (lv_at hl 0 rfl) ?_
    refine z_get (k := 7) zcX4 hC hK hP 0 rfl (by decide) lF_X4_26 rfl dX4_tray_22 ?_
    refine lv_iconst (v := nI 0) hx hb dX4_tray_25 (by decide) ?_
    refine z_ald hC hK hP 1 rfl (by omega) (by decide) dX4_tray_26 ?_
    refine zi_shl1 hC dX4_tray_27 (by omega) ?_
    have b28 := z_powL5 hac
    refine zc_ge (tgt := 75) hC dX4_tray_28 (by decide) (by omega) (by omega) (fun c28 => ?_) (fun c28 => ?_)
    · skip
      refine lv_iload_n hx hb dX4_tray_75 rfl (lv_at hl 1 rfl) ?_
      refine z0_ne (tgt := 83) hC dX4_tray_76 (by decide) (by omega) (fun c76 => by exfalso; omega) (fun c76 => ?_)
      refine lv_iload_n hx hb dX4_tray_79 rfl (lv_at hl 2 rfl) ?_
      refine lv_goto (tgt := 84) hx hb dX4_tray_80 (by decide) ?_
      exact zr_i hC hr hlk (by rw [hx9, show s9 = 2 ^ acn 0 by omega]) dX4_tray_84
    · skip
      refine lv_iload hx hb dX4_tray_31 (lv_at hl 4 rfl) ?_
      refine lv_aload_n hx hb dX4_tray_33 rfl (lv_at hl 0 rfl) ?_
      refine z_get (k := 15) zcX4 hC hK hP 0 rfl (by decide) lF_X4_35 rfl dX4_tray_34 ?_
      refine lv_bipush (v := nI 19) hx hb dX4_tray_37 (by decide) ?_
      refine z_ald hC hK hP 3 rfl (by omega) (by decide) dX4_tray_39 ?_
      refine zi_and hC dX4_tray_40 ?_
      have b41 : s9 &&& nw 19 < 2 ^ 5 := Nat.and_lt_two_pow _ hdn
      refine z0_ne (tgt := 53) hC dX4_tray_41 (by decide) (by omega) (fun c41 => ?_) (fun c41 => ?_)
      · skip
        refine lv_bipush (v := (-9)) hx hb dX4_tray_53 (by decide) ?_
        refine lv_istore (lv' := [(5, .int (-9)), (0, .ref q), (1, .int (nI 0)), (2, .int (nI x9)), (3, .int (nI y9)), (4, .int (nI s9))]) hx hb dX4_tray_55 hl (by decide) rfl (fun ls hl => ?_)
        refine lv_iload hx hb dX4_tray_57 (lv_at hl 0 rfl) ?_
        refine lv_iload_n hx hb dX4_tray_59 rfl (lv_at hl 4 rfl) ?_
        have b60 : sm (fun i => if Nat.testBit s9 i then wm i else 0) (acn 0) ≤ 99 * acn 0 := wS_le2 (st9 := s9) (ac := acn 0) hwm
        have b61 : y9 ≤ 99 * acn 0 := by rw [hy9]; exact wS_le2 (st9 := x9) (ac := acn 0) hwm
        refine lv_icmp_le (tgt := 69) hx hb dX4_tray_60 (by decide) (fun c60 => ?_) (fun c60 => by exfalso; exact c60 (z_m9 (by omega)))
        refine lv_iinc (v := nI (s9 + 1)) (lv' := [(4, .int (nI (s9 + 1))), (5, .int (-9)), (0, .ref q), (1, .int (nI 0)), (2, .int (nI x9)), (3, .int (nI y9))]) hx hb dX4_tray_69 hl (k := 5) rfl (z_inc s9 1) (by decide) rfl (fun ls hl => ?_)
        refine lv_goto (tgt := 18) hx hb dX4_tray_72 (by decide) ?_
        exact ih18 (33 - (s9 + 1)) (by omega) (s9 + 1) x9 y9 rfl (by omega) (by have h9 : s9 + 1 - 1 = (s9 - 1) + 1 := (by omega); rw [h9, trB_s, show s9 - 1 + 1 = s9 by omega, ← hx9]; exact (if_neg (fun h => by have h1 := h.1; omega)).symm) (by omega) (by exact hy9) (by exact hpw) ls (lv_sub hl [2, 3, 4, 5, 0] rfl)
      · skip
        refine lv_aload_n hx hb dX4_tray_44 rfl (lv_at hl 0 rfl) ?_
        refine lv_iload hx hb dX4_tray_45 (lv_at hl 4 rfl) ?_
        refine zRV (As := [.int (nI s9)]) (b := q) (rest := []) hC (c_X4_worthOf (l := l) (W9 := W9) (F9 := E9 s9) (hn := hn) (hac := hac) (hlv := hlv) (hlb := hlb) (hnd := hnd) (hW := hW) (hs := by omega) (hF := hE9 s9 (by omega))) lM_X4_150 vM_X4_worthOf (by decide) hK hP [0, 1, 2, 3, 4, 5] rfl ⟨rfl, rfl, rfl⟩ rfl hl.1 rfl (Nat.le_of_ble_eq_true rfl) dX4_tray_47 (by decide) ?_
        show W _ _ _ _ _ _ _ _ _ _ _ _ _ _ _ (F0 m 50 ls [.int (if E9 s9 = true then nI (sm (fun i => if Nat.testBit s9 i then wm i else 0) (acn 0)) else -9)])
        by_cases h50 : E9 s9 = true
        · skip
          refine z_top (show (if E9 s9 = true then nI (sm (fun i => if Nat.testBit s9 i then wm i else 0) (acn 0)) else -9) = nI (sm (fun i => if Nat.testBit s9 i then wm i else 0) (acn 0)) from by rw [if_pos h50]) ?_
          refine lv_goto (tgt := 55) hx hb dX4_tray_50 (by decide) ?_
          refine lv_istore (lv' := [(5, .int (nI (sm (fun i => if Nat.testBit s9 i then wm i else 0) (acn 0)))), (0, .ref q), (1, .int (nI 0)), (2, .int (nI x9)), (3, .int (nI y9)), (4, .int (nI s9))]) hx hb dX4_tray_55 hl (by decide) rfl (fun ls hl => ?_)
          refine lv_iload hx hb dX4_tray_57 (lv_at hl 0 rfl) ?_
          refine lv_iload_n hx hb dX4_tray_59 rfl (lv_at hl 4 rfl) ?_
          have b60 : sm (fun i => if Nat.testBit s9 i then wm i else 0) (acn 0) ≤ 99 * acn 0 := wS_le2 (st9 := s9) (ac := acn 0) hwm
          have b61 : y9 ≤ 99 * acn 0 := by rw [hy9]; exact wS_le2 (st9 := x9) (ac := acn 0) hwm
          refine zc_le (tgt := 69) hC dX4_tray_60 (by decide) (by omega) (by omega) (fun c60 => ?_) (fun c60 => ?_)
          · skip
            refine lv_iinc (v := nI (s9 + 1)) (lv' := [(4, .int (nI (s9 + 1))), (5, .int (nI (sm (fun i => if Nat.testBit s9 i then wm i else 0) (acn 0)))), (0, .ref q), (1, .int (nI 0)), (2, .int (nI x9)), (3, .int (nI y9))]) hx hb dX4_tray_69 hl (k := 5) rfl (z_inc s9 1) (by decide) rfl (fun ls hl => ?_)
            refine lv_goto (tgt := 18) hx hb dX4_tray_72 (by decide) ?_
            exact ih18 (33 - (s9 + 1)) (by omega) (s9 + 1) x9 y9 rfl (by omega) (by have h9 : s9 + 1 - 1 = (s9 - 1) + 1 := (by omega); rw [h9, trB_s, show s9 - 1 + 1 = s9 by omega, ← hx9]; exact (if_neg (fun h => by have h1 := h.2.1; omega)).symm) (by omega) (by exact hy9) (by exact hpw) ls (lv_sub hl [2, 3, 4, 5, 0] rfl)
          · skip
            refine lv_iload hx hb dX4_tray_63 (lv_at hl 5 rfl) ?_
            refine lv_istore_n (lv' := [(2, .int (nI s9)), (5, .int (nI (sm (fun i => if Nat.testBit s9 i then wm i else 0) (acn 0)))), (0, .ref q), (1, .int (nI 0)), (3, .int (nI y9)), (4, .int (nI s9))]) hx hb dX4_tray_65 rfl hl (by decide) rfl (fun ls hl => ?_)
            refine lv_iload hx hb dX4_tray_66 (lv_at hl 1 rfl) ?_
            refine lv_istore_n (lv' := [(3, .int (nI (sm (fun i => if Nat.testBit s9 i then wm i else 0) (acn 0)))), (2, .int (nI s9)), (5, .int (nI (sm (fun i => if Nat.testBit s9 i then wm i else 0) (acn 0)))), (0, .ref q), (1, .int (nI 0)), (4, .int (nI s9))]) hx hb dX4_tray_68 rfl hl (by decide) rfl (fun ls hl => ?_)
            refine lv_iinc (v := nI (s9 + 1)) (lv' := [(4, .int (nI (s9 + 1))), (3, .int (nI (sm (fun i => if Nat.testBit s9 i then wm i else 0) (acn 0)))), (2, .int (nI s9)), (5, .int (nI (sm (fun i => if Nat.testBit s9 i then wm i else 0) (acn 0)))), (0, .ref q), (1, .int (nI 0))]) hx hb dX4_tray_69 hl (k := 5) rfl (z_inc s9 1) (by decide) rfl (fun ls hl => ?_)
            refine lv_goto (tgt := 18) hx hb dX4_tray_72 (by decide) ?_
            exact ih18 (33 - (s9 + 1)) (by omega) (s9 + 1) s9 (sm (fun i => if Nat.testBit s9 i then wm i else 0) (acn 0)) rfl (by omega) (by have h9 : s9 + 1 - 1 = (s9 - 1) + 1 := (by omega); rw [h9, trB_s, show s9 - 1 + 1 = s9 by omega, ← hx9]; exact (if_pos ⟨by omega, by omega, h50⟩).symm) (by omega) (by rfl) (by exact hpw) ls (lv_sub hl [4, 5, 2, 1, 0] rfl)
        · skip
          refine z_top (show (if E9 s9 = true then nI (sm (fun i => if Nat.testBit s9 i then wm i else 0) (acn 0)) else -9) = (-9) from by rw [if_neg h50]) ?_
          refine lv_goto (tgt := 55) hx hb dX4_tray_50 (by decide) ?_
          refine lv_istore (lv' := [(5, .int (-9)), (0, .ref q), (1, .int (nI 0)), (2, .int (nI x9)), (3, .int (nI y9)), (4, .int (nI s9))]) hx hb dX4_tray_55 hl (by decide) rfl (fun ls hl => ?_)
          refine lv_iload hx hb dX4_tray_57 (lv_at hl 0 rfl) ?_
          refine lv_iload_n hx hb dX4_tray_59 rfl (lv_at hl 4 rfl) ?_
          have b60 : sm (fun i => if Nat.testBit s9 i then wm i else 0) (acn 0) ≤ 99 * acn 0 := wS_le2 (st9 := s9) (ac := acn 0) hwm
          have b61 : y9 ≤ 99 * acn 0 := by rw [hy9]; exact wS_le2 (st9 := x9) (ac := acn 0) hwm
          refine lv_icmp_le (tgt := 69) hx hb dX4_tray_60 (by decide) (fun c60 => ?_) (fun c60 => by exfalso; exact c60 (z_m9 (by omega)))
          refine lv_iinc (v := nI (s9 + 1)) (lv' := [(4, .int (nI (s9 + 1))), (5, .int (-9)), (0, .ref q), (1, .int (nI 0)), (2, .int (nI x9)), (3, .int (nI y9))]) hx hb dX4_tray_69 hl (k := 5) rfl (z_inc s9 1) (by decide) rfl (fun ls hl => ?_)
          refine lv_goto (tgt := 18) hx hb dX4_tray_72 (by decide) ?_
          exact ih18 (33 - (s9 + 1)) (by omega) (s9 + 1) x9 y9 rfl (by omega) (by have h9 : s9 + 1 - 1 = (s9 - 1) + 1 := (by omega); rw [h9, trB_s, show s9 - 1 + 1 = s9 by omega, ← hx9]; exact (if_neg (fun h => h50 h.2.2)).symm) (by omega) (by exact hy9) (by exact hpw) ls (lv_sub hl [2, 3, 4, 5, 0] rfl)
  exact hL18 _ 1 0 0 rfl (by exact ⟨Nat.le_refl _, Nat.one_le_two_pow⟩) (by rfl) (by omega) (by exact (sm_zero (fun i _ => by rw [Nat.zero_testBit]; rfl)).symm) (by exact z_powL5 hac) ls (lv_sub hl [3, 4, 2, 1, 0] rfl)
set_option maxHeartbeats 1000000 in
set_option maxRecDepth 100000 in
theorem c_X4_tray_1 {l : Launch} {D : va_G} {cI cZ cB cR : ClassId} {q xtx ty xdc xdl xdb xar xac xwm xnd at9 sta sor val xnw xkp xta xtw td xhg : Nat} {tr : Int64} {fau : Int32} {acn dc nw nd wm : Nat → Nat} {W9 : Nat → Nat} {E9 : Nat → Bool} (hn : dc 0 ≤ 6) (hac : acn 0 ≤ 5) (hlv : ∀ j, j < 6 → nw j ≤ 40) (hlb : ∀ j, j < 6 → nw (12 + j) < 6) (hnd : ∀ i, nd i ≤ 9) (hW : ∀ j, j < dc 0 → W9 j < dc 0 ∧ nw (12 + W9 j) = j ∧ ∀ i, i < W9 j → nw (12 + i) ≠ j) (hdn : nw 19 < 32) (hE9 : ∀ s9, s9 < 32 → (E9 s9 = true ↔ ∀ d, d < dc 0 → sm (fun i => if Nat.testBit s9 i then nd (6 * i + d) else 0) (acn 0) ≤ nw (W9 d))) (hwm : ∀ i, i < acn 0 → wm i ≤ 99)  : mR l yX4_tray cX4_tray 6 (some .int) 2 47 D cI cZ cB cR [oM q tr xtx ty xdc xdl xdb xar xac xwm xnd at9 sta sor val fau xnw xkp xta xtw td xhg, aI cI xac 2 acn, aI cI xdc 2 dc, aI cI xnw 729 nw, aI cI xnd 60 nd, aI cI xwm 10 wm] [.ref q, .int (nI 1)] (some (.int (nI ((fun s9 => sm (fun i => if Nat.testBit s9 i then wm i else 0) (acn 0)) (trB (fun s9 => sm (fun i => if Nat.testBit s9 i then wm i else 0) (acn 0)) E9 (nw 19) (2 ^ acn 0 - 1)))))) := by
  refine mR_of rfl (Nat.le_of_ble_eq_true rfl) ?_
  intro p e s m args below meth c hC hr hlk hK hP ls hl
  have hl : lv_has ls 6 [(0, .ref q), (1, .int (nI 1))] := hl
  obtain ⟨hx, hb, hml, hown, hts⟩ := id hC
  refine lv_iload_n hx hb dX4_tray_0 rfl (lv_at hl 1 rfl) ?_
  refine lv_iconst (v := nI 0) hx hb dX4_tray_1 (by decide) ?_
  refine lv_iconst (v := nI 1) hx hb dX4_tray_2 (by decide) ?_
  refine zRS (As := [.int (nI 1), .int (nI 0), .int (nI 1)]) (rest := []) hC (c_X4_in (l := l) (g := true) (hg := ⟨fun _ => ⟨(nI_leI (by omega) (by omega)).mpr (by omega), (nI_leI (by omega) (by omega)).mpr (by omega)⟩, fun _ => rfl⟩)) lM_X4_57 sM_X4_in (by decide) hK rfl hl.1 rfl (Nat.le_of_ble_eq_true rfl) dX4_tray_3 (by decide) ?_
  show W _ _ _ _ _ _ _ _ _ _ _ _ _ _ _ (F0 m 6 ls [.int (bI true)])
  refine zb_ne (tgt := 11) hC dX4_tray_6 (by decide) (fun c6 => ?_) (fun c6 => by exfalso; cases c6)
  refine lv_iconst (v := nI 0) hx hb dX4_tray_11 (by decide) ?_
  refine lv_istore_n (lv' := [(2, .int (nI 0)), (0, .ref q), (1, .int (nI 1))]) hx hb dX4_tray_12 rfl hl (by decide) rfl (fun ls hl => ?_)
  refine lv_iconst (v := nI 0) hx hb dX4_tray_13 (by decide) ?_
  refine lv_istore_n (lv' := [(3, .int (nI 0)), (2, .int (nI 0)), (0, .ref q), (1, .int (nI 1))]) hx hb dX4_tray_14 rfl hl (by decide) rfl (fun ls hl => ?_)
  refine lv_iconst (v := nI 1) hx hb dX4_tray_15 (by decide) ?_
  refine lv_istore (lv' := [(4, .int (nI 1)), (3, .int (nI 0)), (2, .int (nI 0)), (0, .ref q), (1, .int (nI 1))]) hx hb dX4_tray_16 hl (by decide) rfl (fun ls hl => ?_)
  have hL18 : ∀ (z18 : Nat) (s9 : Nat) (x9 : Nat) (y9 : Nat), 33 - s9 = z18 → (1 ≤ s9 ∧ s9 ≤ 2 ^ acn 0) → (x9 = trB (fun s9 => sm (fun i => if Nat.testBit s9 i then wm i else 0) (acn 0)) E9 (nw 19) (s9 - 1)) → (x9 < 32) → (y9 = sm (fun i => if Nat.testBit x9 i then wm i else 0) (acn 0)) → (2 ^ acn 0 ≤ 32) → ∀ ls : Array Slot, lv_has ls 6 [(0, .ref q), (1, .int (nI 1)), (2, .int (nI x9)), (3, .int (nI y9)), (4, .int (nI s9))] → W p l e { frames := 2, cells := 0, slots := 0, locals := 47 } s m args below meth c s.heap [] 0 0 (MQ below (qR (some (.int (nI ((fun s9 => sm (fun i => if Nat.testBit s9 i then wm i else 0) (acn 0)) (trB (fun s9 => sm (fun i => if Nat.testBit s9 i then wm i else 0) (acn 0)) E9 (nw 19) (2 ^ acn 0 - 1))))))) args s 0 0 (fun _ => False)) (F0 m 18 ls []) := by
    intro z18
    induction z18 using Nat.strongRecOn with
    | _ z18 ih18 =>
    intro s9 x9 y9 hz18 hs hx9 hx8 hy9 hpw ls hl
    refine lv_iload hx hb dX4_tray_18 (lv_at hl 4 rfl) ?_
    refine lv_iconst (v := nI 1) hx hb dX4_tray_20 (by decide) ?_
    refine lv_aload_n hx hb dX4_tray_21 rfl (lv_at hl 0 rfl) ?_
    refine z_get (k := 7) zcX4 hC hK hP 0 rfl (by decide) lF_X4_26 rfl dX4_tray_22 ?_
    refine lv_iconst (v := nI 0) hx hb dX4_tray_25 (by decide) ?_
    refine z_ald hC hK hP 1 rfl (by omega) (by decide) dX4_tray_26 ?_
    refine zi_shl1 hC dX4_tray_27 (by omega) ?_
    have b28 := z_powL5 hac
    refine zc_ge (tgt := 75) hC dX4_tray_28 (by decide) (by omega) (by omega) (fun c28 => ?_) (fun c28 => ?_)
    · skip
      refine lv_iload_n hx hb dX4_tray_75 rfl (lv_at hl 1 rfl) ?_
      refine z0_ne (tgt := 83) hC dX4_tray_76 (by decide) (by omega) (fun c76 => ?_) (fun c76 => by exfalso; omega)
      refine lv_iload_n hx hb dX4_tray_83 rfl (lv_at hl 3 rfl) ?_
      exact zr_i hC hr hlk (by rw [hy9, hx9, show s9 = 2 ^ acn 0 by omega]) dX4_tray_84
    · skip
      refine lv_iload hx hb dX4_tray_31 (lv_at hl 4 rfl) ?_
      refine lv_aload_n hx hb dX4_tray_33 rfl (lv_at hl 0 rfl) ?_
      refine z_get (k := 15) zcX4 hC hK hP 0 rfl (by decide) lF_X4_35 rfl dX4_tray_34 ?_
      refine lv_bipush (v := nI 19) hx hb dX4_tray_37 (by decide) ?_
      refine z_ald hC hK hP 3 rfl (by omega) (by decide) dX4_tray_39 ?_
      refine zi_and hC dX4_tray_40 ?_
      have b41 : s9 &&& nw 19 < 2 ^ 5 := Nat.and_lt_two_pow _ hdn
      refine z0_ne (tgt := 53) hC dX4_tray_41 (by decide) (by omega) (fun c41 => ?_) (fun c41 => ?_)
      · skip
        refine lv_bipush (v := (-9)) hx hb dX4_tray_53 (by decide) ?_
        refine lv_istore (lv' := [(5, .int (-9)), (0, .ref q), (1, .int (nI 1)), (2, .int (nI x9)), (3, .int (nI y9)), (4, .int (nI s9))]) hx hb dX4_tray_55 hl (by decide) rfl (fun ls hl => ?_)
        refine lv_iload hx hb dX4_tray_57 (lv_at hl 0 rfl) ?_
        refine lv_iload_n hx hb dX4_tray_59 rfl (lv_at hl 4 rfl) ?_
        have b60 : sm (fun i => if Nat.testBit s9 i then wm i else 0) (acn 0) ≤ 99 * acn 0 := wS_le2 (st9 := s9) (ac := acn 0) hwm
        have b61 : y9 ≤ 99 * acn 0 := by rw [hy9]; exact wS_le2 (st9 := x9) (ac := acn 0) hwm
        refine lv_icmp_le (tgt := 69) hx hb dX4_tray_60 (by decide) (fun c60 => ?_) (fun c60 => by exfalso; exact c60 (z_m9 (by omega)))
        refine lv_iinc (v := nI (s9 + 1)) (lv' := [(4, .int (nI (s9 + 1))), (5, .int (-9)), (0, .ref q), (1, .int (nI 1)), (2, .int (nI x9)), (3, .int (nI y9))]) hx hb dX4_tray_69 hl (k := 5) rfl (z_inc s9 1) (by decide) rfl (fun ls hl => ?_)
        refine lv_goto (tgt := 18) hx hb dX4_tray_72 (by decide) ?_
        exact ih18 (33 - (s9 + 1)) (by omega) (s9 + 1) x9 y9 rfl (by omega) (by have h9 : s9 + 1 - 1 = (s9 - 1) + 1 := (by omega); rw [h9, trB_s, show s9 - 1 + 1 = s9 by omega, ← hx9]; exact (if_neg (fun h => by have h1 := h.1; omega)).symm) (by omega) (by exact hy9) (by exact hpw) ls (lv_sub hl [2, 3, 4, 5, 0] rfl)
      · skip
        refine lv_aload_n hx hb dX4_tray_44 rfl (lv_at hl 0 rfl) ?_
        refine lv_iload hx hb dX4_tray_45 (lv_at hl 4 rfl) ?_
        refine zRV (As := [.int (nI s9)]) (b := q) (rest := []) hC (c_X4_worthOf (l := l) (W9 := W9) (F9 := E9 s9) (hn := hn) (hac := hac) (hlv := hlv) (hlb := hlb) (hnd := hnd) (hW := hW) (hs := by omega) (hF := hE9 s9 (by omega))) lM_X4_150 vM_X4_worthOf (by decide) hK hP [0, 1, 2, 3, 4, 5] rfl ⟨rfl, rfl, rfl⟩ rfl hl.1 rfl (Nat.le_of_ble_eq_true rfl) dX4_tray_47 (by decide) ?_
        show W _ _ _ _ _ _ _ _ _ _ _ _ _ _ _ (F0 m 50 ls [.int (if E9 s9 = true then nI (sm (fun i => if Nat.testBit s9 i then wm i else 0) (acn 0)) else -9)])
        by_cases h50 : E9 s9 = true
        · skip
          refine z_top (show (if E9 s9 = true then nI (sm (fun i => if Nat.testBit s9 i then wm i else 0) (acn 0)) else -9) = nI (sm (fun i => if Nat.testBit s9 i then wm i else 0) (acn 0)) from by rw [if_pos h50]) ?_
          refine lv_goto (tgt := 55) hx hb dX4_tray_50 (by decide) ?_
          refine lv_istore (lv' := [(5, .int (nI (sm (fun i => if Nat.testBit s9 i then wm i else 0) (acn 0)))), (0, .ref q), (1, .int (nI 1)), (2, .int (nI x9)), (3, .int (nI y9)), (4, .int (nI s9))]) hx hb dX4_tray_55 hl (by decide) rfl (fun ls hl => ?_)
          refine lv_iload hx hb dX4_tray_57 (lv_at hl 0 rfl) ?_
          refine lv_iload_n hx hb dX4_tray_59 rfl (lv_at hl 4 rfl) ?_
          have b60 : sm (fun i => if Nat.testBit s9 i then wm i else 0) (acn 0) ≤ 99 * acn 0 := wS_le2 (st9 := s9) (ac := acn 0) hwm
          have b61 : y9 ≤ 99 * acn 0 := by rw [hy9]; exact wS_le2 (st9 := x9) (ac := acn 0) hwm
          refine zc_le (tgt := 69) hC dX4_tray_60 (by decide) (by omega) (by omega) (fun c60 => ?_) (fun c60 => ?_)
          · skip
            refine lv_iinc (v := nI (s9 + 1)) (lv' := [(4, .int (nI (s9 + 1))), (5, .int (nI (sm (fun i => if Nat.testBit s9 i then wm i else 0) (acn 0)))), (0, .ref q), (1, .int (nI 1)), (2, .int (nI x9)), (3, .int (nI y9))]) hx hb dX4_tray_69 hl (k := 5) rfl (z_inc s9 1) (by decide) rfl (fun ls hl => ?_)
            refine lv_goto (tgt := 18) hx hb dX4_tray_72 (by decide) ?_
            exact ih18 (33 - (s9 + 1)) (by omega) (s9 + 1) x9 y9 rfl (by omega) (by have h9 : s9 + 1 - 1 = (s9 - 1) + 1 := (by omega); rw [h9, trB_s, show s9 - 1 + 1 = s9 by omega, ← hx9]; exact (if_neg (fun h => by have h1 := h.2.1; omega)).symm) (by omega) (by exact hy9) (by exact hpw) ls (lv_sub hl [2, 3, 4, 5, 0] rfl)
          · skip
            refine lv_iload hx hb dX4_tray_63 (lv_at hl 5 rfl) ?_
            refine lv_istore_n (lv' := [(2, .int (nI s9)), (5, .int (nI (sm (fun i => if Nat.testBit s9 i then wm i else 0) (acn 0)))), (0, .ref q), (1, .int (nI 1)), (3, .int (nI y9)), (4, .int (nI s9))]) hx hb dX4_tray_65 rfl hl (by decide) rfl (fun ls hl => ?_)
            refine lv_iload hx hb dX4_tray_66 (lv_at hl 1 rfl) ?_
            refine lv_istore_n (lv' := [(3, .int (nI (sm (fun i => if Nat.testBit s9 i then wm i else 0) (acn 0)))), (2, .int (nI s9)), (5, .int (nI (sm (fun i => if Nat.testBit s9 i then wm i else 0) (acn 0)))), (0, .ref q), (1, .int (nI 1)), (4, .int (nI s9))]) hx hb dX4_tray_68 rfl hl (by decide) rfl (fun ls hl => ?_)
            refine lv_iinc (v := nI (s9 + 1)) (lv' := [(4, .int (nI (s9 + 1))), (3, .int (nI (sm (fun i => if Nat.testBit s9 i then wm i else 0) (acn 0)))), (2, .int (nI s9)), (5, .int (nI (sm (fun i => if Nat.testBit s9 i then wm i else 0) (acn 0)))), (0, .ref q), (1, .int (nI 1))]) hx hb dX4_tray_69 hl (k := 5) rfl (z_inc s9 1) (by decide) rfl (fun ls hl => ?_)
            refine lv_goto (tgt := 18) hx hb dX4_tray_72 (by decide) ?_
            exact ih18 (33 - (s9 + 1)) (by omega) (s9 + 1) s9 (sm (fun i => if Nat.testBit s9 i then wm i else 0) (acn 0)) rfl (by omega) (by have h9 : s9 + 1 - 1 = (s9 - 1) + 1 := (by omega); rw [h9, trB_s, show s9 - 1 + 1 = s9 by omega, ← hx9]; exact (if_pos ⟨by omega, by omega, h50⟩).symm) (by omega) (by rfl) (by exact hpw) ls (lv_sub hl [4, 5, 2, 1, 0] rfl)
        · skip
          refine z_top (show (if E9 s9 = true then nI (sm (fun i => if Nat.testBit s9 i then wm i else 0) (acn 0)) else -9) = (-9) from by rw [if_neg h50]) ?_
          refine lv_goto (tgt := 55) hx hb dX4_tray_50 (by decide) ?_
          refine lv_istore (lv' := [(5, .int (-9)), (0, .ref q), (1, .int (nI 1)), (2, .int (nI x9)), (3, .int (nI y9)), (4, .int (nI s9))]) hx hb dX4_tray_55 hl (by decide) rfl (fun ls hl => ?_)
          refine lv_iload hx hb dX4_tray_57 (lv_at hl 0 rfl) ?_
          refine lv_iload_n hx hb dX4_tray_59 rfl (lv_at hl 4 rfl) ?_
          have b60 : sm (fun i => if Nat.testBit s9 i then wm i else 0) (acn 0) ≤ 99 * acn 0 := wS_le2 (st9 := s9) (ac := acn 0) hwm
          have b61 : y9 ≤ 99 * acn 0 := by rw [hy9]; exact wS_le2 (st9 := x9) (ac := acn 0) hwm
          refine lv_icmp_le (tgt := 69) hx hb dX4_tray_60 (by decide) (fun c60 => ?_) (fun c60 => by exfalso; exact c60 (z_m9 (by omega)))
          refine lv_iinc (v := nI (s9 + 1)) (lv' := [(4, .int (nI (s9 + 1))), (5, .int (-9)), (0, .ref q), (1, .int (nI 1)), (2, .int (nI x9)), (3, .int (nI y9))]) hx hb dX4_tray_69 hl (k := 5) rfl (z_inc s9 1) (by decide) rfl (fun ls hl => ?_)
          refine lv_goto (tgt := 18) hx hb dX4_tray_72 (by decide) ?_
          exact ih18 (33 - (s9 + 1)) (by omega) (s9 + 1) x9 y9 rfl (by omega) (by have h9 : s9 + 1 - 1 = (s9 - 1) + 1 := (by omega); rw [h9, trB_s, show s9 - 1 + 1 = s9 by omega, ← hx9]; exact (if_neg (fun h => h50 h.2.2)).symm) (by omega) (by exact hy9) (by exact hpw) ls (lv_sub hl [2, 3, 4, 5, 0] rfl)
  exact hL18 _ 1 0 0 rfl (by exact ⟨Nat.le_refl _, Nat.one_le_two_pow⟩) (by rfl) (by omega) (by exact (sm_zero (fun i _ => by rw [Nat.zero_testBit]; rfl)).symm) (by exact z_powL5 hac) ls (lv_sub hl [3, 4, 2, 1, 0] rfl)
set_option maxHeartbeats 1000000 in
set_option maxRecDepth 100000 in
theorem c_X4_odds_badA {l : Launch} {D : va_G} {cI cZ cB cR : ClassId} {q xtx ty xdc xdl xdb xar xac xwm xnd at9 sta sor val xnw xkp xta xtw td xhg : Nat} {tr : Int64} {fau : Int32} {acn : Nat → Nat} {x w v9 : Int32} (hac : acn 0 ≤ 5) (hbad : ¬ vp_in x (acn 0)) : mR l yX4_odds cX4_odds 9 (some .int) 2 43 D cI cZ cB cR [oM q tr xtx ty xdc xdl xdb xar xac xwm xnd at9 sta sor val fau xnw xkp xta xtw td xhg, aI cI xac 2 acn] [.ref q, .int x, .int w, .int v9] (some (.int (-1))) := by
  refine mR_of rfl (Nat.le_of_ble_eq_true rfl) ?_
  intro p e s m args below meth c hC hr hlk hK hP ls hl
  have hl : lv_has ls 9 [(0, .ref q), (1, .int x), (2, .int w), (3, .int v9)] := hl
  obtain ⟨hx, hb, hml, hown, hts⟩ := id hC
  refine lv_aload_n hx hb dX4_odds_0 rfl (lv_at hl 0 rfl) ?_
  refine lv_iload_n hx hb dX4_odds_1 rfl (lv_at hl 1 rfl) ?_
  refine zRV (As := [.int x]) (b := q) (rest := []) hC (c_X4_isAct (l := l) (g := false) (hn := by omega) (hg := ⟨fun h => (by cases h), fun h => absurd h hbad⟩)) lM_X4_132 vM_X4_isAct (by decide) hK hP [0, 1] rfl ⟨rfl, rfl, rfl⟩ rfl hl.1 rfl (Nat.le_of_ble_eq_true rfl) dX4_odds_2 (by decide) ?_
  show W _ _ _ _ _ _ _ _ _ _ _ _ _ _ _ (F0 m 5 ls [.int (bI false)])
  refine zb_eq (tgt := 27) hC dX4_odds_5 (by decide) (fun c5 => ?_) (fun c5 => by exfalso; cases c5)
  refine lv_iconst (v := (-1)) hx hb dX4_odds_27 (by decide) ?_
  exact zr_i hC hr hlk (by first | rfl | omega) dX4_odds_28
set_option maxHeartbeats 1000000 in
set_option maxRecDepth 100000 in
theorem c_X4_odds_badX {l : Launch} {D : va_G} {cI cZ cB cR : ClassId} {q xtx ty xdc xdl xdb xar xac xwm xnd at9 sta sor val xnw xkp xta xtw td xhg : Nat} {tr : Int64} {fau : Int32} {acn : Nat → Nat} {a : Nat} {x v9 : Int32} (hac : acn 0 ≤ 5) (ha : a < acn 0) (hbi : ¬ (nI 0 ≤ x ∧ x ≤ nI 10))  : mR l yX4_odds cX4_odds 9 (some .int) 2 43 D cI cZ cB cR [oM q tr xtx ty xdc xdl xdb xar xac xwm xnd at9 sta sor val fau xnw xkp xta xtw td xhg, aI cI xac 2 acn] [.ref q, .int (nI a), .int x, .int v9] (some (.int (-1))) := by
  refine mR_of rfl (Nat.le_of_ble_eq_true rfl) ?_
  intro p e s m args below meth c hC hr hlk hK hP ls hl
  have hl : lv_has ls 9 [(0, .ref q), (1, .int (nI a)), (2, .int x), (3, .int v9)] := hl
  obtain ⟨hx, hb, hml, hown, hts⟩ := id hC
  refine lv_aload_n hx hb dX4_odds_0 rfl (lv_at hl 0 rfl) ?_
  refine lv_iload_n hx hb dX4_odds_1 rfl (lv_at hl 1 rfl) ?_
  refine zRV (As := [.int (nI a)]) (b := q) (rest := []) hC (c_X4_isAct (l := l) (g := true) (hn := by omega) (hg := ⟨fun _ => vp_in_nI (by omega) (by omega), fun _ => rfl⟩)) lM_X4_132 vM_X4_isAct (by decide) hK hP [0, 1] rfl ⟨rfl, rfl, rfl⟩ rfl hl.1 rfl (Nat.le_of_ble_eq_true rfl) dX4_odds_2 (by decide) ?_
  show W _ _ _ _ _ _ _ _ _ _ _ _ _ _ _ (F0 m 5 ls [.int (bI true)])
  refine zb_eq (tgt := 27) hC dX4_odds_5 (by decide) (fun c5 => by exfalso; cases c5) (fun c5 => ?_)
  refine lv_iload_n hx hb dX4_odds_8 rfl (lv_at hl 2 rfl) ?_
  refine lv_iconst (v := nI 0) hx hb dX4_odds_9 (by decide) ?_
  refine lv_bipush (v := nI 10) hx hb dX4_odds_10 (by decide) ?_
  refine zRS (As := [.int x, .int (nI 0), .int (nI 10)]) (rest := []) hC (c_X4_in (l := l) (g := false) (hg := ⟨fun h => (by cases h), fun h => absurd h hbi⟩)) lM_X4_57 sM_X4_in (by decide) hK rfl hl.1 rfl (Nat.le_of_ble_eq_true rfl) dX4_odds_12 (by decide) ?_
  show W _ _ _ _ _ _ _ _ _ _ _ _ _ _ _ (F0 m 15 ls [.int (bI false)])
  refine zb_eq (tgt := 27) hC dX4_odds_15 (by decide) (fun c15 => ?_) (fun c15 => by exfalso; cases c15)
  refine lv_iconst (v := (-1)) hx hb dX4_odds_27 (by decide) ?_
  exact zr_i hC hr hlk (by first | rfl | omega) dX4_odds_28
set_option maxHeartbeats 1000000 in
set_option maxRecDepth 100000 in
theorem c_X4_odds_badW {l : Launch} {D : va_G} {cI cZ cB cR : ClassId} {q xtx ty xdc xdl xdb xar xac xwm xnd at9 sta sor val xnw xkp xta xtw td xhg : Nat} {tr : Int64} {fau : Int32} {acn : Nat → Nat} {a x9 : Nat} {x : Int32} (hac : acn 0 ≤ 5) (ha : a < acn 0) (hx9 : x9 ≤ 10) (hbi : ¬ (nI 0 ≤ x ∧ x ≤ nI 1))  : mR l yX4_odds cX4_odds 9 (some .int) 2 43 D cI cZ cB cR [oM q tr xtx ty xdc xdl xdb xar xac xwm xnd at9 sta sor val fau xnw xkp xta xtw td xhg, aI cI xac 2 acn] [.ref q, .int (nI a), .int (nI x9), .int x] (some (.int (-1))) := by
  refine mR_of rfl (Nat.le_of_ble_eq_true rfl) ?_
  intro p e s m args below meth c hC hr hlk hK hP ls hl
  have hl : lv_has ls 9 [(0, .ref q), (1, .int (nI a)), (2, .int (nI x9)), (3, .int x)] := hl
  obtain ⟨hx, hb, hml, hown, hts⟩ := id hC
  refine lv_aload_n hx hb dX4_odds_0 rfl (lv_at hl 0 rfl) ?_
  refine lv_iload_n hx hb dX4_odds_1 rfl (lv_at hl 1 rfl) ?_
  refine zRV (As := [.int (nI a)]) (b := q) (rest := []) hC (c_X4_isAct (l := l) (g := true) (hn := by omega) (hg := ⟨fun _ => vp_in_nI (by omega) (by omega), fun _ => rfl⟩)) lM_X4_132 vM_X4_isAct (by decide) hK hP [0, 1] rfl ⟨rfl, rfl, rfl⟩ rfl hl.1 rfl (Nat.le_of_ble_eq_true rfl) dX4_odds_2 (by decide) ?_
  show W _ _ _ _ _ _ _ _ _ _ _ _ _ _ _ (F0 m 5 ls [.int (bI true)])
  refine zb_eq (tgt := 27) hC dX4_odds_5 (by decide) (fun c5 => by exfalso; cases c5) (fun c5 => ?_)
  refine lv_iload_n hx hb dX4_odds_8 rfl (lv_at hl 2 rfl) ?_
  refine lv_iconst (v := nI 0) hx hb dX4_odds_9 (by decide) ?_
  refine lv_bipush (v := nI 10) hx hb dX4_odds_10 (by decide) ?_
  refine zRS (As := [.int (nI x9), .int (nI 0), .int (nI 10)]) (rest := []) hC (c_X4_in (l := l) (g := true) (hg := ⟨fun _ => ⟨(nI_leI (by omega) (by omega)).mpr (by omega), (nI_leI (by omega) (by omega)).mpr (by omega)⟩, fun _ => rfl⟩)) lM_X4_57 sM_X4_in (by decide) hK rfl hl.1 rfl (Nat.le_of_ble_eq_true rfl) dX4_odds_12 (by decide) ?_
  show W _ _ _ _ _ _ _ _ _ _ _ _ _ _ _ (F0 m 15 ls [.int (bI true)])
  refine zb_eq (tgt := 27) hC dX4_odds_15 (by decide) (fun c15 => by exfalso; cases c15) (fun c15 => ?_)
  refine lv_iload_n hx hb dX4_odds_18 rfl (lv_at hl 3 rfl) ?_
  refine lv_iconst (v := nI 0) hx hb dX4_odds_19 (by decide) ?_
  refine lv_iconst (v := nI 1) hx hb dX4_odds_20 (by decide) ?_
  refine zRS (As := [.int x, .int (nI 0), .int (nI 1)]) (rest := []) hC (c_X4_in (l := l) (g := false) (hg := ⟨fun h => (by cases h), fun h => absurd h hbi⟩)) lM_X4_57 sM_X4_in (by decide) hK rfl hl.1 rfl (Nat.le_of_ble_eq_true rfl) dX4_odds_21 (by decide) ?_
  show W _ _ _ _ _ _ _ _ _ _ _ _ _ _ _ (F0 m 24 ls [.int (bI false)])
  refine zb_ne (tgt := 29) hC dX4_odds_24 (by decide) (fun c24 => by exfalso; cases c24) (fun c24 => ?_)
  refine lv_iconst (v := (-1)) hx hb dX4_odds_27 (by decide) ?_
  exact zr_i hC hr hlk (by first | rfl | omega) dX4_odds_28
set_option maxHeartbeats 1000000 in
set_option maxRecDepth 100000 in
theorem c_X4_odds_no0 {l : Launch} {D : va_G} {cI cZ cB cR : ClassId} {q xtx ty xdc xdl xdb xar xac xwm xnd at9 sta sor val xnw xkp xta xtw td xhg : Nat} {tr : Int64} {fau : Int32} {acn dc nw ar nd : Nat → Nat} {W9 : Nat → Nat} {a x9 : Nat} {C9 : Bool} (hn : dc 0 ≤ 6) (hac : acn 0 ≤ 5) (hlv : ∀ j, j < 6 → nw j ≤ 40) (hlb : ∀ j, j < 6 → nw (12 + j) < 6) (har : ∀ i, i < 6 → ar i ≤ 5) (hnd : ∀ i, nd i ≤ 9) (hW : ∀ j, j < dc 0 → W9 j < dc 0 ∧ nw (12 + W9 j) = j ∧ ∀ i, i < W9 j → nw (12 + i) ≠ j) (ha : a < acn 0) (hx9 : x9 ≤ 10) (hC9 : C9 = true ↔ ∀ d, d < dc 0 → nd (6 * a + d) ≤ nw (W9 d) - 0 * ar (W9 d)) (hc9 : C9 = false)  : mR l yX4_odds cX4_odds 9 (some .int) 2 47 D cI cZ cB cR [oM q tr xtx ty xdc xdl xdb xar xac xwm xnd at9 sta sor val fau xnw xkp xta xtw td xhg, aI cI xac 2 acn, aI cI xdc 2 dc, aI cI xnw 729 nw, aI cI xar 12 ar, aI cI xnd 60 nd] [.ref q, .int (nI a), .int (nI x9), .int (nI 0)] (some (.int (nI (0)))) := by
  refine mR_of rfl (Nat.le_of_ble_eq_true rfl) ?_
  intro p e s m args below meth c hC hr hlk hK hP ls hl
  have hl : lv_has ls 9 [(0, .ref q), (1, .int (nI a)), (2, .int (nI x9)), (3, .int (nI 0))] := hl
  obtain ⟨hx, hb, hml, hown, hts⟩ := id hC
  refine lv_aload_n hx hb dX4_odds_0 rfl (lv_at hl 0 rfl) ?_
  refine lv_iload_n hx hb dX4_odds_1 rfl (lv_at hl 1 rfl) ?_
  refine zRV (As := [.int (nI a)]) (b := q) (rest := []) hC (c_X4_isAct (l := l) (g := true) (hn := by omega) (hg := ⟨fun _ => vp_in_nI (by omega) (by omega), fun _ => rfl⟩)) lM_X4_132 vM_X4_isAct (by decide) hK hP [0, 1] rfl ⟨rfl, rfl, rfl⟩ rfl hl.1 rfl (Nat.le_of_ble_eq_true rfl) dX4_odds_2 (by decide) ?_
  show W _ _ _ _ _ _ _ _ _ _ _ _ _ _ _ (F0 m 5 ls [.int (bI true)])
  refine zb_eq (tgt := 27) hC dX4_odds_5 (by decide) (fun c5 => by exfalso; cases c5) (fun c5 => ?_)
  refine lv_iload_n hx hb dX4_odds_8 rfl (lv_at hl 2 rfl) ?_
  refine lv_iconst (v := nI 0) hx hb dX4_odds_9 (by decide) ?_
  refine lv_bipush (v := nI 10) hx hb dX4_odds_10 (by decide) ?_
  refine zRS (As := [.int (nI x9), .int (nI 0), .int (nI 10)]) (rest := []) hC (c_X4_in (l := l) (g := true) (hg := ⟨fun _ => ⟨(nI_leI (by omega) (by omega)).mpr (by omega), (nI_leI (by omega) (by omega)).mpr (by omega)⟩, fun _ => rfl⟩)) lM_X4_57 sM_X4_in (by decide) hK rfl hl.1 rfl (Nat.le_of_ble_eq_true rfl) dX4_odds_12 (by decide) ?_
  show W _ _ _ _ _ _ _ _ _ _ _ _ _ _ _ (F0 m 15 ls [.int (bI true)])
  refine zb_eq (tgt := 27) hC dX4_odds_15 (by decide) (fun c15 => by exfalso; cases c15) (fun c15 => ?_)
  refine lv_iload_n hx hb dX4_odds_18 rfl (lv_at hl 3 rfl) ?_
  refine lv_iconst (v := nI 0) hx hb dX4_odds_19 (by decide) ?_
  refine lv_iconst (v := nI 1) hx hb dX4_odds_20 (by decide) ?_
  refine zRS (As := [.int (nI 0), .int (nI 0), .int (nI 1)]) (rest := []) hC (c_X4_in (l := l) (g := true) (hg := ⟨fun _ => ⟨(nI_leI (by omega) (by omega)).mpr (by omega), (nI_leI (by omega) (by omega)).mpr (by omega)⟩, fun _ => rfl⟩)) lM_X4_57 sM_X4_in (by decide) hK rfl hl.1 rfl (Nat.le_of_ble_eq_true rfl) dX4_odds_21 (by decide) ?_
  show W _ _ _ _ _ _ _ _ _ _ _ _ _ _ _ (F0 m 24 ls [.int (bI true)])
  refine zb_ne (tgt := 29) hC dX4_odds_24 (by decide) (fun c24 => ?_) (fun c24 => by exfalso; cases c24)
  refine lv_aload_n hx hb dX4_odds_29 rfl (lv_at hl 0 rfl) ?_
  refine lv_iload_n hx hb dX4_odds_30 rfl (lv_at hl 1 rfl) ?_
  refine lv_iconst (v := nI 0) hx hb dX4_odds_31 (by decide) ?_
  refine zRV (As := [.int (nI a), .int (nI 0)]) (b := q) (rest := []) hC (c_X4_can (l := l) (W9 := W9) (g := C9) (hn := hn) (hlv := hlv) (hlb := hlb) (har := har) (hnd := hnd) (hW := hW) (ha := by omega) (hm := by decide) (hg := hC9)) lM_X4_122 vM_X4_can (by decide) hK hP [0, 2, 3, 4, 5] rfl ⟨rfl, rfl, rfl⟩ rfl hl.1 rfl (Nat.le_of_ble_eq_true rfl) dX4_odds_32 (by decide) ?_
  show W _ _ _ _ _ _ _ _ _ _ _ _ _ _ _ (F0 m 35 ls [.int (bI C9)])
  refine zb_eq (tgt := 42) hC dX4_odds_35 (by decide) (fun c35 => ?_) (fun c35 => by exfalso; exact absurd (c35.symm.trans hc9) (by decide))
  refine lv_iconst (v := nI 0) hx hb dX4_odds_42 (by decide) ?_
  refine lv_istore (lv' := [(4, .int (nI 0)), (0, .ref q), (1, .int (nI a)), (2, .int (nI x9)), (3, .int (nI 0))]) hx hb dX4_odds_43 hl (by decide) rfl (fun ls hl => ?_)
  refine lv_iconst (v := nI 1) hx hb dX4_odds_45 (by decide) ?_
  refine lv_istore (lv' := [(5, .int (nI 1)), (4, .int (nI 0)), (0, .ref q), (1, .int (nI a)), (2, .int (nI x9)), (3, .int (nI 0))]) hx hb dX4_odds_46 hl (by decide) rfl (fun ls hl => ?_)
  refine lv_iconst (v := nI 0) hx hb dX4_odds_48 (by decide) ?_
  refine lv_istore (lv' := [(6, .int (nI 0)), (5, .int (nI 1)), (4, .int (nI 0)), (0, .ref q), (1, .int (nI a)), (2, .int (nI x9)), (3, .int (nI 0))]) hx hb dX4_odds_49 hl (by decide) rfl (fun ls hl => ?_)
  have hL51 : ∀ (z51 : Nat) (d : Nat) (u9 : Nat) (v9 : Nat), dc 0 - d = z51 → (d ≤ dc 0) → (u9 = 0) → (v9 = pm (fun d => if 0 < nd (6 * a + d) then 10 else 1) d) → ∀ ls : Array Slot, lv_has ls 9 [(0, .ref q), (1, .int (nI a)), (2, .int (nI x9)), (3, .int (nI 0)), (4, .int (nI u9)), (5, .int (nI v9)), (6, .int (nI d))] → W p l e { frames := 2, cells := 0, slots := 0, locals := 47 } s m args below meth c s.heap [] 0 0 (MQ below (qR (some (.int (nI (0))))) args s 0 0 (fun _ => False)) (F0 m 51 ls []) := by
    intro z51
    induction z51 using Nat.strongRecOn with
    | _ z51 ih51 =>
    intro d u9 v9 hz51 hd hu9 hv9 ls hl
    refine lv_iload hx hb dX4_odds_51 (lv_at hl 6 rfl) ?_
    refine lv_aload_n hx hb dX4_odds_53 rfl (lv_at hl 0 rfl) ?_
    refine z_get (k := 3) zcX4 hC hK hP 0 rfl (by decide) lF_X4_13 rfl dX4_odds_54 ?_
    refine lv_iconst (v := nI 0) hx hb dX4_odds_57 (by decide) ?_
    refine z_ald hC hK hP 2 rfl (by omega) (by decide) dX4_odds_58 ?_
    refine zc_ge (tgt := 112) hC dX4_odds_59 (by decide) (by omega) (by omega) (fun c59 => ?_) (fun c59 => ?_)
    · skip
      have e59 : d = dc 0 := by omega
      rw [e59] at hv9
      have b58 : 10 ^ dc 0 ≤ 1000000 := Nat.le_trans (Nat.pow_le_pow_right (by decide) hn) (by decide)
      have b60 : u9 ≤ 1000000 := by omega
      have b61 : v9 ≤ 1000000 := by rw [hv9]; exact Nat.le_trans (pm_le (fun i => by split <;> omega) _) b58
      have b62 : 0 < v9 := by rw [hv9]; exact pm_pos (fun i => by split <;> omega) _
      refine lv_iload hx hb dX4_odds_112 (lv_at hl 4 rfl) ?_
      refine lv_istore (lv' := [(6, .int (nI u9)), (0, .ref q), (1, .int (nI a)), (2, .int (nI x9)), (3, .int (nI 0)), (4, .int (nI u9)), (5, .int (nI v9))]) hx hb dX4_odds_114 hl (by decide) rfl (fun ls hl => ?_)
      refine lv_iload hx hb dX4_odds_116 (lv_at hl 6 rfl) ?_
      refine lv_istore (lv' := [(7, .int (nI v9)), (6, .int (nI u9)), (0, .ref q), (1, .int (nI a)), (2, .int (nI x9)), (3, .int (nI 0)), (4, .int (nI u9)), (5, .int (nI v9))]) hx hb dX4_odds_118 hl (by decide) rfl (fun ls hl => ?_)
      have hL120 : ∀ (z120 : Nat) (m9 : Nat) (n9 : Nat), n9 = z120 → (Nat.gcd m9 n9 = Nat.gcd u9 v9) → (m9 ≤ 1000000) → (n9 ≤ 1000000) → ∀ ls : Array Slot, lv_has ls 9 [(0, .ref q), (1, .int (nI a)), (2, .int (nI x9)), (3, .int (nI 0)), (4, .int (nI u9)), (5, .int (nI v9)), (6, .int (nI m9)), (7, .int (nI n9))] → W p l e { frames := 2, cells := 0, slots := 0, locals := 47 } s m args below meth c s.heap [] 0 0 (MQ below (qR (some (.int (nI (0))))) args s 0 0 (fun _ => False)) (F0 m 120 ls []) := by
        intro z120
        induction z120 using Nat.strongRecOn with
        | _ z120 ih120 =>
        intro m9 n9 hz120 hg9 hm9 hn9 ls hl
        refine lv_iload hx hb dX4_odds_120 (lv_at hl 7 rfl) ?_
        refine z0_eq (tgt := 143) hC dX4_odds_122 (by decide) (by omega) (fun c122 => ?_) (fun c122 => ?_)
        · skip
          have e122 : m9 = Nat.gcd u9 v9 := by rw [← hg9, show n9 = 0 by omega, Nat.gcd_zero_right]
          have b122 : 0 < m9 := by rw [e122]; exact Nat.gcd_pos_of_pos_right _ b62
          refine lv_iload_n hx hb dX4_odds_143 rfl (lv_at hl 3 rfl) ?_
          refine z0_ne (tgt := 155) hC dX4_odds_144 (by decide) (by omega) (fun c144 => by exfalso; omega) (fun c144 => ?_)
          refine lv_iload hx hb dX4_odds_147 (lv_at hl 4 rfl) ?_
          refine lv_iload hx hb dX4_odds_149 (lv_at hl 6 rfl) ?_
          refine zi_div hC dX4_odds_151 (by omega) (by omega) (by omega) ?_
          refine lv_goto (tgt := 160) hx hb dX4_odds_152 (by decide) ?_
          exact zr_i hC hr hlk (by rw [hu9, Nat.zero_div]) dX4_odds_160
        · skip
          have b125 := Nat.mod_lt m9 (show 0 < n9 by omega)
          refine lv_iload hx hb dX4_odds_125 (lv_at hl 6 rfl) ?_
          refine lv_iload hx hb dX4_odds_127 (lv_at hl 7 rfl) ?_
          refine zi_rem hC dX4_odds_129 (by omega) (by omega) (by omega) ?_
          refine lv_istore (lv' := [(8, .int (nI (m9 % n9))), (0, .ref q), (1, .int (nI a)), (2, .int (nI x9)), (3, .int (nI 0)), (4, .int (nI u9)), (5, .int (nI v9)), (6, .int (nI m9)), (7, .int (nI n9))]) hx hb dX4_odds_130 hl (by decide) rfl (fun ls hl => ?_)
          refine lv_iload hx hb dX4_odds_132 (lv_at hl 8 rfl) ?_
          refine lv_istore (lv' := [(6, .int (nI n9)), (8, .int (nI (m9 % n9))), (0, .ref q), (1, .int (nI a)), (2, .int (nI x9)), (3, .int (nI 0)), (4, .int (nI u9)), (5, .int (nI v9)), (7, .int (nI n9))]) hx hb dX4_odds_134 hl (by decide) rfl (fun ls hl => ?_)
          refine lv_iload hx hb dX4_odds_136 (lv_at hl 1 rfl) ?_
          refine lv_istore (lv' := [(7, .int (nI (m9 % n9))), (6, .int (nI n9)), (8, .int (nI (m9 % n9))), (0, .ref q), (1, .int (nI a)), (2, .int (nI x9)), (3, .int (nI 0)), (4, .int (nI u9)), (5, .int (nI v9))]) hx hb dX4_odds_138 hl (by decide) rfl (fun ls hl => ?_)
          refine lv_goto (tgt := 120) hx hb dX4_odds_140 (by decide) ?_
          exact ih120 (m9 % n9) (by omega) n9 (m9 % n9) rfl (by rw [← hg9, Nat.gcd_comm m9 n9, Nat.gcd_rec n9 m9]; exact Nat.gcd_comm _ _) (by omega) (by omega) ls (lv_sub hl [3, 4, 5, 6, 7, 8, 1, 0] rfl)
      exact hL120 _ u9 v9 rfl (by rfl) (by omega) (by omega) ls (lv_sub hl [2, 3, 4, 5, 6, 7, 1, 0] rfl)
    · skip
      refine lv_iload hx hb dX4_odds_62 (lv_at hl 4 rfl) ?_
      refine lv_aload_n hx hb dX4_odds_64 rfl (lv_at hl 0 rfl) ?_
      refine lv_iload_n hx hb dX4_odds_65 rfl (lv_at hl 1 rfl) ?_
      refine lv_iload hx hb dX4_odds_66 (lv_at hl 6 rfl) ?_
      have b68 := hnd (6 * a + d)
      refine zRV (As := [.int (nI a), .int (nI d)]) (b := q) (rest := [.int (nI u9)]) hC (c_X4_needOf (l := l) (ha := by omega) (hd := by omega)) lM_X4_116 vM_X4_needOf (by decide) hK hP [0, 5] rfl ⟨rfl, rfl, rfl⟩ rfl hl.1 rfl (Nat.le_of_ble_eq_true rfl) dX4_odds_68 (by decide) ?_
      show W _ _ _ _ _ _ _ _ _ _ _ _ _ _ _ (F0 m 71 ls [.int (nI (nd (6 * a + d))), .int (nI u9)])
      refine z0_le (tgt := 81) hC dX4_odds_71 (by decide) (by omega) (fun c71 => ?_) (fun c71 => ?_)
      · skip
        refine lv_iconst (v := nI 1) hx hb dX4_odds_81 (by decide) ?_
        refine zi_mul hC dX4_odds_82 ?_
        refine lv_istore (lv' := [(4, .int (nI (u9 * 1))), (0, .ref q), (1, .int (nI a)), (2, .int (nI x9)), (3, .int (nI 0)), (5, .int (nI v9)), (6, .int (nI d))]) hx hb dX4_odds_83 hl (by decide) rfl (fun ls hl => ?_)
        refine lv_iload hx hb dX4_odds_85 (lv_at hl 5 rfl) ?_
        refine lv_aload_n hx hb dX4_odds_87 rfl (lv_at hl 1 rfl) ?_
        refine lv_iload_n hx hb dX4_odds_88 rfl (lv_at hl 2 rfl) ?_
        refine lv_iload hx hb dX4_odds_89 (lv_at hl 6 rfl) ?_
        refine zRV (As := [.int (nI a), .int (nI d)]) (b := q) (rest := [.int (nI v9)]) hC (c_X4_needOf (l := l) (ha := by omega) (hd := by omega)) lM_X4_116 vM_X4_needOf (by decide) hK hP [0, 5] rfl ⟨rfl, rfl, rfl⟩ rfl hl.1 rfl (Nat.le_of_ble_eq_true rfl) dX4_odds_91 (by decide) ?_
        show W _ _ _ _ _ _ _ _ _ _ _ _ _ _ _ (F0 m 94 ls [.int (nI (nd (6 * a + d))), .int (nI v9)])
        refine z0_le (tgt := 102) hC dX4_odds_94 (by decide) (by omega) (fun c94 => ?_) (fun c94 => ?_)
        · skip
          refine lv_iconst (v := nI 1) hx hb dX4_odds_102 (by decide) ?_
          refine zi_mul hC dX4_odds_103 ?_
          refine lv_istore (lv' := [(5, .int (nI (v9 * 1))), (4, .int (nI (u9 * 1))), (0, .ref q), (1, .int (nI a)), (2, .int (nI x9)), (3, .int (nI 0)), (6, .int (nI d))]) hx hb dX4_odds_104 hl (by decide) rfl (fun ls hl => ?_)
          refine lv_iinc (v := nI (d + 1)) (lv' := [(6, .int (nI (d + 1))), (5, .int (nI (v9 * 1))), (4, .int (nI (u9 * 1))), (0, .ref q), (1, .int (nI a)), (2, .int (nI x9)), (3, .int (nI 0))]) hx hb dX4_odds_106 hl (k := 6) rfl (z_inc d 1) (by decide) rfl (fun ls hl => ?_)
          refine lv_goto (tgt := 51) hx hb dX4_odds_109 (by decide) ?_
          exact ih51 (dc 0 - (d + 1)) (by omega) (d + 1) (u9 * 1) (v9 * 1) rfl (by omega) (by rw [hu9, Nat.zero_mul]) (by rw [hv9, pm_s]; rw [if_neg (by omega)]) ls (lv_sub hl [3, 4, 5, 6, 2, 1, 0] rfl)
        · skip
          refine lv_bipush (v := nI 10) hx hb dX4_odds_97 (by decide) ?_
          refine lv_goto (tgt := 103) hx hb dX4_odds_99 (by decide) ?_
          refine zi_mul hC dX4_odds_103 ?_
          refine lv_istore (lv' := [(5, .int (nI (v9 * 10))), (4, .int (nI (u9 * 1))), (0, .ref q), (1, .int (nI a)), (2, .int (nI x9)), (3, .int (nI 0)), (6, .int (nI d))]) hx hb dX4_odds_104 hl (by decide) rfl (fun ls hl => ?_)
          refine lv_iinc (v := nI (d + 1)) (lv' := [(6, .int (nI (d + 1))), (5, .int (nI (v9 * 10))), (4, .int (nI (u9 * 1))), (0, .ref q), (1, .int (nI a)), (2, .int (nI x9)), (3, .int (nI 0))]) hx hb dX4_odds_106 hl (k := 6) rfl (z_inc d 1) (by decide) rfl (fun ls hl => ?_)
          refine lv_goto (tgt := 51) hx hb dX4_odds_109 (by decide) ?_
          exact ih51 (dc 0 - (d + 1)) (by omega) (d + 1) (u9 * 1) (v9 * 10) rfl (by omega) (by rw [hu9, Nat.zero_mul]) (by rw [hv9, pm_s]; rw [if_pos (by omega)]) ls (lv_sub hl [3, 4, 5, 6, 2, 1, 0] rfl)
      · skip
        refine lv_bipush (v := nI 10) hx hb dX4_odds_74 (by decide) ?_
        refine lv_iload_n hx hb dX4_odds_76 rfl (lv_at hl 2 rfl) ?_
        refine zi_sub hC dX4_odds_77 (by omega) ?_
        refine lv_goto (tgt := 82) hx hb dX4_odds_78 (by decide) ?_
        refine zi_mul hC dX4_odds_82 ?_
        refine lv_istore (lv' := [(4, .int (nI (u9 * (10 - x9)))), (0, .ref q), (1, .int (nI a)), (2, .int (nI x9)), (3, .int (nI 0)), (5, .int (nI v9)), (6, .int (nI d))]) hx hb dX4_odds_83 hl (by decide) rfl (fun ls hl => ?_)
        refine lv_iload hx hb dX4_odds_85 (lv_at hl 5 rfl) ?_
        refine lv_aload_n hx hb dX4_odds_87 rfl (lv_at hl 1 rfl) ?_
        refine lv_iload_n hx hb dX4_odds_88 rfl (lv_at hl 2 rfl) ?_
        refine lv_iload hx hb dX4_odds_89 (lv_at hl 6 rfl) ?_
        refine zRV (As := [.int (nI a), .int (nI d)]) (b := q) (rest := [.int (nI v9)]) hC (c_X4_needOf (l := l) (ha := by omega) (hd := by omega)) lM_X4_116 vM_X4_needOf (by decide) hK hP [0, 5] rfl ⟨rfl, rfl, rfl⟩ rfl hl.1 rfl (Nat.le_of_ble_eq_true rfl) dX4_odds_91 (by decide) ?_
        show W _ _ _ _ _ _ _ _ _ _ _ _ _ _ _ (F0 m 94 ls [.int (nI (nd (6 * a + d))), .int (nI v9)])
        refine z0_le (tgt := 102) hC dX4_odds_94 (by decide) (by omega) (fun c94 => ?_) (fun c94 => ?_)
        · skip
          refine lv_iconst (v := nI 1) hx hb dX4_odds_102 (by decide) ?_
          refine zi_mul hC dX4_odds_103 ?_
          refine lv_istore (lv' := [(5, .int (nI (v9 * 1))), (4, .int (nI (u9 * (10 - x9)))), (0, .ref q), (1, .int (nI a)), (2, .int (nI x9)), (3, .int (nI 0)), (6, .int (nI d))]) hx hb dX4_odds_104 hl (by decide) rfl (fun ls hl => ?_)
          refine lv_iinc (v := nI (d + 1)) (lv' := [(6, .int (nI (d + 1))), (5, .int (nI (v9 * 1))), (4, .int (nI (u9 * (10 - x9)))), (0, .ref q), (1, .int (nI a)), (2, .int (nI x9)), (3, .int (nI 0))]) hx hb dX4_odds_106 hl (k := 6) rfl (z_inc d 1) (by decide) rfl (fun ls hl => ?_)
          refine lv_goto (tgt := 51) hx hb dX4_odds_109 (by decide) ?_
          exact ih51 (dc 0 - (d + 1)) (by omega) (d + 1) (u9 * (10 - x9)) (v9 * 1) rfl (by omega) (by rw [hu9, Nat.zero_mul]) (by rw [hv9, pm_s]; rw [if_neg (by omega)]) ls (lv_sub hl [3, 4, 5, 6, 2, 1, 0] rfl)
        · skip
          refine lv_bipush (v := nI 10) hx hb dX4_odds_97 (by decide) ?_
          refine lv_goto (tgt := 103) hx hb dX4_odds_99 (by decide) ?_
          refine zi_mul hC dX4_odds_103 ?_
          refine lv_istore (lv' := [(5, .int (nI (v9 * 10))), (4, .int (nI (u9 * (10 - x9)))), (0, .ref q), (1, .int (nI a)), (2, .int (nI x9)), (3, .int (nI 0)), (6, .int (nI d))]) hx hb dX4_odds_104 hl (by decide) rfl (fun ls hl => ?_)
          refine lv_iinc (v := nI (d + 1)) (lv' := [(6, .int (nI (d + 1))), (5, .int (nI (v9 * 10))), (4, .int (nI (u9 * (10 - x9)))), (0, .ref q), (1, .int (nI a)), (2, .int (nI x9)), (3, .int (nI 0))]) hx hb dX4_odds_106 hl (k := 6) rfl (z_inc d 1) (by decide) rfl (fun ls hl => ?_)
          refine lv_goto (tgt := 51) hx hb dX4_odds_109 (by decide) ?_
          exact ih51 (dc 0 - (d + 1)) (by omega) (d + 1) (u9 * (10 - x9)) (v9 * 10) rfl (by omega) (by rw [hu9, Nat.zero_mul]) (by rw [hv9, pm_s]; rw [if_pos (by omega)]) ls (lv_sub hl [3, 4, 5, 6, 2, 1, 0] rfl)
  exact hL51 _ 0 0 1 rfl (by omega) (by rfl) (by rfl) ls (lv_sub hl [3, 4, 5, 6, 2, 1, 0] rfl)
set_option maxHeartbeats 1000000 in
set_option maxRecDepth 100000 in
theorem c_X4_odds_no1 {l : Launch} {D : va_G} {cI cZ cB cR : ClassId} {q xtx ty xdc xdl xdb xar xac xwm xnd at9 sta sor val xnw xkp xta xtw td xhg : Nat} {tr : Int64} {fau : Int32} {acn dc nw ar nd : Nat → Nat} {W9 : Nat → Nat} {a x9 : Nat} {C9 : Bool} (hn : dc 0 ≤ 6) (hac : acn 0 ≤ 5) (hlv : ∀ j, j < 6 → nw j ≤ 40) (hlb : ∀ j, j < 6 → nw (12 + j) < 6) (har : ∀ i, i < 6 → ar i ≤ 5) (hnd : ∀ i, nd i ≤ 9) (hW : ∀ j, j < dc 0 → W9 j < dc 0 ∧ nw (12 + W9 j) = j ∧ ∀ i, i < W9 j → nw (12 + i) ≠ j) (ha : a < acn 0) (hx9 : x9 ≤ 10) (hC9 : C9 = true ↔ ∀ d, d < dc 0 → nd (6 * a + d) ≤ nw (W9 d) - 0 * ar (W9 d)) (hc9 : C9 = false)  : mR l yX4_odds cX4_odds 9 (some .int) 2 47 D cI cZ cB cR [oM q tr xtx ty xdc xdl xdb xar xac xwm xnd at9 sta sor val fau xnw xkp xta xtw td xhg, aI cI xac 2 acn, aI cI xdc 2 dc, aI cI xnw 729 nw, aI cI xar 12 ar, aI cI xnd 60 nd] [.ref q, .int (nI a), .int (nI x9), .int (nI 1)] (some (.int (nI (1)))) := by
  refine mR_of rfl (Nat.le_of_ble_eq_true rfl) ?_
  intro p e s m args below meth c hC hr hlk hK hP ls hl
  have hl : lv_has ls 9 [(0, .ref q), (1, .int (nI a)), (2, .int (nI x9)), (3, .int (nI 1))] := hl
  obtain ⟨hx, hb, hml, hown, hts⟩ := id hC
  refine lv_aload_n hx hb dX4_odds_0 rfl (lv_at hl 0 rfl) ?_
  refine lv_iload_n hx hb dX4_odds_1 rfl (lv_at hl 1 rfl) ?_
  refine zRV (As := [.int (nI a)]) (b := q) (rest := []) hC (c_X4_isAct (l := l) (g := true) (hn := by omega) (hg := ⟨fun _ => vp_in_nI (by omega) (by omega), fun _ => rfl⟩)) lM_X4_132 vM_X4_isAct (by decide) hK hP [0, 1] rfl ⟨rfl, rfl, rfl⟩ rfl hl.1 rfl (Nat.le_of_ble_eq_true rfl) dX4_odds_2 (by decide) ?_
  show W _ _ _ _ _ _ _ _ _ _ _ _ _ _ _ (F0 m 5 ls [.int (bI true)])
  refine zb_eq (tgt := 27) hC dX4_odds_5 (by decide) (fun c5 => by exfalso; cases c5) (fun c5 => ?_)
  refine lv_iload_n hx hb dX4_odds_8 rfl (lv_at hl 2 rfl) ?_
  refine lv_iconst (v := nI 0) hx hb dX4_odds_9 (by decide) ?_
  refine lv_bipush (v := nI 10) hx hb dX4_odds_10 (by decide) ?_
  refine zRS (As := [.int (nI x9), .int (nI 0), .int (nI 10)]) (rest := []) hC (c_X4_in (l := l) (g := true) (hg := ⟨fun _ => ⟨(nI_leI (by omega) (by omega)).mpr (by omega), (nI_leI (by omega) (by omega)).mpr (by omega)⟩, fun _ => rfl⟩)) lM_X4_57 sM_X4_in (by decide) hK rfl hl.1 rfl (Nat.le_of_ble_eq_true rfl) dX4_odds_12 (by decide) ?_
  show W _ _ _ _ _ _ _ _ _ _ _ _ _ _ _ (F0 m 15 ls [.int (bI true)])
  refine zb_eq (tgt := 27) hC dX4_odds_15 (by decide) (fun c15 => by exfalso; cases c15) (fun c15 => ?_)
  refine lv_iload_n hx hb dX4_odds_18 rfl (lv_at hl 3 rfl) ?_
  refine lv_iconst (v := nI 0) hx hb dX4_odds_19 (by decide) ?_
  refine lv_iconst (v := nI 1) hx hb dX4_odds_20 (by decide) ?_
  refine zRS (As := [.int (nI 1), .int (nI 0), .int (nI 1)]) (rest := []) hC (c_X4_in (l := l) (g := true) (hg := ⟨fun _ => ⟨(nI_leI (by omega) (by omega)).mpr (by omega), (nI_leI (by omega) (by omega)).mpr (by omega)⟩, fun _ => rfl⟩)) lM_X4_57 sM_X4_in (by decide) hK rfl hl.1 rfl (Nat.le_of_ble_eq_true rfl) dX4_odds_21 (by decide) ?_
  show W _ _ _ _ _ _ _ _ _ _ _ _ _ _ _ (F0 m 24 ls [.int (bI true)])
  refine zb_ne (tgt := 29) hC dX4_odds_24 (by decide) (fun c24 => ?_) (fun c24 => by exfalso; cases c24)
  refine lv_aload_n hx hb dX4_odds_29 rfl (lv_at hl 0 rfl) ?_
  refine lv_iload_n hx hb dX4_odds_30 rfl (lv_at hl 1 rfl) ?_
  refine lv_iconst (v := nI 0) hx hb dX4_odds_31 (by decide) ?_
  refine zRV (As := [.int (nI a), .int (nI 0)]) (b := q) (rest := []) hC (c_X4_can (l := l) (W9 := W9) (g := C9) (hn := hn) (hlv := hlv) (hlb := hlb) (har := har) (hnd := hnd) (hW := hW) (ha := by omega) (hm := by decide) (hg := hC9)) lM_X4_122 vM_X4_can (by decide) hK hP [0, 2, 3, 4, 5] rfl ⟨rfl, rfl, rfl⟩ rfl hl.1 rfl (Nat.le_of_ble_eq_true rfl) dX4_odds_32 (by decide) ?_
  show W _ _ _ _ _ _ _ _ _ _ _ _ _ _ _ (F0 m 35 ls [.int (bI C9)])
  refine zb_eq (tgt := 42) hC dX4_odds_35 (by decide) (fun c35 => ?_) (fun c35 => by exfalso; exact absurd (c35.symm.trans hc9) (by decide))
  refine lv_iconst (v := nI 0) hx hb dX4_odds_42 (by decide) ?_
  refine lv_istore (lv' := [(4, .int (nI 0)), (0, .ref q), (1, .int (nI a)), (2, .int (nI x9)), (3, .int (nI 1))]) hx hb dX4_odds_43 hl (by decide) rfl (fun ls hl => ?_)
  refine lv_iconst (v := nI 1) hx hb dX4_odds_45 (by decide) ?_
  refine lv_istore (lv' := [(5, .int (nI 1)), (4, .int (nI 0)), (0, .ref q), (1, .int (nI a)), (2, .int (nI x9)), (3, .int (nI 1))]) hx hb dX4_odds_46 hl (by decide) rfl (fun ls hl => ?_)
  refine lv_iconst (v := nI 0) hx hb dX4_odds_48 (by decide) ?_
  refine lv_istore (lv' := [(6, .int (nI 0)), (5, .int (nI 1)), (4, .int (nI 0)), (0, .ref q), (1, .int (nI a)), (2, .int (nI x9)), (3, .int (nI 1))]) hx hb dX4_odds_49 hl (by decide) rfl (fun ls hl => ?_)
  have hL51 : ∀ (z51 : Nat) (d : Nat) (u9 : Nat) (v9 : Nat), dc 0 - d = z51 → (d ≤ dc 0) → (u9 = 0) → (v9 = pm (fun d => if 0 < nd (6 * a + d) then 10 else 1) d) → ∀ ls : Array Slot, lv_has ls 9 [(0, .ref q), (1, .int (nI a)), (2, .int (nI x9)), (3, .int (nI 1)), (4, .int (nI u9)), (5, .int (nI v9)), (6, .int (nI d))] → W p l e { frames := 2, cells := 0, slots := 0, locals := 47 } s m args below meth c s.heap [] 0 0 (MQ below (qR (some (.int (nI (1))))) args s 0 0 (fun _ => False)) (F0 m 51 ls []) := by
    intro z51
    induction z51 using Nat.strongRecOn with
    | _ z51 ih51 =>
    intro d u9 v9 hz51 hd hu9 hv9 ls hl
    refine lv_iload hx hb dX4_odds_51 (lv_at hl 6 rfl) ?_
    refine lv_aload_n hx hb dX4_odds_53 rfl (lv_at hl 0 rfl) ?_
    refine z_get (k := 3) zcX4 hC hK hP 0 rfl (by decide) lF_X4_13 rfl dX4_odds_54 ?_
    refine lv_iconst (v := nI 0) hx hb dX4_odds_57 (by decide) ?_
    refine z_ald hC hK hP 2 rfl (by omega) (by decide) dX4_odds_58 ?_
    refine zc_ge (tgt := 112) hC dX4_odds_59 (by decide) (by omega) (by omega) (fun c59 => ?_) (fun c59 => ?_)
    · skip
      have e59 : d = dc 0 := by omega
      rw [e59] at hv9
      have b58 : 10 ^ dc 0 ≤ 1000000 := Nat.le_trans (Nat.pow_le_pow_right (by decide) hn) (by decide)
      have b60 : u9 ≤ 1000000 := by omega
      have b61 : v9 ≤ 1000000 := by rw [hv9]; exact Nat.le_trans (pm_le (fun i => by split <;> omega) _) b58
      have b62 : 0 < v9 := by rw [hv9]; exact pm_pos (fun i => by split <;> omega) _
      refine lv_iload hx hb dX4_odds_112 (lv_at hl 4 rfl) ?_
      refine lv_istore (lv' := [(6, .int (nI u9)), (0, .ref q), (1, .int (nI a)), (2, .int (nI x9)), (3, .int (nI 1)), (4, .int (nI u9)), (5, .int (nI v9))]) hx hb dX4_odds_114 hl (by decide) rfl (fun ls hl => ?_)
      refine lv_iload hx hb dX4_odds_116 (lv_at hl 6 rfl) ?_
      refine lv_istore (lv' := [(7, .int (nI v9)), (6, .int (nI u9)), (0, .ref q), (1, .int (nI a)), (2, .int (nI x9)), (3, .int (nI 1)), (4, .int (nI u9)), (5, .int (nI v9))]) hx hb dX4_odds_118 hl (by decide) rfl (fun ls hl => ?_)
      have hL120 : ∀ (z120 : Nat) (m9 : Nat) (n9 : Nat), n9 = z120 → (Nat.gcd m9 n9 = Nat.gcd u9 v9) → (m9 ≤ 1000000) → (n9 ≤ 1000000) → ∀ ls : Array Slot, lv_has ls 9 [(0, .ref q), (1, .int (nI a)), (2, .int (nI x9)), (3, .int (nI 1)), (4, .int (nI u9)), (5, .int (nI v9)), (6, .int (nI m9)), (7, .int (nI n9))] → W p l e { frames := 2, cells := 0, slots := 0, locals := 47 } s m args below meth c s.heap [] 0 0 (MQ below (qR (some (.int (nI (1))))) args s 0 0 (fun _ => False)) (F0 m 120 ls []) := by
        intro z120
        induction z120 using Nat.strongRecOn with
        | _ z120 ih120 =>
        intro m9 n9 hz120 hg9 hm9 hn9 ls hl
        refine lv_iload hx hb dX4_odds_120 (lv_at hl 7 rfl) ?_
        refine z0_eq (tgt := 143) hC dX4_odds_122 (by decide) (by omega) (fun c122 => ?_) (fun c122 => ?_)
        · skip
          have e122 : m9 = Nat.gcd u9 v9 := by rw [← hg9, show n9 = 0 by omega, Nat.gcd_zero_right]
          have b122 : 0 < m9 := by rw [e122]; exact Nat.gcd_pos_of_pos_right _ b62
          refine lv_iload_n hx hb dX4_odds_143 rfl (lv_at hl 3 rfl) ?_
          refine z0_ne (tgt := 155) hC dX4_odds_144 (by decide) (by omega) (fun c144 => ?_) (fun c144 => by exfalso; omega)
          refine lv_iload hx hb dX4_odds_155 (lv_at hl 5 rfl) ?_
          refine lv_iload hx hb dX4_odds_157 (lv_at hl 6 rfl) ?_
          refine zi_div hC dX4_odds_159 (by omega) (by omega) (by omega) ?_
          exact zr_i hC hr hlk (by rw [e122, hu9, Nat.gcd_zero_left, Nat.div_self b62]) dX4_odds_160
        · skip
          have b125 := Nat.mod_lt m9 (show 0 < n9 by omega)
          refine lv_iload hx hb dX4_odds_125 (lv_at hl 6 rfl) ?_
          refine lv_iload hx hb dX4_odds_127 (lv_at hl 7 rfl) ?_
          refine zi_rem hC dX4_odds_129 (by omega) (by omega) (by omega) ?_
          refine lv_istore (lv' := [(8, .int (nI (m9 % n9))), (0, .ref q), (1, .int (nI a)), (2, .int (nI x9)), (3, .int (nI 1)), (4, .int (nI u9)), (5, .int (nI v9)), (6, .int (nI m9)), (7, .int (nI n9))]) hx hb dX4_odds_130 hl (by decide) rfl (fun ls hl => ?_)
          refine lv_iload hx hb dX4_odds_132 (lv_at hl 8 rfl) ?_
          refine lv_istore (lv' := [(6, .int (nI n9)), (8, .int (nI (m9 % n9))), (0, .ref q), (1, .int (nI a)), (2, .int (nI x9)), (3, .int (nI 1)), (4, .int (nI u9)), (5, .int (nI v9)), (7, .int (nI n9))]) hx hb dX4_odds_134 hl (by decide) rfl (fun ls hl => ?_)
          refine lv_iload hx hb dX4_odds_136 (lv_at hl 1 rfl) ?_
          refine lv_istore (lv' := [(7, .int (nI (m9 % n9))), (6, .int (nI n9)), (8, .int (nI (m9 % n9))), (0, .ref q), (1, .int (nI a)), (2, .int (nI x9)), (3, .int (nI 1)), (4, .int (nI u9)), (5, .int (nI v9))]) hx hb dX4_odds_138 hl (by decide) rfl (fun ls hl => ?_)
          refine lv_goto (tgt := 120) hx hb dX4_odds_140 (by decide) ?_
          exact ih120 (m9 % n9) (by omega) n9 (m9 % n9) rfl (by rw [← hg9, Nat.gcd_comm m9 n9, Nat.gcd_rec n9 m9]; exact Nat.gcd_comm _ _) (by omega) (by omega) ls (lv_sub hl [3, 4, 5, 6, 7, 8, 1, 0] rfl)
      exact hL120 _ u9 v9 rfl (by rfl) (by omega) (by omega) ls (lv_sub hl [2, 3, 4, 5, 6, 7, 1, 0] rfl)
    · skip
      refine lv_iload hx hb dX4_odds_62 (lv_at hl 4 rfl) ?_
      refine lv_aload_n hx hb dX4_odds_64 rfl (lv_at hl 0 rfl) ?_
      refine lv_iload_n hx hb dX4_odds_65 rfl (lv_at hl 1 rfl) ?_
      refine lv_iload hx hb dX4_odds_66 (lv_at hl 6 rfl) ?_
      have b68 := hnd (6 * a + d)
      refine zRV (As := [.int (nI a), .int (nI d)]) (b := q) (rest := [.int (nI u9)]) hC (c_X4_needOf (l := l) (ha := by omega) (hd := by omega)) lM_X4_116 vM_X4_needOf (by decide) hK hP [0, 5] rfl ⟨rfl, rfl, rfl⟩ rfl hl.1 rfl (Nat.le_of_ble_eq_true rfl) dX4_odds_68 (by decide) ?_
      show W _ _ _ _ _ _ _ _ _ _ _ _ _ _ _ (F0 m 71 ls [.int (nI (nd (6 * a + d))), .int (nI u9)])
      refine z0_le (tgt := 81) hC dX4_odds_71 (by decide) (by omega) (fun c71 => ?_) (fun c71 => ?_)
      · skip
        refine lv_iconst (v := nI 1) hx hb dX4_odds_81 (by decide) ?_
        refine zi_mul hC dX4_odds_82 ?_
        refine lv_istore (lv' := [(4, .int (nI (u9 * 1))), (0, .ref q), (1, .int (nI a)), (2, .int (nI x9)), (3, .int (nI 1)), (5, .int (nI v9)), (6, .int (nI d))]) hx hb dX4_odds_83 hl (by decide) rfl (fun ls hl => ?_)
        refine lv_iload hx hb dX4_odds_85 (lv_at hl 5 rfl) ?_
        refine lv_aload_n hx hb dX4_odds_87 rfl (lv_at hl 1 rfl) ?_
        refine lv_iload_n hx hb dX4_odds_88 rfl (lv_at hl 2 rfl) ?_
        refine lv_iload hx hb dX4_odds_89 (lv_at hl 6 rfl) ?_
        refine zRV (As := [.int (nI a), .int (nI d)]) (b := q) (rest := [.int (nI v9)]) hC (c_X4_needOf (l := l) (ha := by omega) (hd := by omega)) lM_X4_116 vM_X4_needOf (by decide) hK hP [0, 5] rfl ⟨rfl, rfl, rfl⟩ rfl hl.1 rfl (Nat.le_of_ble_eq_true rfl) dX4_odds_91 (by decide) ?_
        show W _ _ _ _ _ _ _ _ _ _ _ _ _ _ _ (F0 m 94 ls [.int (nI (nd (6 * a + d))), .int (nI v9)])
        refine z0_le (tgt := 102) hC dX4_odds_94 (by decide) (by omega) (fun c94 => ?_) (fun c94 => ?_)
        · skip
          refine lv_iconst (v := nI 1) hx hb dX4_odds_102 (by decide) ?_
          refine zi_mul hC dX4_odds_103 ?_
          refine lv_istore (lv' := [(5, .int (nI (v9 * 1))), (4, .int (nI (u9 * 1))), (0, .ref q), (1, .int (nI a)), (2, .int (nI x9)), (3, .int (nI 1)), (6, .int (nI d))]) hx hb dX4_odds_104 hl (by decide) rfl (fun ls hl => ?_)
          refine lv_iinc (v := nI (d + 1)) (lv' := [(6, .int (nI (d + 1))), (5, .int (nI (v9 * 1))), (4, .int (nI (u9 * 1))), (0, .ref q), (1, .int (nI a)), (2, .int (nI x9)), (3, .int (nI 1))]) hx hb dX4_odds_106 hl (k := 6) rfl (z_inc d 1) (by decide) rfl (fun ls hl => ?_)
          refine lv_goto (tgt := 51) hx hb dX4_odds_109 (by decide) ?_
          exact ih51 (dc 0 - (d + 1)) (by omega) (d + 1) (u9 * 1) (v9 * 1) rfl (by omega) (by rw [hu9, Nat.zero_mul]) (by rw [hv9, pm_s]; rw [if_neg (by omega)]) ls (lv_sub hl [3, 4, 5, 6, 2, 1, 0] rfl)
        · skip
          refine lv_bipush (v := nI 10) hx hb dX4_odds_97 (by decide) ?_
          refine lv_goto (tgt := 103) hx hb dX4_odds_99 (by decide) ?_
          refine zi_mul hC dX4_odds_103 ?_
          refine lv_istore (lv' := [(5, .int (nI (v9 * 10))), (4, .int (nI (u9 * 1))), (0, .ref q), (1, .int (nI a)), (2, .int (nI x9)), (3, .int (nI 1)), (6, .int (nI d))]) hx hb dX4_odds_104 hl (by decide) rfl (fun ls hl => ?_)
          refine lv_iinc (v := nI (d + 1)) (lv' := [(6, .int (nI (d + 1))), (5, .int (nI (v9 * 10))), (4, .int (nI (u9 * 1))), (0, .ref q), (1, .int (nI a)), (2, .int (nI x9)), (3, .int (nI 1))]) hx hb dX4_odds_106 hl (k := 6) rfl (z_inc d 1) (by decide) rfl (fun ls hl => ?_)
          refine lv_goto (tgt := 51) hx hb dX4_odds_109 (by decide) ?_
          exact ih51 (dc 0 - (d + 1)) (by omega) (d + 1) (u9 * 1) (v9 * 10) rfl (by omega) (by rw [hu9, Nat.zero_mul]) (by rw [hv9, pm_s]; rw [if_pos (by omega)]) ls (lv_sub hl [3, 4, 5, 6, 2, 1, 0] rfl)
      · skip
        refine lv_bipush (v := nI 10) hx hb dX4_odds_74 (by decide) ?_
        refine lv_iload_n hx hb dX4_odds_76 rfl (lv_at hl 2 rfl) ?_
        refine zi_sub hC dX4_odds_77 (by omega) ?_
        refine lv_goto (tgt := 82) hx hb dX4_odds_78 (by decide) ?_
        refine zi_mul hC dX4_odds_82 ?_
        refine lv_istore (lv' := [(4, .int (nI (u9 * (10 - x9)))), (0, .ref q), (1, .int (nI a)), (2, .int (nI x9)), (3, .int (nI 1)), (5, .int (nI v9)), (6, .int (nI d))]) hx hb dX4_odds_83 hl (by decide) rfl (fun ls hl => ?_)
        refine lv_iload hx hb dX4_odds_85 (lv_at hl 5 rfl) ?_
        refine lv_aload_n hx hb dX4_odds_87 rfl (lv_at hl 1 rfl) ?_
        refine lv_iload_n hx hb dX4_odds_88 rfl (lv_at hl 2 rfl) ?_
        refine lv_iload hx hb dX4_odds_89 (lv_at hl 6 rfl) ?_
        refine zRV (As := [.int (nI a), .int (nI d)]) (b := q) (rest := [.int (nI v9)]) hC (c_X4_needOf (l := l) (ha := by omega) (hd := by omega)) lM_X4_116 vM_X4_needOf (by decide) hK hP [0, 5] rfl ⟨rfl, rfl, rfl⟩ rfl hl.1 rfl (Nat.le_of_ble_eq_true rfl) dX4_odds_91 (by decide) ?_
        show W _ _ _ _ _ _ _ _ _ _ _ _ _ _ _ (F0 m 94 ls [.int (nI (nd (6 * a + d))), .int (nI v9)])
        refine z0_le (tgt := 102) hC dX4_odds_94 (by decide) (by omega) (fun c94 => ?_) (fun c94 => ?_)
        · skip
          refine lv_iconst (v := nI 1) hx hb dX4_odds_102 (by decide) ?_
          refine zi_mul hC dX4_odds_103 ?_
          refine lv_istore (lv' := [(5, .int (nI (v9 * 1))), (4, .int (nI (u9 * (10 - x9)))), (0, .ref q), (1, .int (nI a)), (2, .int (nI x9)), (3, .int (nI 1)), (6, .int (nI d))]) hx hb dX4_odds_104 hl (by decide) rfl (fun ls hl => ?_)
          refine lv_iinc (v := nI (d + 1)) (lv' := [(6, .int (nI (d + 1))), (5, .int (nI (v9 * 1))), (4, .int (nI (u9 * (10 - x9)))), (0, .ref q), (1, .int (nI a)), (2, .int (nI x9)), (3, .int (nI 1))]) hx hb dX4_odds_106 hl (k := 6) rfl (z_inc d 1) (by decide) rfl (fun ls hl => ?_)
          refine lv_goto (tgt := 51) hx hb dX4_odds_109 (by decide) ?_
          exact ih51 (dc 0 - (d + 1)) (by omega) (d + 1) (u9 * (10 - x9)) (v9 * 1) rfl (by omega) (by rw [hu9, Nat.zero_mul]) (by rw [hv9, pm_s]; rw [if_neg (by omega)]) ls (lv_sub hl [3, 4, 5, 6, 2, 1, 0] rfl)
        · skip
          refine lv_bipush (v := nI 10) hx hb dX4_odds_97 (by decide) ?_
          refine lv_goto (tgt := 103) hx hb dX4_odds_99 (by decide) ?_
          refine zi_mul hC dX4_odds_103 ?_
          refine lv_istore (lv' := [(5, .int (nI (v9 * 10))), (4, .int (nI (u9 * (10 - x9)))), (0, .ref q), (1, .int (nI a)), (2, .int (nI x9)), (3, .int (nI 1)), (6, .int (nI d))]) hx hb dX4_odds_104 hl (by decide) rfl (fun ls hl => ?_)
          refine lv_iinc (v := nI (d + 1)) (lv' := [(6, .int (nI (d + 1))), (5, .int (nI (v9 * 10))), (4, .int (nI (u9 * (10 - x9)))), (0, .ref q), (1, .int (nI a)), (2, .int (nI x9)), (3, .int (nI 1))]) hx hb dX4_odds_106 hl (k := 6) rfl (z_inc d 1) (by decide) rfl (fun ls hl => ?_)
          refine lv_goto (tgt := 51) hx hb dX4_odds_109 (by decide) ?_
          exact ih51 (dc 0 - (d + 1)) (by omega) (d + 1) (u9 * (10 - x9)) (v9 * 10) rfl (by omega) (by rw [hu9, Nat.zero_mul]) (by rw [hv9, pm_s]; rw [if_pos (by omega)]) ls (lv_sub hl [3, 4, 5, 6, 2, 1, 0] rfl)
  exact hL51 _ 0 0 1 rfl (by omega) (by rfl) (by rfl) ls (lv_sub hl [3, 4, 5, 6, 2, 1, 0] rfl)
set_option maxHeartbeats 1000000 in
set_option maxRecDepth 100000 in
theorem c_X4_odds_yes0 {l : Launch} {D : va_G} {cI cZ cB cR : ClassId} {q xtx ty xdc xdl xdb xar xac xwm xnd at9 sta sor val xnw xkp xta xtw td xhg : Nat} {tr : Int64} {fau : Int32} {acn dc nw ar nd : Nat → Nat} {W9 : Nat → Nat} {a x9 : Nat} {C9 : Bool} (hn : dc 0 ≤ 6) (hac : acn 0 ≤ 5) (hlv : ∀ j, j < 6 → nw j ≤ 40) (hlb : ∀ j, j < 6 → nw (12 + j) < 6) (har : ∀ i, i < 6 → ar i ≤ 5) (hnd : ∀ i, nd i ≤ 9) (hW : ∀ j, j < dc 0 → W9 j < dc 0 ∧ nw (12 + W9 j) = j ∧ ∀ i, i < W9 j → nw (12 + i) ≠ j) (ha : a < acn 0) (hx9 : x9 ≤ 10) (hC9 : C9 = true ↔ ∀ d, d < dc 0 → nd (6 * a + d) ≤ nw (W9 d) - 0 * ar (W9 d)) (hc9 : C9 = true)  : mR l yX4_odds cX4_odds 9 (some .int) 2 47 D cI cZ cB cR [oM q tr xtx ty xdc xdl xdb xar xac xwm xnd at9 sta sor val fau xnw xkp xta xtw td xhg, aI cI xac 2 acn, aI cI xdc 2 dc, aI cI xnw 729 nw, aI cI xar 12 ar, aI cI xnd 60 nd] [.ref q, .int (nI a), .int (nI x9), .int (nI 0)] (some (.int (nI (pm (fun d => if 0 < nd (6 * a + d) then 10 - x9 else 1) (dc 0) / Nat.gcd (pm (fun d => if 0 < nd (6 * a + d) then 10 - x9 else 1) (dc 0)) (pm (fun d => if 0 < nd (6 * a + d) then 10 else 1) (dc 0)))))) := by
  refine mR_of rfl (Nat.le_of_ble_eq_true rfl) ?_
  intro p e s m args below meth c hC hr hlk hK hP ls hl
  have hl : lv_has ls 9 [(0, .ref q), (1, .int (nI a)), (2, .int (nI x9)), (3, .int (nI 0))] := hl
  obtain ⟨hx, hb, hml, hown, hts⟩ := id hC
  refine lv_aload_n hx hb dX4_odds_0 rfl (lv_at hl 0 rfl) ?_
  refine lv_iload_n hx hb dX4_odds_1 rfl (lv_at hl 1 rfl) ?_
  refine zRV (As := [.int (nI a)]) (b := q) (rest := []) hC (c_X4_isAct (l := l) (g := true) (hn := by omega) (hg := ⟨fun _ => vp_in_nI (by omega) (by omega), fun _ => rfl⟩)) lM_X4_132 vM_X4_isAct (by decide) hK hP [0, 1] rfl ⟨rfl, rfl, rfl⟩ rfl hl.1 rfl (Nat.le_of_ble_eq_true rfl) dX4_odds_2 (by decide) ?_
  show W _ _ _ _ _ _ _ _ _ _ _ _ _ _ _ (F0 m 5 ls [.int (bI true)])
  refine zb_eq (tgt := 27) hC dX4_odds_5 (by decide) (fun c5 => by exfalso; cases c5) (fun c5 => ?_)
  refine lv_iload_n hx hb dX4_odds_8 rfl (lv_at hl 2 rfl) ?_
  refine lv_iconst (v := nI 0) hx hb dX4_odds_9 (by decide) ?_
  refine lv_bipush (v := nI 10) hx hb dX4_odds_10 (by decide) ?_
  refine zRS (As := [.int (nI x9), .int (nI 0), .int (nI 10)]) (rest := []) hC (c_X4_in (l := l) (g := true) (hg := ⟨fun _ => ⟨(nI_leI (by omega) (by omega)).mpr (by omega), (nI_leI (by omega) (by omega)).mpr (by omega)⟩, fun _ => rfl⟩)) lM_X4_57 sM_X4_in (by decide) hK rfl hl.1 rfl (Nat.le_of_ble_eq_true rfl) dX4_odds_12 (by decide) ?_
  show W _ _ _ _ _ _ _ _ _ _ _ _ _ _ _ (F0 m 15 ls [.int (bI true)])
  refine zb_eq (tgt := 27) hC dX4_odds_15 (by decide) (fun c15 => by exfalso; cases c15) (fun c15 => ?_)
  refine lv_iload_n hx hb dX4_odds_18 rfl (lv_at hl 3 rfl) ?_
  refine lv_iconst (v := nI 0) hx hb dX4_odds_19 (by decide) ?_
  refine lv_iconst (v := nI 1) hx hb dX4_odds_20 (by decide) ?_
  refine zRS (As := [.int (nI 0), .int (nI 0), .int (nI 1)]) (rest := []) hC (c_X4_in (l := l) (g := true) (hg := ⟨fun _ => ⟨(nI_leI (by omega) (by omega)).mpr (by omega), (nI_leI (by omega) (by omega)).mpr (by omega)⟩, fun _ => rfl⟩)) lM_X4_57 sM_X4_in (by decide) hK rfl hl.1 rfl (Nat.le_of_ble_eq_true rfl) dX4_odds_21 (by decide) ?_
  show W _ _ _ _ _ _ _ _ _ _ _ _ _ _ _ (F0 m 24 ls [.int (bI true)])
  refine zb_ne (tgt := 29) hC dX4_odds_24 (by decide) (fun c24 => ?_) (fun c24 => by exfalso; cases c24)
  refine lv_aload_n hx hb dX4_odds_29 rfl (lv_at hl 0 rfl) ?_
  refine lv_iload_n hx hb dX4_odds_30 rfl (lv_at hl 1 rfl) ?_
  refine lv_iconst (v := nI 0) hx hb dX4_odds_31 (by decide) ?_
  refine zRV (As := [.int (nI a), .int (nI 0)]) (b := q) (rest := []) hC (c_X4_can (l := l) (W9 := W9) (g := C9) (hn := hn) (hlv := hlv) (hlb := hlb) (har := har) (hnd := hnd) (hW := hW) (ha := by omega) (hm := by decide) (hg := hC9)) lM_X4_122 vM_X4_can (by decide) hK hP [0, 2, 3, 4, 5] rfl ⟨rfl, rfl, rfl⟩ rfl hl.1 rfl (Nat.le_of_ble_eq_true rfl) dX4_odds_32 (by decide) ?_
  show W _ _ _ _ _ _ _ _ _ _ _ _ _ _ _ (F0 m 35 ls [.int (bI C9)])
  refine zb_eq (tgt := 42) hC dX4_odds_35 (by decide) (fun c35 => by exfalso; exact absurd (hc9.symm.trans c35) (by decide)) (fun c35 => ?_)
  refine lv_iconst (v := nI 1) hx hb dX4_odds_38 (by decide) ?_
  refine lv_goto (tgt := 43) hx hb dX4_odds_39 (by decide) ?_
  refine lv_istore (lv' := [(4, .int (nI 1)), (0, .ref q), (1, .int (nI a)), (2, .int (nI x9)), (3, .int (nI 0))]) hx hb dX4_odds_43 hl (by decide) rfl (fun ls hl => ?_)
  refine lv_iconst (v := nI 1) hx hb dX4_odds_45 (by decide) ?_
  refine lv_istore (lv' := [(5, .int (nI 1)), (4, .int (nI 1)), (0, .ref q), (1, .int (nI a)), (2, .int (nI x9)), (3, .int (nI 0))]) hx hb dX4_odds_46 hl (by decide) rfl (fun ls hl => ?_)
  refine lv_iconst (v := nI 0) hx hb dX4_odds_48 (by decide) ?_
  refine lv_istore (lv' := [(6, .int (nI 0)), (5, .int (nI 1)), (4, .int (nI 1)), (0, .ref q), (1, .int (nI a)), (2, .int (nI x9)), (3, .int (nI 0))]) hx hb dX4_odds_49 hl (by decide) rfl (fun ls hl => ?_)
  have hL51 : ∀ (z51 : Nat) (d : Nat) (u9 : Nat) (v9 : Nat), dc 0 - d = z51 → (d ≤ dc 0) → (u9 = pm (fun d => if 0 < nd (6 * a + d) then 10 - x9 else 1) d) → (v9 = pm (fun d => if 0 < nd (6 * a + d) then 10 else 1) d) → ∀ ls : Array Slot, lv_has ls 9 [(0, .ref q), (1, .int (nI a)), (2, .int (nI x9)), (3, .int (nI 0)), (4, .int (nI u9)), (5, .int (nI v9)), (6, .int (nI d))] → W p l e { frames := 2, cells := 0, slots := 0, locals := 47 } s m args below meth c s.heap [] 0 0 (MQ below (qR (some (.int (nI (pm (fun d => if 0 < nd (6 * a + d) then 10 - x9 else 1) (dc 0) / Nat.gcd (pm (fun d => if 0 < nd (6 * a + d) then 10 - x9 else 1) (dc 0)) (pm (fun d => if 0 < nd (6 * a + d) then 10 else 1) (dc 0))))))) args s 0 0 (fun _ => False)) (F0 m 51 ls []) := by
    intro z51
    induction z51 using Nat.strongRecOn with
    | _ z51 ih51 =>
    intro d u9 v9 hz51 hd hu9 hv9 ls hl
    refine lv_iload hx hb dX4_odds_51 (lv_at hl 6 rfl) ?_
    refine lv_aload_n hx hb dX4_odds_53 rfl (lv_at hl 0 rfl) ?_
    refine z_get (k := 3) zcX4 hC hK hP 0 rfl (by decide) lF_X4_13 rfl dX4_odds_54 ?_
    refine lv_iconst (v := nI 0) hx hb dX4_odds_57 (by decide) ?_
    refine z_ald hC hK hP 2 rfl (by omega) (by decide) dX4_odds_58 ?_
    refine zc_ge (tgt := 112) hC dX4_odds_59 (by decide) (by omega) (by omega) (fun c59 => ?_) (fun c59 => ?_)
    · skip
      have e59 : d = dc 0 := by omega
      rw [e59] at hu9 hv9
      have b58 : 10 ^ dc 0 ≤ 1000000 := Nat.le_trans (Nat.pow_le_pow_right (by decide) hn) (by decide)
      have b60 : u9 ≤ 1000000 := by rw [hu9]; exact Nat.le_trans (pm_le (fun i => by split <;> omega) _) b58
      have b61 : v9 ≤ 1000000 := by rw [hv9]; exact Nat.le_trans (pm_le (fun i => by split <;> omega) _) b58
      have b62 : 0 < v9 := by rw [hv9]; exact pm_pos (fun i => by split <;> omega) _
      refine lv_iload hx hb dX4_odds_112 (lv_at hl 4 rfl) ?_
      refine lv_istore (lv' := [(6, .int (nI u9)), (0, .ref q), (1, .int (nI a)), (2, .int (nI x9)), (3, .int (nI 0)), (4, .int (nI u9)), (5, .int (nI v9))]) hx hb dX4_odds_114 hl (by decide) rfl (fun ls hl => ?_)
      refine lv_iload hx hb dX4_odds_116 (lv_at hl 6 rfl) ?_
      refine lv_istore (lv' := [(7, .int (nI v9)), (6, .int (nI u9)), (0, .ref q), (1, .int (nI a)), (2, .int (nI x9)), (3, .int (nI 0)), (4, .int (nI u9)), (5, .int (nI v9))]) hx hb dX4_odds_118 hl (by decide) rfl (fun ls hl => ?_)
      have hL120 : ∀ (z120 : Nat) (m9 : Nat) (n9 : Nat), n9 = z120 → (Nat.gcd m9 n9 = Nat.gcd u9 v9) → (m9 ≤ 1000000) → (n9 ≤ 1000000) → ∀ ls : Array Slot, lv_has ls 9 [(0, .ref q), (1, .int (nI a)), (2, .int (nI x9)), (3, .int (nI 0)), (4, .int (nI u9)), (5, .int (nI v9)), (6, .int (nI m9)), (7, .int (nI n9))] → W p l e { frames := 2, cells := 0, slots := 0, locals := 47 } s m args below meth c s.heap [] 0 0 (MQ below (qR (some (.int (nI (pm (fun d => if 0 < nd (6 * a + d) then 10 - x9 else 1) (dc 0) / Nat.gcd (pm (fun d => if 0 < nd (6 * a + d) then 10 - x9 else 1) (dc 0)) (pm (fun d => if 0 < nd (6 * a + d) then 10 else 1) (dc 0))))))) args s 0 0 (fun _ => False)) (F0 m 120 ls []) := by
        intro z120
        induction z120 using Nat.strongRecOn with
        | _ z120 ih120 =>
        intro m9 n9 hz120 hg9 hm9 hn9 ls hl
        refine lv_iload hx hb dX4_odds_120 (lv_at hl 7 rfl) ?_
        refine z0_eq (tgt := 143) hC dX4_odds_122 (by decide) (by omega) (fun c122 => ?_) (fun c122 => ?_)
        · skip
          have e122 : m9 = Nat.gcd u9 v9 := by rw [← hg9, show n9 = 0 by omega, Nat.gcd_zero_right]
          have b122 : 0 < m9 := by rw [e122]; exact Nat.gcd_pos_of_pos_right _ b62
          refine lv_iload_n hx hb dX4_odds_143 rfl (lv_at hl 3 rfl) ?_
          refine z0_ne (tgt := 155) hC dX4_odds_144 (by decide) (by omega) (fun c144 => by exfalso; omega) (fun c144 => ?_)
          refine lv_iload hx hb dX4_odds_147 (lv_at hl 4 rfl) ?_
          refine lv_iload hx hb dX4_odds_149 (lv_at hl 6 rfl) ?_
          refine zi_div hC dX4_odds_151 (by omega) (by omega) (by omega) ?_
          refine lv_goto (tgt := 160) hx hb dX4_odds_152 (by decide) ?_
          exact zr_i hC hr hlk (by rw [e122, hu9, hv9]) dX4_odds_160
        · skip
          have b125 := Nat.mod_lt m9 (show 0 < n9 by omega)
          refine lv_iload hx hb dX4_odds_125 (lv_at hl 6 rfl) ?_
          refine lv_iload hx hb dX4_odds_127 (lv_at hl 7 rfl) ?_
          refine zi_rem hC dX4_odds_129 (by omega) (by omega) (by omega) ?_
          refine lv_istore (lv' := [(8, .int (nI (m9 % n9))), (0, .ref q), (1, .int (nI a)), (2, .int (nI x9)), (3, .int (nI 0)), (4, .int (nI u9)), (5, .int (nI v9)), (6, .int (nI m9)), (7, .int (nI n9))]) hx hb dX4_odds_130 hl (by decide) rfl (fun ls hl => ?_)
          refine lv_iload hx hb dX4_odds_132 (lv_at hl 8 rfl) ?_
          refine lv_istore (lv' := [(6, .int (nI n9)), (8, .int (nI (m9 % n9))), (0, .ref q), (1, .int (nI a)), (2, .int (nI x9)), (3, .int (nI 0)), (4, .int (nI u9)), (5, .int (nI v9)), (7, .int (nI n9))]) hx hb dX4_odds_134 hl (by decide) rfl (fun ls hl => ?_)
          refine lv_iload hx hb dX4_odds_136 (lv_at hl 1 rfl) ?_
          refine lv_istore (lv' := [(7, .int (nI (m9 % n9))), (6, .int (nI n9)), (8, .int (nI (m9 % n9))), (0, .ref q), (1, .int (nI a)), (2, .int (nI x9)), (3, .int (nI 0)), (4, .int (nI u9)), (5, .int (nI v9))]) hx hb dX4_odds_138 hl (by decide) rfl (fun ls hl => ?_)
          refine lv_goto (tgt := 120) hx hb dX4_odds_140 (by decide) ?_
          exact ih120 (m9 % n9) (by omega) n9 (m9 % n9) rfl (by rw [← hg9, Nat.gcd_comm m9 n9, Nat.gcd_rec n9 m9]; exact Nat.gcd_comm _ _) (by omega) (by omega) ls (lv_sub hl [3, 4, 5, 6, 7, 8, 1, 0] rfl)
      exact hL120 _ u9 v9 rfl (by rfl) (by omega) (by omega) ls (lv_sub hl [2, 3, 4, 5, 6, 7, 1, 0] rfl)
    · skip
      refine lv_iload hx hb dX4_odds_62 (lv_at hl 4 rfl) ?_
      refine lv_aload_n hx hb dX4_odds_64 rfl (lv_at hl 0 rfl) ?_
      refine lv_iload_n hx hb dX4_odds_65 rfl (lv_at hl 1 rfl) ?_
      refine lv_iload hx hb dX4_odds_66 (lv_at hl 6 rfl) ?_
      have b68 := hnd (6 * a + d)
      refine zRV (As := [.int (nI a), .int (nI d)]) (b := q) (rest := [.int (nI u9)]) hC (c_X4_needOf (l := l) (ha := by omega) (hd := by omega)) lM_X4_116 vM_X4_needOf (by decide) hK hP [0, 5] rfl ⟨rfl, rfl, rfl⟩ rfl hl.1 rfl (Nat.le_of_ble_eq_true rfl) dX4_odds_68 (by decide) ?_
      show W _ _ _ _ _ _ _ _ _ _ _ _ _ _ _ (F0 m 71 ls [.int (nI (nd (6 * a + d))), .int (nI u9)])
      refine z0_le (tgt := 81) hC dX4_odds_71 (by decide) (by omega) (fun c71 => ?_) (fun c71 => ?_)
      · skip
        refine lv_iconst (v := nI 1) hx hb dX4_odds_81 (by decide) ?_
        refine zi_mul hC dX4_odds_82 ?_
        refine lv_istore (lv' := [(4, .int (nI (u9 * 1))), (0, .ref q), (1, .int (nI a)), (2, .int (nI x9)), (3, .int (nI 0)), (5, .int (nI v9)), (6, .int (nI d))]) hx hb dX4_odds_83 hl (by decide) rfl (fun ls hl => ?_)
        refine lv_iload hx hb dX4_odds_85 (lv_at hl 5 rfl) ?_
        refine lv_aload_n hx hb dX4_odds_87 rfl (lv_at hl 1 rfl) ?_
        refine lv_iload_n hx hb dX4_odds_88 rfl (lv_at hl 2 rfl) ?_
        refine lv_iload hx hb dX4_odds_89 (lv_at hl 6 rfl) ?_
        refine zRV (As := [.int (nI a), .int (nI d)]) (b := q) (rest := [.int (nI v9)]) hC (c_X4_needOf (l := l) (ha := by omega) (hd := by omega)) lM_X4_116 vM_X4_needOf (by decide) hK hP [0, 5] rfl ⟨rfl, rfl, rfl⟩ rfl hl.1 rfl (Nat.le_of_ble_eq_true rfl) dX4_odds_91 (by decide) ?_
        show W _ _ _ _ _ _ _ _ _ _ _ _ _ _ _ (F0 m 94 ls [.int (nI (nd (6 * a + d))), .int (nI v9)])
        refine z0_le (tgt := 102) hC dX4_odds_94 (by decide) (by omega) (fun c94 => ?_) (fun c94 => ?_)
        · skip
          refine lv_iconst (v := nI 1) hx hb dX4_odds_102 (by decide) ?_
          refine zi_mul hC dX4_odds_103 ?_
          refine lv_istore (lv' := [(5, .int (nI (v9 * 1))), (4, .int (nI (u9 * 1))), (0, .ref q), (1, .int (nI a)), (2, .int (nI x9)), (3, .int (nI 0)), (6, .int (nI d))]) hx hb dX4_odds_104 hl (by decide) rfl (fun ls hl => ?_)
          refine lv_iinc (v := nI (d + 1)) (lv' := [(6, .int (nI (d + 1))), (5, .int (nI (v9 * 1))), (4, .int (nI (u9 * 1))), (0, .ref q), (1, .int (nI a)), (2, .int (nI x9)), (3, .int (nI 0))]) hx hb dX4_odds_106 hl (k := 6) rfl (z_inc d 1) (by decide) rfl (fun ls hl => ?_)
          refine lv_goto (tgt := 51) hx hb dX4_odds_109 (by decide) ?_
          exact ih51 (dc 0 - (d + 1)) (by omega) (d + 1) (u9 * 1) (v9 * 1) rfl (by omega) (by rw [hu9, pm_s]; rw [if_neg (by omega)]) (by rw [hv9, pm_s]; rw [if_neg (by omega)]) ls (lv_sub hl [3, 4, 5, 6, 2, 1, 0] rfl)
        · skip
          refine lv_bipush (v := nI 10) hx hb dX4_odds_97 (by decide) ?_
          refine lv_goto (tgt := 103) hx hb dX4_odds_99 (by decide) ?_
          refine zi_mul hC dX4_odds_103 ?_
          refine lv_istore (lv' := [(5, .int (nI (v9 * 10))), (4, .int (nI (u9 * 1))), (0, .ref q), (1, .int (nI a)), (2, .int (nI x9)), (3, .int (nI 0)), (6, .int (nI d))]) hx hb dX4_odds_104 hl (by decide) rfl (fun ls hl => ?_)
          refine lv_iinc (v := nI (d + 1)) (lv' := [(6, .int (nI (d + 1))), (5, .int (nI (v9 * 10))), (4, .int (nI (u9 * 1))), (0, .ref q), (1, .int (nI a)), (2, .int (nI x9)), (3, .int (nI 0))]) hx hb dX4_odds_106 hl (k := 6) rfl (z_inc d 1) (by decide) rfl (fun ls hl => ?_)
          refine lv_goto (tgt := 51) hx hb dX4_odds_109 (by decide) ?_
          exact ih51 (dc 0 - (d + 1)) (by omega) (d + 1) (u9 * 1) (v9 * 10) rfl (by omega) (by rw [hu9, pm_s]; rw [if_neg (by omega)]) (by rw [hv9, pm_s]; rw [if_pos (by omega)]) ls (lv_sub hl [3, 4, 5, 6, 2, 1, 0] rfl)
      · skip
        refine lv_bipush (v := nI 10) hx hb dX4_odds_74 (by decide) ?_
        refine lv_iload_n hx hb dX4_odds_76 rfl (lv_at hl 2 rfl) ?_
        refine zi_sub hC dX4_odds_77 (by omega) ?_
        refine lv_goto (tgt := 82) hx hb dX4_odds_78 (by decide) ?_
        refine zi_mul hC dX4_odds_82 ?_
        refine lv_istore (lv' := [(4, .int (nI (u9 * (10 - x9)))), (0, .ref q), (1, .int (nI a)), (2, .int (nI x9)), (3, .int (nI 0)), (5, .int (nI v9)), (6, .int (nI d))]) hx hb dX4_odds_83 hl (by decide) rfl (fun ls hl => ?_)
        refine lv_iload hx hb dX4_odds_85 (lv_at hl 5 rfl) ?_
        refine lv_aload_n hx hb dX4_odds_87 rfl (lv_at hl 1 rfl) ?_
        refine lv_iload_n hx hb dX4_odds_88 rfl (lv_at hl 2 rfl) ?_
        refine lv_iload hx hb dX4_odds_89 (lv_at hl 6 rfl) ?_
        refine zRV (As := [.int (nI a), .int (nI d)]) (b := q) (rest := [.int (nI v9)]) hC (c_X4_needOf (l := l) (ha := by omega) (hd := by omega)) lM_X4_116 vM_X4_needOf (by decide) hK hP [0, 5] rfl ⟨rfl, rfl, rfl⟩ rfl hl.1 rfl (Nat.le_of_ble_eq_true rfl) dX4_odds_91 (by decide) ?_
        show W _ _ _ _ _ _ _ _ _ _ _ _ _ _ _ (F0 m 94 ls [.int (nI (nd (6 * a + d))), .int (nI v9)])
        refine z0_le (tgt := 102) hC dX4_odds_94 (by decide) (by omega) (fun c94 => ?_) (fun c94 => ?_)
        · skip
          refine lv_iconst (v := nI 1) hx hb dX4_odds_102 (by decide) ?_
          refine zi_mul hC dX4_odds_103 ?_
          refine lv_istore (lv' := [(5, .int (nI (v9 * 1))), (4, .int (nI (u9 * (10 - x9)))), (0, .ref q), (1, .int (nI a)), (2, .int (nI x9)), (3, .int (nI 0)), (6, .int (nI d))]) hx hb dX4_odds_104 hl (by decide) rfl (fun ls hl => ?_)
          refine lv_iinc (v := nI (d + 1)) (lv' := [(6, .int (nI (d + 1))), (5, .int (nI (v9 * 1))), (4, .int (nI (u9 * (10 - x9)))), (0, .ref q), (1, .int (nI a)), (2, .int (nI x9)), (3, .int (nI 0))]) hx hb dX4_odds_106 hl (k := 6) rfl (z_inc d 1) (by decide) rfl (fun ls hl => ?_)
          refine lv_goto (tgt := 51) hx hb dX4_odds_109 (by decide) ?_
          exact ih51 (dc 0 - (d + 1)) (by omega) (d + 1) (u9 * (10 - x9)) (v9 * 1) rfl (by omega) (by rw [hu9, pm_s]; rw [if_pos (by omega)]) (by rw [hv9, pm_s]; rw [if_neg (by omega)]) ls (lv_sub hl [3, 4, 5, 6, 2, 1, 0] rfl)
        · skip
          refine lv_bipush (v := nI 10) hx hb dX4_odds_97 (by decide) ?_
          refine lv_goto (tgt := 103) hx hb dX4_odds_99 (by decide) ?_
          refine zi_mul hC dX4_odds_103 ?_
          refine lv_istore (lv' := [(5, .int (nI (v9 * 10))), (4, .int (nI (u9 * (10 - x9)))), (0, .ref q), (1, .int (nI a)), (2, .int (nI x9)), (3, .int (nI 0)), (6, .int (nI d))]) hx hb dX4_odds_104 hl (by decide) rfl (fun ls hl => ?_)
          refine lv_iinc (v := nI (d + 1)) (lv' := [(6, .int (nI (d + 1))), (5, .int (nI (v9 * 10))), (4, .int (nI (u9 * (10 - x9)))), (0, .ref q), (1, .int (nI a)), (2, .int (nI x9)), (3, .int (nI 0))]) hx hb dX4_odds_106 hl (k := 6) rfl (z_inc d 1) (by decide) rfl (fun ls hl => ?_)
          refine lv_goto (tgt := 51) hx hb dX4_odds_109 (by decide) ?_
          exact ih51 (dc 0 - (d + 1)) (by omega) (d + 1) (u9 * (10 - x9)) (v9 * 10) rfl (by omega) (by rw [hu9, pm_s]; rw [if_pos (by omega)]) (by rw [hv9, pm_s]; rw [if_pos (by omega)]) ls (lv_sub hl [3, 4, 5, 6, 2, 1, 0] rfl)
  exact hL51 _ 0 1 1 rfl (by omega) (by rfl) (by rfl) ls (lv_sub hl [3, 4, 5, 6, 2, 1, 0] rfl)
set_option maxHeartbeats 1000000 in
set_option maxRecDepth 100000 in
theorem c_X4_odds_yes1 {l : Launch} {D : va_G} {cI cZ cB cR : ClassId} {q xtx ty xdc xdl xdb xar xac xwm xnd at9 sta sor val xnw xkp xta xtw td xhg : Nat} {tr : Int64} {fau : Int32} {acn dc nw ar nd : Nat → Nat} {W9 : Nat → Nat} {a x9 : Nat} {C9 : Bool} (hn : dc 0 ≤ 6) (hac : acn 0 ≤ 5) (hlv : ∀ j, j < 6 → nw j ≤ 40) (hlb : ∀ j, j < 6 → nw (12 + j) < 6) (har : ∀ i, i < 6 → ar i ≤ 5) (hnd : ∀ i, nd i ≤ 9) (hW : ∀ j, j < dc 0 → W9 j < dc 0 ∧ nw (12 + W9 j) = j ∧ ∀ i, i < W9 j → nw (12 + i) ≠ j) (ha : a < acn 0) (hx9 : x9 ≤ 10) (hC9 : C9 = true ↔ ∀ d, d < dc 0 → nd (6 * a + d) ≤ nw (W9 d) - 0 * ar (W9 d)) (hc9 : C9 = true)  : mR l yX4_odds cX4_odds 9 (some .int) 2 47 D cI cZ cB cR [oM q tr xtx ty xdc xdl xdb xar xac xwm xnd at9 sta sor val fau xnw xkp xta xtw td xhg, aI cI xac 2 acn, aI cI xdc 2 dc, aI cI xnw 729 nw, aI cI xar 12 ar, aI cI xnd 60 nd] [.ref q, .int (nI a), .int (nI x9), .int (nI 1)] (some (.int (nI (pm (fun d => if 0 < nd (6 * a + d) then 10 else 1) (dc 0) / Nat.gcd (pm (fun d => if 0 < nd (6 * a + d) then 10 - x9 else 1) (dc 0)) (pm (fun d => if 0 < nd (6 * a + d) then 10 else 1) (dc 0)))))) := by
  refine mR_of rfl (Nat.le_of_ble_eq_true rfl) ?_
  intro p e s m args below meth c hC hr hlk hK hP ls hl
  have hl : lv_has ls 9 [(0, .ref q), (1, .int (nI a)), (2, .int (nI x9)), (3, .int (nI 1))] := hl
  obtain ⟨hx, hb, hml, hown, hts⟩ := id hC
  refine lv_aload_n hx hb dX4_odds_0 rfl (lv_at hl 0 rfl) ?_
  refine lv_iload_n hx hb dX4_odds_1 rfl (lv_at hl 1 rfl) ?_
  refine zRV (As := [.int (nI a)]) (b := q) (rest := []) hC (c_X4_isAct (l := l) (g := true) (hn := by omega) (hg := ⟨fun _ => vp_in_nI (by omega) (by omega), fun _ => rfl⟩)) lM_X4_132 vM_X4_isAct (by decide) hK hP [0, 1] rfl ⟨rfl, rfl, rfl⟩ rfl hl.1 rfl (Nat.le_of_ble_eq_true rfl) dX4_odds_2 (by decide) ?_
  show W _ _ _ _ _ _ _ _ _ _ _ _ _ _ _ (F0 m 5 ls [.int (bI true)])
  refine zb_eq (tgt := 27) hC dX4_odds_5 (by decide) (fun c5 => by exfalso; cases c5) (fun c5 => ?_)
  refine lv_iload_n hx hb dX4_odds_8 rfl (lv_at hl 2 rfl) ?_
  refine lv_iconst (v := nI 0) hx hb dX4_odds_9 (by decide) ?_
  refine lv_bipush (v := nI 10) hx hb dX4_odds_10 (by decide) ?_
  refine zRS (As := [.int (nI x9), .int (nI 0), .int (nI 10)]) (rest := []) hC (c_X4_in (l := l) (g := true) (hg := ⟨fun _ => ⟨(nI_leI (by omega) (by omega)).mpr (by omega), (nI_leI (by omega) (by omega)).mpr (by omega)⟩, fun _ => rfl⟩)) lM_X4_57 sM_X4_in (by decide) hK rfl hl.1 rfl (Nat.le_of_ble_eq_true rfl) dX4_odds_12 (by decide) ?_
  show W _ _ _ _ _ _ _ _ _ _ _ _ _ _ _ (F0 m 15 ls [.int (bI true)])
  refine zb_eq (tgt := 27) hC dX4_odds_15 (by decide) (fun c15 => by exfalso; cases c15) (fun c15 => ?_)
  refine lv_iload_n hx hb dX4_odds_18 rfl (lv_at hl 3 rfl) ?_
  refine lv_iconst (v := nI 0) hx hb dX4_odds_19 (by decide) ?_
  refine lv_iconst (v := nI 1) hx hb dX4_odds_20 (by decide) ?_
  refine zRS (As := [.int (nI 1), .int (nI 0), .int (nI 1)]) (rest := []) hC (c_X4_in (l := l) (g := true) (hg := ⟨fun _ => ⟨(nI_leI (by omega) (by omega)).mpr (by omega), (nI_leI (by omega) (by omega)).mpr (by omega)⟩, fun _ => rfl⟩)) lM_X4_57 sM_X4_in (by decide) hK rfl hl.1 rfl (Nat.le_of_ble_eq_true rfl) dX4_odds_21 (by decide) ?_
  show W _ _ _ _ _ _ _ _ _ _ _ _ _ _ _ (F0 m 24 ls [.int (bI true)])
  refine zb_ne (tgt := 29) hC dX4_odds_24 (by decide) (fun c24 => ?_) (fun c24 => by exfalso; cases c24)
  refine lv_aload_n hx hb dX4_odds_29 rfl (lv_at hl 0 rfl) ?_
  refine lv_iload_n hx hb dX4_odds_30 rfl (lv_at hl 1 rfl) ?_
  refine lv_iconst (v := nI 0) hx hb dX4_odds_31 (by decide) ?_
  refine zRV (As := [.int (nI a), .int (nI 0)]) (b := q) (rest := []) hC (c_X4_can (l := l) (W9 := W9) (g := C9) (hn := hn) (hlv := hlv) (hlb := hlb) (har := har) (hnd := hnd) (hW := hW) (ha := by omega) (hm := by decide) (hg := hC9)) lM_X4_122 vM_X4_can (by decide) hK hP [0, 2, 3, 4, 5] rfl ⟨rfl, rfl, rfl⟩ rfl hl.1 rfl (Nat.le_of_ble_eq_true rfl) dX4_odds_32 (by decide) ?_
  show W _ _ _ _ _ _ _ _ _ _ _ _ _ _ _ (F0 m 35 ls [.int (bI C9)])
  refine zb_eq (tgt := 42) hC dX4_odds_35 (by decide) (fun c35 => by exfalso; exact absurd (hc9.symm.trans c35) (by decide)) (fun c35 => ?_)
  refine lv_iconst (v := nI 1) hx hb dX4_odds_38 (by decide) ?_
  refine lv_goto (tgt := 43) hx hb dX4_odds_39 (by decide) ?_
  refine lv_istore (lv' := [(4, .int (nI 1)), (0, .ref q), (1, .int (nI a)), (2, .int (nI x9)), (3, .int (nI 1))]) hx hb dX4_odds_43 hl (by decide) rfl (fun ls hl => ?_)
  refine lv_iconst (v := nI 1) hx hb dX4_odds_45 (by decide) ?_
  refine lv_istore (lv' := [(5, .int (nI 1)), (4, .int (nI 1)), (0, .ref q), (1, .int (nI a)), (2, .int (nI x9)), (3, .int (nI 1))]) hx hb dX4_odds_46 hl (by decide) rfl (fun ls hl => ?_)
  refine lv_iconst (v := nI 0) hx hb dX4_odds_48 (by decide) ?_
  refine lv_istore (lv' := [(6, .int (nI 0)), (5, .int (nI 1)), (4, .int (nI 1)), (0, .ref q), (1, .int (nI a)), (2, .int (nI x9)), (3, .int (nI 1))]) hx hb dX4_odds_49 hl (by decide) rfl (fun ls hl => ?_)
  have hL51 : ∀ (z51 : Nat) (d : Nat) (u9 : Nat) (v9 : Nat), dc 0 - d = z51 → (d ≤ dc 0) → (u9 = pm (fun d => if 0 < nd (6 * a + d) then 10 - x9 else 1) d) → (v9 = pm (fun d => if 0 < nd (6 * a + d) then 10 else 1) d) → ∀ ls : Array Slot, lv_has ls 9 [(0, .ref q), (1, .int (nI a)), (2, .int (nI x9)), (3, .int (nI 1)), (4, .int (nI u9)), (5, .int (nI v9)), (6, .int (nI d))] → W p l e { frames := 2, cells := 0, slots := 0, locals := 47 } s m args below meth c s.heap [] 0 0 (MQ below (qR (some (.int (nI (pm (fun d => if 0 < nd (6 * a + d) then 10 else 1) (dc 0) / Nat.gcd (pm (fun d => if 0 < nd (6 * a + d) then 10 - x9 else 1) (dc 0)) (pm (fun d => if 0 < nd (6 * a + d) then 10 else 1) (dc 0))))))) args s 0 0 (fun _ => False)) (F0 m 51 ls []) := by
    intro z51
    induction z51 using Nat.strongRecOn with
    | _ z51 ih51 =>
    intro d u9 v9 hz51 hd hu9 hv9 ls hl
    refine lv_iload hx hb dX4_odds_51 (lv_at hl 6 rfl) ?_
    refine lv_aload_n hx hb dX4_odds_53 rfl (lv_at hl 0 rfl) ?_
    refine z_get (k := 3) zcX4 hC hK hP 0 rfl (by decide) lF_X4_13 rfl dX4_odds_54 ?_
    refine lv_iconst (v := nI 0) hx hb dX4_odds_57 (by decide) ?_
    refine z_ald hC hK hP 2 rfl (by omega) (by decide) dX4_odds_58 ?_
    refine zc_ge (tgt := 112) hC dX4_odds_59 (by decide) (by omega) (by omega) (fun c59 => ?_) (fun c59 => ?_)
    · skip
      have e59 : d = dc 0 := by omega
      rw [e59] at hu9 hv9
      have b58 : 10 ^ dc 0 ≤ 1000000 := Nat.le_trans (Nat.pow_le_pow_right (by decide) hn) (by decide)
      have b60 : u9 ≤ 1000000 := by rw [hu9]; exact Nat.le_trans (pm_le (fun i => by split <;> omega) _) b58
      have b61 : v9 ≤ 1000000 := by rw [hv9]; exact Nat.le_trans (pm_le (fun i => by split <;> omega) _) b58
      have b62 : 0 < v9 := by rw [hv9]; exact pm_pos (fun i => by split <;> omega) _
      refine lv_iload hx hb dX4_odds_112 (lv_at hl 4 rfl) ?_
      refine lv_istore (lv' := [(6, .int (nI u9)), (0, .ref q), (1, .int (nI a)), (2, .int (nI x9)), (3, .int (nI 1)), (4, .int (nI u9)), (5, .int (nI v9))]) hx hb dX4_odds_114 hl (by decide) rfl (fun ls hl => ?_)
      refine lv_iload hx hb dX4_odds_116 (lv_at hl 6 rfl) ?_
      refine lv_istore (lv' := [(7, .int (nI v9)), (6, .int (nI u9)), (0, .ref q), (1, .int (nI a)), (2, .int (nI x9)), (3, .int (nI 1)), (4, .int (nI u9)), (5, .int (nI v9))]) hx hb dX4_odds_118 hl (by decide) rfl (fun ls hl => ?_)
      have hL120 : ∀ (z120 : Nat) (m9 : Nat) (n9 : Nat), n9 = z120 → (Nat.gcd m9 n9 = Nat.gcd u9 v9) → (m9 ≤ 1000000) → (n9 ≤ 1000000) → ∀ ls : Array Slot, lv_has ls 9 [(0, .ref q), (1, .int (nI a)), (2, .int (nI x9)), (3, .int (nI 1)), (4, .int (nI u9)), (5, .int (nI v9)), (6, .int (nI m9)), (7, .int (nI n9))] → W p l e { frames := 2, cells := 0, slots := 0, locals := 47 } s m args below meth c s.heap [] 0 0 (MQ below (qR (some (.int (nI (pm (fun d => if 0 < nd (6 * a + d) then 10 else 1) (dc 0) / Nat.gcd (pm (fun d => if 0 < nd (6 * a + d) then 10 - x9 else 1) (dc 0)) (pm (fun d => if 0 < nd (6 * a + d) then 10 else 1) (dc 0))))))) args s 0 0 (fun _ => False)) (F0 m 120 ls []) := by
        intro z120
        induction z120 using Nat.strongRecOn with
        | _ z120 ih120 =>
        intro m9 n9 hz120 hg9 hm9 hn9 ls hl
        refine lv_iload hx hb dX4_odds_120 (lv_at hl 7 rfl) ?_
        refine z0_eq (tgt := 143) hC dX4_odds_122 (by decide) (by omega) (fun c122 => ?_) (fun c122 => ?_)
        · skip
          have e122 : m9 = Nat.gcd u9 v9 := by rw [← hg9, show n9 = 0 by omega, Nat.gcd_zero_right]
          have b122 : 0 < m9 := by rw [e122]; exact Nat.gcd_pos_of_pos_right _ b62
          refine lv_iload_n hx hb dX4_odds_143 rfl (lv_at hl 3 rfl) ?_
          refine z0_ne (tgt := 155) hC dX4_odds_144 (by decide) (by omega) (fun c144 => ?_) (fun c144 => by exfalso; omega)
          refine lv_iload hx hb dX4_odds_155 (lv_at hl 5 rfl) ?_
          refine lv_iload hx hb dX4_odds_157 (lv_at hl 6 rfl) ?_
          refine zi_div hC dX4_odds_159 (by omega) (by omega) (by omega) ?_
          exact zr_i hC hr hlk (by rw [e122, hu9, hv9]) dX4_odds_160
        · skip
          have b125 := Nat.mod_lt m9 (show 0 < n9 by omega)
          refine lv_iload hx hb dX4_odds_125 (lv_at hl 6 rfl) ?_
          refine lv_iload hx hb dX4_odds_127 (lv_at hl 7 rfl) ?_
          refine zi_rem hC dX4_odds_129 (by omega) (by omega) (by omega) ?_
          refine lv_istore (lv' := [(8, .int (nI (m9 % n9))), (0, .ref q), (1, .int (nI a)), (2, .int (nI x9)), (3, .int (nI 1)), (4, .int (nI u9)), (5, .int (nI v9)), (6, .int (nI m9)), (7, .int (nI n9))]) hx hb dX4_odds_130 hl (by decide) rfl (fun ls hl => ?_)
          refine lv_iload hx hb dX4_odds_132 (lv_at hl 8 rfl) ?_
          refine lv_istore (lv' := [(6, .int (nI n9)), (8, .int (nI (m9 % n9))), (0, .ref q), (1, .int (nI a)), (2, .int (nI x9)), (3, .int (nI 1)), (4, .int (nI u9)), (5, .int (nI v9)), (7, .int (nI n9))]) hx hb dX4_odds_134 hl (by decide) rfl (fun ls hl => ?_)
          refine lv_iload hx hb dX4_odds_136 (lv_at hl 1 rfl) ?_
          refine lv_istore (lv' := [(7, .int (nI (m9 % n9))), (6, .int (nI n9)), (8, .int (nI (m9 % n9))), (0, .ref q), (1, .int (nI a)), (2, .int (nI x9)), (3, .int (nI 1)), (4, .int (nI u9)), (5, .int (nI v9))]) hx hb dX4_odds_138 hl (by decide) rfl (fun ls hl => ?_)
          refine lv_goto (tgt := 120) hx hb dX4_odds_140 (by decide) ?_
          exact ih120 (m9 % n9) (by omega) n9 (m9 % n9) rfl (by rw [← hg9, Nat.gcd_comm m9 n9, Nat.gcd_rec n9 m9]; exact Nat.gcd_comm _ _) (by omega) (by omega) ls (lv_sub hl [3, 4, 5, 6, 7, 8, 1, 0] rfl)
      exact hL120 _ u9 v9 rfl (by rfl) (by omega) (by omega) ls (lv_sub hl [2, 3, 4, 5, 6, 7, 1, 0] rfl)
    · skip
      refine lv_iload hx hb dX4_odds_62 (lv_at hl 4 rfl) ?_
      refine lv_aload_n hx hb dX4_odds_64 rfl (lv_at hl 0 rfl) ?_
      refine lv_iload_n hx hb dX4_odds_65 rfl (lv_at hl 1 rfl) ?_
      refine lv_iload hx hb dX4_odds_66 (lv_at hl 6 rfl) ?_
      have b68 := hnd (6 * a + d)
      refine zRV (As := [.int (nI a), .int (nI d)]) (b := q) (rest := [.int (nI u9)]) hC (c_X4_needOf (l := l) (ha := by omega) (hd := by omega)) lM_X4_116 vM_X4_needOf (by decide) hK hP [0, 5] rfl ⟨rfl, rfl, rfl⟩ rfl hl.1 rfl (Nat.le_of_ble_eq_true rfl) dX4_odds_68 (by decide) ?_
      show W _ _ _ _ _ _ _ _ _ _ _ _ _ _ _ (F0 m 71 ls [.int (nI (nd (6 * a + d))), .int (nI u9)])
      refine z0_le (tgt := 81) hC dX4_odds_71 (by decide) (by omega) (fun c71 => ?_) (fun c71 => ?_)
      · skip
        refine lv_iconst (v := nI 1) hx hb dX4_odds_81 (by decide) ?_
        refine zi_mul hC dX4_odds_82 ?_
        refine lv_istore (lv' := [(4, .int (nI (u9 * 1))), (0, .ref q), (1, .int (nI a)), (2, .int (nI x9)), (3, .int (nI 1)), (5, .int (nI v9)), (6, .int (nI d))]) hx hb dX4_odds_83 hl (by decide) rfl (fun ls hl => ?_)
        refine lv_iload hx hb dX4_odds_85 (lv_at hl 5 rfl) ?_
        refine lv_aload_n hx hb dX4_odds_87 rfl (lv_at hl 1 rfl) ?_
        refine lv_iload_n hx hb dX4_odds_88 rfl (lv_at hl 2 rfl) ?_
        refine lv_iload hx hb dX4_odds_89 (lv_at hl 6 rfl) ?_
        refine zRV (As := [.int (nI a), .int (nI d)]) (b := q) (rest := [.int (nI v9)]) hC (c_X4_needOf (l := l) (ha := by omega) (hd := by omega)) lM_X4_116 vM_X4_needOf (by decide) hK hP [0, 5] rfl ⟨rfl, rfl, rfl⟩ rfl hl.1 rfl (Nat.le_of_ble_eq_true rfl) dX4_odds_91 (by decide) ?_
        show W _ _ _ _ _ _ _ _ _ _ _ _ _ _ _ (F0 m 94 ls [.int (nI (nd (6 * a + d))), .int (nI v9)])
        refine z0_le (tgt := 102) hC dX4_odds_94 (by decide) (by omega) (fun c94 => ?_) (fun c94 => ?_)
        · skip
          refine lv_iconst (v := nI 1) hx hb dX4_odds_102 (by decide) ?_
          refine zi_mul hC dX4_odds_103 ?_
          refine lv_istore (lv' := [(5, .int (nI (v9 * 1))), (4, .int (nI (u9 * 1))), (0, .ref q), (1, .int (nI a)), (2, .int (nI x9)), (3, .int (nI 1)), (6, .int (nI d))]) hx hb dX4_odds_104 hl (by decide) rfl (fun ls hl => ?_)
          refine lv_iinc (v := nI (d + 1)) (lv' := [(6, .int (nI (d + 1))), (5, .int (nI (v9 * 1))), (4, .int (nI (u9 * 1))), (0, .ref q), (1, .int (nI a)), (2, .int (nI x9)), (3, .int (nI 1))]) hx hb dX4_odds_106 hl (k := 6) rfl (z_inc d 1) (by decide) rfl (fun ls hl => ?_)
          refine lv_goto (tgt := 51) hx hb dX4_odds_109 (by decide) ?_
          exact ih51 (dc 0 - (d + 1)) (by omega) (d + 1) (u9 * 1) (v9 * 1) rfl (by omega) (by rw [hu9, pm_s]; rw [if_neg (by omega)]) (by rw [hv9, pm_s]; rw [if_neg (by omega)]) ls (lv_sub hl [3, 4, 5, 6, 2, 1, 0] rfl)
        · skip
          refine lv_bipush (v := nI 10) hx hb dX4_odds_97 (by decide) ?_
          refine lv_goto (tgt := 103) hx hb dX4_odds_99 (by decide) ?_
          refine zi_mul hC dX4_odds_103 ?_
          refine lv_istore (lv' := [(5, .int (nI (v9 * 10))), (4, .int (nI (u9 * 1))), (0, .ref q), (1, .int (nI a)), (2, .int (nI x9)), (3, .int (nI 1)), (6, .int (nI d))]) hx hb dX4_odds_104 hl (by decide) rfl (fun ls hl => ?_)
          refine lv_iinc (v := nI (d + 1)) (lv' := [(6, .int (nI (d + 1))), (5, .int (nI (v9 * 10))), (4, .int (nI (u9 * 1))), (0, .ref q), (1, .int (nI a)), (2, .int (nI x9)), (3, .int (nI 1))]) hx hb dX4_odds_106 hl (k := 6) rfl (z_inc d 1) (by decide) rfl (fun ls hl => ?_)
          refine lv_goto (tgt := 51) hx hb dX4_odds_109 (by decide) ?_
          exact ih51 (dc 0 - (d + 1)) (by omega) (d + 1) (u9 * 1) (v9 * 10) rfl (by omega) (by rw [hu9, pm_s]; rw [if_neg (by omega)]) (by rw [hv9, pm_s]; rw [if_pos (by omega)]) ls (lv_sub hl [3, 4, 5, 6, 2, 1, 0] rfl)
      · skip
        refine lv_bipush (v := nI 10) hx hb dX4_odds_74 (by decide) ?_
        refine lv_iload_n hx hb dX4_odds_76 rfl (lv_at hl 2 rfl) ?_
        refine zi_sub hC dX4_odds_77 (by omega) ?_
        refine lv_goto (tgt := 82) hx hb dX4_odds_78 (by decide) ?_
        refine zi_mul hC dX4_odds_82 ?_
        refine lv_istore (lv' := [(4, .int (nI (u9 * (10 - x9)))), (0, .ref q), (1, .int (nI a)), (2, .int (nI x9)), (3, .int (nI 1)), (5, .int (nI v9)), (6, .int (nI d))]) hx hb dX4_odds_83 hl (by decide) rfl (fun ls hl => ?_)
        refine lv_iload hx hb dX4_odds_85 (lv_at hl 5 rfl) ?_
        refine lv_aload_n hx hb dX4_odds_87 rfl (lv_at hl 1 rfl) ?_
        refine lv_iload_n hx hb dX4_odds_88 rfl (lv_at hl 2 rfl) ?_
        refine lv_iload hx hb dX4_odds_89 (lv_at hl 6 rfl) ?_
        refine zRV (As := [.int (nI a), .int (nI d)]) (b := q) (rest := [.int (nI v9)]) hC (c_X4_needOf (l := l) (ha := by omega) (hd := by omega)) lM_X4_116 vM_X4_needOf (by decide) hK hP [0, 5] rfl ⟨rfl, rfl, rfl⟩ rfl hl.1 rfl (Nat.le_of_ble_eq_true rfl) dX4_odds_91 (by decide) ?_
        show W _ _ _ _ _ _ _ _ _ _ _ _ _ _ _ (F0 m 94 ls [.int (nI (nd (6 * a + d))), .int (nI v9)])
        refine z0_le (tgt := 102) hC dX4_odds_94 (by decide) (by omega) (fun c94 => ?_) (fun c94 => ?_)
        · skip
          refine lv_iconst (v := nI 1) hx hb dX4_odds_102 (by decide) ?_
          refine zi_mul hC dX4_odds_103 ?_
          refine lv_istore (lv' := [(5, .int (nI (v9 * 1))), (4, .int (nI (u9 * (10 - x9)))), (0, .ref q), (1, .int (nI a)), (2, .int (nI x9)), (3, .int (nI 1)), (6, .int (nI d))]) hx hb dX4_odds_104 hl (by decide) rfl (fun ls hl => ?_)
          refine lv_iinc (v := nI (d + 1)) (lv' := [(6, .int (nI (d + 1))), (5, .int (nI (v9 * 1))), (4, .int (nI (u9 * (10 - x9)))), (0, .ref q), (1, .int (nI a)), (2, .int (nI x9)), (3, .int (nI 1))]) hx hb dX4_odds_106 hl (k := 6) rfl (z_inc d 1) (by decide) rfl (fun ls hl => ?_)
          refine lv_goto (tgt := 51) hx hb dX4_odds_109 (by decide) ?_
          exact ih51 (dc 0 - (d + 1)) (by omega) (d + 1) (u9 * (10 - x9)) (v9 * 1) rfl (by omega) (by rw [hu9, pm_s]; rw [if_pos (by omega)]) (by rw [hv9, pm_s]; rw [if_neg (by omega)]) ls (lv_sub hl [3, 4, 5, 6, 2, 1, 0] rfl)
        · skip
          refine lv_bipush (v := nI 10) hx hb dX4_odds_97 (by decide) ?_
          refine lv_goto (tgt := 103) hx hb dX4_odds_99 (by decide) ?_
          refine zi_mul hC dX4_odds_103 ?_
          refine lv_istore (lv' := [(5, .int (nI (v9 * 10))), (4, .int (nI (u9 * (10 - x9)))), (0, .ref q), (1, .int (nI a)), (2, .int (nI x9)), (3, .int (nI 1)), (6, .int (nI d))]) hx hb dX4_odds_104 hl (by decide) rfl (fun ls hl => ?_)
          refine lv_iinc (v := nI (d + 1)) (lv' := [(6, .int (nI (d + 1))), (5, .int (nI (v9 * 10))), (4, .int (nI (u9 * (10 - x9)))), (0, .ref q), (1, .int (nI a)), (2, .int (nI x9)), (3, .int (nI 1))]) hx hb dX4_odds_106 hl (k := 6) rfl (z_inc d 1) (by decide) rfl (fun ls hl => ?_)
          refine lv_goto (tgt := 51) hx hb dX4_odds_109 (by decide) ?_
          exact ih51 (dc 0 - (d + 1)) (by omega) (d + 1) (u9 * (10 - x9)) (v9 * 10) rfl (by omega) (by rw [hu9, pm_s]; rw [if_pos (by omega)]) (by rw [hv9, pm_s]; rw [if_pos (by omega)]) ls (lv_sub hl [3, 4, 5, 6, 2, 1, 0] rfl)
  exact hL51 _ 0 1 1 rfl (by omega) (by rfl) (by rfl) ls (lv_sub hl [3, 4, 5, 6, 2, 1, 0] rfl)
set_option maxHeartbeats 1000000 in
set_option maxRecDepth 100000 in
theorem c_X4_right_0 {l : Launch} {D : va_G} {cI cZ cB cR : ClassId} {q xtx ty xdc xdl xdb xar xac xwm xnd at9 sta sor val xnw xkp xta xtw td xhg : Nat} {tr : Int64} {fau : Int32} {dc nw : Nat → Nat}  (hn : dc 0 ≤ 6) (hlb : ∀ j, j < 6 → nw (12 + j) < 6)  : mR l yX4_right cX4_right 7 (some .int) 1 22 D cI cZ cB cR [oM q tr xtx ty xdc xdl xdb xar xac xwm xnd at9 sta sor val fau xnw xkp xta xtw td xhg, aI cI xdc 2 dc, aI cI xnw 729 nw] [.ref q, .int (nI 0)] (some (.int (nI (dc 0 - (mcS (fun i => nw (12 + i)) (dc 0)).1)))) := by
  refine mR_of rfl (Nat.le_of_ble_eq_true rfl) ?_
  intro p e s m args below meth c hC hr hlk hK hP ls hl
  have hl : lv_has ls 7 [(0, .ref q), (1, .int (nI 0))] := hl
  obtain ⟨hx, hb, hml, hown, hts⟩ := id hC
  refine lv_iload_n hx hb dX4_right_0 rfl (lv_at hl 1 rfl) ?_
  refine lv_iconst (v := nI 0) hx hb dX4_right_1 (by decide) ?_
  refine lv_iconst (v := nI 1) hx hb dX4_right_2 (by decide) ?_
  refine zRS (As := [.int (nI 0), .int (nI 0), .int (nI 1)]) (rest := []) hC (c_X4_in (l := l) (g := true) (hg := ⟨fun _ => ⟨(nI_leI (by omega) (by omega)).mpr (by omega), (nI_leI (by omega) (by omega)).mpr (by omega)⟩, fun _ => rfl⟩)) lM_X4_57 sM_X4_in (by decide) hK rfl hl.1 rfl (Nat.le_of_ble_eq_true rfl) dX4_right_3 (by decide) ?_
  show W _ _ _ _ _ _ _ _ _ _ _ _ _ _ _ (F0 m 6 ls [.int (bI true)])
  refine zb_ne (tgt := 11) hC dX4_right_6 (by decide) (fun c6 => ?_) (fun c6 => by exfalso; cases c6)
  refine lv_iconst (v := nI 0) hx hb dX4_right_11 (by decide) ?_
  refine lv_istore_n (lv' := [(2, .int (nI 0)), (0, .ref q), (1, .int (nI 0))]) hx hb dX4_right_12 rfl hl (by decide) rfl (fun ls hl => ?_)
  refine lv_iconst (v := nI 0) hx hb dX4_right_13 (by decide) ?_
  refine lv_istore_n (lv' := [(3, .int (nI 0)), (2, .int (nI 0)), (0, .ref q), (1, .int (nI 0))]) hx hb dX4_right_14 rfl hl (by decide) rfl (fun ls hl => ?_)
  refine lv_iconst (v := nI 0) hx hb dX4_right_15 (by decide) ?_
  refine lv_istore (lv' := [(4, .int (nI 0)), (3, .int (nI 0)), (2, .int (nI 0)), (0, .ref q), (1, .int (nI 0))]) hx hb dX4_right_16 hl (by decide) rfl (fun ls hl => ?_)
  have hL18 : ∀ (z18 : Nat) (d : Nat) (x9 : Nat) (r9 : Nat), dc 0 - d = z18 → (d ≤ dc 0) → (r9 = (mcS (fun i => nw (12 + i)) d).1) → (x9 = (mcS (fun i => nw (12 + i)) d).2) → (x9 < 64) → (r9 ≤ d) → ∀ ls : Array Slot, lv_has ls 7 [(0, .ref q), (1, .int (nI 0)), (2, .int (nI x9)), (3, .int (nI r9)), (4, .int (nI d))] → W p l e { frames := 1, cells := 0, slots := 0, locals := 22 } s m args below meth c s.heap [] 0 0 (MQ below (qR (some (.int (nI (dc 0 - (mcS (fun i => nw (12 + i)) (dc 0)).1))))) args s 0 0 (fun _ => False)) (F0 m 18 ls []) := by
    intro z18
    induction z18 using Nat.strongRecOn with
    | _ z18 ih18 =>
    intro d x9 r9 hz18 hd hr9 hx9 hx8 hr8 ls hl
    refine lv_iload hx hb dX4_right_18 (lv_at hl 4 rfl) ?_
    refine lv_aload_n hx hb dX4_right_20 rfl (lv_at hl 0 rfl) ?_
    refine z_get (k := 3) zcX4 hC hK hP 0 rfl (by decide) lF_X4_13 rfl dX4_right_21 ?_
    refine lv_iconst (v := nI 0) hx hb dX4_right_24 (by decide) ?_
    refine z_ald hC hK hP 1 rfl (by omega) (by decide) dX4_right_25 ?_
    refine zc_ge (tgt := 87) hC dX4_right_26 (by decide) (by omega) (by omega) (fun c26 => ?_) (fun c26 => ?_)
    · skip
      refine lv_bipush (v := (-9)) hx hb dX4_right_87 (by decide) ?_
      refine lv_istore (lv' := [(4, .int (-9)), (0, .ref q), (1, .int (nI 0)), (2, .int (nI x9)), (3, .int (nI r9))]) hx hb dX4_right_89 hl (by decide) rfl (fun ls hl => ?_)
      refine lv_aload_n hx hb dX4_right_91 rfl (lv_at hl 1 rfl) ?_
      refine z_get (k := 3) zcX4 hC hK hP 0 rfl (by decide) lF_X4_13 rfl dX4_right_92 ?_
      refine lv_iconst (v := nI 0) hx hb dX4_right_95 (by decide) ?_
      refine z_ald hC hK hP 1 rfl (by omega) (by decide) dX4_right_96 ?_
      refine lv_iconst (v := nI 1) hx hb dX4_right_97 (by decide) ?_
      refine lv_isub hx hb dX4_right_98 ?_
      refine lv_istore (lv' := [(5, .int ((nI (dc 0)) - (nI 1))), (4, .int (-9)), (0, .ref q), (1, .int (nI 0)), (2, .int (nI x9)), (3, .int (nI r9))]) hx hb dX4_right_99 hl (by decide) rfl (fun ls hl => ?_)
      have hL101 : ∀ (z101 : Nat) (k9 : Nat) (f9 : Int32), k9 = z101 → (k9 ≤ dc 0) → (mfO (fun i => nw (12 + i)) (dc 0) k9 f9 = mfO (fun i => nw (12 + i)) (dc 0) (dc 0) (-9)) → ∀ ls : Array Slot, lv_has ls 7 [(0, .ref q), (1, .int (nI 0)), (3, .int (nI r9)), (4, .int f9), (5, .int (nI k9 - nI 1))] → W p l e { frames := 1, cells := 0, slots := 0, locals := 22 } s m args below meth c s.heap [] 0 0 (MQ below (qR (some (.int (nI (dc 0 - (mcS (fun i => nw (12 + i)) (dc 0)).1))))) args s 0 0 (fun _ => False)) (F0 m 101 ls []) := by
        intro z101
        induction z101 using Nat.strongRecOn with
        | _ z101 ih101 =>
        intro k9 f9 hz101 hk9 hf9 ls hl
        refine lv_iload hx hb dX4_right_101 (lv_at hl 4 rfl) ?_
        refine lv_if_lt (tgt := 180) hx hb dX4_right_103 (by decide) (fun c103 => ?_) (fun c103 => ?_)
        · skip
          have e103 : k9 = 0 := (z_pred (by omega)).mp c103
          refine lv_iload_n hx hb dX4_right_180 rfl (lv_at hl 1 rfl) ?_
          refine z0_ne (tgt := 195) hC dX4_right_181 (by decide) (by omega) (fun c181 => by exfalso; omega) (fun c181 => ?_)
          refine lv_aload_n hx hb dX4_right_184 rfl (lv_at hl 0 rfl) ?_
          refine z_get (k := 3) zcX4 hC hK hP 0 rfl (by decide) lF_X4_13 rfl dX4_right_185 ?_
          refine lv_iconst (v := nI 0) hx hb dX4_right_188 (by decide) ?_
          refine z_ald hC hK hP 1 rfl (by omega) (by decide) dX4_right_189 ?_
          refine lv_iload_n hx hb dX4_right_190 rfl (lv_at hl 2 rfl) ?_
          refine zi_sub hC dX4_right_191 (by omega) ?_
          refine lv_goto (tgt := 197) hx hb dX4_right_192 (by decide) ?_
          exact zr_i hC hr hlk (by rw [hr9, show d = dc 0 by omega]) dX4_right_197
        · skip
          have e103 : 0 < k9 := Nat.pos_of_ne_zero (fun h => c103 ((z_pred (by omega)).mpr h))
          rw [show nI k9 - nI 1 = nI (k9 - 1) from pk_sub e103] at hl
          refine lv_aload_n hx hb dX4_right_106 rfl (lv_at hl 0 rfl) ?_
          refine z_get (k := 3) zcX4 hC hK hP 0 rfl (by decide) lF_X4_13 rfl dX4_right_107 ?_
          refine lv_iconst (v := nI 0) hx hb dX4_right_110 (by decide) ?_
          refine z_ald hC hK hP 1 rfl (by omega) (by decide) dX4_right_111 ?_
          refine lv_iconst (v := nI 1) hx hb dX4_right_112 (by decide) ?_
          refine zi_sub hC dX4_right_113 (by omega) ?_
          refine lv_istore (lv' := [(6, .int (nI ((dc 0) - 1))), (0, .ref q), (1, .int (nI 0)), (3, .int (nI r9)), (4, .int f9), (5, .int (nI (k9 - 1)))]) hx hb dX4_right_114 hl (by decide) rfl (fun ls hl => ?_)
          have hL116 : ∀ (z116 : Nat) (e9 : Nat) (g9 : Int32), e9 = z116 → (e9 ≤ dc 0 - 1) → (mfI (fun i => nw (12 + i)) (k9 - 1) e9 g9 = mfI (fun i => nw (12 + i)) (k9 - 1) (dc 0 - 1) f9) → ∀ ls : Array Slot, lv_has ls 7 [(0, .ref q), (1, .int (nI 0)), (3, .int (nI r9)), (5, .int (nI (k9 - 1))), (4, .int g9), (6, .int (nI e9))] → W p l e { frames := 1, cells := 0, slots := 0, locals := 22 } s m args below meth c s.heap [] 0 0 (MQ below (qR (some (.int (nI (dc 0 - (mcS (fun i => nw (12 + i)) (dc 0)).1))))) args s 0 0 (fun _ => False)) (F0 m 116 ls []) := by
            intro z116
            induction z116 using Nat.strongRecOn with
            | _ z116 ih116 =>
            intro e9 g9 hz116 he hg9 ls hl
            refine lv_iload hx hb dX4_right_116 (lv_at hl 5 rfl) ?_
            refine lv_iload hx hb dX4_right_118 (lv_at hl 3 rfl) ?_
            refine zc_le (tgt := 174) hC dX4_right_120 (by decide) (by omega) (by omega) (fun c120 => ?_) (fun c120 => ?_)
            · skip
              refine lv_iinc (v := nI (k9 - 1) - nI 1) (lv' := [(5, .int (nI (k9 - 1) - nI 1)), (0, .ref q), (1, .int (nI 0)), (3, .int (nI r9)), (4, .int g9), (6, .int (nI e9))]) hx hb dX4_right_174 hl (k := 3) rfl (z_mI1 _) (by decide) rfl (fun ls hl => ?_)
              refine lv_goto (tgt := 101) hx hb dX4_right_177 (by decide) ?_
              exact ih101 (k9 - 1) (by omega) (k9 - 1) g9 rfl (by omega) (by rw [← hf9, mfO_s (k := k9) (by omega), ← hg9, mfI_le (by omega)]) ls (lv_sub hl [1, 2, 3, 4, 0] rfl)
            · skip
              refine lv_aload_n hx hb dX4_right_123 rfl (lv_at hl 0 rfl) ?_
              refine z_get (k := 15) zcX4 hC hK hP 0 rfl (by decide) lF_X4_35 rfl dX4_right_124 ?_
              refine lv_bipush (v := nI 12) hx hb dX4_right_127 (by decide) ?_
              refine lv_iload hx hb dX4_right_129 (lv_at hl 3 rfl) ?_
              refine zi_add hC dX4_right_131 ?_
              have b132 := hlb (k9 - 1) (by omega)
              refine z_ald hC hK hP 2 rfl (by omega) (by decide) dX4_right_132 ?_
              refine lv_iload hx hb dX4_right_133 (lv_at hl 5 rfl) ?_
              refine zc_eq (tgt := 153) hC dX4_right_135 (by decide) (by omega) (by omega) (fun c135 => ?_) (fun c135 => ?_)
              · skip
                refine lv_bipush (v := nI 10) hx hb dX4_right_153 (by decide) ?_
                refine lv_iload hx hb dX4_right_155 (lv_at hl 3 rfl) ?_
                refine zi_mul hC dX4_right_157 ?_
                refine lv_iload hx hb dX4_right_158 (lv_at hl 5 rfl) ?_
                refine zi_add hC dX4_right_160 ?_
                refine lv_goto (tgt := 166) hx hb dX4_right_161 (by decide) ?_
                refine lv_istore (lv' := [(4, .int (nI ((10 * (k9 - 1)) + e9))), (0, .ref q), (1, .int (nI 0)), (3, .int (nI r9)), (5, .int (nI (k9 - 1))), (6, .int (nI e9))]) hx hb dX4_right_166 hl (by decide) rfl (fun ls hl => ?_)
                refine lv_iinc (v := nI (e9 - 1)) (lv' := [(6, .int (nI (e9 - 1))), (4, .int (nI ((10 * (k9 - 1)) + e9))), (0, .ref q), (1, .int (nI 0)), (3, .int (nI r9)), (5, .int (nI (k9 - 1)))]) hx hb dX4_right_168 hl (k := 5) rfl (z_dec1 (by omega)) (by decide) rfl (fun ls hl => ?_)
                refine lv_goto (tgt := 116) hx hb dX4_right_171 (by decide) ?_
                exact ih116 (e9 - 1) (by omega) (e9 - 1) (nI ((10 * (k9 - 1)) + e9)) rfl (by omega) (by rw [← hg9, mfI_s (e := e9) (by omega)]; rw [if_pos (Or.inl c135)]) ls (lv_sub hl [2, 3, 4, 5, 1, 0] rfl)
              · skip
                refine lv_aload_n hx hb dX4_right_138 rfl (lv_at hl 0 rfl) ?_
                refine z_get (k := 15) zcX4 hC hK hP 0 rfl (by decide) lF_X4_35 rfl dX4_right_139 ?_
                refine lv_bipush (v := nI 12) hx hb dX4_right_142 (by decide) ?_
                refine lv_iload hx hb dX4_right_144 (lv_at hl 5 rfl) ?_
                refine zi_add hC dX4_right_146 ?_
                have b147 := hlb e9 (by omega)
                refine z_ald hC hK hP 2 rfl (by omega) (by decide) dX4_right_147 ?_
                refine lv_iload hx hb dX4_right_148 (lv_at hl 3 rfl) ?_
                refine zc_ne (tgt := 164) hC dX4_right_150 (by decide) (by omega) (by omega) (fun c150 => ?_) (fun c150 => ?_)
                · skip
                  refine lv_iload hx hb dX4_right_164 (lv_at hl 4 rfl) ?_
                  refine lv_istore (lv' := [(4, .int g9), (0, .ref q), (1, .int (nI 0)), (3, .int (nI r9)), (5, .int (nI (k9 - 1))), (6, .int (nI e9))]) hx hb dX4_right_166 hl (by decide) rfl (fun ls hl => ?_)
                  refine lv_iinc (v := nI (e9 - 1)) (lv' := [(6, .int (nI (e9 - 1))), (4, .int g9), (0, .ref q), (1, .int (nI 0)), (3, .int (nI r9)), (5, .int (nI (k9 - 1)))]) hx hb dX4_right_168 hl (k := 5) rfl (z_dec1 (by omega)) (by decide) rfl (fun ls hl => ?_)
                  refine lv_goto (tgt := 116) hx hb dX4_right_171 (by decide) ?_
                  exact ih116 (e9 - 1) (by omega) (e9 - 1) g9 rfl (by omega) (by rw [← hg9, mfI_s (e := e9) (by omega)]; rw [if_neg (fun h => by rcases h with h | h; exact c135 h; exact c150 h)]) ls (lv_sub hl [2, 3, 4, 5, 1, 0] rfl)
                · skip
                  refine lv_bipush (v := nI 10) hx hb dX4_right_153 (by decide) ?_
                  refine lv_iload hx hb dX4_right_155 (lv_at hl 3 rfl) ?_
                  refine zi_mul hC dX4_right_157 ?_
                  refine lv_iload hx hb dX4_right_158 (lv_at hl 5 rfl) ?_
                  refine zi_add hC dX4_right_160 ?_
                  refine lv_goto (tgt := 166) hx hb dX4_right_161 (by decide) ?_
                  refine lv_istore (lv' := [(4, .int (nI ((10 * (k9 - 1)) + e9))), (0, .ref q), (1, .int (nI 0)), (3, .int (nI r9)), (5, .int (nI (k9 - 1))), (6, .int (nI e9))]) hx hb dX4_right_166 hl (by decide) rfl (fun ls hl => ?_)
                  refine lv_iinc (v := nI (e9 - 1)) (lv' := [(6, .int (nI (e9 - 1))), (4, .int (nI ((10 * (k9 - 1)) + e9))), (0, .ref q), (1, .int (nI 0)), (3, .int (nI r9)), (5, .int (nI (k9 - 1)))]) hx hb dX4_right_168 hl (k := 5) rfl (z_dec1 (by omega)) (by decide) rfl (fun ls hl => ?_)
                  refine lv_goto (tgt := 116) hx hb dX4_right_171 (by decide) ?_
                  exact ih116 (e9 - 1) (by omega) (e9 - 1) (nI ((10 * (k9 - 1)) + e9)) rfl (by omega) (by rw [← hg9, mfI_s (e := e9) (by omega)]; rw [if_pos (Or.inr (by omega))]) ls (lv_sub hl [2, 3, 4, 5, 1, 0] rfl)
          exact hL116 _ ((dc 0) - 1) f9 rfl (by omega) (by rfl) ls (lv_sub hl [1, 2, 3, 5, 4, 0] rfl)
      exact hL101 _ (dc 0) (-9) rfl (by omega) (by rfl) ls (lv_sub hl [2, 3, 5, 1, 0] rfl)
    · skip
      refine lv_iload_n hx hb dX4_right_29 rfl (lv_at hl 3 rfl) ?_
      refine lv_iload_n hx hb dX4_right_30 rfl (lv_at hl 2 rfl) ?_
      refine lv_iload hx hb dX4_right_31 (lv_at hl 4 rfl) ?_
      refine zi_shr hC dX4_right_33 (by omega) (by omega) ?_
      refine lv_iconst (v := nI 1) hx hb dX4_right_34 (by decide) ?_
      refine zi_and hC dX4_right_35 ?_
      have b36 : (Nat.testBit x9 d).toNat < 2 := Bool.toNat_lt _
      refine z_top (show (nI ((x9 / 2 ^ d) &&& 1)) = nI ((Nat.testBit x9 d).toNat) from by exact z_bit x9 d) ?_
      refine z0_ne (tgt := 43) hC dX4_right_36 (by decide) (by omega) (fun c36 => ?_) (fun c36 => ?_)
      · skip
        have c37 : Nat.testBit x9 d = true := z_bt1.mp (by omega)
        refine lv_iconst (v := nI 0) hx hb dX4_right_43 (by decide) ?_
        refine zi_add hC dX4_right_44 ?_
        refine lv_istore_n (lv' := [(3, .int (nI (r9 + 0))), (0, .ref q), (1, .int (nI 0)), (2, .int (nI x9)), (4, .int (nI d))]) hx hb dX4_right_45 rfl hl (by decide) rfl (fun ls hl => ?_)
        refine lv_iload hx hb dX4_right_46 (lv_at hl 4 rfl) ?_
        refine lv_istore (lv' := [(5, .int (nI d)), (3, .int (nI (r9 + 0))), (0, .ref q), (1, .int (nI 0)), (2, .int (nI x9)), (4, .int (nI d))]) hx hb dX4_right_48 hl (by decide) rfl (fun ls hl => ?_)
        have hL50 : ∀ (z50 : Nat) (e9 : Nat) (s9 : Nat) (k9 : Nat), 64 - s9 = z50 → (e9 < 6) → (s9 < 64) → (64 - s9 < k9) → (rgR (fun i => nw (12 + i)) k9 e9 s9 = rgR (fun i => nw (12 + i)) 65 d x9) → ∀ ls : Array Slot, lv_has ls 7 [(0, .ref q), (1, .int (nI 0)), (3, .int (nI (r9 + 0))), (4, .int (nI d)), (2, .int (nI s9)), (5, .int (nI e9))] → W p l e { frames := 1, cells := 0, slots := 0, locals := 22 } s m args below meth c s.heap [] 0 0 (MQ below (qR (some (.int (nI (dc 0 - (mcS (fun i => nw (12 + i)) (dc 0)).1))))) args s 0 0 (fun _ => False)) (F0 m 50 ls []) := by
          intro z50
          induction z50 using Nat.strongRecOn with
          | _ z50 ih50 =>
          intro e9 s9 k9 hz50 he hs9 hk9 hq9 ls hl
          refine lv_iload_n hx hb dX4_right_50 rfl (lv_at hl 4 rfl) ?_
          refine lv_iload hx hb dX4_right_51 (lv_at hl 5 rfl) ?_
          refine zi_shr hC dX4_right_53 (by omega) (by omega) ?_
          refine lv_iconst (v := nI 1) hx hb dX4_right_54 (by decide) ?_
          refine zi_and hC dX4_right_55 ?_
          have b56 : (Nat.testBit s9 e9).toNat < 2 := Bool.toNat_lt _
          refine z_top (show (nI ((s9 / 2 ^ e9) &&& 1)) = nI ((Nat.testBit s9 e9).toNat) from by exact z_bit s9 e9) ?_
          refine z0_ne (tgt := 81) hC dX4_right_56 (by decide) (by omega) (fun c56 => ?_) (fun c56 => ?_)
          · skip
            have c57 : Nat.testBit s9 e9 = true := z_bt1.mp (by omega)
            refine lv_iinc (v := nI (d + 1)) (lv' := [(4, .int (nI (d + 1))), (0, .ref q), (1, .int (nI 0)), (3, .int (nI (r9 + 0))), (2, .int (nI s9)), (5, .int (nI e9))]) hx hb dX4_right_81 hl (k := 3) rfl (z_inc d 1) (by decide) rfl (fun ls hl => ?_)
            refine lv_goto (tgt := 18) hx hb dX4_right_84 (by decide) ?_
            exact ih18 (dc 0 - (d + 1)) (by omega) (d + 1) s9 (r9 + 0) rfl (by omega) (by rw [mcS_s, ← hr9, ← hx9]; exact congrArg (r9 + ·) (if_pos c37).symm) (by rw [mcS_s, ← hx9, ← hq9]; exact (rgR_t c57).symm) (by omega) (by omega) ls (lv_sub hl [1, 2, 4, 3, 0] rfl)
          · skip
            have c57 : Nat.testBit s9 e9 = false := z_bt0.mp (by omega)
            have b75 := hlb e9 he
            have b76 := z_orgt c57
            have b77 := z_or64 hs9 (z_pow6 he)
            refine lv_iload_n hx hb dX4_right_59 rfl (lv_at hl 4 rfl) ?_
            refine lv_iconst (v := nI 1) hx hb dX4_right_60 (by decide) ?_
            refine lv_iload hx hb dX4_right_61 (lv_at hl 5 rfl) ?_
            refine zi_shl1 hC dX4_right_63 (by omega) ?_
            refine zi_or hC dX4_right_64 ?_
            refine lv_istore_n (lv' := [(2, .int (nI (s9 ||| (2 ^ e9)))), (0, .ref q), (1, .int (nI 0)), (3, .int (nI (r9 + 0))), (4, .int (nI d)), (5, .int (nI e9))]) hx hb dX4_right_65 rfl hl (by decide) rfl (fun ls hl => ?_)
            refine lv_aload_n hx hb dX4_right_66 rfl (lv_at hl 1 rfl) ?_
            refine z_get (k := 15) zcX4 hC hK hP 0 rfl (by decide) lF_X4_35 rfl dX4_right_67 ?_
            refine lv_bipush (v := nI 12) hx hb dX4_right_70 (by decide) ?_
            refine lv_iload hx hb dX4_right_72 (lv_at hl 5 rfl) ?_
            refine zi_add hC dX4_right_74 ?_
            refine z_ald hC hK hP 2 rfl (by omega) (by decide) dX4_right_75 ?_
            refine lv_istore (lv' := [(5, .int (nI (nw (12 + e9)))), (2, .int (nI (s9 ||| (2 ^ e9)))), (0, .ref q), (1, .int (nI 0)), (3, .int (nI (r9 + 0))), (4, .int (nI d))]) hx hb dX4_right_76 hl (by decide) rfl (fun ls hl => ?_)
            refine lv_goto (tgt := 50) hx hb dX4_right_78 (by decide) ?_
            exact ih50 (64 - (s9 ||| (2 ^ e9))) (by omega) (nw (12 + e9)) (s9 ||| (2 ^ e9)) (k9 - 1) rfl (by exact b75) (by exact b77) (by omega) (by rw [← hq9]; exact (rgR_f (by omega) c57).symm) ls (lv_sub hl [2, 3, 4, 5, 1, 0] rfl)
        exact hL50 _ d x9 65 rfl (by omega) (by omega) (by omega) (by rfl) ls (lv_sub hl [2, 3, 1, 5, 4, 0] rfl)
      · skip
        have c37 : ¬ Nat.testBit x9 d = true := fun h => by have := z_bt1.mpr h; omega
        refine lv_iconst (v := nI 1) hx hb dX4_right_39 (by decide) ?_
        refine lv_goto (tgt := 44) hx hb dX4_right_40 (by decide) ?_
        refine zi_add hC dX4_right_44 ?_
        refine lv_istore_n (lv' := [(3, .int (nI (r9 + 1))), (0, .ref q), (1, .int (nI 0)), (2, .int (nI x9)), (4, .int (nI d))]) hx hb dX4_right_45 rfl hl (by decide) rfl (fun ls hl => ?_)
        refine lv_iload hx hb dX4_right_46 (lv_at hl 4 rfl) ?_
        refine lv_istore (lv' := [(5, .int (nI d)), (3, .int (nI (r9 + 1))), (0, .ref q), (1, .int (nI 0)), (2, .int (nI x9)), (4, .int (nI d))]) hx hb dX4_right_48 hl (by decide) rfl (fun ls hl => ?_)
        have hL50 : ∀ (z50 : Nat) (e9 : Nat) (s9 : Nat) (k9 : Nat), 64 - s9 = z50 → (e9 < 6) → (s9 < 64) → (64 - s9 < k9) → (rgR (fun i => nw (12 + i)) k9 e9 s9 = rgR (fun i => nw (12 + i)) 65 d x9) → ∀ ls : Array Slot, lv_has ls 7 [(0, .ref q), (1, .int (nI 0)), (3, .int (nI (r9 + 1))), (4, .int (nI d)), (2, .int (nI s9)), (5, .int (nI e9))] → W p l e { frames := 1, cells := 0, slots := 0, locals := 22 } s m args below meth c s.heap [] 0 0 (MQ below (qR (some (.int (nI (dc 0 - (mcS (fun i => nw (12 + i)) (dc 0)).1))))) args s 0 0 (fun _ => False)) (F0 m 50 ls []) := by
          intro z50
          induction z50 using Nat.strongRecOn with
          | _ z50 ih50 =>
          intro e9 s9 k9 hz50 he hs9 hk9 hq9 ls hl
          refine lv_iload_n hx hb dX4_right_50 rfl (lv_at hl 4 rfl) ?_
          refine lv_iload hx hb dX4_right_51 (lv_at hl 5 rfl) ?_
          refine zi_shr hC dX4_right_53 (by omega) (by omega) ?_
          refine lv_iconst (v := nI 1) hx hb dX4_right_54 (by decide) ?_
          refine zi_and hC dX4_right_55 ?_
          have b56 : (Nat.testBit s9 e9).toNat < 2 := Bool.toNat_lt _
          refine z_top (show (nI ((s9 / 2 ^ e9) &&& 1)) = nI ((Nat.testBit s9 e9).toNat) from by exact z_bit s9 e9) ?_
          refine z0_ne (tgt := 81) hC dX4_right_56 (by decide) (by omega) (fun c56 => ?_) (fun c56 => ?_)
          · skip
            have c57 : Nat.testBit s9 e9 = true := z_bt1.mp (by omega)
            refine lv_iinc (v := nI (d + 1)) (lv' := [(4, .int (nI (d + 1))), (0, .ref q), (1, .int (nI 0)), (3, .int (nI (r9 + 1))), (2, .int (nI s9)), (5, .int (nI e9))]) hx hb dX4_right_81 hl (k := 3) rfl (z_inc d 1) (by decide) rfl (fun ls hl => ?_)
            refine lv_goto (tgt := 18) hx hb dX4_right_84 (by decide) ?_
            exact ih18 (dc 0 - (d + 1)) (by omega) (d + 1) s9 (r9 + 1) rfl (by omega) (by rw [mcS_s, ← hr9, ← hx9]; exact congrArg (r9 + ·) (if_neg c37).symm) (by rw [mcS_s, ← hx9, ← hq9]; exact (rgR_t c57).symm) (by omega) (by omega) ls (lv_sub hl [1, 2, 4, 3, 0] rfl)
          · skip
            have c57 : Nat.testBit s9 e9 = false := z_bt0.mp (by omega)
            have b75 := hlb e9 he
            have b76 := z_orgt c57
            have b77 := z_or64 hs9 (z_pow6 he)
            refine lv_iload_n hx hb dX4_right_59 rfl (lv_at hl 4 rfl) ?_
            refine lv_iconst (v := nI 1) hx hb dX4_right_60 (by decide) ?_
            refine lv_iload hx hb dX4_right_61 (lv_at hl 5 rfl) ?_
            refine zi_shl1 hC dX4_right_63 (by omega) ?_
            refine zi_or hC dX4_right_64 ?_
            refine lv_istore_n (lv' := [(2, .int (nI (s9 ||| (2 ^ e9)))), (0, .ref q), (1, .int (nI 0)), (3, .int (nI (r9 + 1))), (4, .int (nI d)), (5, .int (nI e9))]) hx hb dX4_right_65 rfl hl (by decide) rfl (fun ls hl => ?_)
            refine lv_aload_n hx hb dX4_right_66 rfl (lv_at hl 1 rfl) ?_
            refine z_get (k := 15) zcX4 hC hK hP 0 rfl (by decide) lF_X4_35 rfl dX4_right_67 ?_
            refine lv_bipush (v := nI 12) hx hb dX4_right_70 (by decide) ?_
            refine lv_iload hx hb dX4_right_72 (lv_at hl 5 rfl) ?_
            refine zi_add hC dX4_right_74 ?_
            refine z_ald hC hK hP 2 rfl (by omega) (by decide) dX4_right_75 ?_
            refine lv_istore (lv' := [(5, .int (nI (nw (12 + e9)))), (2, .int (nI (s9 ||| (2 ^ e9)))), (0, .ref q), (1, .int (nI 0)), (3, .int (nI (r9 + 1))), (4, .int (nI d))]) hx hb dX4_right_76 hl (by decide) rfl (fun ls hl => ?_)
            refine lv_goto (tgt := 50) hx hb dX4_right_78 (by decide) ?_
            exact ih50 (64 - (s9 ||| (2 ^ e9))) (by omega) (nw (12 + e9)) (s9 ||| (2 ^ e9)) (k9 - 1) rfl (by exact b75) (by exact b77) (by omega) (by rw [← hq9]; exact (rgR_f (by omega) c57).symm) ls (lv_sub hl [2, 3, 4, 5, 1, 0] rfl)
        exact hL50 _ d x9 65 rfl (by omega) (by omega) (by omega) (by rfl) ls (lv_sub hl [2, 3, 1, 5, 4, 0] rfl)
  exact hL18 _ 0 0 0 rfl (by omega) (by rfl) (by rfl) (by omega) (by omega) ls (lv_sub hl [3, 4, 2, 1, 0] rfl)
set_option maxHeartbeats 1000000 in
set_option maxRecDepth 100000 in
theorem c_X4_right_1 {l : Launch} {D : va_G} {cI cZ cB cR : ClassId} {q xtx ty xdc xdl xdb xar xac xwm xnd at9 sta sor val xnw xkp xta xtw td xhg : Nat} {tr : Int64} {fau : Int32} {dc nw : Nat → Nat}  (hn : dc 0 ≤ 6) (hlb : ∀ j, j < 6 → nw (12 + j) < 6)  : mR l yX4_right cX4_right 7 (some .int) 1 22 D cI cZ cB cR [oM q tr xtx ty xdc xdl xdb xar xac xwm xnd at9 sta sor val fau xnw xkp xta xtw td xhg, aI cI xdc 2 dc, aI cI xnw 729 nw] [.ref q, .int (nI 1)] (some (.int (mfO (fun i => nw (12 + i)) (dc 0) (dc 0) (-9)))) := by
  refine mR_of rfl (Nat.le_of_ble_eq_true rfl) ?_
  intro p e s m args below meth c hC hr hlk hK hP ls hl
  have hl : lv_has ls 7 [(0, .ref q), (1, .int (nI 1))] := hl
  obtain ⟨hx, hb, hml, hown, hts⟩ := id hC
  refine lv_iload_n hx hb dX4_right_0 rfl (lv_at hl 1 rfl) ?_
  refine lv_iconst (v := nI 0) hx hb dX4_right_1 (by decide) ?_
  refine lv_iconst (v := nI 1) hx hb dX4_right_2 (by decide) ?_
  refine zRS (As := [.int (nI 1), .int (nI 0), .int (nI 1)]) (rest := []) hC (c_X4_in (l := l) (g := true) (hg := ⟨fun _ => ⟨(nI_leI (by omega) (by omega)).mpr (by omega), (nI_leI (by omega) (by omega)).mpr (by omega)⟩, fun _ => rfl⟩)) lM_X4_57 sM_X4_in (by decide) hK rfl hl.1 rfl (Nat.le_of_ble_eq_true rfl) dX4_right_3 (by decide) ?_
  show W _ _ _ _ _ _ _ _ _ _ _ _ _ _ _ (F0 m 6 ls [.int (bI true)])
  refine zb_ne (tgt := 11) hC dX4_right_6 (by decide) (fun c6 => ?_) (fun c6 => by exfalso; cases c6)
  refine lv_iconst (v := nI 0) hx hb dX4_right_11 (by decide) ?_
  refine lv_istore_n (lv' := [(2, .int (nI 0)), (0, .ref q), (1, .int (nI 1))]) hx hb dX4_right_12 rfl hl (by decide) rfl (fun ls hl => ?_)
  refine lv_iconst (v := nI 0) hx hb dX4_right_13 (by decide) ?_
  refine lv_istore_n (lv' := [(3, .int (nI 0)), (2, .int (nI 0)), (0, .ref q), (1, .int (nI 1))]) hx hb dX4_right_14 rfl hl (by decide) rfl (fun ls hl => ?_)
  refine lv_iconst (v := nI 0) hx hb dX4_right_15 (by decide) ?_
  refine lv_istore (lv' := [(4, .int (nI 0)), (3, .int (nI 0)), (2, .int (nI 0)), (0, .ref q), (1, .int (nI 1))]) hx hb dX4_right_16 hl (by decide) rfl (fun ls hl => ?_)
  have hL18 : ∀ (z18 : Nat) (d : Nat) (x9 : Nat) (r9 : Nat), dc 0 - d = z18 → (d ≤ dc 0) → (r9 = (mcS (fun i => nw (12 + i)) d).1) → (x9 = (mcS (fun i => nw (12 + i)) d).2) → (x9 < 64) → (r9 ≤ d) → ∀ ls : Array Slot, lv_has ls 7 [(0, .ref q), (1, .int (nI 1)), (2, .int (nI x9)), (3, .int (nI r9)), (4, .int (nI d))] → W p l e { frames := 1, cells := 0, slots := 0, locals := 22 } s m args below meth c s.heap [] 0 0 (MQ below (qR (some (.int (mfO (fun i => nw (12 + i)) (dc 0) (dc 0) (-9))))) args s 0 0 (fun _ => False)) (F0 m 18 ls []) := by
    intro z18
    induction z18 using Nat.strongRecOn with
    | _ z18 ih18 =>
    intro d x9 r9 hz18 hd hr9 hx9 hx8 hr8 ls hl
    refine lv_iload hx hb dX4_right_18 (lv_at hl 4 rfl) ?_
    refine lv_aload_n hx hb dX4_right_20 rfl (lv_at hl 0 rfl) ?_
    refine z_get (k := 3) zcX4 hC hK hP 0 rfl (by decide) lF_X4_13 rfl dX4_right_21 ?_
    refine lv_iconst (v := nI 0) hx hb dX4_right_24 (by decide) ?_
    refine z_ald hC hK hP 1 rfl (by omega) (by decide) dX4_right_25 ?_
    refine zc_ge (tgt := 87) hC dX4_right_26 (by decide) (by omega) (by omega) (fun c26 => ?_) (fun c26 => ?_)
    · skip
      refine lv_bipush (v := (-9)) hx hb dX4_right_87 (by decide) ?_
      refine lv_istore (lv' := [(4, .int (-9)), (0, .ref q), (1, .int (nI 1)), (2, .int (nI x9)), (3, .int (nI r9))]) hx hb dX4_right_89 hl (by decide) rfl (fun ls hl => ?_)
      refine lv_aload_n hx hb dX4_right_91 rfl (lv_at hl 1 rfl) ?_
      refine z_get (k := 3) zcX4 hC hK hP 0 rfl (by decide) lF_X4_13 rfl dX4_right_92 ?_
      refine lv_iconst (v := nI 0) hx hb dX4_right_95 (by decide) ?_
      refine z_ald hC hK hP 1 rfl (by omega) (by decide) dX4_right_96 ?_
      refine lv_iconst (v := nI 1) hx hb dX4_right_97 (by decide) ?_
      refine lv_isub hx hb dX4_right_98 ?_
      refine lv_istore (lv' := [(5, .int ((nI (dc 0)) - (nI 1))), (4, .int (-9)), (0, .ref q), (1, .int (nI 1)), (2, .int (nI x9)), (3, .int (nI r9))]) hx hb dX4_right_99 hl (by decide) rfl (fun ls hl => ?_)
      have hL101 : ∀ (z101 : Nat) (k9 : Nat) (f9 : Int32), k9 = z101 → (k9 ≤ dc 0) → (mfO (fun i => nw (12 + i)) (dc 0) k9 f9 = mfO (fun i => nw (12 + i)) (dc 0) (dc 0) (-9)) → ∀ ls : Array Slot, lv_has ls 7 [(0, .ref q), (1, .int (nI 1)), (3, .int (nI r9)), (4, .int f9), (5, .int (nI k9 - nI 1))] → W p l e { frames := 1, cells := 0, slots := 0, locals := 22 } s m args below meth c s.heap [] 0 0 (MQ below (qR (some (.int (mfO (fun i => nw (12 + i)) (dc 0) (dc 0) (-9))))) args s 0 0 (fun _ => False)) (F0 m 101 ls []) := by
        intro z101
        induction z101 using Nat.strongRecOn with
        | _ z101 ih101 =>
        intro k9 f9 hz101 hk9 hf9 ls hl
        refine lv_iload hx hb dX4_right_101 (lv_at hl 4 rfl) ?_
        refine lv_if_lt (tgt := 180) hx hb dX4_right_103 (by decide) (fun c103 => ?_) (fun c103 => ?_)
        · skip
          have e103 : k9 = 0 := (z_pred (by omega)).mp c103
          refine lv_iload_n hx hb dX4_right_180 rfl (lv_at hl 1 rfl) ?_
          refine z0_ne (tgt := 195) hC dX4_right_181 (by decide) (by omega) (fun c181 => ?_) (fun c181 => by exfalso; omega)
          refine lv_iload hx hb dX4_right_195 (lv_at hl 3 rfl) ?_
          exact zr_i hC hr hlk (by rw [← hf9, e103]; rfl) dX4_right_197
        · skip
          have e103 : 0 < k9 := Nat.pos_of_ne_zero (fun h => c103 ((z_pred (by omega)).mpr h))
          rw [show nI k9 - nI 1 = nI (k9 - 1) from pk_sub e103] at hl
          refine lv_aload_n hx hb dX4_right_106 rfl (lv_at hl 0 rfl) ?_
          refine z_get (k := 3) zcX4 hC hK hP 0 rfl (by decide) lF_X4_13 rfl dX4_right_107 ?_
          refine lv_iconst (v := nI 0) hx hb dX4_right_110 (by decide) ?_
          refine z_ald hC hK hP 1 rfl (by omega) (by decide) dX4_right_111 ?_
          refine lv_iconst (v := nI 1) hx hb dX4_right_112 (by decide) ?_
          refine zi_sub hC dX4_right_113 (by omega) ?_
          refine lv_istore (lv' := [(6, .int (nI ((dc 0) - 1))), (0, .ref q), (1, .int (nI 1)), (3, .int (nI r9)), (4, .int f9), (5, .int (nI (k9 - 1)))]) hx hb dX4_right_114 hl (by decide) rfl (fun ls hl => ?_)
          have hL116 : ∀ (z116 : Nat) (e9 : Nat) (g9 : Int32), e9 = z116 → (e9 ≤ dc 0 - 1) → (mfI (fun i => nw (12 + i)) (k9 - 1) e9 g9 = mfI (fun i => nw (12 + i)) (k9 - 1) (dc 0 - 1) f9) → ∀ ls : Array Slot, lv_has ls 7 [(0, .ref q), (1, .int (nI 1)), (3, .int (nI r9)), (5, .int (nI (k9 - 1))), (4, .int g9), (6, .int (nI e9))] → W p l e { frames := 1, cells := 0, slots := 0, locals := 22 } s m args below meth c s.heap [] 0 0 (MQ below (qR (some (.int (mfO (fun i => nw (12 + i)) (dc 0) (dc 0) (-9))))) args s 0 0 (fun _ => False)) (F0 m 116 ls []) := by
            intro z116
            induction z116 using Nat.strongRecOn with
            | _ z116 ih116 =>
            intro e9 g9 hz116 he hg9 ls hl
            refine lv_iload hx hb dX4_right_116 (lv_at hl 5 rfl) ?_
            refine lv_iload hx hb dX4_right_118 (lv_at hl 3 rfl) ?_
            refine zc_le (tgt := 174) hC dX4_right_120 (by decide) (by omega) (by omega) (fun c120 => ?_) (fun c120 => ?_)
            · skip
              refine lv_iinc (v := nI (k9 - 1) - nI 1) (lv' := [(5, .int (nI (k9 - 1) - nI 1)), (0, .ref q), (1, .int (nI 1)), (3, .int (nI r9)), (4, .int g9), (6, .int (nI e9))]) hx hb dX4_right_174 hl (k := 3) rfl (z_mI1 _) (by decide) rfl (fun ls hl => ?_)
              refine lv_goto (tgt := 101) hx hb dX4_right_177 (by decide) ?_
              exact ih101 (k9 - 1) (by omega) (k9 - 1) g9 rfl (by omega) (by rw [← hf9, mfO_s (k := k9) (by omega), ← hg9, mfI_le (by omega)]) ls (lv_sub hl [1, 2, 3, 4, 0] rfl)
            · skip
              refine lv_aload_n hx hb dX4_right_123 rfl (lv_at hl 0 rfl) ?_
              refine z_get (k := 15) zcX4 hC hK hP 0 rfl (by decide) lF_X4_35 rfl dX4_right_124 ?_
              refine lv_bipush (v := nI 12) hx hb dX4_right_127 (by decide) ?_
              refine lv_iload hx hb dX4_right_129 (lv_at hl 3 rfl) ?_
              refine zi_add hC dX4_right_131 ?_
              have b132 := hlb (k9 - 1) (by omega)
              refine z_ald hC hK hP 2 rfl (by omega) (by decide) dX4_right_132 ?_
              refine lv_iload hx hb dX4_right_133 (lv_at hl 5 rfl) ?_
              refine zc_eq (tgt := 153) hC dX4_right_135 (by decide) (by omega) (by omega) (fun c135 => ?_) (fun c135 => ?_)
              · skip
                refine lv_bipush (v := nI 10) hx hb dX4_right_153 (by decide) ?_
                refine lv_iload hx hb dX4_right_155 (lv_at hl 3 rfl) ?_
                refine zi_mul hC dX4_right_157 ?_
                refine lv_iload hx hb dX4_right_158 (lv_at hl 5 rfl) ?_
                refine zi_add hC dX4_right_160 ?_
                refine lv_goto (tgt := 166) hx hb dX4_right_161 (by decide) ?_
                refine lv_istore (lv' := [(4, .int (nI ((10 * (k9 - 1)) + e9))), (0, .ref q), (1, .int (nI 1)), (3, .int (nI r9)), (5, .int (nI (k9 - 1))), (6, .int (nI e9))]) hx hb dX4_right_166 hl (by decide) rfl (fun ls hl => ?_)
                refine lv_iinc (v := nI (e9 - 1)) (lv' := [(6, .int (nI (e9 - 1))), (4, .int (nI ((10 * (k9 - 1)) + e9))), (0, .ref q), (1, .int (nI 1)), (3, .int (nI r9)), (5, .int (nI (k9 - 1)))]) hx hb dX4_right_168 hl (k := 5) rfl (z_dec1 (by omega)) (by decide) rfl (fun ls hl => ?_)
                refine lv_goto (tgt := 116) hx hb dX4_right_171 (by decide) ?_
                exact ih116 (e9 - 1) (by omega) (e9 - 1) (nI ((10 * (k9 - 1)) + e9)) rfl (by omega) (by rw [← hg9, mfI_s (e := e9) (by omega)]; rw [if_pos (Or.inl c135)]) ls (lv_sub hl [2, 3, 4, 5, 1, 0] rfl)
              · skip
                refine lv_aload_n hx hb dX4_right_138 rfl (lv_at hl 0 rfl) ?_
                refine z_get (k := 15) zcX4 hC hK hP 0 rfl (by decide) lF_X4_35 rfl dX4_right_139 ?_
                refine lv_bipush (v := nI 12) hx hb dX4_right_142 (by decide) ?_
                refine lv_iload hx hb dX4_right_144 (lv_at hl 5 rfl) ?_
                refine zi_add hC dX4_right_146 ?_
                have b147 := hlb e9 (by omega)
                refine z_ald hC hK hP 2 rfl (by omega) (by decide) dX4_right_147 ?_
                refine lv_iload hx hb dX4_right_148 (lv_at hl 3 rfl) ?_
                refine zc_ne (tgt := 164) hC dX4_right_150 (by decide) (by omega) (by omega) (fun c150 => ?_) (fun c150 => ?_)
                · skip
                  refine lv_iload hx hb dX4_right_164 (lv_at hl 4 rfl) ?_
                  refine lv_istore (lv' := [(4, .int g9), (0, .ref q), (1, .int (nI 1)), (3, .int (nI r9)), (5, .int (nI (k9 - 1))), (6, .int (nI e9))]) hx hb dX4_right_166 hl (by decide) rfl (fun ls hl => ?_)
                  refine lv_iinc (v := nI (e9 - 1)) (lv' := [(6, .int (nI (e9 - 1))), (4, .int g9), (0, .ref q), (1, .int (nI 1)), (3, .int (nI r9)), (5, .int (nI (k9 - 1)))]) hx hb dX4_right_168 hl (k := 5) rfl (z_dec1 (by omega)) (by decide) rfl (fun ls hl => ?_)
                  refine lv_goto (tgt := 116) hx hb dX4_right_171 (by decide) ?_
                  exact ih116 (e9 - 1) (by omega) (e9 - 1) g9 rfl (by omega) (by rw [← hg9, mfI_s (e := e9) (by omega)]; rw [if_neg (fun h => by rcases h with h | h; exact c135 h; exact c150 h)]) ls (lv_sub hl [2, 3, 4, 5, 1, 0] rfl)
                · skip
                  refine lv_bipush (v := nI 10) hx hb dX4_right_153 (by decide) ?_
                  refine lv_iload hx hb dX4_right_155 (lv_at hl 3 rfl) ?_
                  refine zi_mul hC dX4_right_157 ?_
                  refine lv_iload hx hb dX4_right_158 (lv_at hl 5 rfl) ?_
                  refine zi_add hC dX4_right_160 ?_
                  refine lv_goto (tgt := 166) hx hb dX4_right_161 (by decide) ?_
                  refine lv_istore (lv' := [(4, .int (nI ((10 * (k9 - 1)) + e9))), (0, .ref q), (1, .int (nI 1)), (3, .int (nI r9)), (5, .int (nI (k9 - 1))), (6, .int (nI e9))]) hx hb dX4_right_166 hl (by decide) rfl (fun ls hl => ?_)
                  refine lv_iinc (v := nI (e9 - 1)) (lv' := [(6, .int (nI (e9 - 1))), (4, .int (nI ((10 * (k9 - 1)) + e9))), (0, .ref q), (1, .int (nI 1)), (3, .int (nI r9)), (5, .int (nI (k9 - 1)))]) hx hb dX4_right_168 hl (k := 5) rfl (z_dec1 (by omega)) (by decide) rfl (fun ls hl => ?_)
                  refine lv_goto (tgt := 116) hx hb dX4_right_171 (by decide) ?_
                  exact ih116 (e9 - 1) (by omega) (e9 - 1) (nI ((10 * (k9 - 1)) + e9)) rfl (by omega) (by rw [← hg9, mfI_s (e := e9) (by omega)]; rw [if_pos (Or.inr (by omega))]) ls (lv_sub hl [2, 3, 4, 5, 1, 0] rfl)
          exact hL116 _ ((dc 0) - 1) f9 rfl (by omega) (by rfl) ls (lv_sub hl [1, 2, 3, 5, 4, 0] rfl)
      exact hL101 _ (dc 0) (-9) rfl (by omega) (by rfl) ls (lv_sub hl [2, 3, 5, 1, 0] rfl)
    · skip
      refine lv_iload_n hx hb dX4_right_29 rfl (lv_at hl 3 rfl) ?_
      refine lv_iload_n hx hb dX4_right_30 rfl (lv_at hl 2 rfl) ?_
      refine lv_iload hx hb dX4_right_31 (lv_at hl 4 rfl) ?_
      refine zi_shr hC dX4_right_33 (by omega) (by omega) ?_
      refine lv_iconst (v := nI 1) hx hb dX4_right_34 (by decide) ?_
      refine zi_and hC dX4_right_35 ?_
      have b36 : (Nat.testBit x9 d).toNat < 2 := Bool.toNat_lt _
      refine z_top (show (nI ((x9 / 2 ^ d) &&& 1)) = nI ((Nat.testBit x9 d).toNat) from by exact z_bit x9 d) ?_
      refine z0_ne (tgt := 43) hC dX4_right_36 (by decide) (by omega) (fun c36 => ?_) (fun c36 => ?_)
      · skip
        have c37 : Nat.testBit x9 d = true := z_bt1.mp (by omega)
        refine lv_iconst (v := nI 0) hx hb dX4_right_43 (by decide) ?_
        refine zi_add hC dX4_right_44 ?_
        refine lv_istore_n (lv' := [(3, .int (nI (r9 + 0))), (0, .ref q), (1, .int (nI 1)), (2, .int (nI x9)), (4, .int (nI d))]) hx hb dX4_right_45 rfl hl (by decide) rfl (fun ls hl => ?_)
        refine lv_iload hx hb dX4_right_46 (lv_at hl 4 rfl) ?_
        refine lv_istore (lv' := [(5, .int (nI d)), (3, .int (nI (r9 + 0))), (0, .ref q), (1, .int (nI 1)), (2, .int (nI x9)), (4, .int (nI d))]) hx hb dX4_right_48 hl (by decide) rfl (fun ls hl => ?_)
        have hL50 : ∀ (z50 : Nat) (e9 : Nat) (s9 : Nat) (k9 : Nat), 64 - s9 = z50 → (e9 < 6) → (s9 < 64) → (64 - s9 < k9) → (rgR (fun i => nw (12 + i)) k9 e9 s9 = rgR (fun i => nw (12 + i)) 65 d x9) → ∀ ls : Array Slot, lv_has ls 7 [(0, .ref q), (1, .int (nI 1)), (3, .int (nI (r9 + 0))), (4, .int (nI d)), (2, .int (nI s9)), (5, .int (nI e9))] → W p l e { frames := 1, cells := 0, slots := 0, locals := 22 } s m args below meth c s.heap [] 0 0 (MQ below (qR (some (.int (mfO (fun i => nw (12 + i)) (dc 0) (dc 0) (-9))))) args s 0 0 (fun _ => False)) (F0 m 50 ls []) := by
          intro z50
          induction z50 using Nat.strongRecOn with
          | _ z50 ih50 =>
          intro e9 s9 k9 hz50 he hs9 hk9 hq9 ls hl
          refine lv_iload_n hx hb dX4_right_50 rfl (lv_at hl 4 rfl) ?_
          refine lv_iload hx hb dX4_right_51 (lv_at hl 5 rfl) ?_
          refine zi_shr hC dX4_right_53 (by omega) (by omega) ?_
          refine lv_iconst (v := nI 1) hx hb dX4_right_54 (by decide) ?_
          refine zi_and hC dX4_right_55 ?_
          have b56 : (Nat.testBit s9 e9).toNat < 2 := Bool.toNat_lt _
          refine z_top (show (nI ((s9 / 2 ^ e9) &&& 1)) = nI ((Nat.testBit s9 e9).toNat) from by exact z_bit s9 e9) ?_
          refine z0_ne (tgt := 81) hC dX4_right_56 (by decide) (by omega) (fun c56 => ?_) (fun c56 => ?_)
          · skip
            have c57 : Nat.testBit s9 e9 = true := z_bt1.mp (by omega)
            refine lv_iinc (v := nI (d + 1)) (lv' := [(4, .int (nI (d + 1))), (0, .ref q), (1, .int (nI 1)), (3, .int (nI (r9 + 0))), (2, .int (nI s9)), (5, .int (nI e9))]) hx hb dX4_right_81 hl (k := 3) rfl (z_inc d 1) (by decide) rfl (fun ls hl => ?_)
            refine lv_goto (tgt := 18) hx hb dX4_right_84 (by decide) ?_
            exact ih18 (dc 0 - (d + 1)) (by omega) (d + 1) s9 (r9 + 0) rfl (by omega) (by rw [mcS_s, ← hr9, ← hx9]; exact congrArg (r9 + ·) (if_pos c37).symm) (by rw [mcS_s, ← hx9, ← hq9]; exact (rgR_t c57).symm) (by omega) (by omega) ls (lv_sub hl [1, 2, 4, 3, 0] rfl)
          · skip
            have c57 : Nat.testBit s9 e9 = false := z_bt0.mp (by omega)
            have b75 := hlb e9 he
            have b76 := z_orgt c57
            have b77 := z_or64 hs9 (z_pow6 he)
            refine lv_iload_n hx hb dX4_right_59 rfl (lv_at hl 4 rfl) ?_
            refine lv_iconst (v := nI 1) hx hb dX4_right_60 (by decide) ?_
            refine lv_iload hx hb dX4_right_61 (lv_at hl 5 rfl) ?_
            refine zi_shl1 hC dX4_right_63 (by omega) ?_
            refine zi_or hC dX4_right_64 ?_
            refine lv_istore_n (lv' := [(2, .int (nI (s9 ||| (2 ^ e9)))), (0, .ref q), (1, .int (nI 1)), (3, .int (nI (r9 + 0))), (4, .int (nI d)), (5, .int (nI e9))]) hx hb dX4_right_65 rfl hl (by decide) rfl (fun ls hl => ?_)
            refine lv_aload_n hx hb dX4_right_66 rfl (lv_at hl 1 rfl) ?_
            refine z_get (k := 15) zcX4 hC hK hP 0 rfl (by decide) lF_X4_35 rfl dX4_right_67 ?_
            refine lv_bipush (v := nI 12) hx hb dX4_right_70 (by decide) ?_
            refine lv_iload hx hb dX4_right_72 (lv_at hl 5 rfl) ?_
            refine zi_add hC dX4_right_74 ?_
            refine z_ald hC hK hP 2 rfl (by omega) (by decide) dX4_right_75 ?_
            refine lv_istore (lv' := [(5, .int (nI (nw (12 + e9)))), (2, .int (nI (s9 ||| (2 ^ e9)))), (0, .ref q), (1, .int (nI 1)), (3, .int (nI (r9 + 0))), (4, .int (nI d))]) hx hb dX4_right_76 hl (by decide) rfl (fun ls hl => ?_)
            refine lv_goto (tgt := 50) hx hb dX4_right_78 (by decide) ?_
            exact ih50 (64 - (s9 ||| (2 ^ e9))) (by omega) (nw (12 + e9)) (s9 ||| (2 ^ e9)) (k9 - 1) rfl (by exact b75) (by exact b77) (by omega) (by rw [← hq9]; exact (rgR_f (by omega) c57).symm) ls (lv_sub hl [2, 3, 4, 5, 1, 0] rfl)
        exact hL50 _ d x9 65 rfl (by omega) (by omega) (by omega) (by rfl) ls (lv_sub hl [2, 3, 1, 5, 4, 0] rfl)
      · skip
        have c37 : ¬ Nat.testBit x9 d = true := fun h => by have := z_bt1.mpr h; omega
        refine lv_iconst (v := nI 1) hx hb dX4_right_39 (by decide) ?_
        refine lv_goto (tgt := 44) hx hb dX4_right_40 (by decide) ?_
        refine zi_add hC dX4_right_44 ?_
        refine lv_istore_n (lv' := [(3, .int (nI (r9 + 1))), (0, .ref q), (1, .int (nI 1)), (2, .int (nI x9)), (4, .int (nI d))]) hx hb dX4_right_45 rfl hl (by decide) rfl (fun ls hl => ?_)
        refine lv_iload hx hb dX4_right_46 (lv_at hl 4 rfl) ?_
        refine lv_istore (lv' := [(5, .int (nI d)), (3, .int (nI (r9 + 1))), (0, .ref q), (1, .int (nI 1)), (2, .int (nI x9)), (4, .int (nI d))]) hx hb dX4_right_48 hl (by decide) rfl (fun ls hl => ?_)
        have hL50 : ∀ (z50 : Nat) (e9 : Nat) (s9 : Nat) (k9 : Nat), 64 - s9 = z50 → (e9 < 6) → (s9 < 64) → (64 - s9 < k9) → (rgR (fun i => nw (12 + i)) k9 e9 s9 = rgR (fun i => nw (12 + i)) 65 d x9) → ∀ ls : Array Slot, lv_has ls 7 [(0, .ref q), (1, .int (nI 1)), (3, .int (nI (r9 + 1))), (4, .int (nI d)), (2, .int (nI s9)), (5, .int (nI e9))] → W p l e { frames := 1, cells := 0, slots := 0, locals := 22 } s m args below meth c s.heap [] 0 0 (MQ below (qR (some (.int (mfO (fun i => nw (12 + i)) (dc 0) (dc 0) (-9))))) args s 0 0 (fun _ => False)) (F0 m 50 ls []) := by
          intro z50
          induction z50 using Nat.strongRecOn with
          | _ z50 ih50 =>
          intro e9 s9 k9 hz50 he hs9 hk9 hq9 ls hl
          refine lv_iload_n hx hb dX4_right_50 rfl (lv_at hl 4 rfl) ?_
          refine lv_iload hx hb dX4_right_51 (lv_at hl 5 rfl) ?_
          refine zi_shr hC dX4_right_53 (by omega) (by omega) ?_
          refine lv_iconst (v := nI 1) hx hb dX4_right_54 (by decide) ?_
          refine zi_and hC dX4_right_55 ?_
          have b56 : (Nat.testBit s9 e9).toNat < 2 := Bool.toNat_lt _
          refine z_top (show (nI ((s9 / 2 ^ e9) &&& 1)) = nI ((Nat.testBit s9 e9).toNat) from by exact z_bit s9 e9) ?_
          refine z0_ne (tgt := 81) hC dX4_right_56 (by decide) (by omega) (fun c56 => ?_) (fun c56 => ?_)
          · skip
            have c57 : Nat.testBit s9 e9 = true := z_bt1.mp (by omega)
            refine lv_iinc (v := nI (d + 1)) (lv' := [(4, .int (nI (d + 1))), (0, .ref q), (1, .int (nI 1)), (3, .int (nI (r9 + 1))), (2, .int (nI s9)), (5, .int (nI e9))]) hx hb dX4_right_81 hl (k := 3) rfl (z_inc d 1) (by decide) rfl (fun ls hl => ?_)
            refine lv_goto (tgt := 18) hx hb dX4_right_84 (by decide) ?_
            exact ih18 (dc 0 - (d + 1)) (by omega) (d + 1) s9 (r9 + 1) rfl (by omega) (by rw [mcS_s, ← hr9, ← hx9]; exact congrArg (r9 + ·) (if_neg c37).symm) (by rw [mcS_s, ← hx9, ← hq9]; exact (rgR_t c57).symm) (by omega) (by omega) ls (lv_sub hl [1, 2, 4, 3, 0] rfl)
          · skip
            have c57 : Nat.testBit s9 e9 = false := z_bt0.mp (by omega)
            have b75 := hlb e9 he
            have b76 := z_orgt c57
            have b77 := z_or64 hs9 (z_pow6 he)
            refine lv_iload_n hx hb dX4_right_59 rfl (lv_at hl 4 rfl) ?_
            refine lv_iconst (v := nI 1) hx hb dX4_right_60 (by decide) ?_
            refine lv_iload hx hb dX4_right_61 (lv_at hl 5 rfl) ?_
            refine zi_shl1 hC dX4_right_63 (by omega) ?_
            refine zi_or hC dX4_right_64 ?_
            refine lv_istore_n (lv' := [(2, .int (nI (s9 ||| (2 ^ e9)))), (0, .ref q), (1, .int (nI 1)), (3, .int (nI (r9 + 1))), (4, .int (nI d)), (5, .int (nI e9))]) hx hb dX4_right_65 rfl hl (by decide) rfl (fun ls hl => ?_)
            refine lv_aload_n hx hb dX4_right_66 rfl (lv_at hl 1 rfl) ?_
            refine z_get (k := 15) zcX4 hC hK hP 0 rfl (by decide) lF_X4_35 rfl dX4_right_67 ?_
            refine lv_bipush (v := nI 12) hx hb dX4_right_70 (by decide) ?_
            refine lv_iload hx hb dX4_right_72 (lv_at hl 5 rfl) ?_
            refine zi_add hC dX4_right_74 ?_
            refine z_ald hC hK hP 2 rfl (by omega) (by decide) dX4_right_75 ?_
            refine lv_istore (lv' := [(5, .int (nI (nw (12 + e9)))), (2, .int (nI (s9 ||| (2 ^ e9)))), (0, .ref q), (1, .int (nI 1)), (3, .int (nI (r9 + 1))), (4, .int (nI d))]) hx hb dX4_right_76 hl (by decide) rfl (fun ls hl => ?_)
            refine lv_goto (tgt := 50) hx hb dX4_right_78 (by decide) ?_
            exact ih50 (64 - (s9 ||| (2 ^ e9))) (by omega) (nw (12 + e9)) (s9 ||| (2 ^ e9)) (k9 - 1) rfl (by exact b75) (by exact b77) (by omega) (by rw [← hq9]; exact (rgR_f (by omega) c57).symm) ls (lv_sub hl [2, 3, 4, 5, 1, 0] rfl)
        exact hL50 _ d x9 65 rfl (by omega) (by omega) (by omega) (by rfl) ls (lv_sub hl [2, 3, 1, 5, 4, 0] rfl)
  exact hL18 _ 0 0 0 rfl (by omega) (by rfl) (by rfl) (by omega) (by omega) ls (lv_sub hl [3, 4, 2, 1, 0] rfl)
set_option maxHeartbeats 1000000 in
set_option maxRecDepth 100000 in
theorem c_X4_share_0 {l : Launch} {D : va_G} {cI cZ cB cR : ClassId} {q xtx ty xdc xdl xdb xar xac xwm xnd at9 sta sor val xnw xkp xta xtw td xhg : Nat} {tr : Int64} {fau : Int32} {dc nw : Nat → Nat}  (hn : dc 0 ≤ 6) (hlv : ∀ j, j < 6 → nw j ≤ 40)  : mR l yX4_share cX4_share 7 (some .int) 1 22 D cI cZ cB cR [oM q tr xtx ty xdc xdl xdb xar xac xwm xnd at9 sta sor val fau xnw xkp xta xtw td xhg, aI cI xdc 2 dc, aI cI xnw 729 nw] [.ref q, .int (nI 0)] (some (.int (oI (shm nw (dc 0) (2 ^ dc 0))))) := by
  refine mR_of rfl (Nat.le_of_ble_eq_true rfl) ?_
  intro p e s m args below meth c hC hr hlk hK hP ls hl
  have hl : lv_has ls 7 [(0, .ref q), (1, .int (nI 0))] := hl
  obtain ⟨hx, hb, hml, hown, hts⟩ := id hC
  have hlw : ∀ i, i < dc 0 → nw i ≤ 40 := fun i hi => hlv i (by omega)
  have hpw := z_powL6 hn
  refine lv_iload_n hx hb dX4_share_0 rfl (lv_at hl 1 rfl) ?_
  refine lv_iconst (v := nI 0) hx hb dX4_share_1 (by decide) ?_
  refine lv_iconst (v := nI 1) hx hb dX4_share_2 (by decide) ?_
  refine zRS (As := [.int (nI 0), .int (nI 0), .int (nI 1)]) (rest := []) hC (c_X4_in (l := l) (g := true) (hg := ⟨fun _ => ⟨(nI_leI (by omega) (by omega)).mpr (by omega), (nI_leI (by omega) (by omega)).mpr (by omega)⟩, fun _ => rfl⟩)) lM_X4_57 sM_X4_in (by decide) hK rfl hl.1 rfl (Nat.le_of_ble_eq_true rfl) dX4_share_3 (by decide) ?_
  show W _ _ _ _ _ _ _ _ _ _ _ _ _ _ _ (F0 m 6 ls [.int (bI true)])
  refine zb_ne (tgt := 11) hC dX4_share_6 (by decide) (fun c6 => ?_) (fun c6 => by exfalso; cases c6)
  refine lv_bipush (v := (-9)) hx hb dX4_share_11 (by decide) ?_
  refine lv_istore_n (lv' := [(2, .int (-9)), (0, .ref q), (1, .int (nI 0))]) hx hb dX4_share_13 rfl hl (by decide) rfl (fun ls hl => ?_)
  refine lv_iconst (v := nI 0) hx hb dX4_share_14 (by decide) ?_
  refine lv_istore_n (lv' := [(3, .int (nI 0)), (2, .int (-9)), (0, .ref q), (1, .int (nI 0))]) hx hb dX4_share_15 rfl hl (by decide) rfl (fun ls hl => ?_)
  refine lv_iconst (v := nI 0) hx hb dX4_share_16 (by decide) ?_
  refine lv_istore (lv' := [(4, .int (nI 0)), (3, .int (nI 0)), (2, .int (-9)), (0, .ref q), (1, .int (nI 0))]) hx hb dX4_share_17 hl (by decide) rfl (fun ls hl => ?_)
  have hL19 : ∀ (z19 : Nat) (s9 : Nat) (x9 : Int32) (y9 : Nat) (o9 : Option Nat), 65 - s9 = z19 → (s9 ≤ 2 ^ dc 0) → (x9 = oI o9) → (y9 = dO nw (dc 0) o9) → (o9 = shm nw (dc 0) s9) → (∀ i, o9 = some i → i < 64) → ∀ ls : Array Slot, lv_has ls 7 [(0, .ref q), (1, .int (nI 0)), (2, .int x9), (3, .int (nI y9)), (4, .int (nI s9))] → W p l e { frames := 1, cells := 0, slots := 0, locals := 22 } s m args below meth c s.heap [] 0 0 (MQ below (qR (some (.int (oI (shm nw (dc 0) (2 ^ dc 0)))))) args s 0 0 (fun _ => False)) (F0 m 19 ls []) := by
    intro z19
    induction z19 using Nat.strongRecOn with
    | _ z19 ih19 =>
    intro s9 x9 y9 o9 hz19 hs hx9 hy9 ho9 ho8 ls hl
    refine lv_iload hx hb dX4_share_19 (lv_at hl 4 rfl) ?_
    refine lv_iconst (v := nI 1) hx hb dX4_share_21 (by decide) ?_
    refine lv_aload_n hx hb dX4_share_22 rfl (lv_at hl 0 rfl) ?_
    refine z_get (k := 3) zcX4 hC hK hP 0 rfl (by decide) lF_X4_13 rfl dX4_share_23 ?_
    refine lv_iconst (v := nI 0) hx hb dX4_share_26 (by decide) ?_
    refine z_ald hC hK hP 1 rfl (by omega) (by decide) dX4_share_27 ?_
    refine zi_shl1 hC dX4_share_28 (by omega) ?_
    refine zc_ge (tgt := 157) hC dX4_share_29 (by decide) (by omega) (by omega) (fun c29 => ?_) (fun c29 => ?_)
    · skip
      refine lv_iload_n hx hb dX4_share_157 rfl (lv_at hl 1 rfl) ?_
      refine z0_ne (tgt := 165) hC dX4_share_158 (by decide) (by omega) (fun c158 => by exfalso; omega) (fun c158 => ?_)
      refine lv_iload_n hx hb dX4_share_161 rfl (lv_at hl 2 rfl) ?_
      refine lv_goto (tgt := 166) hx hb dX4_share_162 (by decide) ?_
      exact zr_i hC hr hlk (by rw [hx9, ho9, show s9 = 2 ^ dc 0 by omega]) dX4_share_166
    · skip
      refine lv_iconst (v := nI 0) hx hb dX4_share_32 (by decide) ?_
      refine z_top (show (nI 0) = nI (sm (fun i => if Nat.testBit s9 i then nw i else 0) 0) - nI (sm (fun i => if Nat.testBit s9 i then 0 else nw i) 0) from by exact (show nI 0 = nI 0 - nI 0 from by decide)) ?_
      refine lv_istore (lv' := [(5, .int (nI (sm (fun i => if Nat.testBit s9 i then nw i else 0) 0) - nI (sm (fun i => if Nat.testBit s9 i then 0 else nw i) 0))), (0, .ref q), (1, .int (nI 0)), (2, .int x9), (3, .int (nI y9)), (4, .int (nI s9))]) hx hb dX4_share_33 hl (by decide) rfl (fun ls hl => ?_)
      refine lv_iconst (v := nI 0) hx hb dX4_share_35 (by decide) ?_
      refine lv_istore (lv' := [(6, .int (nI 0)), (5, .int (nI (sm (fun i => if Nat.testBit s9 i then nw i else 0) 0) - nI (sm (fun i => if Nat.testBit s9 i then 0 else nw i) 0))), (0, .ref q), (1, .int (nI 0)), (2, .int x9), (3, .int (nI y9)), (4, .int (nI s9))]) hx hb dX4_share_36 hl (by decide) rfl (fun ls hl => ?_)
      have hL38 : ∀ (z38 : Nat) (i9 : Nat), dc 0 - i9 = z38 → (i9 ≤ dc 0) → ∀ ls : Array Slot, lv_has ls 7 [(0, .ref q), (1, .int (nI 0)), (2, .int x9), (3, .int (nI y9)), (4, .int (nI s9)), (5, .int (nI (sm (fun i => if Nat.testBit s9 i then nw i else 0) i9) - nI (sm (fun i => if Nat.testBit s9 i then 0 else nw i) i9))), (6, .int (nI i9))] → W p l e { frames := 1, cells := 0, slots := 0, locals := 22 } s m args below meth c s.heap [] 0 0 (MQ below (qR (some (.int (oI (shm nw (dc 0) (2 ^ dc 0)))))) args s 0 0 (fun _ => False)) (F0 m 38 ls []) := by
        intro z38
        induction z38 using Nat.strongRecOn with
        | _ z38 ih38 =>
        intro i9 hz38 hi ls hl
        refine lv_iload hx hb dX4_share_38 (lv_at hl 6 rfl) ?_
        refine lv_aload_n hx hb dX4_share_40 rfl (lv_at hl 0 rfl) ?_
        refine z_get (k := 3) zcX4 hC hK hP 0 rfl (by decide) lF_X4_13 rfl dX4_share_41 ?_
        refine lv_iconst (v := nI 0) hx hb dX4_share_44 (by decide) ?_
        refine z_ald hC hK hP 1 rfl (by omega) (by decide) dX4_share_45 ?_
        refine zc_ge (tgt := 89) hC dX4_share_46 (by decide) (by omega) (by omega) (fun c46 => ?_) (fun c46 => ?_)
        · skip
          have e46 : i9 = dc 0 := by omega
          rw [e46] at hl
          refine lv_iload hx hb dX4_share_89 (lv_at hl 5 rfl) ?_
          refine lv_if_ge (tgt := 100) hx hb dX4_share_91 (by decide) (fun c91 => ?_) (fun c91 => ?_)
          · skip
            refine lv_iload hx hb dX4_share_100 (lv_at hl 5 rfl) ?_
            refine z_top (show (nI (sm (fun i => if Nat.testBit s9 i then nw i else 0) (dc 0)) - nI (sm (fun i => if Nat.testBit s9 i then 0 else nw i) (dc 0))) = nI (dabs nw s9 (dc 0)) from by exact dabs_T hn hlw c91) ?_
            refine lv_istore (lv' := [(5, .int (nI (dabs nw s9 (dc 0)))), (0, .ref q), (1, .int (nI 0)), (2, .int x9), (3, .int (nI y9)), (4, .int (nI s9)), (6, .int (nI (dc 0)))]) hx hb dX4_share_102 hl (by decide) rfl (fun ls hl => ?_)
            refine lv_aload_n hx hb dX4_share_104 rfl (lv_at hl 1 rfl) ?_
            refine z_get (k := 3) zcX4 hC hK hP 0 rfl (by decide) lF_X4_13 rfl dX4_share_105 ?_
            refine lv_iconst (v := nI 0) hx hb dX4_share_108 (by decide) ?_
            refine z_ald hC hK hP 1 rfl (by omega) (by decide) dX4_share_109 ?_
            refine z0_eq (tgt := 121) hC dX4_share_110 (by decide) (by omega) (fun c110 => ?_) (fun c110 => ?_)
            · skip
              refine lv_iconst (v := nI 1) hx hb dX4_share_121 (by decide) ?_
              refine lv_goto (tgt := 126) hx hb dX4_share_122 (by decide) ?_
              refine lv_istore (lv' := [(6, .int (nI 1)), (5, .int (nI (dabs nw s9 (dc 0)))), (0, .ref q), (1, .int (nI 0)), (2, .int x9), (3, .int (nI y9)), (4, .int (nI s9))]) hx hb dX4_share_126 hl (by decide) rfl (fun ls hl => ?_)
              refine lv_iload hx hb dX4_share_128 (lv_at hl 0 rfl) ?_
              refine z0_eq (tgt := 151) hC dX4_share_130 (by decide) (by omega) (fun c130 => by exfalso; omega) (fun c130 => ?_)
              refine lv_iload_n hx hb dX4_share_133 rfl (lv_at hl 4 rfl) ?_
              refine lv_bipush (v := (-9)) hx hb dX4_share_134 (by decide) ?_
              refine lv_icmp_eq (tgt := 145) hx hb dX4_share_136 (by decide) (fun c136 => ?_) (fun c136 => ?_)
              · skip
                have e136 : o9 = none := (oI_no ho8).mp (hx9.symm.trans c136)
                refine lv_iload hx hb dX4_share_145 (lv_at hl 6 rfl) ?_
                refine lv_istore_n (lv' := [(2, .int (nI s9)), (6, .int (nI 1)), (5, .int (nI (dabs nw s9 (dc 0)))), (0, .ref q), (1, .int (nI 0)), (3, .int (nI y9)), (4, .int (nI s9))]) hx hb dX4_share_147 rfl hl (by decide) rfl (fun ls hl => ?_)
                refine lv_iload hx hb dX4_share_148 (lv_at hl 2 rfl) ?_
                refine lv_istore_n (lv' := [(3, .int (nI (dabs nw s9 (dc 0)))), (2, .int (nI s9)), (6, .int (nI 1)), (5, .int (nI (dabs nw s9 (dc 0)))), (0, .ref q), (1, .int (nI 0)), (4, .int (nI s9))]) hx hb dX4_share_150 rfl hl (by decide) rfl (fun ls hl => ?_)
                refine lv_iinc (v := nI (s9 + 1)) (lv' := [(4, .int (nI (s9 + 1))), (3, .int (nI (dabs nw s9 (dc 0)))), (2, .int (nI s9)), (6, .int (nI 1)), (5, .int (nI (dabs nw s9 (dc 0)))), (0, .ref q), (1, .int (nI 0))]) hx hb dX4_share_151 hl (k := 6) rfl (z_inc s9 1) (by decide) rfl (fun ls hl => ?_)
                refine lv_goto (tgt := 19) hx hb dX4_share_154 (by decide) ?_
                exact ih19 (65 - (s9 + 1)) (by omega) (s9 + 1) (nI s9) (dabs nw s9 (dc 0)) (some s9) rfl (by omega) (by rfl) (by rfl) (by rw [shm_s, ← ho9]; exact (if_pos ⟨Or.inl c110, Or.inl e136⟩).symm) (by intro i h; cases h; omega) ls (lv_sub hl [5, 6, 2, 1, 0] rfl)
              · skip
                have e136 : ¬ o9 = none := fun h => c136 (hx9.trans ((oI_no ho8).mpr h))
                refine lv_iload hx hb dX4_share_139 (lv_at hl 1 rfl) ?_
                refine lv_iload_n hx hb dX4_share_141 rfl (lv_at hl 5 rfl) ?_
                have b142 : y9 ≤ 40 * dc 0 := by rw [hy9]; exact dO_le hlw
                have b143 := dabs_leN (st := s9) hlw
                refine zc_ge (tgt := 151) hC dX4_share_142 (by decide) (by omega) (by omega) (fun c142 => ?_) (fun c142 => ?_)
                · skip
                  refine lv_iinc (v := nI (s9 + 1)) (lv' := [(4, .int (nI (s9 + 1))), (6, .int (nI 1)), (5, .int (nI (dabs nw s9 (dc 0)))), (0, .ref q), (1, .int (nI 0)), (2, .int x9), (3, .int (nI y9))]) hx hb dX4_share_151 hl (k := 6) rfl (z_inc s9 1) (by decide) rfl (fun ls hl => ?_)
                  refine lv_goto (tgt := 19) hx hb dX4_share_154 (by decide) ?_
                  exact ih19 (65 - (s9 + 1)) (by omega) (s9 + 1) x9 y9 o9 rfl (by omega) (by exact hx9) (by exact hy9) (by rw [shm_s, ← ho9]; exact (if_neg (fun h => by rcases h.2 with h | h; exact e136 h; rw [← hy9] at h; omega)).symm) (by exact ho8) ls (lv_sub hl [3, 4, 5, 6, 0] rfl)
                · skip
                  refine lv_iload hx hb dX4_share_145 (lv_at hl 6 rfl) ?_
                  refine lv_istore_n (lv' := [(2, .int (nI s9)), (6, .int (nI 1)), (5, .int (nI (dabs nw s9 (dc 0)))), (0, .ref q), (1, .int (nI 0)), (3, .int (nI y9)), (4, .int (nI s9))]) hx hb dX4_share_147 rfl hl (by decide) rfl (fun ls hl => ?_)
                  refine lv_iload hx hb dX4_share_148 (lv_at hl 2 rfl) ?_
                  refine lv_istore_n (lv' := [(3, .int (nI (dabs nw s9 (dc 0)))), (2, .int (nI s9)), (6, .int (nI 1)), (5, .int (nI (dabs nw s9 (dc 0)))), (0, .ref q), (1, .int (nI 0)), (4, .int (nI s9))]) hx hb dX4_share_150 rfl hl (by decide) rfl (fun ls hl => ?_)
                  refine lv_iinc (v := nI (s9 + 1)) (lv' := [(4, .int (nI (s9 + 1))), (3, .int (nI (dabs nw s9 (dc 0)))), (2, .int (nI s9)), (6, .int (nI 1)), (5, .int (nI (dabs nw s9 (dc 0)))), (0, .ref q), (1, .int (nI 0))]) hx hb dX4_share_151 hl (k := 6) rfl (z_inc s9 1) (by decide) rfl (fun ls hl => ?_)
                  refine lv_goto (tgt := 19) hx hb dX4_share_154 (by decide) ?_
                  exact ih19 (65 - (s9 + 1)) (by omega) (s9 + 1) (nI s9) (dabs nw s9 (dc 0)) (some s9) rfl (by omega) (by rfl) (by rfl) (by rw [shm_s, ← ho9]; exact (if_pos ⟨Or.inl c110, Or.inr (by rw [← hy9]; omega)⟩).symm) (by intro i h; cases h; omega) ls (lv_sub hl [5, 6, 2, 1, 0] rfl)
            · skip
              refine lv_iload hx hb dX4_share_113 (lv_at hl 5 rfl) ?_
              refine lv_iconst (v := nI 1) hx hb dX4_share_115 (by decide) ?_
              refine zi_and hC dX4_share_116 ?_
              refine lv_iconst (v := nI 1) hx hb dX4_share_117 (by decide) ?_
              have b118 : s9 &&& 1 < 2 ^ 1 := Nat.and_lt_two_pow _ (by decide)
              refine zc_ne (tgt := 125) hC dX4_share_118 (by decide) (by omega) (by omega) (fun c118 => ?_) (fun c118 => ?_)
              · skip
                refine lv_iconst (v := nI 0) hx hb dX4_share_125 (by decide) ?_
                refine lv_istore (lv' := [(6, .int (nI 0)), (5, .int (nI (dabs nw s9 (dc 0)))), (0, .ref q), (1, .int (nI 0)), (2, .int x9), (3, .int (nI y9)), (4, .int (nI s9))]) hx hb dX4_share_126 hl (by decide) rfl (fun ls hl => ?_)
                refine lv_iload hx hb dX4_share_128 (lv_at hl 0 rfl) ?_
                refine z0_eq (tgt := 151) hC dX4_share_130 (by decide) (by omega) (fun c130 => ?_) (fun c130 => by exfalso; omega)
                refine lv_iinc (v := nI (s9 + 1)) (lv' := [(4, .int (nI (s9 + 1))), (6, .int (nI 0)), (5, .int (nI (dabs nw s9 (dc 0)))), (0, .ref q), (1, .int (nI 0)), (2, .int x9), (3, .int (nI y9))]) hx hb dX4_share_151 hl (k := 6) rfl (z_inc s9 1) (by decide) rfl (fun ls hl => ?_)
                refine lv_goto (tgt := 19) hx hb dX4_share_154 (by decide) ?_
                exact ih19 (65 - (s9 + 1)) (by omega) (s9 + 1) x9 y9 o9 rfl (by omega) (by exact hx9) (by exact hy9) (by rw [shm_s, ← ho9]; exact (if_neg (fun h => by rcases h.1 with h | h <;> omega)).symm) (by exact ho8) ls (lv_sub hl [3, 4, 5, 6, 0] rfl)
              · skip
                refine lv_iconst (v := nI 1) hx hb dX4_share_121 (by decide) ?_
                refine lv_goto (tgt := 126) hx hb dX4_share_122 (by decide) ?_
                refine lv_istore (lv' := [(6, .int (nI 1)), (5, .int (nI (dabs nw s9 (dc 0)))), (0, .ref q), (1, .int (nI 0)), (2, .int x9), (3, .int (nI y9)), (4, .int (nI s9))]) hx hb dX4_share_126 hl (by decide) rfl (fun ls hl => ?_)
                refine lv_iload hx hb dX4_share_128 (lv_at hl 0 rfl) ?_
                refine z0_eq (tgt := 151) hC dX4_share_130 (by decide) (by omega) (fun c130 => by exfalso; omega) (fun c130 => ?_)
                refine lv_iload_n hx hb dX4_share_133 rfl (lv_at hl 4 rfl) ?_
                refine lv_bipush (v := (-9)) hx hb dX4_share_134 (by decide) ?_
                refine lv_icmp_eq (tgt := 145) hx hb dX4_share_136 (by decide) (fun c136 => ?_) (fun c136 => ?_)
                · skip
                  have e136 : o9 = none := (oI_no ho8).mp (hx9.symm.trans c136)
                  refine lv_iload hx hb dX4_share_145 (lv_at hl 6 rfl) ?_
                  refine lv_istore_n (lv' := [(2, .int (nI s9)), (6, .int (nI 1)), (5, .int (nI (dabs nw s9 (dc 0)))), (0, .ref q), (1, .int (nI 0)), (3, .int (nI y9)), (4, .int (nI s9))]) hx hb dX4_share_147 rfl hl (by decide) rfl (fun ls hl => ?_)
                  refine lv_iload hx hb dX4_share_148 (lv_at hl 2 rfl) ?_
                  refine lv_istore_n (lv' := [(3, .int (nI (dabs nw s9 (dc 0)))), (2, .int (nI s9)), (6, .int (nI 1)), (5, .int (nI (dabs nw s9 (dc 0)))), (0, .ref q), (1, .int (nI 0)), (4, .int (nI s9))]) hx hb dX4_share_150 rfl hl (by decide) rfl (fun ls hl => ?_)
                  refine lv_iinc (v := nI (s9 + 1)) (lv' := [(4, .int (nI (s9 + 1))), (3, .int (nI (dabs nw s9 (dc 0)))), (2, .int (nI s9)), (6, .int (nI 1)), (5, .int (nI (dabs nw s9 (dc 0)))), (0, .ref q), (1, .int (nI 0))]) hx hb dX4_share_151 hl (k := 6) rfl (z_inc s9 1) (by decide) rfl (fun ls hl => ?_)
                  refine lv_goto (tgt := 19) hx hb dX4_share_154 (by decide) ?_
                  exact ih19 (65 - (s9 + 1)) (by omega) (s9 + 1) (nI s9) (dabs nw s9 (dc 0)) (some s9) rfl (by omega) (by rfl) (by rfl) (by rw [shm_s, ← ho9]; exact (if_pos ⟨Or.inr c118, Or.inl e136⟩).symm) (by intro i h; cases h; omega) ls (lv_sub hl [5, 6, 2, 1, 0] rfl)
                · skip
                  have e136 : ¬ o9 = none := fun h => c136 (hx9.trans ((oI_no ho8).mpr h))
                  refine lv_iload hx hb dX4_share_139 (lv_at hl 1 rfl) ?_
                  refine lv_iload_n hx hb dX4_share_141 rfl (lv_at hl 5 rfl) ?_
                  have b142 : y9 ≤ 40 * dc 0 := by rw [hy9]; exact dO_le hlw
                  have b143 := dabs_leN (st := s9) hlw
                  refine zc_ge (tgt := 151) hC dX4_share_142 (by decide) (by omega) (by omega) (fun c142 => ?_) (fun c142 => ?_)
                  · skip
                    refine lv_iinc (v := nI (s9 + 1)) (lv' := [(4, .int (nI (s9 + 1))), (6, .int (nI 1)), (5, .int (nI (dabs nw s9 (dc 0)))), (0, .ref q), (1, .int (nI 0)), (2, .int x9), (3, .int (nI y9))]) hx hb dX4_share_151 hl (k := 6) rfl (z_inc s9 1) (by decide) rfl (fun ls hl => ?_)
                    refine lv_goto (tgt := 19) hx hb dX4_share_154 (by decide) ?_
                    exact ih19 (65 - (s9 + 1)) (by omega) (s9 + 1) x9 y9 o9 rfl (by omega) (by exact hx9) (by exact hy9) (by rw [shm_s, ← ho9]; exact (if_neg (fun h => by rcases h.2 with h | h; exact e136 h; rw [← hy9] at h; omega)).symm) (by exact ho8) ls (lv_sub hl [3, 4, 5, 6, 0] rfl)
                  · skip
                    refine lv_iload hx hb dX4_share_145 (lv_at hl 6 rfl) ?_
                    refine lv_istore_n (lv' := [(2, .int (nI s9)), (6, .int (nI 1)), (5, .int (nI (dabs nw s9 (dc 0)))), (0, .ref q), (1, .int (nI 0)), (3, .int (nI y9)), (4, .int (nI s9))]) hx hb dX4_share_147 rfl hl (by decide) rfl (fun ls hl => ?_)
                    refine lv_iload hx hb dX4_share_148 (lv_at hl 2 rfl) ?_
                    refine lv_istore_n (lv' := [(3, .int (nI (dabs nw s9 (dc 0)))), (2, .int (nI s9)), (6, .int (nI 1)), (5, .int (nI (dabs nw s9 (dc 0)))), (0, .ref q), (1, .int (nI 0)), (4, .int (nI s9))]) hx hb dX4_share_150 rfl hl (by decide) rfl (fun ls hl => ?_)
                    refine lv_iinc (v := nI (s9 + 1)) (lv' := [(4, .int (nI (s9 + 1))), (3, .int (nI (dabs nw s9 (dc 0)))), (2, .int (nI s9)), (6, .int (nI 1)), (5, .int (nI (dabs nw s9 (dc 0)))), (0, .ref q), (1, .int (nI 0))]) hx hb dX4_share_151 hl (k := 6) rfl (z_inc s9 1) (by decide) rfl (fun ls hl => ?_)
                    refine lv_goto (tgt := 19) hx hb dX4_share_154 (by decide) ?_
                    exact ih19 (65 - (s9 + 1)) (by omega) (s9 + 1) (nI s9) (dabs nw s9 (dc 0)) (some s9) rfl (by omega) (by rfl) (by rfl) (by rw [shm_s, ← ho9]; exact (if_pos ⟨Or.inr c118, Or.inr (by rw [← hy9]; omega)⟩).symm) (by intro i h; cases h; omega) ls (lv_sub hl [5, 6, 2, 1, 0] rfl)
          · skip
            refine lv_iload hx hb dX4_share_94 (lv_at hl 5 rfl) ?_
            refine lv_ineg hx hb dX4_share_96 ?_
            refine lv_goto (tgt := 102) hx hb dX4_share_97 (by decide) ?_
            refine z_top (show (-(nI (sm (fun i => if Nat.testBit s9 i then nw i else 0) (dc 0)) - nI (sm (fun i => if Nat.testBit s9 i then 0 else nw i) (dc 0)))) = nI (dabs nw s9 (dc 0)) from by exact dabs_F hn hlw c91) ?_
            refine lv_istore (lv' := [(5, .int (nI (dabs nw s9 (dc 0)))), (0, .ref q), (1, .int (nI 0)), (2, .int x9), (3, .int (nI y9)), (4, .int (nI s9)), (6, .int (nI (dc 0)))]) hx hb dX4_share_102 hl (by decide) rfl (fun ls hl => ?_)
            refine lv_aload_n hx hb dX4_share_104 rfl (lv_at hl 1 rfl) ?_
            refine z_get (k := 3) zcX4 hC hK hP 0 rfl (by decide) lF_X4_13 rfl dX4_share_105 ?_
            refine lv_iconst (v := nI 0) hx hb dX4_share_108 (by decide) ?_
            refine z_ald hC hK hP 1 rfl (by omega) (by decide) dX4_share_109 ?_
            refine z0_eq (tgt := 121) hC dX4_share_110 (by decide) (by omega) (fun c110 => ?_) (fun c110 => ?_)
            · skip
              refine lv_iconst (v := nI 1) hx hb dX4_share_121 (by decide) ?_
              refine lv_goto (tgt := 126) hx hb dX4_share_122 (by decide) ?_
              refine lv_istore (lv' := [(6, .int (nI 1)), (5, .int (nI (dabs nw s9 (dc 0)))), (0, .ref q), (1, .int (nI 0)), (2, .int x9), (3, .int (nI y9)), (4, .int (nI s9))]) hx hb dX4_share_126 hl (by decide) rfl (fun ls hl => ?_)
              refine lv_iload hx hb dX4_share_128 (lv_at hl 0 rfl) ?_
              refine z0_eq (tgt := 151) hC dX4_share_130 (by decide) (by omega) (fun c130 => by exfalso; omega) (fun c130 => ?_)
              refine lv_iload_n hx hb dX4_share_133 rfl (lv_at hl 4 rfl) ?_
              refine lv_bipush (v := (-9)) hx hb dX4_share_134 (by decide) ?_
              refine lv_icmp_eq (tgt := 145) hx hb dX4_share_136 (by decide) (fun c136 => ?_) (fun c136 => ?_)
              · skip
                have e136 : o9 = none := (oI_no ho8).mp (hx9.symm.trans c136)
                refine lv_iload hx hb dX4_share_145 (lv_at hl 6 rfl) ?_
                refine lv_istore_n (lv' := [(2, .int (nI s9)), (6, .int (nI 1)), (5, .int (nI (dabs nw s9 (dc 0)))), (0, .ref q), (1, .int (nI 0)), (3, .int (nI y9)), (4, .int (nI s9))]) hx hb dX4_share_147 rfl hl (by decide) rfl (fun ls hl => ?_)
                refine lv_iload hx hb dX4_share_148 (lv_at hl 2 rfl) ?_
                refine lv_istore_n (lv' := [(3, .int (nI (dabs nw s9 (dc 0)))), (2, .int (nI s9)), (6, .int (nI 1)), (5, .int (nI (dabs nw s9 (dc 0)))), (0, .ref q), (1, .int (nI 0)), (4, .int (nI s9))]) hx hb dX4_share_150 rfl hl (by decide) rfl (fun ls hl => ?_)
                refine lv_iinc (v := nI (s9 + 1)) (lv' := [(4, .int (nI (s9 + 1))), (3, .int (nI (dabs nw s9 (dc 0)))), (2, .int (nI s9)), (6, .int (nI 1)), (5, .int (nI (dabs nw s9 (dc 0)))), (0, .ref q), (1, .int (nI 0))]) hx hb dX4_share_151 hl (k := 6) rfl (z_inc s9 1) (by decide) rfl (fun ls hl => ?_)
                refine lv_goto (tgt := 19) hx hb dX4_share_154 (by decide) ?_
                exact ih19 (65 - (s9 + 1)) (by omega) (s9 + 1) (nI s9) (dabs nw s9 (dc 0)) (some s9) rfl (by omega) (by rfl) (by rfl) (by rw [shm_s, ← ho9]; exact (if_pos ⟨Or.inl c110, Or.inl e136⟩).symm) (by intro i h; cases h; omega) ls (lv_sub hl [5, 6, 2, 1, 0] rfl)
              · skip
                have e136 : ¬ o9 = none := fun h => c136 (hx9.trans ((oI_no ho8).mpr h))
                refine lv_iload hx hb dX4_share_139 (lv_at hl 1 rfl) ?_
                refine lv_iload_n hx hb dX4_share_141 rfl (lv_at hl 5 rfl) ?_
                have b142 : y9 ≤ 40 * dc 0 := by rw [hy9]; exact dO_le hlw
                have b143 := dabs_leN (st := s9) hlw
                refine zc_ge (tgt := 151) hC dX4_share_142 (by decide) (by omega) (by omega) (fun c142 => ?_) (fun c142 => ?_)
                · skip
                  refine lv_iinc (v := nI (s9 + 1)) (lv' := [(4, .int (nI (s9 + 1))), (6, .int (nI 1)), (5, .int (nI (dabs nw s9 (dc 0)))), (0, .ref q), (1, .int (nI 0)), (2, .int x9), (3, .int (nI y9))]) hx hb dX4_share_151 hl (k := 6) rfl (z_inc s9 1) (by decide) rfl (fun ls hl => ?_)
                  refine lv_goto (tgt := 19) hx hb dX4_share_154 (by decide) ?_
                  exact ih19 (65 - (s9 + 1)) (by omega) (s9 + 1) x9 y9 o9 rfl (by omega) (by exact hx9) (by exact hy9) (by rw [shm_s, ← ho9]; exact (if_neg (fun h => by rcases h.2 with h | h; exact e136 h; rw [← hy9] at h; omega)).symm) (by exact ho8) ls (lv_sub hl [3, 4, 5, 6, 0] rfl)
                · skip
                  refine lv_iload hx hb dX4_share_145 (lv_at hl 6 rfl) ?_
                  refine lv_istore_n (lv' := [(2, .int (nI s9)), (6, .int (nI 1)), (5, .int (nI (dabs nw s9 (dc 0)))), (0, .ref q), (1, .int (nI 0)), (3, .int (nI y9)), (4, .int (nI s9))]) hx hb dX4_share_147 rfl hl (by decide) rfl (fun ls hl => ?_)
                  refine lv_iload hx hb dX4_share_148 (lv_at hl 2 rfl) ?_
                  refine lv_istore_n (lv' := [(3, .int (nI (dabs nw s9 (dc 0)))), (2, .int (nI s9)), (6, .int (nI 1)), (5, .int (nI (dabs nw s9 (dc 0)))), (0, .ref q), (1, .int (nI 0)), (4, .int (nI s9))]) hx hb dX4_share_150 rfl hl (by decide) rfl (fun ls hl => ?_)
                  refine lv_iinc (v := nI (s9 + 1)) (lv' := [(4, .int (nI (s9 + 1))), (3, .int (nI (dabs nw s9 (dc 0)))), (2, .int (nI s9)), (6, .int (nI 1)), (5, .int (nI (dabs nw s9 (dc 0)))), (0, .ref q), (1, .int (nI 0))]) hx hb dX4_share_151 hl (k := 6) rfl (z_inc s9 1) (by decide) rfl (fun ls hl => ?_)
                  refine lv_goto (tgt := 19) hx hb dX4_share_154 (by decide) ?_
                  exact ih19 (65 - (s9 + 1)) (by omega) (s9 + 1) (nI s9) (dabs nw s9 (dc 0)) (some s9) rfl (by omega) (by rfl) (by rfl) (by rw [shm_s, ← ho9]; exact (if_pos ⟨Or.inl c110, Or.inr (by rw [← hy9]; omega)⟩).symm) (by intro i h; cases h; omega) ls (lv_sub hl [5, 6, 2, 1, 0] rfl)
            · skip
              refine lv_iload hx hb dX4_share_113 (lv_at hl 5 rfl) ?_
              refine lv_iconst (v := nI 1) hx hb dX4_share_115 (by decide) ?_
              refine zi_and hC dX4_share_116 ?_
              refine lv_iconst (v := nI 1) hx hb dX4_share_117 (by decide) ?_
              have b118 : s9 &&& 1 < 2 ^ 1 := Nat.and_lt_two_pow _ (by decide)
              refine zc_ne (tgt := 125) hC dX4_share_118 (by decide) (by omega) (by omega) (fun c118 => ?_) (fun c118 => ?_)
              · skip
                refine lv_iconst (v := nI 0) hx hb dX4_share_125 (by decide) ?_
                refine lv_istore (lv' := [(6, .int (nI 0)), (5, .int (nI (dabs nw s9 (dc 0)))), (0, .ref q), (1, .int (nI 0)), (2, .int x9), (3, .int (nI y9)), (4, .int (nI s9))]) hx hb dX4_share_126 hl (by decide) rfl (fun ls hl => ?_)
                refine lv_iload hx hb dX4_share_128 (lv_at hl 0 rfl) ?_
                refine z0_eq (tgt := 151) hC dX4_share_130 (by decide) (by omega) (fun c130 => ?_) (fun c130 => by exfalso; omega)
                refine lv_iinc (v := nI (s9 + 1)) (lv' := [(4, .int (nI (s9 + 1))), (6, .int (nI 0)), (5, .int (nI (dabs nw s9 (dc 0)))), (0, .ref q), (1, .int (nI 0)), (2, .int x9), (3, .int (nI y9))]) hx hb dX4_share_151 hl (k := 6) rfl (z_inc s9 1) (by decide) rfl (fun ls hl => ?_)
                refine lv_goto (tgt := 19) hx hb dX4_share_154 (by decide) ?_
                exact ih19 (65 - (s9 + 1)) (by omega) (s9 + 1) x9 y9 o9 rfl (by omega) (by exact hx9) (by exact hy9) (by rw [shm_s, ← ho9]; exact (if_neg (fun h => by rcases h.1 with h | h <;> omega)).symm) (by exact ho8) ls (lv_sub hl [3, 4, 5, 6, 0] rfl)
              · skip
                refine lv_iconst (v := nI 1) hx hb dX4_share_121 (by decide) ?_
                refine lv_goto (tgt := 126) hx hb dX4_share_122 (by decide) ?_
                refine lv_istore (lv' := [(6, .int (nI 1)), (5, .int (nI (dabs nw s9 (dc 0)))), (0, .ref q), (1, .int (nI 0)), (2, .int x9), (3, .int (nI y9)), (4, .int (nI s9))]) hx hb dX4_share_126 hl (by decide) rfl (fun ls hl => ?_)
                refine lv_iload hx hb dX4_share_128 (lv_at hl 0 rfl) ?_
                refine z0_eq (tgt := 151) hC dX4_share_130 (by decide) (by omega) (fun c130 => by exfalso; omega) (fun c130 => ?_)
                refine lv_iload_n hx hb dX4_share_133 rfl (lv_at hl 4 rfl) ?_
                refine lv_bipush (v := (-9)) hx hb dX4_share_134 (by decide) ?_
                refine lv_icmp_eq (tgt := 145) hx hb dX4_share_136 (by decide) (fun c136 => ?_) (fun c136 => ?_)
                · skip
                  have e136 : o9 = none := (oI_no ho8).mp (hx9.symm.trans c136)
                  refine lv_iload hx hb dX4_share_145 (lv_at hl 6 rfl) ?_
                  refine lv_istore_n (lv' := [(2, .int (nI s9)), (6, .int (nI 1)), (5, .int (nI (dabs nw s9 (dc 0)))), (0, .ref q), (1, .int (nI 0)), (3, .int (nI y9)), (4, .int (nI s9))]) hx hb dX4_share_147 rfl hl (by decide) rfl (fun ls hl => ?_)
                  refine lv_iload hx hb dX4_share_148 (lv_at hl 2 rfl) ?_
                  refine lv_istore_n (lv' := [(3, .int (nI (dabs nw s9 (dc 0)))), (2, .int (nI s9)), (6, .int (nI 1)), (5, .int (nI (dabs nw s9 (dc 0)))), (0, .ref q), (1, .int (nI 0)), (4, .int (nI s9))]) hx hb dX4_share_150 rfl hl (by decide) rfl (fun ls hl => ?_)
                  refine lv_iinc (v := nI (s9 + 1)) (lv' := [(4, .int (nI (s9 + 1))), (3, .int (nI (dabs nw s9 (dc 0)))), (2, .int (nI s9)), (6, .int (nI 1)), (5, .int (nI (dabs nw s9 (dc 0)))), (0, .ref q), (1, .int (nI 0))]) hx hb dX4_share_151 hl (k := 6) rfl (z_inc s9 1) (by decide) rfl (fun ls hl => ?_)
                  refine lv_goto (tgt := 19) hx hb dX4_share_154 (by decide) ?_
                  exact ih19 (65 - (s9 + 1)) (by omega) (s9 + 1) (nI s9) (dabs nw s9 (dc 0)) (some s9) rfl (by omega) (by rfl) (by rfl) (by rw [shm_s, ← ho9]; exact (if_pos ⟨Or.inr c118, Or.inl e136⟩).symm) (by intro i h; cases h; omega) ls (lv_sub hl [5, 6, 2, 1, 0] rfl)
                · skip
                  have e136 : ¬ o9 = none := fun h => c136 (hx9.trans ((oI_no ho8).mpr h))
                  refine lv_iload hx hb dX4_share_139 (lv_at hl 1 rfl) ?_
                  refine lv_iload_n hx hb dX4_share_141 rfl (lv_at hl 5 rfl) ?_
                  have b142 : y9 ≤ 40 * dc 0 := by rw [hy9]; exact dO_le hlw
                  have b143 := dabs_leN (st := s9) hlw
                  refine zc_ge (tgt := 151) hC dX4_share_142 (by decide) (by omega) (by omega) (fun c142 => ?_) (fun c142 => ?_)
                  · skip
                    refine lv_iinc (v := nI (s9 + 1)) (lv' := [(4, .int (nI (s9 + 1))), (6, .int (nI 1)), (5, .int (nI (dabs nw s9 (dc 0)))), (0, .ref q), (1, .int (nI 0)), (2, .int x9), (3, .int (nI y9))]) hx hb dX4_share_151 hl (k := 6) rfl (z_inc s9 1) (by decide) rfl (fun ls hl => ?_)
                    refine lv_goto (tgt := 19) hx hb dX4_share_154 (by decide) ?_
                    exact ih19 (65 - (s9 + 1)) (by omega) (s9 + 1) x9 y9 o9 rfl (by omega) (by exact hx9) (by exact hy9) (by rw [shm_s, ← ho9]; exact (if_neg (fun h => by rcases h.2 with h | h; exact e136 h; rw [← hy9] at h; omega)).symm) (by exact ho8) ls (lv_sub hl [3, 4, 5, 6, 0] rfl)
                  · skip
                    refine lv_iload hx hb dX4_share_145 (lv_at hl 6 rfl) ?_
                    refine lv_istore_n (lv' := [(2, .int (nI s9)), (6, .int (nI 1)), (5, .int (nI (dabs nw s9 (dc 0)))), (0, .ref q), (1, .int (nI 0)), (3, .int (nI y9)), (4, .int (nI s9))]) hx hb dX4_share_147 rfl hl (by decide) rfl (fun ls hl => ?_)
                    refine lv_iload hx hb dX4_share_148 (lv_at hl 2 rfl) ?_
                    refine lv_istore_n (lv' := [(3, .int (nI (dabs nw s9 (dc 0)))), (2, .int (nI s9)), (6, .int (nI 1)), (5, .int (nI (dabs nw s9 (dc 0)))), (0, .ref q), (1, .int (nI 0)), (4, .int (nI s9))]) hx hb dX4_share_150 rfl hl (by decide) rfl (fun ls hl => ?_)
                    refine lv_iinc (v := nI (s9 + 1)) (lv' := [(4, .int (nI (s9 + 1))), (3, .int (nI (dabs nw s9 (dc 0)))), (2, .int (nI s9)), (6, .int (nI 1)), (5, .int (nI (dabs nw s9 (dc 0)))), (0, .ref q), (1, .int (nI 0))]) hx hb dX4_share_151 hl (k := 6) rfl (z_inc s9 1) (by decide) rfl (fun ls hl => ?_)
                    refine lv_goto (tgt := 19) hx hb dX4_share_154 (by decide) ?_
                    exact ih19 (65 - (s9 + 1)) (by omega) (s9 + 1) (nI s9) (dabs nw s9 (dc 0)) (some s9) rfl (by omega) (by rfl) (by rfl) (by rw [shm_s, ← ho9]; exact (if_pos ⟨Or.inr c118, Or.inr (by rw [← hy9]; omega)⟩).symm) (by intro i h; cases h; omega) ls (lv_sub hl [5, 6, 2, 1, 0] rfl)
        · skip
          refine lv_iload hx hb dX4_share_49 (lv_at hl 5 rfl) ?_
          refine lv_iload hx hb dX4_share_51 (lv_at hl 4 rfl) ?_
          refine lv_iload hx hb dX4_share_53 (lv_at hl 6 rfl) ?_
          refine zi_shr hC dX4_share_55 (by omega) (by omega) ?_
          refine lv_iconst (v := nI 1) hx hb dX4_share_56 (by decide) ?_
          refine zi_and hC dX4_share_57 ?_
          refine z_top (show (nI ((s9 / 2 ^ i9) &&& 1)) = nI ((Nat.testBit s9 i9).toNat) from by exact z_bit s9 i9) ?_
          refine lv_iconst (v := nI 1) hx hb dX4_share_58 (by decide) ?_
          have b59 : (Nat.testBit s9 i9).toNat < 2 := Bool.toNat_lt _
          refine zc_ne (tgt := 72) hC dX4_share_59 (by decide) (by omega) (by omega) (fun c59 => ?_) (fun c59 => ?_)
          · skip
            refine lv_aload_n hx hb dX4_share_72 rfl (lv_at hl 0 rfl) ?_
            refine z_get (k := 15) zcX4 hC hK hP 0 rfl (by decide) lF_X4_35 rfl dX4_share_73 ?_
            refine lv_iload hx hb dX4_share_76 (lv_at hl 6 rfl) ?_
            refine z_ald hC hK hP 2 rfl (by omega) (by decide) dX4_share_78 ?_
            refine lv_ineg hx hb dX4_share_79 ?_
            refine lv_iadd hx hb dX4_share_80 ?_
            refine z_top (show ((nI (sm (fun i => if Nat.testBit s9 i then nw i else 0) i9) - nI (sm (fun i => if Nat.testBit s9 i then 0 else nw i) i9)) + (-(nI (nw i9)))) = nI (sm (fun i => if Nat.testBit s9 i then nw i else 0) (i9 + 1)) - nI (sm (fun i => if Nat.testBit s9 i then 0 else nw i) (i9 + 1)) from by rw [sm_s, sm_s, if_neg (fun h => c59 (z_bt1.mpr h)), if_neg (fun h => c59 (z_bt1.mpr h)), Nat.add_zero, ← nI_add]; grind) ?_
            refine lv_istore (lv' := [(5, .int (nI (sm (fun i => if Nat.testBit s9 i then nw i else 0) (i9 + 1)) - nI (sm (fun i => if Nat.testBit s9 i then 0 else nw i) (i9 + 1)))), (0, .ref q), (1, .int (nI 0)), (2, .int x9), (3, .int (nI y9)), (4, .int (nI s9)), (6, .int (nI i9))]) hx hb dX4_share_81 hl (by decide) rfl (fun ls hl => ?_)
            refine lv_iinc (v := nI (i9 + 1)) (lv' := [(6, .int (nI (i9 + 1))), (5, .int (nI (sm (fun i => if Nat.testBit s9 i then nw i else 0) (i9 + 1)) - nI (sm (fun i => if Nat.testBit s9 i then 0 else nw i) (i9 + 1)))), (0, .ref q), (1, .int (nI 0)), (2, .int x9), (3, .int (nI y9)), (4, .int (nI s9))]) hx hb dX4_share_83 hl (k := 6) rfl (z_inc i9 1) (by decide) rfl (fun ls hl => ?_)
            refine lv_goto (tgt := 38) hx hb dX4_share_86 (by decide) ?_
            exact ih38 (dc 0 - (i9 + 1)) (by omega) (i9 + 1) rfl (by omega) ls (lv_sub hl [2, 3, 4, 5, 6, 1, 0] rfl)
          · skip
            refine lv_aload_n hx hb dX4_share_62 rfl (lv_at hl 0 rfl) ?_
            refine z_get (k := 15) zcX4 hC hK hP 0 rfl (by decide) lF_X4_35 rfl dX4_share_63 ?_
            refine lv_iload hx hb dX4_share_66 (lv_at hl 6 rfl) ?_
            refine z_ald hC hK hP 2 rfl (by omega) (by decide) dX4_share_68 ?_
            refine lv_goto (tgt := 80) hx hb dX4_share_69 (by decide) ?_
            refine lv_iadd hx hb dX4_share_80 ?_
            refine z_top (show ((nI (sm (fun i => if Nat.testBit s9 i then nw i else 0) i9) - nI (sm (fun i => if Nat.testBit s9 i then 0 else nw i) i9)) + (nI (nw i9))) = nI (sm (fun i => if Nat.testBit s9 i then nw i else 0) (i9 + 1)) - nI (sm (fun i => if Nat.testBit s9 i then 0 else nw i) (i9 + 1)) from by rw [sm_s, sm_s, if_pos (z_bt1.mp c59), if_pos (z_bt1.mp c59), Nat.add_zero, ← nI_add]; grind) ?_
            refine lv_istore (lv' := [(5, .int (nI (sm (fun i => if Nat.testBit s9 i then nw i else 0) (i9 + 1)) - nI (sm (fun i => if Nat.testBit s9 i then 0 else nw i) (i9 + 1)))), (0, .ref q), (1, .int (nI 0)), (2, .int x9), (3, .int (nI y9)), (4, .int (nI s9)), (6, .int (nI i9))]) hx hb dX4_share_81 hl (by decide) rfl (fun ls hl => ?_)
            refine lv_iinc (v := nI (i9 + 1)) (lv' := [(6, .int (nI (i9 + 1))), (5, .int (nI (sm (fun i => if Nat.testBit s9 i then nw i else 0) (i9 + 1)) - nI (sm (fun i => if Nat.testBit s9 i then 0 else nw i) (i9 + 1)))), (0, .ref q), (1, .int (nI 0)), (2, .int x9), (3, .int (nI y9)), (4, .int (nI s9))]) hx hb dX4_share_83 hl (k := 6) rfl (z_inc i9 1) (by decide) rfl (fun ls hl => ?_)
            refine lv_goto (tgt := 38) hx hb dX4_share_86 (by decide) ?_
            exact ih38 (dc 0 - (i9 + 1)) (by omega) (i9 + 1) rfl (by omega) ls (lv_sub hl [2, 3, 4, 5, 6, 1, 0] rfl)
      exact hL38 _ 0 rfl (by omega) ls (lv_sub hl [2, 3, 4, 5, 6, 1, 0] rfl)
  exact hL19 _ 0 (-9) 0 none rfl (by exact Nat.zero_le _) (by rfl) (by rfl) (by rfl) (by intro i h; cases h) ls (lv_sub hl [3, 4, 2, 1, 0] rfl)
set_option maxHeartbeats 1000000 in
set_option maxRecDepth 100000 in
theorem c_X4_share_1 {l : Launch} {D : va_G} {cI cZ cB cR : ClassId} {q xtx ty xdc xdl xdb xar xac xwm xnd at9 sta sor val xnw xkp xta xtw td xhg : Nat} {tr : Int64} {fau : Int32} {dc nw : Nat → Nat}  (hn : dc 0 ≤ 6) (hlv : ∀ j, j < 6 → nw j ≤ 40)  : mR l yX4_share cX4_share 7 (some .int) 1 22 D cI cZ cB cR [oM q tr xtx ty xdc xdl xdb xar xac xwm xnd at9 sta sor val fau xnw xkp xta xtw td xhg, aI cI xdc 2 dc, aI cI xnw 729 nw] [.ref q, .int (nI 1)] (some (.int (nI (dO nw (dc 0) (shm nw (dc 0) (2 ^ dc 0)))))) := by
  refine mR_of rfl (Nat.le_of_ble_eq_true rfl) ?_
  intro p e s m args below meth c hC hr hlk hK hP ls hl
  have hl : lv_has ls 7 [(0, .ref q), (1, .int (nI 1))] := hl
  obtain ⟨hx, hb, hml, hown, hts⟩ := id hC
  have hlw : ∀ i, i < dc 0 → nw i ≤ 40 := fun i hi => hlv i (by omega)
  have hpw := z_powL6 hn
  refine lv_iload_n hx hb dX4_share_0 rfl (lv_at hl 1 rfl) ?_
  refine lv_iconst (v := nI 0) hx hb dX4_share_1 (by decide) ?_
  refine lv_iconst (v := nI 1) hx hb dX4_share_2 (by decide) ?_
  refine zRS (As := [.int (nI 1), .int (nI 0), .int (nI 1)]) (rest := []) hC (c_X4_in (l := l) (g := true) (hg := ⟨fun _ => ⟨(nI_leI (by omega) (by omega)).mpr (by omega), (nI_leI (by omega) (by omega)).mpr (by omega)⟩, fun _ => rfl⟩)) lM_X4_57 sM_X4_in (by decide) hK rfl hl.1 rfl (Nat.le_of_ble_eq_true rfl) dX4_share_3 (by decide) ?_
  show W _ _ _ _ _ _ _ _ _ _ _ _ _ _ _ (F0 m 6 ls [.int (bI true)])
  refine zb_ne (tgt := 11) hC dX4_share_6 (by decide) (fun c6 => ?_) (fun c6 => by exfalso; cases c6)
  refine lv_bipush (v := (-9)) hx hb dX4_share_11 (by decide) ?_
  refine lv_istore_n (lv' := [(2, .int (-9)), (0, .ref q), (1, .int (nI 1))]) hx hb dX4_share_13 rfl hl (by decide) rfl (fun ls hl => ?_)
  refine lv_iconst (v := nI 0) hx hb dX4_share_14 (by decide) ?_
  refine lv_istore_n (lv' := [(3, .int (nI 0)), (2, .int (-9)), (0, .ref q), (1, .int (nI 1))]) hx hb dX4_share_15 rfl hl (by decide) rfl (fun ls hl => ?_)
  refine lv_iconst (v := nI 0) hx hb dX4_share_16 (by decide) ?_
  refine lv_istore (lv' := [(4, .int (nI 0)), (3, .int (nI 0)), (2, .int (-9)), (0, .ref q), (1, .int (nI 1))]) hx hb dX4_share_17 hl (by decide) rfl (fun ls hl => ?_)
  have hL19 : ∀ (z19 : Nat) (s9 : Nat) (x9 : Int32) (y9 : Nat) (o9 : Option Nat), 65 - s9 = z19 → (s9 ≤ 2 ^ dc 0) → (x9 = oI o9) → (y9 = dO nw (dc 0) o9) → (o9 = shm nw (dc 0) s9) → (∀ i, o9 = some i → i < 64) → ∀ ls : Array Slot, lv_has ls 7 [(0, .ref q), (1, .int (nI 1)), (2, .int x9), (3, .int (nI y9)), (4, .int (nI s9))] → W p l e { frames := 1, cells := 0, slots := 0, locals := 22 } s m args below meth c s.heap [] 0 0 (MQ below (qR (some (.int (nI (dO nw (dc 0) (shm nw (dc 0) (2 ^ dc 0))))))) args s 0 0 (fun _ => False)) (F0 m 19 ls []) := by
    intro z19
    induction z19 using Nat.strongRecOn with
    | _ z19 ih19 =>
    intro s9 x9 y9 o9 hz19 hs hx9 hy9 ho9 ho8 ls hl
    refine lv_iload hx hb dX4_share_19 (lv_at hl 4 rfl) ?_
    refine lv_iconst (v := nI 1) hx hb dX4_share_21 (by decide) ?_
    refine lv_aload_n hx hb dX4_share_22 rfl (lv_at hl 0 rfl) ?_
    refine z_get (k := 3) zcX4 hC hK hP 0 rfl (by decide) lF_X4_13 rfl dX4_share_23 ?_
    refine lv_iconst (v := nI 0) hx hb dX4_share_26 (by decide) ?_
    refine z_ald hC hK hP 1 rfl (by omega) (by decide) dX4_share_27 ?_
    refine zi_shl1 hC dX4_share_28 (by omega) ?_
    refine zc_ge (tgt := 157) hC dX4_share_29 (by decide) (by omega) (by omega) (fun c29 => ?_) (fun c29 => ?_)
    · skip
      refine lv_iload_n hx hb dX4_share_157 rfl (lv_at hl 1 rfl) ?_
      refine z0_ne (tgt := 165) hC dX4_share_158 (by decide) (by omega) (fun c158 => ?_) (fun c158 => by exfalso; omega)
      refine lv_iload_n hx hb dX4_share_165 rfl (lv_at hl 3 rfl) ?_
      exact zr_i hC hr hlk (by rw [hy9, ho9, show s9 = 2 ^ dc 0 by omega]) dX4_share_166
    · skip
      refine lv_iconst (v := nI 0) hx hb dX4_share_32 (by decide) ?_
      refine z_top (show (nI 0) = nI (sm (fun i => if Nat.testBit s9 i then nw i else 0) 0) - nI (sm (fun i => if Nat.testBit s9 i then 0 else nw i) 0) from by exact (show nI 0 = nI 0 - nI 0 from by decide)) ?_
      refine lv_istore (lv' := [(5, .int (nI (sm (fun i => if Nat.testBit s9 i then nw i else 0) 0) - nI (sm (fun i => if Nat.testBit s9 i then 0 else nw i) 0))), (0, .ref q), (1, .int (nI 1)), (2, .int x9), (3, .int (nI y9)), (4, .int (nI s9))]) hx hb dX4_share_33 hl (by decide) rfl (fun ls hl => ?_)
      refine lv_iconst (v := nI 0) hx hb dX4_share_35 (by decide) ?_
      refine lv_istore (lv' := [(6, .int (nI 0)), (5, .int (nI (sm (fun i => if Nat.testBit s9 i then nw i else 0) 0) - nI (sm (fun i => if Nat.testBit s9 i then 0 else nw i) 0))), (0, .ref q), (1, .int (nI 1)), (2, .int x9), (3, .int (nI y9)), (4, .int (nI s9))]) hx hb dX4_share_36 hl (by decide) rfl (fun ls hl => ?_)
      have hL38 : ∀ (z38 : Nat) (i9 : Nat), dc 0 - i9 = z38 → (i9 ≤ dc 0) → ∀ ls : Array Slot, lv_has ls 7 [(0, .ref q), (1, .int (nI 1)), (2, .int x9), (3, .int (nI y9)), (4, .int (nI s9)), (5, .int (nI (sm (fun i => if Nat.testBit s9 i then nw i else 0) i9) - nI (sm (fun i => if Nat.testBit s9 i then 0 else nw i) i9))), (6, .int (nI i9))] → W p l e { frames := 1, cells := 0, slots := 0, locals := 22 } s m args below meth c s.heap [] 0 0 (MQ below (qR (some (.int (nI (dO nw (dc 0) (shm nw (dc 0) (2 ^ dc 0))))))) args s 0 0 (fun _ => False)) (F0 m 38 ls []) := by
        intro z38
        induction z38 using Nat.strongRecOn with
        | _ z38 ih38 =>
        intro i9 hz38 hi ls hl
        refine lv_iload hx hb dX4_share_38 (lv_at hl 6 rfl) ?_
        refine lv_aload_n hx hb dX4_share_40 rfl (lv_at hl 0 rfl) ?_
        refine z_get (k := 3) zcX4 hC hK hP 0 rfl (by decide) lF_X4_13 rfl dX4_share_41 ?_
        refine lv_iconst (v := nI 0) hx hb dX4_share_44 (by decide) ?_
        refine z_ald hC hK hP 1 rfl (by omega) (by decide) dX4_share_45 ?_
        refine zc_ge (tgt := 89) hC dX4_share_46 (by decide) (by omega) (by omega) (fun c46 => ?_) (fun c46 => ?_)
        · skip
          have e46 : i9 = dc 0 := by omega
          rw [e46] at hl
          refine lv_iload hx hb dX4_share_89 (lv_at hl 5 rfl) ?_
          refine lv_if_ge (tgt := 100) hx hb dX4_share_91 (by decide) (fun c91 => ?_) (fun c91 => ?_)
          · skip
            refine lv_iload hx hb dX4_share_100 (lv_at hl 5 rfl) ?_
            refine z_top (show (nI (sm (fun i => if Nat.testBit s9 i then nw i else 0) (dc 0)) - nI (sm (fun i => if Nat.testBit s9 i then 0 else nw i) (dc 0))) = nI (dabs nw s9 (dc 0)) from by exact dabs_T hn hlw c91) ?_
            refine lv_istore (lv' := [(5, .int (nI (dabs nw s9 (dc 0)))), (0, .ref q), (1, .int (nI 1)), (2, .int x9), (3, .int (nI y9)), (4, .int (nI s9)), (6, .int (nI (dc 0)))]) hx hb dX4_share_102 hl (by decide) rfl (fun ls hl => ?_)
            refine lv_aload_n hx hb dX4_share_104 rfl (lv_at hl 1 rfl) ?_
            refine z_get (k := 3) zcX4 hC hK hP 0 rfl (by decide) lF_X4_13 rfl dX4_share_105 ?_
            refine lv_iconst (v := nI 0) hx hb dX4_share_108 (by decide) ?_
            refine z_ald hC hK hP 1 rfl (by omega) (by decide) dX4_share_109 ?_
            refine z0_eq (tgt := 121) hC dX4_share_110 (by decide) (by omega) (fun c110 => ?_) (fun c110 => ?_)
            · skip
              refine lv_iconst (v := nI 1) hx hb dX4_share_121 (by decide) ?_
              refine lv_goto (tgt := 126) hx hb dX4_share_122 (by decide) ?_
              refine lv_istore (lv' := [(6, .int (nI 1)), (5, .int (nI (dabs nw s9 (dc 0)))), (0, .ref q), (1, .int (nI 1)), (2, .int x9), (3, .int (nI y9)), (4, .int (nI s9))]) hx hb dX4_share_126 hl (by decide) rfl (fun ls hl => ?_)
              refine lv_iload hx hb dX4_share_128 (lv_at hl 0 rfl) ?_
              refine z0_eq (tgt := 151) hC dX4_share_130 (by decide) (by omega) (fun c130 => by exfalso; omega) (fun c130 => ?_)
              refine lv_iload_n hx hb dX4_share_133 rfl (lv_at hl 4 rfl) ?_
              refine lv_bipush (v := (-9)) hx hb dX4_share_134 (by decide) ?_
              refine lv_icmp_eq (tgt := 145) hx hb dX4_share_136 (by decide) (fun c136 => ?_) (fun c136 => ?_)
              · skip
                have e136 : o9 = none := (oI_no ho8).mp (hx9.symm.trans c136)
                refine lv_iload hx hb dX4_share_145 (lv_at hl 6 rfl) ?_
                refine lv_istore_n (lv' := [(2, .int (nI s9)), (6, .int (nI 1)), (5, .int (nI (dabs nw s9 (dc 0)))), (0, .ref q), (1, .int (nI 1)), (3, .int (nI y9)), (4, .int (nI s9))]) hx hb dX4_share_147 rfl hl (by decide) rfl (fun ls hl => ?_)
                refine lv_iload hx hb dX4_share_148 (lv_at hl 2 rfl) ?_
                refine lv_istore_n (lv' := [(3, .int (nI (dabs nw s9 (dc 0)))), (2, .int (nI s9)), (6, .int (nI 1)), (5, .int (nI (dabs nw s9 (dc 0)))), (0, .ref q), (1, .int (nI 1)), (4, .int (nI s9))]) hx hb dX4_share_150 rfl hl (by decide) rfl (fun ls hl => ?_)
                refine lv_iinc (v := nI (s9 + 1)) (lv' := [(4, .int (nI (s9 + 1))), (3, .int (nI (dabs nw s9 (dc 0)))), (2, .int (nI s9)), (6, .int (nI 1)), (5, .int (nI (dabs nw s9 (dc 0)))), (0, .ref q), (1, .int (nI 1))]) hx hb dX4_share_151 hl (k := 6) rfl (z_inc s9 1) (by decide) rfl (fun ls hl => ?_)
                refine lv_goto (tgt := 19) hx hb dX4_share_154 (by decide) ?_
                exact ih19 (65 - (s9 + 1)) (by omega) (s9 + 1) (nI s9) (dabs nw s9 (dc 0)) (some s9) rfl (by omega) (by rfl) (by rfl) (by rw [shm_s, ← ho9]; exact (if_pos ⟨Or.inl c110, Or.inl e136⟩).symm) (by intro i h; cases h; omega) ls (lv_sub hl [5, 6, 2, 1, 0] rfl)
              · skip
                have e136 : ¬ o9 = none := fun h => c136 (hx9.trans ((oI_no ho8).mpr h))
                refine lv_iload hx hb dX4_share_139 (lv_at hl 1 rfl) ?_
                refine lv_iload_n hx hb dX4_share_141 rfl (lv_at hl 5 rfl) ?_
                have b142 : y9 ≤ 40 * dc 0 := by rw [hy9]; exact dO_le hlw
                have b143 := dabs_leN (st := s9) hlw
                refine zc_ge (tgt := 151) hC dX4_share_142 (by decide) (by omega) (by omega) (fun c142 => ?_) (fun c142 => ?_)
                · skip
                  refine lv_iinc (v := nI (s9 + 1)) (lv' := [(4, .int (nI (s9 + 1))), (6, .int (nI 1)), (5, .int (nI (dabs nw s9 (dc 0)))), (0, .ref q), (1, .int (nI 1)), (2, .int x9), (3, .int (nI y9))]) hx hb dX4_share_151 hl (k := 6) rfl (z_inc s9 1) (by decide) rfl (fun ls hl => ?_)
                  refine lv_goto (tgt := 19) hx hb dX4_share_154 (by decide) ?_
                  exact ih19 (65 - (s9 + 1)) (by omega) (s9 + 1) x9 y9 o9 rfl (by omega) (by exact hx9) (by exact hy9) (by rw [shm_s, ← ho9]; exact (if_neg (fun h => by rcases h.2 with h | h; exact e136 h; rw [← hy9] at h; omega)).symm) (by exact ho8) ls (lv_sub hl [3, 4, 5, 6, 0] rfl)
                · skip
                  refine lv_iload hx hb dX4_share_145 (lv_at hl 6 rfl) ?_
                  refine lv_istore_n (lv' := [(2, .int (nI s9)), (6, .int (nI 1)), (5, .int (nI (dabs nw s9 (dc 0)))), (0, .ref q), (1, .int (nI 1)), (3, .int (nI y9)), (4, .int (nI s9))]) hx hb dX4_share_147 rfl hl (by decide) rfl (fun ls hl => ?_)
                  refine lv_iload hx hb dX4_share_148 (lv_at hl 2 rfl) ?_
                  refine lv_istore_n (lv' := [(3, .int (nI (dabs nw s9 (dc 0)))), (2, .int (nI s9)), (6, .int (nI 1)), (5, .int (nI (dabs nw s9 (dc 0)))), (0, .ref q), (1, .int (nI 1)), (4, .int (nI s9))]) hx hb dX4_share_150 rfl hl (by decide) rfl (fun ls hl => ?_)
                  refine lv_iinc (v := nI (s9 + 1)) (lv' := [(4, .int (nI (s9 + 1))), (3, .int (nI (dabs nw s9 (dc 0)))), (2, .int (nI s9)), (6, .int (nI 1)), (5, .int (nI (dabs nw s9 (dc 0)))), (0, .ref q), (1, .int (nI 1))]) hx hb dX4_share_151 hl (k := 6) rfl (z_inc s9 1) (by decide) rfl (fun ls hl => ?_)
                  refine lv_goto (tgt := 19) hx hb dX4_share_154 (by decide) ?_
                  exact ih19 (65 - (s9 + 1)) (by omega) (s9 + 1) (nI s9) (dabs nw s9 (dc 0)) (some s9) rfl (by omega) (by rfl) (by rfl) (by rw [shm_s, ← ho9]; exact (if_pos ⟨Or.inl c110, Or.inr (by rw [← hy9]; omega)⟩).symm) (by intro i h; cases h; omega) ls (lv_sub hl [5, 6, 2, 1, 0] rfl)
            · skip
              refine lv_iload hx hb dX4_share_113 (lv_at hl 5 rfl) ?_
              refine lv_iconst (v := nI 1) hx hb dX4_share_115 (by decide) ?_
              refine zi_and hC dX4_share_116 ?_
              refine lv_iconst (v := nI 1) hx hb dX4_share_117 (by decide) ?_
              have b118 : s9 &&& 1 < 2 ^ 1 := Nat.and_lt_two_pow _ (by decide)
              refine zc_ne (tgt := 125) hC dX4_share_118 (by decide) (by omega) (by omega) (fun c118 => ?_) (fun c118 => ?_)
              · skip
                refine lv_iconst (v := nI 0) hx hb dX4_share_125 (by decide) ?_
                refine lv_istore (lv' := [(6, .int (nI 0)), (5, .int (nI (dabs nw s9 (dc 0)))), (0, .ref q), (1, .int (nI 1)), (2, .int x9), (3, .int (nI y9)), (4, .int (nI s9))]) hx hb dX4_share_126 hl (by decide) rfl (fun ls hl => ?_)
                refine lv_iload hx hb dX4_share_128 (lv_at hl 0 rfl) ?_
                refine z0_eq (tgt := 151) hC dX4_share_130 (by decide) (by omega) (fun c130 => ?_) (fun c130 => by exfalso; omega)
                refine lv_iinc (v := nI (s9 + 1)) (lv' := [(4, .int (nI (s9 + 1))), (6, .int (nI 0)), (5, .int (nI (dabs nw s9 (dc 0)))), (0, .ref q), (1, .int (nI 1)), (2, .int x9), (3, .int (nI y9))]) hx hb dX4_share_151 hl (k := 6) rfl (z_inc s9 1) (by decide) rfl (fun ls hl => ?_)
                refine lv_goto (tgt := 19) hx hb dX4_share_154 (by decide) ?_
                exact ih19 (65 - (s9 + 1)) (by omega) (s9 + 1) x9 y9 o9 rfl (by omega) (by exact hx9) (by exact hy9) (by rw [shm_s, ← ho9]; exact (if_neg (fun h => by rcases h.1 with h | h <;> omega)).symm) (by exact ho8) ls (lv_sub hl [3, 4, 5, 6, 0] rfl)
              · skip
                refine lv_iconst (v := nI 1) hx hb dX4_share_121 (by decide) ?_
                refine lv_goto (tgt := 126) hx hb dX4_share_122 (by decide) ?_
                refine lv_istore (lv' := [(6, .int (nI 1)), (5, .int (nI (dabs nw s9 (dc 0)))), (0, .ref q), (1, .int (nI 1)), (2, .int x9), (3, .int (nI y9)), (4, .int (nI s9))]) hx hb dX4_share_126 hl (by decide) rfl (fun ls hl => ?_)
                refine lv_iload hx hb dX4_share_128 (lv_at hl 0 rfl) ?_
                refine z0_eq (tgt := 151) hC dX4_share_130 (by decide) (by omega) (fun c130 => by exfalso; omega) (fun c130 => ?_)
                refine lv_iload_n hx hb dX4_share_133 rfl (lv_at hl 4 rfl) ?_
                refine lv_bipush (v := (-9)) hx hb dX4_share_134 (by decide) ?_
                refine lv_icmp_eq (tgt := 145) hx hb dX4_share_136 (by decide) (fun c136 => ?_) (fun c136 => ?_)
                · skip
                  have e136 : o9 = none := (oI_no ho8).mp (hx9.symm.trans c136)
                  refine lv_iload hx hb dX4_share_145 (lv_at hl 6 rfl) ?_
                  refine lv_istore_n (lv' := [(2, .int (nI s9)), (6, .int (nI 1)), (5, .int (nI (dabs nw s9 (dc 0)))), (0, .ref q), (1, .int (nI 1)), (3, .int (nI y9)), (4, .int (nI s9))]) hx hb dX4_share_147 rfl hl (by decide) rfl (fun ls hl => ?_)
                  refine lv_iload hx hb dX4_share_148 (lv_at hl 2 rfl) ?_
                  refine lv_istore_n (lv' := [(3, .int (nI (dabs nw s9 (dc 0)))), (2, .int (nI s9)), (6, .int (nI 1)), (5, .int (nI (dabs nw s9 (dc 0)))), (0, .ref q), (1, .int (nI 1)), (4, .int (nI s9))]) hx hb dX4_share_150 rfl hl (by decide) rfl (fun ls hl => ?_)
                  refine lv_iinc (v := nI (s9 + 1)) (lv' := [(4, .int (nI (s9 + 1))), (3, .int (nI (dabs nw s9 (dc 0)))), (2, .int (nI s9)), (6, .int (nI 1)), (5, .int (nI (dabs nw s9 (dc 0)))), (0, .ref q), (1, .int (nI 1))]) hx hb dX4_share_151 hl (k := 6) rfl (z_inc s9 1) (by decide) rfl (fun ls hl => ?_)
                  refine lv_goto (tgt := 19) hx hb dX4_share_154 (by decide) ?_
                  exact ih19 (65 - (s9 + 1)) (by omega) (s9 + 1) (nI s9) (dabs nw s9 (dc 0)) (some s9) rfl (by omega) (by rfl) (by rfl) (by rw [shm_s, ← ho9]; exact (if_pos ⟨Or.inr c118, Or.inl e136⟩).symm) (by intro i h; cases h; omega) ls (lv_sub hl [5, 6, 2, 1, 0] rfl)
                · skip
                  have e136 : ¬ o9 = none := fun h => c136 (hx9.trans ((oI_no ho8).mpr h))
                  refine lv_iload hx hb dX4_share_139 (lv_at hl 1 rfl) ?_
                  refine lv_iload_n hx hb dX4_share_141 rfl (lv_at hl 5 rfl) ?_
                  have b142 : y9 ≤ 40 * dc 0 := by rw [hy9]; exact dO_le hlw
                  have b143 := dabs_leN (st := s9) hlw
                  refine zc_ge (tgt := 151) hC dX4_share_142 (by decide) (by omega) (by omega) (fun c142 => ?_) (fun c142 => ?_)
                  · skip
                    refine lv_iinc (v := nI (s9 + 1)) (lv' := [(4, .int (nI (s9 + 1))), (6, .int (nI 1)), (5, .int (nI (dabs nw s9 (dc 0)))), (0, .ref q), (1, .int (nI 1)), (2, .int x9), (3, .int (nI y9))]) hx hb dX4_share_151 hl (k := 6) rfl (z_inc s9 1) (by decide) rfl (fun ls hl => ?_)
                    refine lv_goto (tgt := 19) hx hb dX4_share_154 (by decide) ?_
                    exact ih19 (65 - (s9 + 1)) (by omega) (s9 + 1) x9 y9 o9 rfl (by omega) (by exact hx9) (by exact hy9) (by rw [shm_s, ← ho9]; exact (if_neg (fun h => by rcases h.2 with h | h; exact e136 h; rw [← hy9] at h; omega)).symm) (by exact ho8) ls (lv_sub hl [3, 4, 5, 6, 0] rfl)
                  · skip
                    refine lv_iload hx hb dX4_share_145 (lv_at hl 6 rfl) ?_
                    refine lv_istore_n (lv' := [(2, .int (nI s9)), (6, .int (nI 1)), (5, .int (nI (dabs nw s9 (dc 0)))), (0, .ref q), (1, .int (nI 1)), (3, .int (nI y9)), (4, .int (nI s9))]) hx hb dX4_share_147 rfl hl (by decide) rfl (fun ls hl => ?_)
                    refine lv_iload hx hb dX4_share_148 (lv_at hl 2 rfl) ?_
                    refine lv_istore_n (lv' := [(3, .int (nI (dabs nw s9 (dc 0)))), (2, .int (nI s9)), (6, .int (nI 1)), (5, .int (nI (dabs nw s9 (dc 0)))), (0, .ref q), (1, .int (nI 1)), (4, .int (nI s9))]) hx hb dX4_share_150 rfl hl (by decide) rfl (fun ls hl => ?_)
                    refine lv_iinc (v := nI (s9 + 1)) (lv' := [(4, .int (nI (s9 + 1))), (3, .int (nI (dabs nw s9 (dc 0)))), (2, .int (nI s9)), (6, .int (nI 1)), (5, .int (nI (dabs nw s9 (dc 0)))), (0, .ref q), (1, .int (nI 1))]) hx hb dX4_share_151 hl (k := 6) rfl (z_inc s9 1) (by decide) rfl (fun ls hl => ?_)
                    refine lv_goto (tgt := 19) hx hb dX4_share_154 (by decide) ?_
                    exact ih19 (65 - (s9 + 1)) (by omega) (s9 + 1) (nI s9) (dabs nw s9 (dc 0)) (some s9) rfl (by omega) (by rfl) (by rfl) (by rw [shm_s, ← ho9]; exact (if_pos ⟨Or.inr c118, Or.inr (by rw [← hy9]; omega)⟩).symm) (by intro i h; cases h; omega) ls (lv_sub hl [5, 6, 2, 1, 0] rfl)
          · skip
            refine lv_iload hx hb dX4_share_94 (lv_at hl 5 rfl) ?_
            refine lv_ineg hx hb dX4_share_96 ?_
            refine lv_goto (tgt := 102) hx hb dX4_share_97 (by decide) ?_
            refine z_top (show (-(nI (sm (fun i => if Nat.testBit s9 i then nw i else 0) (dc 0)) - nI (sm (fun i => if Nat.testBit s9 i then 0 else nw i) (dc 0)))) = nI (dabs nw s9 (dc 0)) from by exact dabs_F hn hlw c91) ?_
            refine lv_istore (lv' := [(5, .int (nI (dabs nw s9 (dc 0)))), (0, .ref q), (1, .int (nI 1)), (2, .int x9), (3, .int (nI y9)), (4, .int (nI s9)), (6, .int (nI (dc 0)))]) hx hb dX4_share_102 hl (by decide) rfl (fun ls hl => ?_)
            refine lv_aload_n hx hb dX4_share_104 rfl (lv_at hl 1 rfl) ?_
            refine z_get (k := 3) zcX4 hC hK hP 0 rfl (by decide) lF_X4_13 rfl dX4_share_105 ?_
            refine lv_iconst (v := nI 0) hx hb dX4_share_108 (by decide) ?_
            refine z_ald hC hK hP 1 rfl (by omega) (by decide) dX4_share_109 ?_
            refine z0_eq (tgt := 121) hC dX4_share_110 (by decide) (by omega) (fun c110 => ?_) (fun c110 => ?_)
            · skip
              refine lv_iconst (v := nI 1) hx hb dX4_share_121 (by decide) ?_
              refine lv_goto (tgt := 126) hx hb dX4_share_122 (by decide) ?_
              refine lv_istore (lv' := [(6, .int (nI 1)), (5, .int (nI (dabs nw s9 (dc 0)))), (0, .ref q), (1, .int (nI 1)), (2, .int x9), (3, .int (nI y9)), (4, .int (nI s9))]) hx hb dX4_share_126 hl (by decide) rfl (fun ls hl => ?_)
              refine lv_iload hx hb dX4_share_128 (lv_at hl 0 rfl) ?_
              refine z0_eq (tgt := 151) hC dX4_share_130 (by decide) (by omega) (fun c130 => by exfalso; omega) (fun c130 => ?_)
              refine lv_iload_n hx hb dX4_share_133 rfl (lv_at hl 4 rfl) ?_
              refine lv_bipush (v := (-9)) hx hb dX4_share_134 (by decide) ?_
              refine lv_icmp_eq (tgt := 145) hx hb dX4_share_136 (by decide) (fun c136 => ?_) (fun c136 => ?_)
              · skip
                have e136 : o9 = none := (oI_no ho8).mp (hx9.symm.trans c136)
                refine lv_iload hx hb dX4_share_145 (lv_at hl 6 rfl) ?_
                refine lv_istore_n (lv' := [(2, .int (nI s9)), (6, .int (nI 1)), (5, .int (nI (dabs nw s9 (dc 0)))), (0, .ref q), (1, .int (nI 1)), (3, .int (nI y9)), (4, .int (nI s9))]) hx hb dX4_share_147 rfl hl (by decide) rfl (fun ls hl => ?_)
                refine lv_iload hx hb dX4_share_148 (lv_at hl 2 rfl) ?_
                refine lv_istore_n (lv' := [(3, .int (nI (dabs nw s9 (dc 0)))), (2, .int (nI s9)), (6, .int (nI 1)), (5, .int (nI (dabs nw s9 (dc 0)))), (0, .ref q), (1, .int (nI 1)), (4, .int (nI s9))]) hx hb dX4_share_150 rfl hl (by decide) rfl (fun ls hl => ?_)
                refine lv_iinc (v := nI (s9 + 1)) (lv' := [(4, .int (nI (s9 + 1))), (3, .int (nI (dabs nw s9 (dc 0)))), (2, .int (nI s9)), (6, .int (nI 1)), (5, .int (nI (dabs nw s9 (dc 0)))), (0, .ref q), (1, .int (nI 1))]) hx hb dX4_share_151 hl (k := 6) rfl (z_inc s9 1) (by decide) rfl (fun ls hl => ?_)
                refine lv_goto (tgt := 19) hx hb dX4_share_154 (by decide) ?_
                exact ih19 (65 - (s9 + 1)) (by omega) (s9 + 1) (nI s9) (dabs nw s9 (dc 0)) (some s9) rfl (by omega) (by rfl) (by rfl) (by rw [shm_s, ← ho9]; exact (if_pos ⟨Or.inl c110, Or.inl e136⟩).symm) (by intro i h; cases h; omega) ls (lv_sub hl [5, 6, 2, 1, 0] rfl)
              · skip
                have e136 : ¬ o9 = none := fun h => c136 (hx9.trans ((oI_no ho8).mpr h))
                refine lv_iload hx hb dX4_share_139 (lv_at hl 1 rfl) ?_
                refine lv_iload_n hx hb dX4_share_141 rfl (lv_at hl 5 rfl) ?_
                have b142 : y9 ≤ 40 * dc 0 := by rw [hy9]; exact dO_le hlw
                have b143 := dabs_leN (st := s9) hlw
                refine zc_ge (tgt := 151) hC dX4_share_142 (by decide) (by omega) (by omega) (fun c142 => ?_) (fun c142 => ?_)
                · skip
                  refine lv_iinc (v := nI (s9 + 1)) (lv' := [(4, .int (nI (s9 + 1))), (6, .int (nI 1)), (5, .int (nI (dabs nw s9 (dc 0)))), (0, .ref q), (1, .int (nI 1)), (2, .int x9), (3, .int (nI y9))]) hx hb dX4_share_151 hl (k := 6) rfl (z_inc s9 1) (by decide) rfl (fun ls hl => ?_)
                  refine lv_goto (tgt := 19) hx hb dX4_share_154 (by decide) ?_
                  exact ih19 (65 - (s9 + 1)) (by omega) (s9 + 1) x9 y9 o9 rfl (by omega) (by exact hx9) (by exact hy9) (by rw [shm_s, ← ho9]; exact (if_neg (fun h => by rcases h.2 with h | h; exact e136 h; rw [← hy9] at h; omega)).symm) (by exact ho8) ls (lv_sub hl [3, 4, 5, 6, 0] rfl)
                · skip
                  refine lv_iload hx hb dX4_share_145 (lv_at hl 6 rfl) ?_
                  refine lv_istore_n (lv' := [(2, .int (nI s9)), (6, .int (nI 1)), (5, .int (nI (dabs nw s9 (dc 0)))), (0, .ref q), (1, .int (nI 1)), (3, .int (nI y9)), (4, .int (nI s9))]) hx hb dX4_share_147 rfl hl (by decide) rfl (fun ls hl => ?_)
                  refine lv_iload hx hb dX4_share_148 (lv_at hl 2 rfl) ?_
                  refine lv_istore_n (lv' := [(3, .int (nI (dabs nw s9 (dc 0)))), (2, .int (nI s9)), (6, .int (nI 1)), (5, .int (nI (dabs nw s9 (dc 0)))), (0, .ref q), (1, .int (nI 1)), (4, .int (nI s9))]) hx hb dX4_share_150 rfl hl (by decide) rfl (fun ls hl => ?_)
                  refine lv_iinc (v := nI (s9 + 1)) (lv' := [(4, .int (nI (s9 + 1))), (3, .int (nI (dabs nw s9 (dc 0)))), (2, .int (nI s9)), (6, .int (nI 1)), (5, .int (nI (dabs nw s9 (dc 0)))), (0, .ref q), (1, .int (nI 1))]) hx hb dX4_share_151 hl (k := 6) rfl (z_inc s9 1) (by decide) rfl (fun ls hl => ?_)
                  refine lv_goto (tgt := 19) hx hb dX4_share_154 (by decide) ?_
                  exact ih19 (65 - (s9 + 1)) (by omega) (s9 + 1) (nI s9) (dabs nw s9 (dc 0)) (some s9) rfl (by omega) (by rfl) (by rfl) (by rw [shm_s, ← ho9]; exact (if_pos ⟨Or.inl c110, Or.inr (by rw [← hy9]; omega)⟩).symm) (by intro i h; cases h; omega) ls (lv_sub hl [5, 6, 2, 1, 0] rfl)
            · skip
              refine lv_iload hx hb dX4_share_113 (lv_at hl 5 rfl) ?_
              refine lv_iconst (v := nI 1) hx hb dX4_share_115 (by decide) ?_
              refine zi_and hC dX4_share_116 ?_
              refine lv_iconst (v := nI 1) hx hb dX4_share_117 (by decide) ?_
              have b118 : s9 &&& 1 < 2 ^ 1 := Nat.and_lt_two_pow _ (by decide)
              refine zc_ne (tgt := 125) hC dX4_share_118 (by decide) (by omega) (by omega) (fun c118 => ?_) (fun c118 => ?_)
              · skip
                refine lv_iconst (v := nI 0) hx hb dX4_share_125 (by decide) ?_
                refine lv_istore (lv' := [(6, .int (nI 0)), (5, .int (nI (dabs nw s9 (dc 0)))), (0, .ref q), (1, .int (nI 1)), (2, .int x9), (3, .int (nI y9)), (4, .int (nI s9))]) hx hb dX4_share_126 hl (by decide) rfl (fun ls hl => ?_)
                refine lv_iload hx hb dX4_share_128 (lv_at hl 0 rfl) ?_
                refine z0_eq (tgt := 151) hC dX4_share_130 (by decide) (by omega) (fun c130 => ?_) (fun c130 => by exfalso; omega)
                refine lv_iinc (v := nI (s9 + 1)) (lv' := [(4, .int (nI (s9 + 1))), (6, .int (nI 0)), (5, .int (nI (dabs nw s9 (dc 0)))), (0, .ref q), (1, .int (nI 1)), (2, .int x9), (3, .int (nI y9))]) hx hb dX4_share_151 hl (k := 6) rfl (z_inc s9 1) (by decide) rfl (fun ls hl => ?_)
                refine lv_goto (tgt := 19) hx hb dX4_share_154 (by decide) ?_
                exact ih19 (65 - (s9 + 1)) (by omega) (s9 + 1) x9 y9 o9 rfl (by omega) (by exact hx9) (by exact hy9) (by rw [shm_s, ← ho9]; exact (if_neg (fun h => by rcases h.1 with h | h <;> omega)).symm) (by exact ho8) ls (lv_sub hl [3, 4, 5, 6, 0] rfl)
              · skip
                refine lv_iconst (v := nI 1) hx hb dX4_share_121 (by decide) ?_
                refine lv_goto (tgt := 126) hx hb dX4_share_122 (by decide) ?_
                refine lv_istore (lv' := [(6, .int (nI 1)), (5, .int (nI (dabs nw s9 (dc 0)))), (0, .ref q), (1, .int (nI 1)), (2, .int x9), (3, .int (nI y9)), (4, .int (nI s9))]) hx hb dX4_share_126 hl (by decide) rfl (fun ls hl => ?_)
                refine lv_iload hx hb dX4_share_128 (lv_at hl 0 rfl) ?_
                refine z0_eq (tgt := 151) hC dX4_share_130 (by decide) (by omega) (fun c130 => by exfalso; omega) (fun c130 => ?_)
                refine lv_iload_n hx hb dX4_share_133 rfl (lv_at hl 4 rfl) ?_
                refine lv_bipush (v := (-9)) hx hb dX4_share_134 (by decide) ?_
                refine lv_icmp_eq (tgt := 145) hx hb dX4_share_136 (by decide) (fun c136 => ?_) (fun c136 => ?_)
                · skip
                  have e136 : o9 = none := (oI_no ho8).mp (hx9.symm.trans c136)
                  refine lv_iload hx hb dX4_share_145 (lv_at hl 6 rfl) ?_
                  refine lv_istore_n (lv' := [(2, .int (nI s9)), (6, .int (nI 1)), (5, .int (nI (dabs nw s9 (dc 0)))), (0, .ref q), (1, .int (nI 1)), (3, .int (nI y9)), (4, .int (nI s9))]) hx hb dX4_share_147 rfl hl (by decide) rfl (fun ls hl => ?_)
                  refine lv_iload hx hb dX4_share_148 (lv_at hl 2 rfl) ?_
                  refine lv_istore_n (lv' := [(3, .int (nI (dabs nw s9 (dc 0)))), (2, .int (nI s9)), (6, .int (nI 1)), (5, .int (nI (dabs nw s9 (dc 0)))), (0, .ref q), (1, .int (nI 1)), (4, .int (nI s9))]) hx hb dX4_share_150 rfl hl (by decide) rfl (fun ls hl => ?_)
                  refine lv_iinc (v := nI (s9 + 1)) (lv' := [(4, .int (nI (s9 + 1))), (3, .int (nI (dabs nw s9 (dc 0)))), (2, .int (nI s9)), (6, .int (nI 1)), (5, .int (nI (dabs nw s9 (dc 0)))), (0, .ref q), (1, .int (nI 1))]) hx hb dX4_share_151 hl (k := 6) rfl (z_inc s9 1) (by decide) rfl (fun ls hl => ?_)
                  refine lv_goto (tgt := 19) hx hb dX4_share_154 (by decide) ?_
                  exact ih19 (65 - (s9 + 1)) (by omega) (s9 + 1) (nI s9) (dabs nw s9 (dc 0)) (some s9) rfl (by omega) (by rfl) (by rfl) (by rw [shm_s, ← ho9]; exact (if_pos ⟨Or.inr c118, Or.inl e136⟩).symm) (by intro i h; cases h; omega) ls (lv_sub hl [5, 6, 2, 1, 0] rfl)
                · skip
                  have e136 : ¬ o9 = none := fun h => c136 (hx9.trans ((oI_no ho8).mpr h))
                  refine lv_iload hx hb dX4_share_139 (lv_at hl 1 rfl) ?_
                  refine lv_iload_n hx hb dX4_share_141 rfl (lv_at hl 5 rfl) ?_
                  have b142 : y9 ≤ 40 * dc 0 := by rw [hy9]; exact dO_le hlw
                  have b143 := dabs_leN (st := s9) hlw
                  refine zc_ge (tgt := 151) hC dX4_share_142 (by decide) (by omega) (by omega) (fun c142 => ?_) (fun c142 => ?_)
                  · skip
                    refine lv_iinc (v := nI (s9 + 1)) (lv' := [(4, .int (nI (s9 + 1))), (6, .int (nI 1)), (5, .int (nI (dabs nw s9 (dc 0)))), (0, .ref q), (1, .int (nI 1)), (2, .int x9), (3, .int (nI y9))]) hx hb dX4_share_151 hl (k := 6) rfl (z_inc s9 1) (by decide) rfl (fun ls hl => ?_)
                    refine lv_goto (tgt := 19) hx hb dX4_share_154 (by decide) ?_
                    exact ih19 (65 - (s9 + 1)) (by omega) (s9 + 1) x9 y9 o9 rfl (by omega) (by exact hx9) (by exact hy9) (by rw [shm_s, ← ho9]; exact (if_neg (fun h => by rcases h.2 with h | h; exact e136 h; rw [← hy9] at h; omega)).symm) (by exact ho8) ls (lv_sub hl [3, 4, 5, 6, 0] rfl)
                  · skip
                    refine lv_iload hx hb dX4_share_145 (lv_at hl 6 rfl) ?_
                    refine lv_istore_n (lv' := [(2, .int (nI s9)), (6, .int (nI 1)), (5, .int (nI (dabs nw s9 (dc 0)))), (0, .ref q), (1, .int (nI 1)), (3, .int (nI y9)), (4, .int (nI s9))]) hx hb dX4_share_147 rfl hl (by decide) rfl (fun ls hl => ?_)
                    refine lv_iload hx hb dX4_share_148 (lv_at hl 2 rfl) ?_
                    refine lv_istore_n (lv' := [(3, .int (nI (dabs nw s9 (dc 0)))), (2, .int (nI s9)), (6, .int (nI 1)), (5, .int (nI (dabs nw s9 (dc 0)))), (0, .ref q), (1, .int (nI 1)), (4, .int (nI s9))]) hx hb dX4_share_150 rfl hl (by decide) rfl (fun ls hl => ?_)
                    refine lv_iinc (v := nI (s9 + 1)) (lv' := [(4, .int (nI (s9 + 1))), (3, .int (nI (dabs nw s9 (dc 0)))), (2, .int (nI s9)), (6, .int (nI 1)), (5, .int (nI (dabs nw s9 (dc 0)))), (0, .ref q), (1, .int (nI 1))]) hx hb dX4_share_151 hl (k := 6) rfl (z_inc s9 1) (by decide) rfl (fun ls hl => ?_)
                    refine lv_goto (tgt := 19) hx hb dX4_share_154 (by decide) ?_
                    exact ih19 (65 - (s9 + 1)) (by omega) (s9 + 1) (nI s9) (dabs nw s9 (dc 0)) (some s9) rfl (by omega) (by rfl) (by rfl) (by rw [shm_s, ← ho9]; exact (if_pos ⟨Or.inr c118, Or.inr (by rw [← hy9]; omega)⟩).symm) (by intro i h; cases h; omega) ls (lv_sub hl [5, 6, 2, 1, 0] rfl)
        · skip
          refine lv_iload hx hb dX4_share_49 (lv_at hl 5 rfl) ?_
          refine lv_iload hx hb dX4_share_51 (lv_at hl 4 rfl) ?_
          refine lv_iload hx hb dX4_share_53 (lv_at hl 6 rfl) ?_
          refine zi_shr hC dX4_share_55 (by omega) (by omega) ?_
          refine lv_iconst (v := nI 1) hx hb dX4_share_56 (by decide) ?_
          refine zi_and hC dX4_share_57 ?_
          refine z_top (show (nI ((s9 / 2 ^ i9) &&& 1)) = nI ((Nat.testBit s9 i9).toNat) from by exact z_bit s9 i9) ?_
          refine lv_iconst (v := nI 1) hx hb dX4_share_58 (by decide) ?_
          have b59 : (Nat.testBit s9 i9).toNat < 2 := Bool.toNat_lt _
          refine zc_ne (tgt := 72) hC dX4_share_59 (by decide) (by omega) (by omega) (fun c59 => ?_) (fun c59 => ?_)
          · skip
            refine lv_aload_n hx hb dX4_share_72 rfl (lv_at hl 0 rfl) ?_
            refine z_get (k := 15) zcX4 hC hK hP 0 rfl (by decide) lF_X4_35 rfl dX4_share_73 ?_
            refine lv_iload hx hb dX4_share_76 (lv_at hl 6 rfl) ?_
            refine z_ald hC hK hP 2 rfl (by omega) (by decide) dX4_share_78 ?_
            refine lv_ineg hx hb dX4_share_79 ?_
            refine lv_iadd hx hb dX4_share_80 ?_
            refine z_top (show ((nI (sm (fun i => if Nat.testBit s9 i then nw i else 0) i9) - nI (sm (fun i => if Nat.testBit s9 i then 0 else nw i) i9)) + (-(nI (nw i9)))) = nI (sm (fun i => if Nat.testBit s9 i then nw i else 0) (i9 + 1)) - nI (sm (fun i => if Nat.testBit s9 i then 0 else nw i) (i9 + 1)) from by rw [sm_s, sm_s, if_neg (fun h => c59 (z_bt1.mpr h)), if_neg (fun h => c59 (z_bt1.mpr h)), Nat.add_zero, ← nI_add]; grind) ?_
            refine lv_istore (lv' := [(5, .int (nI (sm (fun i => if Nat.testBit s9 i then nw i else 0) (i9 + 1)) - nI (sm (fun i => if Nat.testBit s9 i then 0 else nw i) (i9 + 1)))), (0, .ref q), (1, .int (nI 1)), (2, .int x9), (3, .int (nI y9)), (4, .int (nI s9)), (6, .int (nI i9))]) hx hb dX4_share_81 hl (by decide) rfl (fun ls hl => ?_)
            refine lv_iinc (v := nI (i9 + 1)) (lv' := [(6, .int (nI (i9 + 1))), (5, .int (nI (sm (fun i => if Nat.testBit s9 i then nw i else 0) (i9 + 1)) - nI (sm (fun i => if Nat.testBit s9 i then 0 else nw i) (i9 + 1)))), (0, .ref q), (1, .int (nI 1)), (2, .int x9), (3, .int (nI y9)), (4, .int (nI s9))]) hx hb dX4_share_83 hl (k := 6) rfl (z_inc i9 1) (by decide) rfl (fun ls hl => ?_)
            refine lv_goto (tgt := 38) hx hb dX4_share_86 (by decide) ?_
            exact ih38 (dc 0 - (i9 + 1)) (by omega) (i9 + 1) rfl (by omega) ls (lv_sub hl [2, 3, 4, 5, 6, 1, 0] rfl)
          · skip
            refine lv_aload_n hx hb dX4_share_62 rfl (lv_at hl 0 rfl) ?_
            refine z_get (k := 15) zcX4 hC hK hP 0 rfl (by decide) lF_X4_35 rfl dX4_share_63 ?_
            refine lv_iload hx hb dX4_share_66 (lv_at hl 6 rfl) ?_
            refine z_ald hC hK hP 2 rfl (by omega) (by decide) dX4_share_68 ?_
            refine lv_goto (tgt := 80) hx hb dX4_share_69 (by decide) ?_
            refine lv_iadd hx hb dX4_share_80 ?_
            refine z_top (show ((nI (sm (fun i => if Nat.testBit s9 i then nw i else 0) i9) - nI (sm (fun i => if Nat.testBit s9 i then 0 else nw i) i9)) + (nI (nw i9))) = nI (sm (fun i => if Nat.testBit s9 i then nw i else 0) (i9 + 1)) - nI (sm (fun i => if Nat.testBit s9 i then 0 else nw i) (i9 + 1)) from by rw [sm_s, sm_s, if_pos (z_bt1.mp c59), if_pos (z_bt1.mp c59), Nat.add_zero, ← nI_add]; grind) ?_
            refine lv_istore (lv' := [(5, .int (nI (sm (fun i => if Nat.testBit s9 i then nw i else 0) (i9 + 1)) - nI (sm (fun i => if Nat.testBit s9 i then 0 else nw i) (i9 + 1)))), (0, .ref q), (1, .int (nI 1)), (2, .int x9), (3, .int (nI y9)), (4, .int (nI s9)), (6, .int (nI i9))]) hx hb dX4_share_81 hl (by decide) rfl (fun ls hl => ?_)
            refine lv_iinc (v := nI (i9 + 1)) (lv' := [(6, .int (nI (i9 + 1))), (5, .int (nI (sm (fun i => if Nat.testBit s9 i then nw i else 0) (i9 + 1)) - nI (sm (fun i => if Nat.testBit s9 i then 0 else nw i) (i9 + 1)))), (0, .ref q), (1, .int (nI 1)), (2, .int x9), (3, .int (nI y9)), (4, .int (nI s9))]) hx hb dX4_share_83 hl (k := 6) rfl (z_inc i9 1) (by decide) rfl (fun ls hl => ?_)
            refine lv_goto (tgt := 38) hx hb dX4_share_86 (by decide) ?_
            exact ih38 (dc 0 - (i9 + 1)) (by omega) (i9 + 1) rfl (by omega) ls (lv_sub hl [2, 3, 4, 5, 6, 1, 0] rfl)
      exact hL38 _ 0 rfl (by omega) ls (lv_sub hl [2, 3, 4, 5, 6, 1, 0] rfl)
  exact hL19 _ 0 (-9) 0 none rfl (by exact Nat.zero_le _) (by rfl) (by rfl) (by rfl) (by intro i h; cases h) ls (lv_sub hl [3, 4, 2, 1, 0] rfl)
