/-- the sort of a byte -/
def sortN (x : Nat) : Nat := if 97 ≤ x ∧ x ≤ 122 then 1 else if 48 ≤ x ∧ x ≤ 57 then 2 else if x = 59 then 3 else 4
def skp (by_ : Nat → Nat) : Nat → Nat → Nat
  | 0, p => p
  | k + 1, p => if by_ p = 32 then skp by_ k (p + 1) else p
def rn (by_ : Nat → Nat) (s : Nat) : Nat → Nat → Nat
  | 0, p => p
  | k + 1, p => if sortN (by_ p) = s then rn by_ s k (p + 1) else p
def advE (by_ : Nat → Nat) (len q : Nat) : Nat := if sortN (by_ q) = 1 ∨ sortN (by_ q) = 2 then rn by_ (sortN (by_ q)) (len - (q + 1)) (q + 1) else q + 1
def svK (s c w : Nat) : Nat := if s = 2 ∧ ¬ w = 1 ∧ ¬ (w = 2 ∧ c ≠ 48) then 4 else s
def svV (s c l w : Nat) (va : Int32) : Int32 := if s = 2 then (if w = 1 then nI (c - 48) else if w = 2 ∧ c ≠ 48 then nI (10 * (c - 48) + l - 48) else va) else if w = 1 then nI c else -1
abbrev Cu : Type := Nat × Nat × Nat × Int32
def advW (by_ : Nat → Nat) (len q : Nat) (va : Int32) : Cu := (advE by_ len q, svK (sortN (by_ q)) (by_ q) (advE by_ len q - q), q, svV (sortN (by_ q)) (by_ q) (by_ (advE by_ len q - 1)) (advE by_ len q - q) va)
def adv (by_ : Nat → Nat) (len : Nat) (u : Cu) : Cu := if skp by_ (len - u.1) u.1 < len then advW by_ len (skp by_ (len - u.1) u.1) u.2.2.2 else (len, 0, len, -1)
theorem sortN_le (x : Nat) : 1 ≤ sortN x ∧ sortN x ≤ 4 := by
  unfold sortN
  repeat' split
  all_goals omega
theorem sortN_2 {x : Nat} (h : sortN x = 2) : 48 ≤ x ∧ x ≤ 57 := by
  unfold sortN at h
  repeat' split at h
  all_goals omega
theorem skp_stop {by_ : Nat → Nat} {len p : Nat} (h : p < len) (h2 : by_ p ≠ 32) : skp by_ (len - p) p = p := by
  rw [show len - p = (len - (p + 1)) + 1 by omega]
  exact if_neg h2
theorem skp_end {by_ : Nat → Nat} {len p : Nat} (h : len ≤ p) : skp by_ (len - p) p = p := by
  rw [show len - p = 0 by omega]
  rfl
theorem skp_go {by_ : Nat → Nat} {len p : Nat} (h : p < len) (h2 : by_ p = 32) : skp by_ (len - p) p = skp by_ (len - (p + 1)) (p + 1) := by
  rw [show len - p = (len - (p + 1)) + 1 by omega]
  exact if_pos h2
theorem rn_stop {by_ : Nat → Nat} {s len p : Nat} (h : p < len) (h2 : sortN (by_ p) ≠ s) : rn by_ s (len - p) p = p := by
  rw [show len - p = (len - (p + 1)) + 1 by omega]
  exact if_neg h2
theorem rn_end {by_ : Nat → Nat} {s len p : Nat} (h : len ≤ p) : rn by_ s (len - p) p = p := by
  rw [show len - p = 0 by omega]
  rfl
theorem rn_go {by_ : Nat → Nat} {s len p : Nat} (h : p < len) (h2 : sortN (by_ p) = s) : rn by_ s (len - p) p = rn by_ s (len - (p + 1)) (p + 1) := by
  rw [show len - p = (len - (p + 1)) + 1 by omega]
  exact if_pos h2
set_option maxHeartbeats 1000000 in
set_option maxRecDepth 100000 in
theorem c_X2_byteAt {l : Launch} {D : va_G} {cI cZ cB cR : ClassId} {t byA len pl tk ta : Nat} {va : Int32} {by_ : Nat → Nat} {p9 : Nat} (hlen : len ≤ 150) (hby : ∀ i, by_ i < 256) (hp : p9 < len) : mR l yX2_byteAt cX2_byteAt 2 (some .int) 0 0 D cI cZ cB cR [oT t byA len pl tk ta va, aI cI byA 150 by_] [.ref t, .int (nI p9)] (some (.int (nI (by_ p9)))) := by
  refine mR_of rfl (Nat.le_of_ble_eq_true rfl) ?_
  intro p e s m args below meth c hC hr hlk hK hP ls hl
  have hl : lv_has ls 2 [(0, .ref t), (1, .int (nI p9))] := hl
  obtain ⟨hx, hb, hml, hown, hts⟩ := id hC
  refine lv_iload_n hx hb dX2_byteAt_0 rfl (lv_at hl 1 rfl) ?_
  refine z0_lt (tgt := 28) hC dX2_byteAt_1 (by decide) (by omega) ?_
  refine lv_iload_n hx hb dX2_byteAt_4 rfl (lv_at hl 1 rfl) ?_
  refine lv_aload_n hx hb dX2_byteAt_5 rfl (lv_at hl 0 rfl) ?_
  refine z_get (k := 1) zcX2 hC hK hP 0 rfl (by decide) lF_X2_15 rfl dX2_byteAt_6 ?_
  refine zc_ge (tgt := 28) hC dX2_byteAt_9 (by decide) (by omega) (by omega) (fun c9 => by exfalso; omega) (fun c9 => ?_)
  refine lv_iload_n hx hb dX2_byteAt_12 rfl (lv_at hl 1 rfl) ?_
  refine lv_sipush (v := nI 150) hx hb dX2_byteAt_13 (by decide) ?_
  refine zc_ge (tgt := 28) hC dX2_byteAt_16 (by decide) (by omega) (by omega) (fun c16 => by exfalso; omega) (fun c16 => ?_)
  refine lv_aload_n hx hb dX2_byteAt_19 rfl (lv_at hl 0 rfl) ?_
  refine z_get (k := 0) zcX2 hC hK hP 0 rfl (by decide) lF_X2_9 rfl dX2_byteAt_20 ?_
  refine lv_iload_n hx hb dX2_byteAt_23 rfl (lv_at hl 1 rfl) ?_
  refine z_ald hC hK hP 1 rfl (by omega) (by decide) dX2_byteAt_24 ?_
  refine lv_goto (tgt := 29) hx hb dX2_byteAt_25 (by decide) ?_
  exact zr_i hC hr hlk (by first | rfl | omega) dX2_byteAt_29
set_option maxHeartbeats 1000000 in
set_option maxRecDepth 100000 in
theorem c_X2_byteAt_e {l : Launch} {D : va_G} {cI cZ cB cR : ClassId} {t byA len pl tk ta : Nat} {va : Int32} {by_ : Nat → Nat} {p9 : Nat} (hlen : len ≤ 150) (hby : ∀ i, by_ i < 256) (hp : len ≤ p9) (hp2 : p9 < 1000) : mR l yX2_byteAt cX2_byteAt 2 (some .int) 0 0 D cI cZ cB cR [oT t byA len pl tk ta va, aI cI byA 150 by_] [.ref t, .int (nI p9)] (some (.int (-1))) := by
  refine mR_of rfl (Nat.le_of_ble_eq_true rfl) ?_
  intro p e s m args below meth c hC hr hlk hK hP ls hl
  have hl : lv_has ls 2 [(0, .ref t), (1, .int (nI p9))] := hl
  obtain ⟨hx, hb, hml, hown, hts⟩ := id hC
  refine lv_iload_n hx hb dX2_byteAt_0 rfl (lv_at hl 1 rfl) ?_
  refine z0_lt (tgt := 28) hC dX2_byteAt_1 (by decide) (by omega) ?_
  refine lv_iload_n hx hb dX2_byteAt_4 rfl (lv_at hl 1 rfl) ?_
  refine lv_aload_n hx hb dX2_byteAt_5 rfl (lv_at hl 0 rfl) ?_
  refine z_get (k := 1) zcX2 hC hK hP 0 rfl (by decide) lF_X2_15 rfl dX2_byteAt_6 ?_
  refine zc_ge (tgt := 28) hC dX2_byteAt_9 (by decide) (by omega) (by omega) (fun c9 => ?_) (fun c9 => by exfalso; omega)
  refine lv_iconst (v := (-1)) hx hb dX2_byteAt_28 (by decide) ?_
  exact zr_i hC hr hlk (by first | rfl | omega) dX2_byteAt_29
set_option maxHeartbeats 1000000 in
set_option maxRecDepth 100000 in
theorem c_X2_sortOf {l : Launch} {D : va_G} {cI cZ cB cR : ClassId} {x : Nat} (hx9 : x < 256) : mR l yX2_sortOf cX2_sortOf 1 (some .int) 0 0 D cI cZ cB cR [] [.int (nI x)] (some (.int (nI (sortN x)))) := by
  refine mR_of rfl (Nat.le_of_ble_eq_true rfl) ?_
  intro p e s m args below meth c hC hr hlk hK hP ls hl
  have hl : lv_has ls 1 [(0, .int (nI x))] := hl
  obtain ⟨hx, hb, hml, hown, hts⟩ := id hC
  refine lv_iload_n hx hb dX2_sortOf_0 rfl (lv_at hl 0 rfl) ?_
  have b1 : nI x ≠ (-1) := fun h => absurd (nI_toInt (n := x) (by omega)) (by rw [h]; show ¬ (-1 : Int) = _; omega)
  refine lv_iconst (v := (-1)) hx hb dX2_sortOf_1 (by decide) ?_
  refine lv_icmp_ne (tgt := 7) hx hb dX2_sortOf_2 (by decide) (fun c2 => ?_) (fun c2 => by exfalso; exact absurd c2 (by simpa using b1))
  refine lv_iload_n hx hb dX2_sortOf_7 rfl (lv_at hl 0 rfl) ?_
  refine lv_bipush (v := nI 97) hx hb dX2_sortOf_8 (by decide) ?_
  refine zc_lt (tgt := 21) hC dX2_sortOf_10 (by decide) (by omega) (by omega) (fun c10 => ?_) (fun c10 => ?_)
  · skip
    refine lv_iload_n hx hb dX2_sortOf_21 rfl (lv_at hl 0 rfl) ?_
    refine lv_bipush (v := nI 48) hx hb dX2_sortOf_22 (by decide) ?_
    refine zc_lt (tgt := 35) hC dX2_sortOf_24 (by decide) (by omega) (by omega) (fun c24 => ?_) (fun c24 => ?_)
    · skip
      refine lv_iload_n hx hb dX2_sortOf_35 rfl (lv_at hl 0 rfl) ?_
      refine lv_bipush (v := nI 59) hx hb dX2_sortOf_36 (by decide) ?_
      refine zc_ne (tgt := 45) hC dX2_sortOf_38 (by decide) (by omega) (by omega) (fun c38 => ?_) (fun c38 => ?_)
      · skip
        refine lv_iconst (v := nI 4) hx hb dX2_sortOf_45 (by decide) ?_
        exact zr_i hC hr hlk (by unfold sortN; rw [if_neg (by omega), if_neg (by omega)]; first | rw [if_pos c38] | rw [if_neg c38]) dX2_sortOf_46
      · skip
        refine lv_iconst (v := nI 3) hx hb dX2_sortOf_41 (by decide) ?_
        refine lv_goto (tgt := 46) hx hb dX2_sortOf_42 (by decide) ?_
        exact zr_i hC hr hlk (by unfold sortN; rw [if_neg (by omega), if_neg (by omega)]; first | rw [if_pos c38] | rw [if_neg c38]) dX2_sortOf_46
    · skip
      refine lv_iload_n hx hb dX2_sortOf_27 rfl (lv_at hl 0 rfl) ?_
      refine lv_bipush (v := nI 57) hx hb dX2_sortOf_28 (by decide) ?_
      refine zc_gt (tgt := 35) hC dX2_sortOf_30 (by decide) (by omega) (by omega) (fun c30 => ?_) (fun c30 => ?_)
      · skip
        refine lv_iload_n hx hb dX2_sortOf_35 rfl (lv_at hl 0 rfl) ?_
        refine lv_bipush (v := nI 59) hx hb dX2_sortOf_36 (by decide) ?_
        refine zc_ne (tgt := 45) hC dX2_sortOf_38 (by decide) (by omega) (by omega) (fun c38 => ?_) (fun c38 => ?_)
        · skip
          refine lv_iconst (v := nI 4) hx hb dX2_sortOf_45 (by decide) ?_
          exact zr_i hC hr hlk (by unfold sortN; rw [if_neg (by omega), if_neg (by omega)]; first | rw [if_pos c38] | rw [if_neg c38]) dX2_sortOf_46
        · skip
          refine lv_iconst (v := nI 3) hx hb dX2_sortOf_41 (by decide) ?_
          refine lv_goto (tgt := 46) hx hb dX2_sortOf_42 (by decide) ?_
          exact zr_i hC hr hlk (by unfold sortN; rw [if_neg (by omega), if_neg (by omega)]; first | rw [if_pos c38] | rw [if_neg c38]) dX2_sortOf_46
      · skip
        refine lv_iconst (v := nI 2) hx hb dX2_sortOf_33 (by decide) ?_
        exact zr_i hC hr hlk (by unfold sortN; rw [if_neg (by omega), if_pos ⟨by omega, by omega⟩]) dX2_sortOf_34
  · skip
    refine lv_iload_n hx hb dX2_sortOf_13 rfl (lv_at hl 0 rfl) ?_
    refine lv_bipush (v := nI 122) hx hb dX2_sortOf_14 (by decide) ?_
    refine zc_gt (tgt := 21) hC dX2_sortOf_16 (by decide) (by omega) (by omega) (fun c16 => ?_) (fun c16 => ?_)
    · skip
      refine lv_iload_n hx hb dX2_sortOf_21 rfl (lv_at hl 0 rfl) ?_
      refine lv_bipush (v := nI 48) hx hb dX2_sortOf_22 (by decide) ?_
      refine zc_lt (tgt := 35) hC dX2_sortOf_24 (by decide) (by omega) (by omega) (fun c24 => ?_) (fun c24 => ?_)
      · skip
        refine lv_iload_n hx hb dX2_sortOf_35 rfl (lv_at hl 0 rfl) ?_
        refine lv_bipush (v := nI 59) hx hb dX2_sortOf_36 (by decide) ?_
        refine zc_ne (tgt := 45) hC dX2_sortOf_38 (by decide) (by omega) (by omega) (fun c38 => ?_) (fun c38 => ?_)
        · skip
          refine lv_iconst (v := nI 4) hx hb dX2_sortOf_45 (by decide) ?_
          exact zr_i hC hr hlk (by unfold sortN; rw [if_neg (by omega), if_neg (by omega)]; first | rw [if_pos c38] | rw [if_neg c38]) dX2_sortOf_46
        · skip
          refine lv_iconst (v := nI 3) hx hb dX2_sortOf_41 (by decide) ?_
          refine lv_goto (tgt := 46) hx hb dX2_sortOf_42 (by decide) ?_
          exact zr_i hC hr hlk (by unfold sortN; rw [if_neg (by omega), if_neg (by omega)]; first | rw [if_pos c38] | rw [if_neg c38]) dX2_sortOf_46
      · skip
        refine lv_iload_n hx hb dX2_sortOf_27 rfl (lv_at hl 0 rfl) ?_
        refine lv_bipush (v := nI 57) hx hb dX2_sortOf_28 (by decide) ?_
        refine zc_gt (tgt := 35) hC dX2_sortOf_30 (by decide) (by omega) (by omega) (fun c30 => ?_) (fun c30 => ?_)
        · skip
          refine lv_iload_n hx hb dX2_sortOf_35 rfl (lv_at hl 0 rfl) ?_
          refine lv_bipush (v := nI 59) hx hb dX2_sortOf_36 (by decide) ?_
          refine zc_ne (tgt := 45) hC dX2_sortOf_38 (by decide) (by omega) (by omega) (fun c38 => ?_) (fun c38 => ?_)
          · skip
            refine lv_iconst (v := nI 4) hx hb dX2_sortOf_45 (by decide) ?_
            exact zr_i hC hr hlk (by unfold sortN; rw [if_neg (by omega), if_neg (by omega)]; first | rw [if_pos c38] | rw [if_neg c38]) dX2_sortOf_46
          · skip
            refine lv_iconst (v := nI 3) hx hb dX2_sortOf_41 (by decide) ?_
            refine lv_goto (tgt := 46) hx hb dX2_sortOf_42 (by decide) ?_
            exact zr_i hC hr hlk (by unfold sortN; rw [if_neg (by omega), if_neg (by omega)]; first | rw [if_pos c38] | rw [if_neg c38]) dX2_sortOf_46
        · skip
          refine lv_iconst (v := nI 2) hx hb dX2_sortOf_33 (by decide) ?_
          exact zr_i hC hr hlk (by unfold sortN; rw [if_neg (by omega), if_pos ⟨by omega, by omega⟩]) dX2_sortOf_34
    · skip
      refine lv_iconst (v := nI 1) hx hb dX2_sortOf_19 (by decide) ?_
      exact zr_i hC hr hlk (by unfold sortN; rw [if_pos ⟨by omega, by omega⟩]) dX2_sortOf_20
set_option maxHeartbeats 1000000 in
set_option maxRecDepth 100000 in
theorem c_X2_sortOf_e {l : Launch} {D : va_G} {cI cZ cB cR : ClassId}   : mR l yX2_sortOf cX2_sortOf 1 (some .int) 0 0 D cI cZ cB cR [] [.int (-1)] (some (.int (nI 0))) := by
  refine mR_of rfl (Nat.le_of_ble_eq_true rfl) ?_
  intro p e s m args below meth c hC hr hlk hK hP ls hl
  have hl : lv_has ls 1 [(0, .int (-1))] := hl
  obtain ⟨hx, hb, hml, hown, hts⟩ := id hC
  refine lv_iload_n hx hb dX2_sortOf_0 rfl (lv_at hl 0 rfl) ?_
  refine lv_iconst (v := (-1)) hx hb dX2_sortOf_1 (by decide) ?_
  refine lv_icmp_ne (tgt := 7) hx hb dX2_sortOf_2 (by decide) (fun c2 => by exfalso; exact absurd rfl c2) (fun c2 => ?_)
  refine lv_iconst (v := nI 0) hx hb dX2_sortOf_5 (by decide) ?_
  exact zr_i hC hr hlk (by first | rfl | omega) dX2_sortOf_6
set_option maxHeartbeats 1000000 in
set_option maxRecDepth 100000 in
theorem c_X2_setsValue {l : Launch} {D : va_G} {cI cZ cB cR : ClassId} {t byA len pl tk ta : Nat} {va : Int32} {c9 l9 w9 : Nat} (hw : w9 < 1000) (hc : c9 < 256) (hl9 : l9 < 256) (htk : tk < 100) (h2 : tk = 2 → 48 ≤ c9 ∧ 48 ≤ l9) : mW l yX2_setsValue cX2_setsValue 4 none 0 0 D cI cZ cB cR [oT t byA len pl tk ta va] [oT t byA len pl (svK tk c9 w9) ta (svV tk c9 l9 w9 va)] [.ref t, .int (nI c9), .int (nI l9), .int (nI w9)] (none) := by
  refine mW_of rfl (Nat.le_of_ble_eq_true rfl) ?_
  intro p e s m args below meth c hC hr hlk hK A hA hD H0 h0 hP hS ls hl
  have hP : va_P D vwCl [oT t byA len pl tk ta va] H0 := hP
  have hl : lv_has ls 4 [(0, .ref t), (1, .int (nI c9)), (2, .int (nI l9)), (3, .int (nI w9))] := hl
  obtain ⟨hx, hb, hml, hown, hts⟩ := id hC
  refine lv_aload_n hx hb dX2_setsValue_0 rfl (lv_at hl 0 rfl) ?_
  refine z_get (k := 3) zcX2 hC hK hP 0 rfl (by decide) lF_X2_22 rfl dX2_setsValue_1 ?_
  refine lv_iconst (v := nI 2) hx hb dX2_setsValue_4 (by decide) ?_
  refine zc_eq (tgt := 25) hC dX2_setsValue_5 (by decide) (by omega) (by omega) (fun c5 => ?_) (fun c5 => ?_)
  · skip
    have h3 := h2 c5
    refine lv_iload_n hx hb dX2_setsValue_25 rfl (lv_at hl 3 rfl) ?_
    refine lv_iconst (v := nI 1) hx hb dX2_setsValue_26 (by decide) ?_
    refine zc_ne (tgt := 41) hC dX2_setsValue_27 (by decide) (by omega) (by omega) (fun c27 => ?_) (fun c27 => ?_)
    · skip
      refine lv_iload_n hx hb dX2_setsValue_41 rfl (lv_at hl 3 rfl) ?_
      refine lv_iconst (v := nI 2) hx hb dX2_setsValue_42 (by decide) ?_
      refine zc_ne (tgt := 71) hC dX2_setsValue_43 (by decide) (by omega) (by omega) (fun c43 => ?_) (fun c43 => ?_)
      · skip
        refine lv_aload_n hx hb dX2_setsValue_71 rfl (lv_at hl 0 rfl) ?_
        refine lv_iconst (v := nI 4) hx hb dX2_setsValue_72 (by decide) ?_
        refine z_put (k := 3) zcX2 hC hK hP hD hS 0 rfl (by decide) lF_X2_22 rfl rfl rfl (Nat.le_of_ble_eq_true rfl) dX2_setsValue_73 (fun H locs hP hD hS => ?_)
        have hP : va_P D vwCl [oT t byA len pl 4 ta va] H := hP
        have hD : va_D A [oT t byA len pl 4 ta va] := hD
        exact zw_v hC hr hlk hA h0 (by unfold svK svV; first | (rw [if_neg (fun h => c5 h.1), if_neg c5, if_pos c11]; exact hP) | (rw [if_neg (fun h => c5 h.1), if_neg c5, if_neg c11]; exact hP) | (rw [if_neg (fun h => h.2.1 c27), if_pos c5, if_pos c27]; exact hP) | (rw [if_neg (fun h => h.2.2 ⟨c43, c49⟩), if_pos c5, if_neg c27, if_pos ⟨c43, c49⟩]; exact hP) | (rw [if_pos ⟨c5, c27, fun h => c43 h.1⟩, if_pos c5, if_neg c27, if_neg (fun h => c43 h.1)]; exact hP) | (rw [if_pos ⟨c5, c27, fun h => h.2 c49⟩, if_pos c5, if_neg c27, if_neg (fun h => h.2 c49)]; exact hP)) hS dX2_setsValue_76
      · skip
        refine lv_iload_n hx hb dX2_setsValue_46 rfl (lv_at hl 1 rfl) ?_
        refine lv_bipush (v := nI 48) hx hb dX2_setsValue_47 (by decide) ?_
        refine zc_eq (tgt := 71) hC dX2_setsValue_49 (by decide) (by omega) (by omega) (fun c49 => ?_) (fun c49 => ?_)
        · skip
          refine lv_aload_n hx hb dX2_setsValue_71 rfl (lv_at hl 0 rfl) ?_
          refine lv_iconst (v := nI 4) hx hb dX2_setsValue_72 (by decide) ?_
          refine z_put (k := 3) zcX2 hC hK hP hD hS 0 rfl (by decide) lF_X2_22 rfl rfl rfl (Nat.le_of_ble_eq_true rfl) dX2_setsValue_73 (fun H locs hP hD hS => ?_)
          have hP : va_P D vwCl [oT t byA len pl 4 ta va] H := hP
          have hD : va_D A [oT t byA len pl 4 ta va] := hD
          exact zw_v hC hr hlk hA h0 (by unfold svK svV; first | (rw [if_neg (fun h => c5 h.1), if_neg c5, if_pos c11]; exact hP) | (rw [if_neg (fun h => c5 h.1), if_neg c5, if_neg c11]; exact hP) | (rw [if_neg (fun h => h.2.1 c27), if_pos c5, if_pos c27]; exact hP) | (rw [if_neg (fun h => h.2.2 ⟨c43, c49⟩), if_pos c5, if_neg c27, if_pos ⟨c43, c49⟩]; exact hP) | (rw [if_pos ⟨c5, c27, fun h => c43 h.1⟩, if_pos c5, if_neg c27, if_neg (fun h => c43 h.1)]; exact hP) | (rw [if_pos ⟨c5, c27, fun h => h.2 c49⟩, if_pos c5, if_neg c27, if_neg (fun h => h.2 c49)]; exact hP)) hS dX2_setsValue_76
        · skip
          refine lv_aload_n hx hb dX2_setsValue_52 rfl (lv_at hl 0 rfl) ?_
          refine lv_bipush (v := nI 10) hx hb dX2_setsValue_53 (by decide) ?_
          refine lv_iload_n hx hb dX2_setsValue_55 rfl (lv_at hl 1 rfl) ?_
          refine lv_bipush (v := nI 48) hx hb dX2_setsValue_56 (by decide) ?_
          refine zi_sub hC dX2_setsValue_58 (by omega) ?_
          refine zi_mul hC dX2_setsValue_59 ?_
          refine lv_iload_n hx hb dX2_setsValue_60 rfl (lv_at hl 2 rfl) ?_
          refine zi_add hC dX2_setsValue_61 ?_
          refine lv_bipush (v := nI 48) hx hb dX2_setsValue_62 (by decide) ?_
          refine zi_sub hC dX2_setsValue_64 (by omega) ?_
          refine z_put (k := 5) zcX2 hC hK hP hD hS 0 rfl (by decide) lF_X2_28 rfl rfl rfl (Nat.le_of_ble_eq_true rfl) dX2_setsValue_65 (fun H locs hP hD hS => ?_)
          have hP : va_P D vwCl [oT t byA len pl tk ta (nI (((10 * (c9 - 48)) + l9) - 48))] H := hP
          have hD : va_D A [oT t byA len pl tk ta (nI (((10 * (c9 - 48)) + l9) - 48))] := hD
          refine lv_goto (tgt := 76) hx hb dX2_setsValue_68 (by decide) ?_
          exact zw_v hC hr hlk hA h0 (by unfold svK svV; first | (rw [if_neg (fun h => c5 h.1), if_neg c5, if_pos c11]; exact hP) | (rw [if_neg (fun h => c5 h.1), if_neg c5, if_neg c11]; exact hP) | (rw [if_neg (fun h => h.2.1 c27), if_pos c5, if_pos c27]; exact hP) | (rw [if_neg (fun h => h.2.2 ⟨c43, c49⟩), if_pos c5, if_neg c27, if_pos ⟨c43, c49⟩]; exact hP) | (rw [if_pos ⟨c5, c27, fun h => c43 h.1⟩, if_pos c5, if_neg c27, if_neg (fun h => c43 h.1)]; exact hP) | (rw [if_pos ⟨c5, c27, fun h => h.2 c49⟩, if_pos c5, if_neg c27, if_neg (fun h => h.2 c49)]; exact hP)) hS dX2_setsValue_76
    · skip
      refine lv_aload_n hx hb dX2_setsValue_30 rfl (lv_at hl 0 rfl) ?_
      refine lv_iload_n hx hb dX2_setsValue_31 rfl (lv_at hl 1 rfl) ?_
      refine lv_bipush (v := nI 48) hx hb dX2_setsValue_32 (by decide) ?_
      refine zi_sub hC dX2_setsValue_34 (by omega) ?_
      refine z_put (k := 5) zcX2 hC hK hP hD hS 0 rfl (by decide) lF_X2_28 rfl rfl rfl (Nat.le_of_ble_eq_true rfl) dX2_setsValue_35 (fun H locs hP hD hS => ?_)
      have hP : va_P D vwCl [oT t byA len pl tk ta (nI (c9 - 48))] H := hP
      have hD : va_D A [oT t byA len pl tk ta (nI (c9 - 48))] := hD
      refine lv_goto (tgt := 76) hx hb dX2_setsValue_38 (by decide) ?_
      exact zw_v hC hr hlk hA h0 (by unfold svK svV; first | (rw [if_neg (fun h => c5 h.1), if_neg c5, if_pos c11]; exact hP) | (rw [if_neg (fun h => c5 h.1), if_neg c5, if_neg c11]; exact hP) | (rw [if_neg (fun h => h.2.1 c27), if_pos c5, if_pos c27]; exact hP) | (rw [if_neg (fun h => h.2.2 ⟨c43, c49⟩), if_pos c5, if_neg c27, if_pos ⟨c43, c49⟩]; exact hP) | (rw [if_pos ⟨c5, c27, fun h => c43 h.1⟩, if_pos c5, if_neg c27, if_neg (fun h => c43 h.1)]; exact hP) | (rw [if_pos ⟨c5, c27, fun h => h.2 c49⟩, if_pos c5, if_neg c27, if_neg (fun h => h.2 c49)]; exact hP)) hS dX2_setsValue_76
  · skip
    refine lv_aload_n hx hb dX2_setsValue_8 rfl (lv_at hl 0 rfl) ?_
    refine lv_iload_n hx hb dX2_setsValue_9 rfl (lv_at hl 3 rfl) ?_
    refine lv_iconst (v := nI 1) hx hb dX2_setsValue_10 (by decide) ?_
    refine zc_ne (tgt := 18) hC dX2_setsValue_11 (by decide) (by omega) (by omega) (fun c11 => ?_) (fun c11 => ?_)
    · skip
      refine lv_iconst (v := (-1)) hx hb dX2_setsValue_18 (by decide) ?_
      refine z_put (k := 5) zcX2 hC hK hP hD hS 0 rfl (by decide) lF_X2_28 rfl rfl rfl (Nat.le_of_ble_eq_true rfl) dX2_setsValue_19 (fun H locs hP hD hS => ?_)
      have hP : va_P D vwCl [oT t byA len pl tk ta (-1)] H := hP
      have hD : va_D A [oT t byA len pl tk ta (-1)] := hD
      refine lv_goto (tgt := 76) hx hb dX2_setsValue_22 (by decide) ?_
      exact zw_v hC hr hlk hA h0 (by unfold svK svV; first | (rw [if_neg (fun h => c5 h.1), if_neg c5, if_pos c11]; exact hP) | (rw [if_neg (fun h => c5 h.1), if_neg c5, if_neg c11]; exact hP) | (rw [if_neg (fun h => h.2.1 c27), if_pos c5, if_pos c27]; exact hP) | (rw [if_neg (fun h => h.2.2 ⟨c43, c49⟩), if_pos c5, if_neg c27, if_pos ⟨c43, c49⟩]; exact hP) | (rw [if_pos ⟨c5, c27, fun h => c43 h.1⟩, if_pos c5, if_neg c27, if_neg (fun h => c43 h.1)]; exact hP) | (rw [if_pos ⟨c5, c27, fun h => h.2 c49⟩, if_pos c5, if_neg c27, if_neg (fun h => h.2 c49)]; exact hP)) hS dX2_setsValue_76
    · skip
      refine lv_iload_n hx hb dX2_setsValue_14 rfl (lv_at hl 1 rfl) ?_
      refine lv_goto (tgt := 19) hx hb dX2_setsValue_15 (by decide) ?_
      refine z_put (k := 5) zcX2 hC hK hP hD hS 0 rfl (by decide) lF_X2_28 rfl rfl rfl (Nat.le_of_ble_eq_true rfl) dX2_setsValue_19 (fun H locs hP hD hS => ?_)
      have hP : va_P D vwCl [oT t byA len pl tk ta (nI c9)] H := hP
      have hD : va_D A [oT t byA len pl tk ta (nI c9)] := hD
      refine lv_goto (tgt := 76) hx hb dX2_setsValue_22 (by decide) ?_
      exact zw_v hC hr hlk hA h0 (by unfold svK svV; first | (rw [if_neg (fun h => c5 h.1), if_neg c5, if_pos c11]; exact hP) | (rw [if_neg (fun h => c5 h.1), if_neg c5, if_neg c11]; exact hP) | (rw [if_neg (fun h => h.2.1 c27), if_pos c5, if_pos c27]; exact hP) | (rw [if_neg (fun h => h.2.2 ⟨c43, c49⟩), if_pos c5, if_neg c27, if_pos ⟨c43, c49⟩]; exact hP) | (rw [if_pos ⟨c5, c27, fun h => c43 h.1⟩, if_pos c5, if_neg c27, if_neg (fun h => c43 h.1)]; exact hP) | (rw [if_pos ⟨c5, c27, fun h => h.2 c49⟩, if_pos c5, if_neg c27, if_neg (fun h => h.2 c49)]; exact hP)) hS dX2_setsValue_76
set_option maxHeartbeats 1000000 in
set_option maxRecDepth 100000 in
theorem c_X2_setsValue_e {l : Launch} {D : va_G} {cI cZ cB cR : ClassId} {t byA len pl ta : Nat} {va : Int32}  : mW l yX2_setsValue cX2_setsValue 4 none 0 0 D cI cZ cB cR [oT t byA len pl 0 ta va] [oT t byA len pl 0 ta (-1)] [.ref t, .int (-1), .int (-1), .int (nI 0)] (none) := by
  refine mW_of rfl (Nat.le_of_ble_eq_true rfl) ?_
  intro p e s m args below meth c hC hr hlk hK A hA hD H0 h0 hP hS ls hl
  have hP : va_P D vwCl [oT t byA len pl 0 ta va] H0 := hP
  have hl : lv_has ls 4 [(0, .ref t), (1, .int (-1)), (2, .int (-1)), (3, .int (nI 0))] := hl
  obtain ⟨hx, hb, hml, hown, hts⟩ := id hC
  refine lv_aload_n hx hb dX2_setsValue_0 rfl (lv_at hl 0 rfl) ?_
  refine z_get (k := 3) zcX2 hC hK hP 0 rfl (by decide) lF_X2_22 rfl dX2_setsValue_1 ?_
  refine lv_iconst (v := nI 2) hx hb dX2_setsValue_4 (by decide) ?_
  refine zc_eq (tgt := 25) hC dX2_setsValue_5 (by decide) (by omega) (by omega) (fun c5 => by exfalso; omega) (fun c5 => ?_)
  refine lv_aload_n hx hb dX2_setsValue_8 rfl (lv_at hl 0 rfl) ?_
  refine lv_iload_n hx hb dX2_setsValue_9 rfl (lv_at hl 3 rfl) ?_
  refine lv_iconst (v := nI 1) hx hb dX2_setsValue_10 (by decide) ?_
  refine zc_ne (tgt := 18) hC dX2_setsValue_11 (by decide) (by omega) (by omega) (fun c11 => ?_) (fun c11 => by exfalso; omega)
  refine lv_iconst (v := (-1)) hx hb dX2_setsValue_18 (by decide) ?_
  refine z_put (k := 5) zcX2 hC hK hP hD hS 0 rfl (by decide) lF_X2_28 rfl rfl rfl (Nat.le_of_ble_eq_true rfl) dX2_setsValue_19 (fun H locs hP hD hS => ?_)
  have hP : va_P D vwCl [oT t byA len pl 0 ta (-1)] H := hP
  have hD : va_D A [oT t byA len pl 0 ta (-1)] := hD
  refine lv_goto (tgt := 76) hx hb dX2_setsValue_22 (by decide) ?_
  exact zw_v hC hr hlk hA h0 hP hS dX2_setsValue_76
