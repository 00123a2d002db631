theorem z_max1 {a b : Nat} (ha : a < 2 ^ 30) (hb : b < 2 ^ 30) : (if nI 0 < nI a - nI b then nI a - nI b else nI 0) = nI (a - b) := by
  rw [nI_0]
  exact z_max0 ha hb
theorem cpy_s (f g : Nat → Nat) (d : Nat) : updN (cpyN f g 0 0 d) d (f d) = cpyN f g 0 0 (d + 1) := by
  funext j
  unfold updN cpyN
  by_cases h : j = d
  · subst h; simp
  · by_cases h2 : j < d
    · rw [if_neg h, if_pos (by omega), if_pos (by omega)]
    · rw [if_neg h, if_neg (by omega), if_neg (by omega)]
theorem cpy_0 (f g : Nat → Nat) : cpyN f g 0 0 0 = g := by
  funext j
  unfold cpyN
  rw [if_neg (by omega)]
def updF (dr : Nat → Nat → Nat) (a : Nat) (g : Nat → Nat) : Nat → Nat → Nat := fun i => if i = a then g else dr i
theorem updF_s {dr : Nat → Nat → Nat} {a : Nat} {g : Nat → Nat} : updF dr a g a = g := if_pos rfl
theorem updF_n {dr : Nat → Nat → Nat} {a i : Nat} {g : Nat → Nat} (h : i ≠ a) : updF dr a g i = dr i := if_neg h
theorem updF_u (dr : Nat → Nat → Nat) (a : Nat) (g g2 : Nat → Nat) : updF (updF dr a g) a g2 = updF dr a g2 := by
  funext i
  unfold updF
  by_cases h : i = a
  · rw [if_pos h, if_pos h]
  · rw [if_neg h, if_neg h, if_neg h]
theorem updF_id (dr : Nat → Nat → Nat) (a : Nat) : updF dr a (dr a) = dr := by
  funext i
  unfold updF
  by_cases h : i = a
  · rw [if_pos h, h]
  · rw [if_neg h]
theorem row5_set {X : va_W} {cI : ClassId} {r : Nat → Nat} {dr : Nat → Nat → Nat} {i : Nat} {g : Nat → Nat} (h : i < 5) : (X ++ [aI cI (r 0) 6 (dr 0), aI cI (r 1) 6 (dr 1), aI cI (r 2) 6 (dr 2), aI cI (r 3) 6 (dr 3), aI cI (r 4) 6 (dr 4)]).set (X.length + i) (aI cI (r i) 6 g) = X ++ [aI cI (r 0) 6 (updF dr i g 0), aI cI (r 1) 6 (updF dr i g 1), aI cI (r 2) 6 (updF dr i g 2), aI cI (r 3) 6 (updF dr i g 3), aI cI (r 4) 6 (updF dr i g 4)] := by
  rw [List.set_append_right _ _ (Nat.le_add_right _ _), Nat.add_sub_cancel_left]
  match i, h with
  | 0, _ => rfl
  | 1, _ => rfl
  | 2, _ => rfl
  | 3, _ => rfl
  | 4, _ => rfl
/-- a step kept: at its place k of the row of steps -/
def pushS (lv te la : Nat → Nat) (mo dn ea bn : Nat) (st : Nat → Nat) (k : Nat) : Nat → Nat := updN (updN (updN (updN (cpyN la (cpyN te (cpyN lv st 0 (k * 22) 6) 0 (k * 22 + 6) 6) 0 (k * 22 + 12) 6) (k * 22 + 18) mo) (k * 22 + 18 + 1) dn) (k * 22 + 18 + 2) ea) (k * 22 + 18 + 3) bn
def remS (lv te la : Nat → Nat) (mo dn ea bn : Nat) (st : Nat → Nat) (k : Nat) : Nat → Nat := if k < 10 then pushS lv te la mo dn ea bn st k else pushS lv te la mo dn ea bn (cpyN st st 22 0 (9 * 22)) 9
def remK (k : Nat) : Nat := if k < 10 then k + 1 else 10
set_option maxHeartbeats 1000000 in
set_option maxRecDepth 100000 in
theorem c_J6_bitCount_0f7a4 {l : Launch} {D : va_G} {cI cZ cB cR : ClassId} {x : Nat} (hx9 : x < 64) : mR l yJ6_bitCount_0f7a4 cJ6_bitCount_0f7a4 1 (some .int) 0 0 D cI cZ cB cR [] [.int (nI x)] (some (.int (nI (popc x)))) := by
  refine mR_of rfl (Nat.le_of_ble_eq_true rfl) ?_
  intro p e s m args below meth c hC hr hlk hK hP ls hl
  have hl : lv_has ls 1 [(0, .int (nI x))] := hl
  obtain ⟨hx, hb, hml, hown, hts⟩ := id hC
  refine lv_iload_n hx hb dJ6_bitCount_0f7a4_0 rfl (lv_at hl 0 rfl) ?_
  refine lv_iload_n hx hb dJ6_bitCount_0f7a4_1 rfl (lv_at hl 0 rfl) ?_
  refine lv_iconst (v := nI 1) hx hb dJ6_bitCount_0f7a4_2 (by decide) ?_
  refine lv_iushr hx hb dJ6_bitCount_0f7a4_3 rfl ?_
  refine lv_ldcw (v := (1431655765)) hx hb hown (hts _ lK_J6_265) dJ6_bitCount_0f7a4_4 ?_
  refine lv_iand hx hb dJ6_bitCount_0f7a4_7 ?_
  refine lv_isub hx hb dJ6_bitCount_0f7a4_8 ?_
  refine lv_istore_n (lv' := [(0, .int ((nI x) - ((((nI x).toUInt32 >>> ((nI 1).toUInt32 &&& Int32.toUInt32 31)).toInt32) &&& (1431655765))))]) hx hb dJ6_bitCount_0f7a4_9 rfl hl (by decide) rfl (fun ls hl => ?_)
  refine lv_iload_n hx hb dJ6_bitCount_0f7a4_10 rfl (lv_at hl 0 rfl) ?_
  refine lv_ldcw (v := (858993459)) hx hb hown (hts _ lK_J6_266) dJ6_bitCount_0f7a4_11 ?_
  refine lv_iand hx hb dJ6_bitCount_0f7a4_14 ?_
  refine lv_iload_n hx hb dJ6_bitCount_0f7a4_15 rfl (lv_at hl 0 rfl) ?_
  refine lv_iconst (v := nI 2) hx hb dJ6_bitCount_0f7a4_16 (by decide) ?_
  refine lv_iushr hx hb dJ6_bitCount_0f7a4_17 rfl ?_
  refine lv_ldcw (v := (858993459)) hx hb hown (hts _ lK_J6_266) dJ6_bitCount_0f7a4_18 ?_
  refine lv_iand hx hb dJ6_bitCount_0f7a4_21 ?_
  refine lv_iadd hx hb dJ6_bitCount_0f7a4_22 ?_
  refine lv_istore_n (lv' := [(0, .int ((((nI x) - ((((nI x).toUInt32 >>> ((nI 1).toUInt32 &&& Int32.toUInt32 31)).toInt32) &&& (1431655765))) &&& (858993459)) + (((((nI x) - ((((nI x).toUInt32 >>> ((nI 1).toUInt32 &&& Int32.toUInt32 31)).toInt32) &&& (1431655765))).toUInt32 >>> ((nI 2).toUInt32 &&& Int32.toUInt32 31)).toInt32) &&& (858993459))))]) hx hb dJ6_bitCount_0f7a4_23 rfl hl (by decide) rfl (fun ls hl => ?_)
  refine lv_iload_n hx hb dJ6_bitCount_0f7a4_24 rfl (lv_at hl 0 rfl) ?_
  refine lv_iload_n hx hb dJ6_bitCount_0f7a4_25 rfl (lv_at hl 0 rfl) ?_
  refine lv_iconst (v := nI 4) hx hb dJ6_bitCount_0f7a4_26 (by decide) ?_
  refine lv_iushr hx hb dJ6_bitCount_0f7a4_27 rfl ?_
  refine lv_iadd hx hb dJ6_bitCount_0f7a4_28 ?_
  refine lv_ldcw (v := (252645135)) hx hb hown (hts _ lK_J6_267) dJ6_bitCount_0f7a4_29 ?_
  refine lv_iand hx hb dJ6_bitCount_0f7a4_32 ?_
  refine lv_istore_n (lv' := [(0, .int ((((((nI x) - ((((nI x).toUInt32 >>> ((nI 1).toUInt32 &&& Int32.toUInt32 31)).toInt32) &&& (1431655765))) &&& (858993459)) + (((((nI x) - ((((nI x).toUInt32 >>> ((nI 1).toUInt32 &&& Int32.toUInt32 31)).toInt32) &&& (1431655765))).toUInt32 >>> ((nI 2).toUInt32 &&& Int32.toUInt32 31)).toInt32) &&& (858993459))) + ((((((nI x) - ((((nI x).toUInt32 >>> ((nI 1).toUInt32 &&& Int32.toUInt32 31)).toInt32) &&& (1431655765))) &&& (858993459)) + (((((nI x) - ((((nI x).toUInt32 >>> ((nI 1).toUInt32 &&& Int32.toUInt32 31)).toInt32) &&& (1431655765))).toUInt32 >>> ((nI 2).toUInt32 &&& Int32.toUInt32 31)).toInt32) &&& (858993459))).toUInt32 >>> ((nI 4).toUInt32 &&& Int32.toUInt32 31)).toInt32)) &&& (252645135)))]) hx hb dJ6_bitCount_0f7a4_33 rfl hl (by decide) rfl (fun ls hl => ?_)
  refine lv_iload_n hx hb dJ6_bitCount_0f7a4_34 rfl (lv_at hl 0 rfl) ?_
  refine lv_iload_n hx hb dJ6_bitCount_0f7a4_35 rfl (lv_at hl 0 rfl) ?_
  refine lv_bipush (v := nI 8) hx hb dJ6_bitCount_0f7a4_36 (by decide) ?_
  refine lv_iushr hx hb dJ6_bitCount_0f7a4_38 rfl ?_
  refine lv_iadd hx hb dJ6_bitCount_0f7a4_39 ?_
  refine lv_istore_n (lv' := [(0, .int (((((((nI x) - ((((nI x).toUInt32 >>> ((nI 1).toUInt32 &&& Int32.toUInt32 31)).toInt32) &&& (1431655765))) &&& (858993459)) + (((((nI x) - ((((nI x).toUInt32 >>> ((nI 1).toUInt32 &&& Int32.toUInt32 31)).toInt32) &&& (1431655765))).toUInt32 >>> ((nI 2).toUInt32 &&& Int32.toUInt32 31)).toInt32) &&& (858993459))) + ((((((nI x) - ((((nI x).toUInt32 >>> ((nI 1).toUInt32 &&& Int32.toUInt32 31)).toInt32) &&& (1431655765))) &&& (858993459)) + (((((nI x) - ((((nI x).toUInt32 >>> ((nI 1).toUInt32 &&& Int32.toUInt32 31)).toInt32) &&& (1431655765))).toUInt32 >>> ((nI 2).toUInt32 &&& Int32.toUInt32 31)).toInt32) &&& (858993459))).toUInt32 >>> ((nI 4).toUInt32 &&& Int32.toUInt32 31)).toInt32)) &&& (252645135)) + ((((((((nI x) - ((((nI x).toUInt32 >>> ((nI 1).toUInt32 &&& Int32.toUInt32 31)).toInt32) &&& (1431655765))) &&& (858993459)) + (((((nI x) - ((((nI x).toUInt32 >>> ((nI 1).toUInt32 &&& Int32.toUInt32 31)).toInt32) &&& (1431655765))).toUInt32 >>> ((nI 2).toUInt32 &&& Int32.toUInt32 31)).toInt32) &&& (858993459))) + ((((((nI x) - ((((nI x).toUInt32 >>> ((nI 1).toUInt32 &&& Int32.toUInt32 31)).toInt32) &&& (1431655765))) &&& (858993459)) + (((((nI x) - ((((nI x).toUInt32 >>> ((nI 1).toUInt32 &&& Int32.toUInt32 31)).toInt32) &&& (1431655765))).toUInt32 >>> ((nI 2).toUInt32 &&& Int32.toUInt32 31)).toInt32) &&& (858993459))).toUInt32 >>> ((nI 4).toUInt32 &&& Int32.toUInt32 31)).toInt32)) &&& (252645135)).toUInt32 >>> ((nI 8).toUInt32 &&& Int32.toUInt32 31)).toInt32)))]) hx hb dJ6_bitCount_0f7a4_40 rfl hl (by decide) rfl (fun ls hl => ?_)
  refine lv_iload_n hx hb dJ6_bitCount_0f7a4_41 rfl (lv_at hl 0 rfl) ?_
  refine lv_iload_n hx hb dJ6_bitCount_0f7a4_42 rfl (lv_at hl 0 rfl) ?_
  refine lv_bipush (v := nI 16) hx hb dJ6_bitCount_0f7a4_43 (by decide) ?_
  refine lv_iushr hx hb dJ6_bitCount_0f7a4_45 rfl ?_
  refine lv_iadd hx hb dJ6_bitCount_0f7a4_46 ?_
  refine lv_istore_n (lv' := [(0, .int ((((((((nI x) - ((((nI x).toUInt32 >>> ((nI 1).toUInt32 &&& Int32.toUInt32 31)).toInt32) &&& (1431655765))) &&& (858993459)) + (((((nI x) - ((((nI x).toUInt32 >>> ((nI 1).toUInt32 &&& Int32.toUInt32 31)).toInt32) &&& (1431655765))).toUInt32 >>> ((nI 2).toUInt32 &&& Int32.toUInt32 31)).toInt32) &&& (858993459))) + ((((((nI x) - ((((nI x).toUInt32 >>> ((nI 1).toUInt32 &&& Int32.toUInt32 31)).toInt32) &&& (1431655765))) &&& (858993459)) + (((((nI x) - ((((nI x).toUInt32 >>> ((nI 1).toUInt32 &&& Int32.toUInt32 31)).toInt32) &&& (1431655765))).toUInt32 >>> ((nI 2).toUInt32 &&& Int32.toUInt32 31)).toInt32) &&& (858993459))).toUInt32 >>> ((nI 4).toUInt32 &&& Int32.toUInt32 31)).toInt32)) &&& (252645135)) + ((((((((nI x) - ((((nI x).toUInt32 >>> ((nI 1).toUInt32 &&& Int32.toUInt32 31)).toInt32) &&& (1431655765))) &&& (858993459)) + (((((nI x) - ((((nI x).toUInt32 >>> ((nI 1).toUInt32 &&& Int32.toUInt32 31)).toInt32) &&& (1431655765))).toUInt32 >>> ((nI 2).toUInt32 &&& Int32.toUInt32 31)).toInt32) &&& (858993459))) + ((((((nI x) - ((((nI x).toUInt32 >>> ((nI 1).toUInt32 &&& Int32.toUInt32 31)).toInt32) &&& (1431655765))) &&& (858993459)) + (((((nI x) - ((((nI x).toUInt32 >>> ((nI 1).toUInt32 &&& Int32.toUInt32 31)).toInt32) &&& (1431655765))).toUInt32 >>> ((nI 2).toUInt32 &&& Int32.toUInt32 31)).toInt32) &&& (858993459))).toUInt32 >>> ((nI 4).toUInt32 &&& Int32.toUInt32 31)).toInt32)) &&& (252645135)).toUInt32 >>> ((nI 8).toUInt32 &&& Int32.toUInt32 31)).toInt32)) + (((((((((nI x) - ((((nI x).toUInt32 >>> ((nI 1).toUInt32 &&& Int32.toUInt32 31)).toInt32) &&& (1431655765))) &&& (858993459)) + (((((nI x) - ((((nI x).toUInt32 >>> ((nI 1).toUInt32 &&& Int32.toUInt32 31)).toInt32) &&& (1431655765))).toUInt32 >>> ((nI 2).toUInt32 &&& Int32.toUInt32 31)).toInt32) &&& (858993459))) + ((((((nI x) - ((((nI x).toUInt32 >>> ((nI 1).toUInt32 &&& Int32.toUInt32 31)).toInt32) &&& (1431655765))) &&& (858993459)) + (((((nI x) - ((((nI x).toUInt32 >>> ((nI 1).toUInt32 &&& Int32.toUInt32 31)).toInt32) &&& (1431655765))).toUInt32 >>> ((nI 2).toUInt32 &&& Int32.toUInt32 31)).toInt32) &&& (858993459))).toUInt32 >>> ((nI 4).toUInt32 &&& Int32.toUInt32 31)).toInt32)) &&& (252645135)) + ((((((((nI x) - ((((nI x).toUInt32 >>> ((nI 1).toUInt32 &&& Int32.toUInt32 31)).toInt32) &&& (1431655765))) &&& (858993459)) + (((((nI x) - ((((nI x).toUInt32 >>> ((nI 1).toUInt32 &&& Int32.toUInt32 31)).toInt32) &&& (1431655765))).toUInt32 >>> ((nI 2).toUInt32 &&& Int32.toUInt32 31)).toInt32) &&& (858993459))) + ((((((nI x) - ((((nI x).toUInt32 >>> ((nI 1).toUInt32 &&& Int32.toUInt32 31)).toInt32) &&& (1431655765))) &&& (858993459)) + (((((nI x) - ((((nI x).toUInt32 >>> ((nI 1).toUInt32 &&& Int32.toUInt32 31)).toInt32) &&& (1431655765))).toUInt32 >>> ((nI 2).toUInt32 &&& Int32.toUInt32 31)).toInt32) &&& (858993459))).toUInt32 >>> ((nI 4).toUInt32 &&& Int32.toUInt32 31)).toInt32)) &&& (252645135)).toUInt32 >>> ((nI 8).toUInt32 &&& Int32.toUInt32 31)).toInt32)).toUInt32 >>> ((nI 16).toUInt32 &&& Int32.toUInt32 31)).toInt32)))]) hx hb dJ6_bitCount_0f7a4_47 rfl hl (by decide) rfl (fun ls hl => ?_)
  refine lv_iload_n hx hb dJ6_bitCount_0f7a4_48 rfl (lv_at hl 0 rfl) ?_
  refine lv_bipush (v := nI 63) hx hb dJ6_bitCount_0f7a4_49 (by decide) ?_
  refine lv_iand hx hb dJ6_bitCount_0f7a4_51 ?_
  exact zr_i hC hr hlk (by have h9 : ∀ x9, x9 < 64 → (((((((((nI x9) - ((((nI x9).toUInt32 >>> ((nI 1).toUInt32 &&& Int32.toUInt32 31)).toInt32) &&& (1431655765))) &&& (858993459)) + (((((nI x9) - ((((nI x9).toUInt32 >>> ((nI 1).toUInt32 &&& Int32.toUInt32 31)).toInt32) &&& (1431655765))).toUInt32 >>> ((nI 2).toUInt32 &&& Int32.toUInt32 31)).toInt32) &&& (858993459))) + ((((((nI x9) - ((((nI x9).toUInt32 >>> ((nI 1).toUInt32 &&& Int32.toUInt32 31)).toInt32) &&& (1431655765))) &&& (858993459)) + (((((nI x9) - ((((nI x9).toUInt32 >>> ((nI 1).toUInt32 &&& Int32.toUInt32 31)).toInt32) &&& (1431655765))).toUInt32 >>> ((nI 2).toUInt32 &&& Int32.toUInt32 31)).toInt32) &&& (858993459))).toUInt32 >>> ((nI 4).toUInt32 &&& Int32.toUInt32 31)).toInt32)) &&& (252645135)) + ((((((((nI x9) - ((((nI x9).toUInt32 >>> ((nI 1).toUInt32 &&& Int32.toUInt32 31)).toInt32) &&& (1431655765))) &&& (858993459)) + (((((nI x9) - ((((nI x9).toUInt32 >>> ((nI 1).toUInt32 &&& Int32.toUInt32 31)).toInt32) &&& (1431655765))).toUInt32 >>> ((nI 2).toUInt32 &&& Int32.toUInt32 31)).toInt32) &&& (858993459))) + ((((((nI x9) - ((((nI x9).toUInt32 >>> ((nI 1).toUInt32 &&& Int32.toUInt32 31)).toInt32) &&& (1431655765))) &&& (858993459)) + (((((nI x9) - ((((nI x9).toUInt32 >>> ((nI 1).toUInt32 &&& Int32.toUInt32 31)).toInt32) &&& (1431655765))).toUInt32 >>> ((nI 2).toUInt32 &&& Int32.toUInt32 31)).toInt32) &&& (858993459))).toUInt32 >>> ((nI 4).toUInt32 &&& Int32.toUInt32 31)).toInt32)) &&& (252645135)).toUInt32 >>> ((nI 8).toUInt32 &&& Int32.toUInt32 31)).toInt32)) + (((((((((nI x9) - ((((nI x9).toUInt32 >>> ((nI 1).toUInt32 &&& Int32.toUInt32 31)).toInt32) &&& (1431655765))) &&& (858993459)) + (((((nI x9) - ((((nI x9).toUInt32 >>> ((nI 1).toUInt32 &&& Int32.toUInt32 31)).toInt32) &&& (1431655765))).toUInt32 >>> ((nI 2).toUInt32 &&& Int32.toUInt32 31)).toInt32) &&& (858993459))) + ((((((nI x9) - ((((nI x9).toUInt32 >>> ((nI 1).toUInt32 &&& Int32.toUInt32 31)).toInt32) &&& (1431655765))) &&& (858993459)) + (((((nI x9) - ((((nI x9).toUInt32 >>> ((nI 1).toUInt32 &&& Int32.toUInt32 31)).toInt32) &&& (1431655765))).toUInt32 >>> ((nI 2).toUInt32 &&& Int32.toUInt32 31)).toInt32) &&& (858993459))).toUInt32 >>> ((nI 4).toUInt32 &&& Int32.toUInt32 31)).toInt32)) &&& (252645135)) + ((((((((nI x9) - ((((nI x9).toUInt32 >>> ((nI 1).toUInt32 &&& Int32.toUInt32 31)).toInt32) &&& (1431655765))) &&& (858993459)) + (((((nI x9) - ((((nI x9).toUInt32 >>> ((nI 1).toUInt32 &&& Int32.toUInt32 31)).toInt32) &&& (1431655765))).toUInt32 >>> ((nI 2).toUInt32 &&& Int32.toUInt32 31)).toInt32) &&& (858993459))) + ((((((nI x9) - ((((nI x9).toUInt32 >>> ((nI 1).toUInt32 &&& Int32.toUInt32 31)).toInt32) &&& (1431655765))) &&& (858993459)) + (((((nI x9) - ((((nI x9).toUInt32 >>> ((nI 1).toUInt32 &&& Int32.toUInt32 31)).toInt32) &&& (1431655765))).toUInt32 >>> ((nI 2).toUInt32 &&& Int32.toUInt32 31)).toInt32) &&& (858993459))).toUInt32 >>> ((nI 4).toUInt32 &&& Int32.toUInt32 31)).toInt32)) &&& (252645135)).toUInt32 >>> ((nI 8).toUInt32 &&& Int32.toUInt32 31)).toInt32)).toUInt32 >>> ((nI 16).toUInt32 &&& Int32.toUInt32 31)).toInt32)) &&& (nI 63)) = nI (popc x9) := (by decide +kernel); exact h9 x hx9) dJ6_bitCount_0f7a4_52
set_option maxHeartbeats 1000000 in
set_option maxRecDepth 100000 in
theorem c_X1_qualitiesNeeded {l : Launch} {D : va_G} {cI cZ cB cR : ClassId} {b : Nat} {n lvA aiA laA ac woA drA : Nat} {r : Nat → Nat} {dr : Nat → Nat → Nat} {a : Nat} (hn : n ≤ 6) (hac : ac ≤ 5) (hdr : ∀ i j, dr i j ≤ 9) (ha : a < ac) : mR l yX1_qualitiesNeeded cX1_qualitiesNeeded 4 (some .int) 1 22 D cI cZ cB cR [oB b n lvA aiA laA ac woA drA, aR cR drA 5 r, aI cI (r 0) 6 (dr 0), aI cI (r 1) 6 (dr 1), aI cI (r 2) 6 (dr 2), aI cI (r 3) 6 (dr 3), aI cI (r 4) 6 (dr 4)] [.ref b, .int (nI a)] (some (.int (nI (orr (fun i => decide (0 < dr a i)) n)))) := by
  refine mR_of rfl (Nat.le_of_ble_eq_true rfl) ?_
  intro p e s m args below meth c hC hr hlk hK hP ls hl
  have hl : lv_has ls 4 [(0, .ref b), (1, .int (nI a))] := hl
  obtain ⟨hx, hb, hml, hown, hts⟩ := id hC
  refine lv_iconst (v := nI 0) hx hb dX1_qualitiesNeeded_0 (by decide) ?_
  refine lv_istore_n (lv' := [(2, .int (nI 0)), (0, .ref b), (1, .int (nI a))]) hx hb dX1_qualitiesNeeded_1 rfl hl (by decide) rfl (fun ls hl => ?_)
  refine lv_iconst (v := nI 0) hx hb dX1_qualitiesNeeded_2 (by decide) ?_
  refine lv_istore_n (lv' := [(3, .int (nI 0)), (2, .int (nI 0)), (0, .ref b), (1, .int (nI a))]) hx hb dX1_qualitiesNeeded_3 rfl hl (by decide) rfl (fun ls hl => ?_)
  have hL4 : ∀ (z4 : Nat) (d : Nat) (x : Nat), n - d = z4 → d ≤ n → x = orr (fun i => decide (0 < dr a i)) d → ∀ ls : Array Slot, lv_has ls 4 [(0, .ref b), (1, .int (nI a)), (2, .int (nI x)), (3, .int (nI d))] → W p l e { frames := 1, cells := 0, slots := 0, locals := 22 } s m args below meth c s.heap [] 0 0 (MQ below (qR (some (.int (nI (orr (fun i => decide (0 < dr a i)) n))))) args s 0 0 (fun _ => False)) (F0 m 4 ls []) := by
    intro z4
    induction z4 using Nat.strongRecOn with
    | _ z4 ih4 =>
    intro d x hz4 hd hx9 ls hl
    refine lv_iload_n hx hb dX1_qualitiesNeeded_4 rfl (lv_at hl 3 rfl) ?_
    refine lv_aload_n hx hb dX1_qualitiesNeeded_5 rfl (lv_at hl 0 rfl) ?_
    refine z_get (k := 0) zcX1 hC hK hP 0 rfl (by decide) lF_X1_9 rfl dX1_qualitiesNeeded_6 ?_
    refine zc_ge (tgt := 33) hC dX1_qualitiesNeeded_9 (by decide) (by omega) (by omega) (fun c9 => ?_) (fun c9 => ?_)
    · skip
      refine lv_iload_n hx hb dX1_qualitiesNeeded_33 rfl (lv_at hl 2 rfl) ?_
      exact zr_i hC hr hlk (by rw [hx9, show d = n by omega]) dX1_qualitiesNeeded_34
    · skip
      refine lv_aload_n hx hb dX1_qualitiesNeeded_12 rfl (lv_at hl 0 rfl) ?_
      refine lv_iload_n hx hb dX1_qualitiesNeeded_13 rfl (lv_at hl 1 rfl) ?_
      refine lv_iload_n hx hb dX1_qualitiesNeeded_14 rfl (lv_at hl 3 rfl) ?_
      refine zRV (As := [.int (nI a), .int (nI d)]) (b := b) (rest := []) hC (c_X1_dropsNeeded (l := l) (hn := hn) (hac := hac) (ha := ha) (hd := by omega)) lM_X1_36 vM_X1_dropsNeeded (by decide) hK hP [0, 1, 2, 3, 4, 5, 6] rfl ⟨rfl, rfl, rfl⟩ rfl hl.1 rfl (Nat.le_of_ble_eq_true rfl) dX1_qualitiesNeeded_15 (by decide) ?_
      show W _ _ _ _ _ _ _ _ _ _ _ _ _ _ _ (F0 m 18 ls [.int (nI (dr a d))])
      have b18 := hdr a d
      refine z0_le (tgt := 27) hC dX1_qualitiesNeeded_18 (by decide) (by omega) (fun c18 => ?_) (fun c18 => ?_)
      · skip
        refine lv_iinc (v := nI (d + 1)) (lv' := [(3, .int (nI (d + 1))), (0, .ref b), (1, .int (nI a)), (2, .int (nI x))]) hx hb dX1_qualitiesNeeded_27 hl (k := 3) rfl (z_inc d 1) (by decide) rfl (fun ls hl => ?_)
        refine lv_goto (tgt := 4) hx hb dX1_qualitiesNeeded_30 (by decide) ?_
        exact ih4 (n - (d + 1)) (by omega) (d + 1) x rfl (by omega) (by rw [hx9, orr_s]; first | exact (if_pos (decide_eq_true c18)).symm | exact (if_neg (by rw [c18]; decide)).symm) ls (lv_sub hl [1, 2, 3, 0] rfl)
      · skip
        refine lv_iload_n hx hb dX1_qualitiesNeeded_21 rfl (lv_at hl 2 rfl) ?_
        refine lv_iconst (v := nI 1) hx hb dX1_qualitiesNeeded_22 (by decide) ?_
        refine lv_iload_n hx hb dX1_qualitiesNeeded_23 rfl (lv_at hl 3 rfl) ?_
        refine zi_shl1 hC dX1_qualitiesNeeded_24 (by omega) ?_
        refine zi_or hC dX1_qualitiesNeeded_25 ?_
        refine lv_istore_n (lv' := [(2, .int (nI (x ||| (2 ^ d)))), (0, .ref b), (1, .int (nI a)), (3, .int (nI d))]) hx hb dX1_qualitiesNeeded_26 rfl hl (by decide) rfl (fun ls hl => ?_)
        refine lv_iinc (v := nI (d + 1)) (lv' := [(3, .int (nI (d + 1))), (2, .int (nI (x ||| (2 ^ d)))), (0, .ref b), (1, .int (nI a))]) hx hb dX1_qualitiesNeeded_27 hl (k := 3) rfl (z_inc d 1) (by decide) rfl (fun ls hl => ?_)
        refine lv_goto (tgt := 4) hx hb dX1_qualitiesNeeded_30 (by decide) ?_
        exact ih4 (n - (d + 1)) (by omega) (d + 1) (x ||| (2 ^ d)) rfl (by omega) (by rw [hx9, orr_s]; first | exact (if_pos (decide_eq_true c18)).symm | exact (if_neg (by rw [c18]; decide)).symm) ls (lv_sub hl [2, 3, 1, 0] rfl)
  exact hL4 _ 0 0 rfl (by omega) (by rfl) ls (lv_sub hl [2, 3, 1, 0] rfl)
set_option maxHeartbeats 1000000 in
set_option maxRecDepth 100000 in
theorem c_X1_worthOf {l : Launch} {D : va_G} {cI cZ cB cR : ClassId} {b : Nat} {n lvA aiA laA ac woA drA : Nat} {wo : Nat → Nat} {st9 : Nat} (hac : ac ≤ 5) (hst : st9 < 2 ^ 31) : mR l yX1_worthOf cX1_worthOf 4 (some .int) 1 21 D cI cZ cB cR [oB b n lvA aiA laA ac woA drA, aI cI woA 5 wo] [.ref b, .int (nI st9)] (some (.int (nI (sm (fun i => if st9.testBit i then wo i else 0) ac)))) := by
  refine mR_of rfl (Nat.le_of_ble_eq_true rfl) ?_
  intro p e s m args below meth c hC hr hlk hK hP ls hl
  have hl : lv_has ls 4 [(0, .ref b), (1, .int (nI st9))] := hl
  obtain ⟨hx, hb, hml, hown, hts⟩ := id hC
  refine lv_iconst (v := nI 0) hx hb dX1_worthOf_0 (by decide) ?_
  refine lv_istore_n (lv' := [(2, .int (nI 0)), (0, .ref b), (1, .int (nI st9))]) hx hb dX1_worthOf_1 rfl hl (by decide) rfl (fun ls hl => ?_)
  refine lv_iconst (v := nI 0) hx hb dX1_worthOf_2 (by decide) ?_
  refine lv_istore_n (lv' := [(3, .int (nI 0)), (2, .int (nI 0)), (0, .ref b), (1, .int (nI st9))]) hx hb dX1_worthOf_3 rfl hl (by decide) rfl (fun ls hl => ?_)
  have hL4 : ∀ (z4 : Nat) (i : Nat) (x : Nat), ac - i = z4 → i ≤ ac → x = sm (fun i => if st9.testBit i then wo i else 0) i → ∀ ls : Array Slot, lv_has ls 4 [(0, .ref b), (1, .int (nI st9)), (2, .int (nI x)), (3, .int (nI i))] → W p l e { frames := 1, cells := 0, slots := 0, locals := 21 } s m args below meth c s.heap [] 0 0 (MQ below (qR (some (.int (nI (sm (fun i => if st9.testBit i then wo i else 0) ac))))) args s 0 0 (fun _ => False)) (F0 m 4 ls []) := by
    intro z4
    induction z4 using Nat.strongRecOn with
    | _ z4 ih4 =>
    intro i x hz4 hi hx9 ls hl
    refine lv_iload_n hx hb dX1_worthOf_4 rfl (lv_at hl 3 rfl) ?_
    refine lv_aload_n hx hb dX1_worthOf_5 rfl (lv_at hl 0 rfl) ?_
    refine z_get (k := 4) zcX1 hC hK hP 0 rfl (by decide) lF_X1_25 rfl dX1_worthOf_6 ?_
    refine zc_ge (tgt := 35) hC dX1_worthOf_9 (by decide) (by omega) (by omega) (fun c9 => ?_) (fun c9 => ?_)
    · skip
      refine lv_iload_n hx hb dX1_worthOf_35 rfl (lv_at hl 2 rfl) ?_
      exact zr_i hC hr hlk (by rw [hx9, show i = ac by omega]) dX1_worthOf_36
    · skip
      refine lv_iload_n hx hb dX1_worthOf_12 rfl (lv_at hl 1 rfl) ?_
      refine lv_iload_n hx hb dX1_worthOf_13 rfl (lv_at hl 3 rfl) ?_
      refine zRSN (As := [.int (nI st9), .int (nI i)]) (rest := []) hC (c_X3_has (l := l) (b := st9) (i := i) (hb9 := by omega) (hi := by omega)) lM_X1_40 sM_X3_has (by decide) hK rfl hl.1 rfl (Nat.le_of_ble_eq_true rfl) dX1_worthOf_14 (by decide) ?_
      show W _ _ _ _ _ _ _ _ _ _ _ _ _ _ _ (F0 m 17 ls [.int (bI (st9.testBit i))])
      refine zb_eq (tgt := 29) hC dX1_worthOf_17 (by decide) (fun c17 => ?_) (fun c17 => ?_)
      · skip
        refine lv_iinc (v := nI (i + 1)) (lv' := [(3, .int (nI (i + 1))), (0, .ref b), (1, .int (nI st9)), (2, .int (nI x))]) hx hb dX1_worthOf_29 hl (k := 3) rfl (z_inc i 1) (by decide) rfl (fun ls hl => ?_)
        refine lv_goto (tgt := 4) hx hb dX1_worthOf_32 (by decide) ?_
        exact ih4 (ac - (i + 1)) (by omega) (i + 1) x rfl (by omega) (by rw [hx9, sm_s]; simp [c17]) ls (lv_sub hl [1, 2, 3, 0] rfl)
      · skip
        refine lv_iload_n hx hb dX1_worthOf_20 rfl (lv_at hl 2 rfl) ?_
        refine lv_aload_n hx hb dX1_worthOf_21 rfl (lv_at hl 0 rfl) ?_
        refine z_get (k := 5) zcX1 hC hK hP 0 rfl (by decide) lF_X1_28 rfl dX1_worthOf_22 ?_
        refine lv_iload_n hx hb dX1_worthOf_25 rfl (lv_at hl 3 rfl) ?_
        refine z_ald hC hK hP 1 rfl (by omega) (by decide) dX1_worthOf_26 ?_
        refine zi_add hC dX1_worthOf_27 ?_
        refine lv_istore_n (lv' := [(2, .int (nI (x + (wo i)))), (0, .ref b), (1, .int (nI st9)), (3, .int (nI i))]) hx hb dX1_worthOf_28 rfl hl (by decide) rfl (fun ls hl => ?_)
        refine lv_iinc (v := nI (i + 1)) (lv' := [(3, .int (nI (i + 1))), (2, .int (nI (x + (wo i)))), (0, .ref b), (1, .int (nI st9))]) hx hb dX1_worthOf_29 hl (k := 3) rfl (z_inc i 1) (by decide) rfl (fun ls hl => ?_)
        refine lv_goto (tgt := 4) hx hb dX1_worthOf_32 (by decide) ?_
        exact ih4 (ac - (i + 1)) (by omega) (i + 1) (x + (wo i)) rfl (by omega) (by rw [hx9, sm_s]; simp [c17]) ls (lv_sub hl [2, 3, 1, 0] rfl)
  exact hL4 _ 0 0 rfl (by omega) (by rfl) ls (lv_sub hl [2, 3, 1, 0] rfl)
set_option maxHeartbeats 1000000 in
set_option maxRecDepth 100000 in
theorem c_X3_markOfAct {l : Launch} {D : va_G} {cI cZ cB cR : ClassId} {q t b b2 pp i1 i2 kept tn tw td : Nat} {tr : Int64} {n lvA aiA laA ac woA drA : Nat} {wo : Nat → Nat} {a : Nat} (hac : ac ≤ 5) (ha : a < ac) : mW l yX3_markOfAct cX3_markOfAct 2 (some .int) 0 0 D cI cZ cB cR [oK q t b b2 pp i1 i2 kept tn tw td tr, oB b n lvA aiA laA ac woA drA, aI cI woA 5 wo] [oK q t b b2 pp i1 i2 kept tn tw td (tr + 1), oB b n lvA aiA laA ac woA drA, aI cI woA 5 wo] [.ref q, .int (nI a)] (some (.int (nI (wo a)))) := by
  refine mW_of rfl (Nat.le_of_ble_eq_true rfl) ?_
  intro p e s m args below meth c hC hr hlk hK A hA hD H0 h0 hP hS ls hl
  have hP : va_P D vwCl [oK q t b b2 pp i1 i2 kept tn tw td tr, oB b n lvA aiA laA ac woA drA, aI cI woA 5 wo] H0 := hP
  have hl : lv_has ls 2 [(0, .ref q), (1, .int (nI a))] := hl
  obtain ⟨hx, hb, hml, hown, hts⟩ := id hC
  refine lv_aload_n hx hb dX3_markOfAct_0 rfl (lv_at hl 0 rfl) ?_
  refine lv_dup hx hb dX3_markOfAct_1 rfl ?_
  refine z_get (k := 10) zcX3 hC hK hP 0 rfl (by decide) lF_X3_54 rfl dX3_markOfAct_2 ?_
  refine lv_lconst (v := 1) hx hb dX3_markOfAct_5 (by decide) ?_
  refine lv_ladd hx hb dX3_markOfAct_6 ?_
  refine z_put (k := 10) zcX3 hC hK hP hD hS 0 rfl (by decide) lF_X3_54 rfl rfl rfl (Nat.le_of_ble_eq_true rfl) dX3_markOfAct_7 (fun H locs hP hD hS => ?_)
  have hP : va_P D vwCl [oK q t b b2 pp i1 i2 kept tn tw td (tr + 1), oB b n lvA aiA laA ac woA drA, aI cI woA 5 wo] H := hP
  have hD : va_D A [oK q t b b2 pp i1 i2 kept tn tw td (tr + 1), oB b n lvA aiA laA ac woA drA, aI cI woA 5 wo] := hD
  refine lv_aload_n hx hb dX3_markOfAct_10 rfl (lv_at hl 0 rfl) ?_
  refine z_get (k := 1) zcX3 hC hK hP 0 rfl (by decide) lF_X3_19 rfl dX3_markOfAct_11 ?_
  refine z_get (k := 5) zcX1 hC hK hP 1 rfl (by decide) lF_X3_98 rfl dX3_markOfAct_14 ?_
  refine lv_iload_n hx hb dX3_markOfAct_17 rfl (lv_at hl 1 rfl) ?_
  refine z_ald hC hK hP 2 rfl (by omega) (by decide) dX3_markOfAct_18 ?_
  exact zw_i hC hr hlk hA h0 hP hS (by first | rfl | omega) dX3_markOfAct_19
set_option maxHeartbeats 1000000 in
set_option maxRecDepth 100000 in
theorem c_X3_markOfTreaty {l : Launch} {D : va_G} {cI cZ cB cR : ClassId} {q t b b2 pp i1 i2 kept tn tw td : Nat} {tr : Int64} {n lvA aiA laA ac woA drA : Nat} {wo : Nat → Nat} {r : Nat → Nat} {dr : Nat → Nat → Nat} {a : Nat} (hn : n ≤ 6) (hac : ac ≤ 5) (hdr : ∀ i j, dr i j ≤ 9) (ha : a < ac) : mW l yX3_markOfTreaty cX3_markOfTreaty 2 (some .int) 2 45 D cI cZ cB cR [oK q t b b2 pp i1 i2 kept tn tw td tr, oB b n lvA aiA laA ac woA drA, aI cI woA 5 wo, aR cR drA 5 r, aI cI (r 0) 6 (dr 0), aI cI (r 1) 6 (dr 1), aI cI (r 2) 6 (dr 2), aI cI (r 3) 6 (dr 3), aI cI (r 4) 6 (dr 4)] [oK q t b b2 pp i1 i2 kept tn tw td (tr + (10) + 1), oB b n lvA aiA laA ac woA drA, aI cI woA 5 wo, aR cR drA 5 r, aI cI (r 0) 6 (dr 0), aI cI (r 1) 6 (dr 1), aI cI (r 2) 6 (dr 2), aI cI (r 3) 6 (dr 3), aI cI (r 4) 6 (dr 4)] [.ref q, .int (nI a)] (some (.int (nI (wo a + popc (orr (fun i => decide (0 < dr a i)) n))))) := by
  refine mW_of rfl (Nat.le_of_ble_eq_true rfl) ?_
  intro p e s m args below meth c hC hr hlk hK A hA hD H0 h0 hP hS ls hl
  have hP : va_P D vwCl [oK q t b b2 pp i1 i2 kept tn tw td tr, oB b n lvA aiA laA ac woA drA, aI cI woA 5 wo, aR cR drA 5 r, aI cI (r 0) 6 (dr 0), aI cI (r 1) 6 (dr 1), aI cI (r 2) 6 (dr 2), aI cI (r 3) 6 (dr 3), aI cI (r 4) 6 (dr 4)] H0 := hP
  have hl : lv_has ls 2 [(0, .ref q), (1, .int (nI a))] := hl
  obtain ⟨hx, hb, hml, hown, hts⟩ := id hC
  refine lv_aload_n hx hb dX3_markOfTreaty_0 rfl (lv_at hl 0 rfl) ?_
  refine lv_dup hx hb dX3_markOfTreaty_1 rfl ?_
  refine z_get (k := 10) zcX3 hC hK hP 0 rfl (by decide) lF_X3_54 rfl dX3_markOfTreaty_2 ?_
  refine lv_ldc2 (v := (10)) hx hb hown (hts _ lK_X3_245) dX3_markOfTreaty_5 ?_
  refine lv_ladd hx hb dX3_markOfTreaty_8 ?_
  refine z_put (k := 10) zcX3 hC hK hP hD hS 0 rfl (by decide) lF_X3_54 rfl rfl rfl (Nat.le_of_ble_eq_true rfl) dX3_markOfTreaty_9 (fun H locs hP hD hS => ?_)
  have hP : va_P D vwCl [oK q t b b2 pp i1 i2 kept tn tw td (tr + (10)), oB b n lvA aiA laA ac woA drA, aI cI woA 5 wo, aR cR drA 5 r, aI cI (r 0) 6 (dr 0), aI cI (r 1) 6 (dr 1), aI cI (r 2) 6 (dr 2), aI cI (r 3) 6 (dr 3), aI cI (r 4) 6 (dr 4)] H := hP
  have hD : va_D A [oK q t b b2 pp i1 i2 kept tn tw td (tr + (10)), oB b n lvA aiA laA ac woA drA, aI cI woA 5 wo, aR cR drA 5 r, aI cI (r 0) 6 (dr 0), aI cI (r 1) 6 (dr 1), aI cI (r 2) 6 (dr 2), aI cI (r 3) 6 (dr 3), aI cI (r 4) 6 (dr 4)] := hD
  refine lv_aload_n hx hb dX3_markOfTreaty_12 rfl (lv_at hl 0 rfl) ?_
  refine lv_iload_n hx hb dX3_markOfTreaty_13 rfl (lv_at hl 1 rfl) ?_
  refine zXV (As := [.int (nI a)]) (b := q) (rest := []) hC (c_X3_markOfAct (l := l) (hac := hac) (ha := ha)) lM_X3_195 vM_X3_markOfAct (by decide) hK hP hD hS [0, 1, 2] [q, b, woA] rfl (by decide) rfl rfl ⟨rfl, rfl, rfl⟩ rfl hl.1 rfl (Nat.le_of_ble_eq_true rfl) dX3_markOfTreaty_14 (by decide) (fun H locs hP hD hS => ?_)
  have hP : va_P D vwCl [oK q t b b2 pp i1 i2 kept tn tw td ((tr + (10)) + 1), oB b n lvA aiA laA ac woA drA, aI cI woA 5 wo, aR cR drA 5 r, aI cI (r 0) 6 (dr 0), aI cI (r 1) 6 (dr 1), aI cI (r 2) 6 (dr 2), aI cI (r 3) 6 (dr 3), aI cI (r 4) 6 (dr 4)] H := hP
  have hD : va_D A [oK q t b b2 pp i1 i2 kept tn tw td ((tr + (10)) + 1), oB b n lvA aiA laA ac woA drA, aI cI woA 5 wo, aR cR drA 5 r, aI cI (r 0) 6 (dr 0), aI cI (r 1) 6 (dr 1), aI cI (r 2) 6 (dr 2), aI cI (r 3) 6 (dr 3), aI cI (r 4) 6 (dr 4)] := hD
  show W _ _ _ _ _ _ _ _ _ _ _ _ _ _ _ (F0 m 17 ls [.int (nI (wo a))])
  refine lv_aload_n hx hb dX3_markOfTreaty_17 rfl (lv_at hl 0 rfl) ?_
  refine z_get (k := 1) zcX3 hC hK hP 0 rfl (by decide) lF_X3_19 rfl dX3_markOfTreaty_18 ?_
  refine lv_iload_n hx hb dX3_markOfTreaty_21 rfl (lv_at hl 1 rfl) ?_
  refine zRVN (As := [.int (nI a)]) (b := b) (rest := [.int (nI (wo a))]) hC (c_X1_qualitiesNeeded (l := l) (hn := hn) (hac := hac) (hdr := hdr) (ha := ha)) lM_X3_101 vM_X1_qualitiesNeeded (by decide) hK hP [1, 3, 4, 5, 6, 7, 8] rfl ⟨rfl, rfl, rfl⟩ rfl hl.1 rfl (Nat.le_of_ble_eq_true rfl) dX3_markOfTreaty_22 (by decide) ?_
  show W _ _ _ _ _ _ _ _ _ _ _ _ _ _ _ (F0 m 25 ls [.int (nI (orr (fun i => decide (0 < dr a i)) n)), .int (nI (wo a))])
  refine zRS (As := [.int (nI (orr (fun i => decide (0 < dr a i)) n))]) (rest := [.int (nI (wo a))]) hC (c_J6_bitCount_0f7a4 (l := l) (hx9 := Nat.lt_of_lt_of_le (orr_lt _ n) (z_powL6 hn))) lM_X3_183 sM_J6_bitCount_0f7a4 (by decide) hK rfl hl.1 rfl (Nat.le_of_ble_eq_true rfl) dX3_markOfTreaty_25 (by decide) ?_
  show W _ _ _ _ _ _ _ _ _ _ _ _ _ _ _ (F0 m 28 ls [.int (nI (popc (orr (fun i => decide (0 < dr a i)) n))), .int (nI (wo a))])
  refine zi_add hC dX3_markOfTreaty_28 ?_
  exact zw_i hC hr hlk hA h0 hP hS (by first | rfl | omega) dX3_markOfTreaty_29
set_option maxHeartbeats 1000000 in
set_option maxRecDepth 100000 in
theorem c_X3_markOfWar {l : Launch} {D : va_G} {cI cZ cB cR : ClassId} {q t b b2 pp i1 i2 kept tn tw td : Nat} {tr : Int64} {n lvA aiA laA ac woA drA : Nat} {wo : Nat → Nat} {r : Nat → Nat} {dr : Nat → Nat → Nat} {a : Nat} (hn : n ≤ 6) (hac : ac ≤ 5) (ha : a < ac) : mW l yX3_markOfWar cX3_markOfWar 4 (some .int) 1 22 D cI cZ cB cR [oK q t b b2 pp i1 i2 kept tn tw td tr, oB b n lvA aiA laA ac woA drA, aI cI woA 5 wo, aR cR drA 5 r, aI cI (r 0) 6 (dr 0), aI cI (r 1) 6 (dr 1), aI cI (r 2) 6 (dr 2), aI cI (r 3) 6 (dr 3), aI cI (r 4) 6 (dr 4)] [oK q t b b2 pp i1 i2 kept tn tw td (tr + (100) + 1), oB b n lvA aiA laA ac woA drA, aI cI woA 5 wo, aR cR drA 5 r, aI cI (r 0) 6 (dr 0), aI cI (r 1) 6 (dr 1), aI cI (r 2) 6 (dr 2), aI cI (r 3) 6 (dr 3), aI cI (r 4) 6 (dr 4)] [.ref q, .int (nI a)] (some (.int (nI (wo a) - nI (sm (fun i => dr a i) n)))) := by
  refine mW_of rfl (Nat.le_of_ble_eq_true rfl) ?_
  intro p e s m args below meth c hC hr hlk hK A hA hD H0 h0 hP hS ls hl
  have hP : va_P D vwCl [oK q t b b2 pp i1 i2 kept tn tw td tr, oB b n lvA aiA laA ac woA drA, aI cI woA 5 wo, aR cR drA 5 r, aI cI (r 0) 6 (dr 0), aI cI (r 1) 6 (dr 1), aI cI (r 2) 6 (dr 2), aI cI (r 3) 6 (dr 3), aI cI (r 4) 6 (dr 4)] H0 := hP
  have hl : lv_has ls 4 [(0, .ref q), (1, .int (nI a))] := hl
  obtain ⟨hx, hb, hml, hown, hts⟩ := id hC
  refine lv_aload_n hx hb dX3_markOfWar_0 rfl (lv_at hl 0 rfl) ?_
  refine lv_dup hx hb dX3_markOfWar_1 rfl ?_
  refine z_get (k := 10) zcX3 hC hK hP 0 rfl (by decide) lF_X3_54 rfl dX3_markOfWar_2 ?_
  refine lv_ldc2 (v := (100)) hx hb hown (hts _ lK_X3_247) dX3_markOfWar_5 ?_
  refine lv_ladd hx hb dX3_markOfWar_8 ?_
  refine z_put (k := 10) zcX3 hC hK hP hD hS 0 rfl (by decide) lF_X3_54 rfl rfl rfl (Nat.le_of_ble_eq_true rfl) dX3_markOfWar_9 (fun H locs hP hD hS => ?_)
  have hP : va_P D vwCl [oK q t b b2 pp i1 i2 kept tn tw td (tr + (100)), oB b n lvA aiA laA ac woA drA, aI cI woA 5 wo, aR cR drA 5 r, aI cI (r 0) 6 (dr 0), aI cI (r 1) 6 (dr 1), aI cI (r 2) 6 (dr 2), aI cI (r 3) 6 (dr 3), aI cI (r 4) 6 (dr 4)] H := hP
  have hD : va_D A [oK q t b b2 pp i1 i2 kept tn tw td (tr + (100)), oB b n lvA aiA laA ac woA drA, aI cI woA 5 wo, aR cR drA 5 r, aI cI (r 0) 6 (dr 0), aI cI (r 1) 6 (dr 1), aI cI (r 2) 6 (dr 2), aI cI (r 3) 6 (dr 3), aI cI (r 4) 6 (dr 4)] := hD
  refine lv_iconst (v := nI 0) hx hb dX3_markOfWar_12 (by decide) ?_
  refine lv_istore_n (lv' := [(2, .int (nI 0)), (0, .ref q), (1, .int (nI a))]) hx hb dX3_markOfWar_13 rfl hl (by decide) rfl (fun ls hl => ?_)
  refine lv_iconst (v := nI 0) hx hb dX3_markOfWar_14 (by decide) ?_
  refine lv_istore_n (lv' := [(3, .int (nI 0)), (2, .int (nI 0)), (0, .ref q), (1, .int (nI a))]) hx hb dX3_markOfWar_15 rfl hl (by decide) rfl (fun ls hl => ?_)
  have hL16 : ∀ (z16 : Nat) (d : Nat) (x : Nat), n - d = z16 → d ≤ n → x = sm (fun i => dr a i) d → ∀ (H : Heap) (locs : List Loc), va_P D vwCl [oK q t b b2 pp i1 i2 kept tn tw td (tr + (100)), oB b n lvA aiA laA ac woA drA, aI cI woA 5 wo, aR cR drA 5 r, aI cI (r 0) 6 (dr 0), aI cI (r 1) 6 (dr 1), aI cI (r 2) 6 (dr 2), aI cI (r 3) 6 (dr 3), aI cI (r 4) 6 (dr 4)] H → va_D A [oK q t b b2 pp i1 i2 kept tn tw td (tr + (100)), oB b n lvA aiA laA ac woA drA, aI cI woA 5 wo, aR cR drA 5 r, aI cI (r 0) 6 (dr 0), aI cI (r 1) 6 (dr 1), aI cI (r 2) 6 (dr 2), aI cI (r 3) 6 (dr 3), aI cI (r 4) 6 (dr 4)] → va_S A H0 H locs → ∀ ls : Array Slot, lv_has ls 4 [(0, .ref q), (1, .int (nI a)), (2, .int (nI x)), (3, .int (nI d))] → W p l e { frames := 1, cells := 0, slots := 0, locals := 22 } s m args below meth c H locs 0 0 (MQ below (qW D [oK q t b b2 pp i1 i2 kept tn tw td tr, oB b n lvA aiA laA ac woA drA, aI cI woA 5 wo, aR cR drA 5 r, aI cI (r 0) 6 (dr 0), aI cI (r 1) 6 (dr 1), aI cI (r 2) 6 (dr 2), aI cI (r 3) 6 (dr 3), aI cI (r 4) 6 (dr 4)] [oK q t b b2 pp i1 i2 kept tn tw td (tr + (100) + 1), oB b n lvA aiA laA ac woA drA, aI cI woA 5 wo, aR cR drA 5 r, aI cI (r 0) 6 (dr 0), aI cI (r 1) 6 (dr 1), aI cI (r 2) 6 (dr 2), aI cI (r 3) 6 (dr 3), aI cI (r 4) 6 (dr 4)] (some (.int (nI (wo a) - nI (sm (fun i => dr a i) n))))) args s 0 0 (zA [oK q t b b2 pp i1 i2 kept tn tw td tr, oB b n lvA aiA laA ac woA drA, aI cI woA 5 wo, aR cR drA 5 r, aI cI (r 0) 6 (dr 0), aI cI (r 1) 6 (dr 1), aI cI (r 2) 6 (dr 2), aI cI (r 3) 6 (dr 3), aI cI (r 4) 6 (dr 4)])) (F0 m 16 ls []) := by
    intro z16
    induction z16 using Nat.strongRecOn with
    | _ z16 ih16 =>
    intro d x hz16 hd hx9 H locs hP hD hS ls hl
    refine lv_iload_n hx hb dX3_markOfWar_16 rfl (lv_at hl 3 rfl) ?_
    refine lv_aload_n hx hb dX3_markOfWar_17 rfl (lv_at hl 0 rfl) ?_
    refine z_get (k := 1) zcX3 hC hK hP 0 rfl (by decide) lF_X3_19 rfl dX3_markOfWar_18 ?_
    refine z_get (k := 0) zcX1 hC hK hP 1 rfl (by decide) lF_X3_123 rfl dX3_markOfWar_21 ?_
    refine zc_ge (tgt := 45) hC dX3_markOfWar_24 (by decide) (by omega) (by omega) (fun c24 => ?_) (fun c24 => ?_)
    · skip
      refine lv_aload_n hx hb dX3_markOfWar_45 rfl (lv_at hl 0 rfl) ?_
      refine lv_iload_n hx hb dX3_markOfWar_46 rfl (lv_at hl 1 rfl) ?_
      refine zXV (As := [.int (nI a)]) (b := q) (rest := []) hC (c_X3_markOfAct (l := l) (hac := hac) (ha := ha)) lM_X3_195 vM_X3_markOfAct (by decide) hK hP hD hS [0, 1, 2] [q, b, woA] rfl (by decide) rfl rfl ⟨rfl, rfl, rfl⟩ rfl hl.1 rfl (Nat.le_of_ble_eq_true rfl) dX3_markOfWar_47 (by decide) (fun H locs hP hD hS => ?_)
      have hP : va_P D vwCl [oK q t b b2 pp i1 i2 kept tn tw td ((tr + (100)) + 1), oB b n lvA aiA laA ac woA drA, aI cI woA 5 wo, aR cR drA 5 r, aI cI (r 0) 6 (dr 0), aI cI (r 1) 6 (dr 1), aI cI (r 2) 6 (dr 2), aI cI (r 3) 6 (dr 3), aI cI (r 4) 6 (dr 4)] H := hP
      have hD : va_D A [oK q t b b2 pp i1 i2 kept tn tw td ((tr + (100)) + 1), oB b n lvA aiA laA ac woA drA, aI cI woA 5 wo, aR cR drA 5 r, aI cI (r 0) 6 (dr 0), aI cI (r 1) 6 (dr 1), aI cI (r 2) 6 (dr 2), aI cI (r 3) 6 (dr 3), aI cI (r 4) 6 (dr 4)] := hD
      show W _ _ _ _ _ _ _ _ _ _ _ _ _ _ _ (F0 m 50 ls [.int (nI (wo a))])
      refine lv_iload_n hx hb dX3_markOfWar_50 rfl (lv_at hl 2 rfl) ?_
      refine lv_isub hx hb dX3_markOfWar_51 ?_
      exact zw_i hC hr hlk hA h0 hP hS (by rw [hx9, show d = n by omega]) dX3_markOfWar_52
    · skip
      refine lv_iload_n hx hb dX3_markOfWar_27 rfl (lv_at hl 2 rfl) ?_
      refine lv_aload_n hx hb dX3_markOfWar_28 rfl (lv_at hl 0 rfl) ?_
      refine z_get (k := 1) zcX3 hC hK hP 0 rfl (by decide) lF_X3_19 rfl dX3_markOfWar_29 ?_
      refine lv_iload_n hx hb dX3_markOfWar_32 rfl (lv_at hl 1 rfl) ?_
      refine lv_iload_n hx hb dX3_markOfWar_33 rfl (lv_at hl 3 rfl) ?_
      refine zRVN (As := [.int (nI a), .int (nI d)]) (b := b) (rest := [.int (nI x)]) hC (c_X1_dropsNeeded (l := l) (hn := hn) (hac := hac) (ha := ha) (hd := by omega)) lM_X3_110 vM_X1_dropsNeeded (by decide) hK hP [1, 3, 4, 5, 6, 7, 8] rfl ⟨rfl, rfl, rfl⟩ rfl hl.1 rfl (Nat.le_of_ble_eq_true rfl) dX3_markOfWar_34 (by decide) ?_
      show W _ _ _ _ _ _ _ _ _ _ _ _ _ _ _ (F0 m 37 ls [.int (nI (dr a d)), .int (nI x)])
      refine zi_add hC dX3_markOfWar_37 ?_
      refine lv_istore_n (lv' := [(2, .int (nI (x + (dr a d)))), (0, .ref q), (1, .int (nI a)), (3, .int (nI d))]) hx hb dX3_markOfWar_38 rfl hl (by decide) rfl (fun ls hl => ?_)
      refine lv_iinc (v := nI (d + 1)) (lv' := [(3, .int (nI (d + 1))), (2, .int (nI (x + (dr a d)))), (0, .ref q), (1, .int (nI a))]) hx hb dX3_markOfWar_39 hl (k := 3) rfl (z_inc d 1) (by decide) rfl (fun ls hl => ?_)
      refine lv_goto (tgt := 16) hx hb dX3_markOfWar_42 (by decide) ?_
      exact ih16 (n - (d + 1)) (by omega) (d + 1) (x + (dr a d)) rfl (by omega) (by rw [hx9, sm_s]) _ _ hP hD hS ls (lv_sub hl [2, 3, 1, 0] rfl)
  exact hL16 _ 0 0 rfl (by omega) (by rfl) _ _ hP hD hS ls (lv_sub hl [2, 3, 1, 0] rfl)
set_option maxHeartbeats 1000000 in
set_option maxRecDepth 100000 in
theorem c_X3_markOfPardon {l : Launch} {D : va_G} {cI cZ cB cR : ClassId} {q t b b2 pp i1 i2 kept tn tw td : Nat} {tr : Int64} {n lvA aiA laA ac woA drA : Nat} {wo : Nat → Nat} {r : Nat → Nat} {dr : Nat → Nat → Nat} {a : Nat} (hn : n ≤ 6) (hac : ac ≤ 5) (hdr : ∀ i j, dr i j ≤ 9) (ha : a < ac) : mW l yX3_markOfPardon cX3_markOfPardon 2 (some .int) 3 66 D cI cZ cB cR [oK q t b b2 pp i1 i2 kept tn tw td tr, oB b n lvA aiA laA ac woA drA, aI cI woA 5 wo, aR cR drA 5 r, aI cI (r 0) 6 (dr 0), aI cI (r 1) 6 (dr 1), aI cI (r 2) 6 (dr 2), aI cI (r 3) 6 (dr 3), aI cI (r 4) 6 (dr 4)] [oK q t b b2 pp i1 i2 kept tn tw td (tr + (1000) + (10) + 1), oB b n lvA aiA laA ac woA drA, aI cI woA 5 wo, aR cR drA 5 r, aI cI (r 0) 6 (dr 0), aI cI (r 1) 6 (dr 1), aI cI (r 2) 6 (dr 2), aI cI (r 3) 6 (dr 3), aI cI (r 4) 6 (dr 4)] [.ref q, .int (nI a)] (some (.int (nI ((wo a + popc (orr (fun i => decide (0 < dr a i)) n)) * 2)))) := by
  refine mW_of rfl (Nat.le_of_ble_eq_true rfl) ?_
  intro p e s m args below meth c hC hr hlk hK A hA hD H0 h0 hP hS ls hl
  have hP : va_P D vwCl [oK q t b b2 pp i1 i2 kept tn tw td tr, oB b n lvA aiA laA ac woA drA, aI cI woA 5 wo, aR cR drA 5 r, aI cI (r 0) 6 (dr 0), aI cI (r 1) 6 (dr 1), aI cI (r 2) 6 (dr 2), aI cI (r 3) 6 (dr 3), aI cI (r 4) 6 (dr 4)] H0 := hP
  have hl : lv_has ls 2 [(0, .ref q), (1, .int (nI a))] := hl
  obtain ⟨hx, hb, hml, hown, hts⟩ := id hC
  refine lv_aload_n hx hb dX3_markOfPardon_0 rfl (lv_at hl 0 rfl) ?_
  refine lv_dup hx hb dX3_markOfPardon_1 rfl ?_
  refine z_get (k := 10) zcX3 hC hK hP 0 rfl (by decide) lF_X3_54 rfl dX3_markOfPardon_2 ?_
  refine lv_ldc2 (v := (1000)) hx hb hown (hts _ lK_X3_249) dX3_markOfPardon_5 ?_
  refine lv_ladd hx hb dX3_markOfPardon_8 ?_
  refine z_put (k := 10) zcX3 hC hK hP hD hS 0 rfl (by decide) lF_X3_54 rfl rfl rfl (Nat.le_of_ble_eq_true rfl) dX3_markOfPardon_9 (fun H locs hP hD hS => ?_)
  have hP : va_P D vwCl [oK q t b b2 pp i1 i2 kept tn tw td (tr + (1000)), oB b n lvA aiA laA ac woA drA, aI cI woA 5 wo, aR cR drA 5 r, aI cI (r 0) 6 (dr 0), aI cI (r 1) 6 (dr 1), aI cI (r 2) 6 (dr 2), aI cI (r 3) 6 (dr 3), aI cI (r 4) 6 (dr 4)] H := hP
  have hD : va_D A [oK q t b b2 pp i1 i2 kept tn tw td (tr + (1000)), oB b n lvA aiA laA ac woA drA, aI cI woA 5 wo, aR cR drA 5 r, aI cI (r 0) 6 (dr 0), aI cI (r 1) 6 (dr 1), aI cI (r 2) 6 (dr 2), aI cI (r 3) 6 (dr 3), aI cI (r 4) 6 (dr 4)] := hD
  refine lv_aload_n hx hb dX3_markOfPardon_12 rfl (lv_at hl 0 rfl) ?_
  refine lv_iload_n hx hb dX3_markOfPardon_13 rfl (lv_at hl 1 rfl) ?_
  refine zXV (As := [.int (nI a)]) (b := q) (rest := []) hC (c_X3_markOfTreaty (l := l) (hn := hn) (hac := hac) (hdr := hdr) (ha := ha)) lM_X3_198 vM_X3_markOfTreaty (by decide) hK hP hD hS [0, 1, 2, 3, 4, 5, 6, 7, 8] [q, b, woA, drA, r 0, r 1, r 2, r 3, r 4] rfl (by decide) rfl rfl ⟨rfl, rfl, rfl⟩ rfl hl.1 rfl (Nat.le_of_ble_eq_true rfl) dX3_markOfPardon_14 (by decide) (fun H locs hP hD hS => ?_)
  have hP : va_P D vwCl [oK q t b b2 pp i1 i2 kept tn tw td ((tr + (1000)) + (10) + 1), oB b n lvA aiA laA ac woA drA, aI cI woA 5 wo, aR cR drA 5 r, aI cI (r 0) 6 (dr 0), aI cI (r 1) 6 (dr 1), aI cI (r 2) 6 (dr 2), aI cI (r 3) 6 (dr 3), aI cI (r 4) 6 (dr 4)] H := hP
  have hD : va_D A [oK q t b b2 pp i1 i2 kept tn tw td ((tr + (1000)) + (10) + 1), oB b n lvA aiA laA ac woA drA, aI cI woA 5 wo, aR cR drA 5 r, aI cI (r 0) 6 (dr 0), aI cI (r 1) 6 (dr 1), aI cI (r 2) 6 (dr 2), aI cI (r 3) 6 (dr 3), aI cI (r 4) 6 (dr 4)] := hD
  show W _ _ _ _ _ _ _ _ _ _ _ _ _ _ _ (F0 m 17 ls [.int (nI (wo a + popc (orr (fun i => decide (0 < dr a i)) n)))])
  refine lv_iconst (v := nI 2) hx hb dX3_markOfPardon_17 (by decide) ?_
  refine zi_mul hC dX3_markOfPardon_18 ?_
  exact zw_i hC hr hlk hA h0 hP hS (by first | rfl | omega) dX3_markOfPardon_19
set_option maxHeartbeats 1000000 in
set_option maxRecDepth 100000 in
theorem c_X3_markOfHunt {l : Launch} {D : va_G} {cI cZ cB cR : ClassId} {q t b b2 pp i1 i2 kept tn tw td : Nat} {tr : Int64} {n lvA aiA laA ac woA drA : Nat} {wo : Nat → Nat} {r : Nat → Nat} {dr : Nat → Nat → Nat} {k9 : Int64} {pl pt pa mo dn ea bn stA k : Nat} {a : Nat} (hn : n ≤ 6) (hac : ac ≤ 5) (ha : a < ac) (hk9 : k9 = 10000) : mW l yX3_markOfHunt cX3_markOfHunt 2 (some .int) 2 45 D cI cZ cB cR [oK q t b b2 pp i1 i2 kept tn tw td tr, oB b n lvA aiA laA ac woA drA, aI cI woA 5 wo, aR cR drA 5 r, aI cI (r 0) 6 (dr 0), aI cI (r 1) 6 (dr 1), aI cI (r 2) 6 (dr 2), aI cI (r 3) 6 (dr 3), aI cI (r 4) 6 (dr 4), oP pp pl pt pa mo dn ea bn stA k] [oK q t b b2 pp i1 i2 kept tn tw td (tr + k9 + (100) + 1), oB b n lvA aiA laA ac woA drA, aI cI woA 5 wo, aR cR drA 5 r, aI cI (r 0) 6 (dr 0), aI cI (r 1) 6 (dr 1), aI cI (r 2) 6 (dr 2), aI cI (r 3) 6 (dr 3), aI cI (r 4) 6 (dr 4), oP pp pl pt pa mo dn ea bn stA k] [.ref q, .int (nI a)] (some (.int (nI (wo a) - nI (sm (fun i => dr a i) n) + nI bn))) := by
  refine mW_of rfl (Nat.le_of_ble_eq_true rfl) ?_
  intro p e s m args below meth c hC hr hlk hK A hA hD H0 h0 hP hS ls hl
  have hP : va_P D vwCl [oK q t b b2 pp i1 i2 kept tn tw td tr, oB b n lvA aiA laA ac woA drA, aI cI woA 5 wo, aR cR drA 5 r, aI cI (r 0) 6 (dr 0), aI cI (r 1) 6 (dr 1), aI cI (r 2) 6 (dr 2), aI cI (r 3) 6 (dr 3), aI cI (r 4) 6 (dr 4), oP pp pl pt pa mo dn ea bn stA k] H0 := hP
  have hl : lv_has ls 2 [(0, .ref q), (1, .int (nI a))] := hl
  obtain ⟨hx, hb, hml, hown, hts⟩ := id hC
  refine lv_aload_n hx hb dX3_markOfHunt_0 rfl (lv_at hl 0 rfl) ?_
  refine lv_dup hx hb dX3_markOfHunt_1 rfl ?_
  refine z_get (k := 10) zcX3 hC hK hP 0 rfl (by decide) lF_X3_54 rfl dX3_markOfHunt_2 ?_
  refine lv_ldc2 (v := (10000)) hx hb hown (hts _ lK_X3_251) dX3_markOfHunt_5 ?_
  refine z_topl (show (10000) = k9 from by exact hk9.symm) ?_
  refine lv_ladd hx hb dX3_markOfHunt_8 ?_
  refine z_put (k := 10) zcX3 hC hK hP hD hS 0 rfl (by decide) lF_X3_54 rfl rfl rfl (Nat.le_of_ble_eq_true rfl) dX3_markOfHunt_9 (fun H locs hP hD hS => ?_)
  have hP : va_P D vwCl [oK q t b b2 pp i1 i2 kept tn tw td (tr + k9), oB b n lvA aiA laA ac woA drA, aI cI woA 5 wo, aR cR drA 5 r, aI cI (r 0) 6 (dr 0), aI cI (r 1) 6 (dr 1), aI cI (r 2) 6 (dr 2), aI cI (r 3) 6 (dr 3), aI cI (r 4) 6 (dr 4), oP pp pl pt pa mo dn ea bn stA k] H := hP
  have hD : va_D A [oK q t b b2 pp i1 i2 kept tn tw td (tr + k9), oB b n lvA aiA laA ac woA drA, aI cI woA 5 wo, aR cR drA 5 r, aI cI (r 0) 6 (dr 0), aI cI (r 1) 6 (dr 1), aI cI (r 2) 6 (dr 2), aI cI (r 3) 6 (dr 3), aI cI (r 4) 6 (dr 4), oP pp pl pt pa mo dn ea bn stA k] := hD
  refine lv_aload_n hx hb dX3_markOfHunt_12 rfl (lv_at hl 0 rfl) ?_
  refine lv_iload_n hx hb dX3_markOfHunt_13 rfl (lv_at hl 1 rfl) ?_
  refine zXV (As := [.int (nI a)]) (b := q) (rest := []) hC (c_X3_markOfWar (l := l) (hn := hn) (hac := hac) (ha := ha)) lM_X3_201 vM_X3_markOfWar (by decide) hK hP hD hS [0, 1, 2, 3, 4, 5, 6, 7, 8] [q, b, woA, drA, r 0, r 1, r 2, r 3, r 4] rfl (by decide) rfl rfl ⟨rfl, rfl, rfl⟩ rfl hl.1 rfl (Nat.le_of_ble_eq_true rfl) dX3_markOfHunt_14 (by decide) (fun H locs hP hD hS => ?_)
  have hP : va_P D vwCl [oK q t b b2 pp i1 i2 kept tn tw td ((tr + k9) + (100) + 1), oB b n lvA aiA laA ac woA drA, aI cI woA 5 wo, aR cR drA 5 r, aI cI (r 0) 6 (dr 0), aI cI (r 1) 6 (dr 1), aI cI (r 2) 6 (dr 2), aI cI (r 3) 6 (dr 3), aI cI (r 4) 6 (dr 4), oP pp pl pt pa mo dn ea bn stA k] H := hP
  have hD : va_D A [oK q t b b2 pp i1 i2 kept tn tw td ((tr + k9) + (100) + 1), oB b n lvA aiA laA ac woA drA, aI cI woA 5 wo, aR cR drA 5 r, aI cI (r 0) 6 (dr 0), aI cI (r 1) 6 (dr 1), aI cI (r 2) 6 (dr 2), aI cI (r 3) 6 (dr 3), aI cI (r 4) 6 (dr 4), oP pp pl pt pa mo dn ea bn stA k] := hD
  show W _ _ _ _ _ _ _ _ _ _ _ _ _ _ _ (F0 m 17 ls [.int (nI (wo a) - nI (sm (fun i => dr a i) n))])
  refine lv_aload_n hx hb dX3_markOfHunt_17 rfl (lv_at hl 0 rfl) ?_
  refine z_get (k := 3) zcX3 hC hK hP 0 rfl (by decide) lF_X3_29 rfl dX3_markOfHunt_18 ?_
  refine z_get (k := 6) zcX0 hC hK hP 9 rfl (by decide) lF_X3_139 rfl dX3_markOfHunt_21 ?_
  refine lv_iadd hx hb dX3_markOfHunt_24 ?_
  exact zw_i hC hr hlk hA h0 hP hS (by first | rfl | omega) dX3_markOfHunt_25
set_option maxHeartbeats 1000000 in
set_option maxRecDepth 100000 in
theorem c_X3_markOfBreath {l : Launch} {D : va_G} {cI cZ cB cR : ClassId} {q t b b2 pp i1 i2 kept tn tw td : Nat} {tr : Int64} {n lvA aiA laA ac woA drA : Nat} {wo : Nat → Nat} {k9 : Int64} {pl pt pa mo dn ea bn stA k : Nat} {a : Nat} (hac : ac ≤ 5) (ha : a < ac) (hk9 : k9 = 100000) : mW l yX3_markOfBreath cX3_markOfBreath 2 (some .int) 1 21 D cI cZ cB cR [oK q t b b2 pp i1 i2 kept tn tw td tr, oB b n lvA aiA laA ac woA drA, aI cI woA 5 wo, oP pp pl pt pa mo dn ea bn stA k] [oK q t b b2 pp i1 i2 kept tn tw td (tr + k9 + 1), oB b n lvA aiA laA ac woA drA, aI cI woA 5 wo, oP pp pl pt pa mo dn ea bn stA k] [.ref q, .int (nI a)] (some (.int (nI (wo a + mo)))) := by
  refine mW_of rfl (Nat.le_of_ble_eq_true rfl) ?_
  intro p e s m args below meth c hC hr hlk hK A hA hD H0 h0 hP hS ls hl
  have hP : va_P D vwCl [oK q t b b2 pp i1 i2 kept tn tw td tr, oB b n lvA aiA laA ac woA drA, aI cI woA 5 wo, oP pp pl pt pa mo dn ea bn stA k] H0 := hP
  have hl : lv_has ls 2 [(0, .ref q), (1, .int (nI a))] := hl
  obtain ⟨hx, hb, hml, hown, hts⟩ := id hC
  refine lv_aload_n hx hb dX3_markOfBreath_0 rfl (lv_at hl 0 rfl) ?_
  refine lv_dup hx hb dX3_markOfBreath_1 rfl ?_
  refine z_get (k := 10) zcX3 hC hK hP 0 rfl (by decide) lF_X3_54 rfl dX3_markOfBreath_2 ?_
  refine lv_ldc2 (v := (100000)) hx hb hown (hts _ lK_X3_253) dX3_markOfBreath_5 ?_
  refine z_topl (show (100000) = k9 from by exact hk9.symm) ?_
  refine lv_ladd hx hb dX3_markOfBreath_8 ?_
  refine z_put (k := 10) zcX3 hC hK hP hD hS 0 rfl (by decide) lF_X3_54 rfl rfl rfl (Nat.le_of_ble_eq_true rfl) dX3_markOfBreath_9 (fun H locs hP hD hS => ?_)
  have hP : va_P D vwCl [oK q t b b2 pp i1 i2 kept tn tw td (tr + k9), oB b n lvA aiA laA ac woA drA, aI cI woA 5 wo, oP pp pl pt pa mo dn ea bn stA k] H := hP
  have hD : va_D A [oK q t b b2 pp i1 i2 kept tn tw td (tr + k9), oB b n lvA aiA laA ac woA drA, aI cI woA 5 wo, oP pp pl pt pa mo dn ea bn stA k] := hD
  refine lv_aload_n hx hb dX3_markOfBreath_12 rfl (lv_at hl 0 rfl) ?_
  refine lv_iload_n hx hb dX3_markOfBreath_13 rfl (lv_at hl 1 rfl) ?_
  refine zXV (As := [.int (nI a)]) (b := q) (rest := []) hC (c_X3_markOfAct (l := l) (hac := hac) (ha := ha)) lM_X3_195 vM_X3_markOfAct (by decide) hK hP hD hS [0, 1, 2] [q, b, woA] rfl (by decide) rfl rfl ⟨rfl, rfl, rfl⟩ rfl hl.1 rfl (Nat.le_of_ble_eq_true rfl) dX3_markOfBreath_14 (by decide) (fun H locs hP hD hS => ?_)
  have hP : va_P D vwCl [oK q t b b2 pp i1 i2 kept tn tw td ((tr + k9) + 1), oB b n lvA aiA laA ac woA drA, aI cI woA 5 wo, oP pp pl pt pa mo dn ea bn stA k] H := hP
  have hD : va_D A [oK q t b b2 pp i1 i2 kept tn tw td ((tr + k9) + 1), oB b n lvA aiA laA ac woA drA, aI cI woA 5 wo, oP pp pl pt pa mo dn ea bn stA k] := hD
  show W _ _ _ _ _ _ _ _ _ _ _ _ _ _ _ (F0 m 17 ls [.int (nI (wo a))])
  refine lv_aload_n hx hb dX3_markOfBreath_17 rfl (lv_at hl 0 rfl) ?_
  refine z_get (k := 3) zcX3 hC hK hP 0 rfl (by decide) lF_X3_29 rfl dX3_markOfBreath_18 ?_
  refine z_get (k := 3) zcX0 hC hK hP 3 rfl (by decide) lF_X3_142 rfl dX3_markOfBreath_21 ?_
  refine zi_add hC dX3_markOfBreath_24 ?_
  exact zw_i hC hr hlk hA h0 hP hS (by first | rfl | omega) dX3_markOfBreath_25
set_option maxHeartbeats 1000000 in
set_option maxRecDepth 100000 in
theorem c_X3_imageOf {l : Launch} {D : va_G} {cI cZ cB cR : ClassId} {q t b b2 pp i1 i2 kept tn tw td : Nat} {tr : Int64} {im : Nat} (him : im < 2) : mR l yX3_imageOf cX3_imageOf 2 (some (.object "KingDrops$Present")) 0 0 D cI cZ cB cR [oK q t b b2 pp i1 i2 kept tn tw td tr] [.ref q, .int (nI im)] (some (.ref (if im = 0 then i1 else i2))) := by
  refine mR_of rfl (Nat.le_of_ble_eq_true rfl) ?_
  intro p e s m args below meth c hC hr hlk hK hP ls hl
  have hl : lv_has ls 2 [(0, .ref q), (1, .int (nI im))] := hl
  obtain ⟨hx, hb, hml, hown, hts⟩ := id hC
  refine lv_iload_n hx hb dX3_imageOf_0 rfl (lv_at hl 1 rfl) ?_
  refine z0_ne (tgt := 11) hC dX3_imageOf_1 (by decide) (by omega) (fun c1 => ?_) (fun c1 => ?_)
  · skip
    refine lv_aload_n hx hb dX3_imageOf_11 rfl (lv_at hl 0 rfl) ?_
    refine z_get (k := 5) zcX3 hC hK hP 0 rfl (by decide) lF_X3_36 rfl dX3_imageOf_12 ?_
    exact zr_a hC hr hlk (by first | exact (if_pos c1).symm | exact (if_neg (by omega)).symm) dX3_imageOf_15
  · skip
    refine lv_aload_n hx hb dX3_imageOf_4 rfl (lv_at hl 0 rfl) ?_
    refine z_get (k := 4) zcX3 hC hK hP 0 rfl (by decide) lF_X3_33 rfl dX3_imageOf_5 ?_
    refine lv_goto (tgt := 15) hx hb dX3_imageOf_8 (by decide) ?_
    exact zr_a hC hr hlk (by first | exact (if_pos c1).symm | exact (if_neg (by omega)).symm) dX3_imageOf_15
set_option maxHeartbeats 1000000 in
set_option maxRecDepth 100000 in
theorem c_X0_loses {l : Launch} {D : va_G} {cI cZ cB cR : ClassId} {pp : Nat} {pl pt pa mo dn ea bn stA k : Nat} {lv : Nat → Nat} {te : Nat → Nat} {d k9 : Nat} (hd : d < 6) (hk : k9 < 100) (hlv : ∀ i, lv i ≤ 40) (hte : ∀ i, te i ≤ 40) : mW l yX0_loses cX0_loses 3 none 1 21 D cI cZ cB cR [oP pp pl pt pa mo dn ea bn stA k, aI cI pl 6 lv, aI cI pt 6 te] [oP pp pl pt pa mo dn ea bn stA k, aI cI pl 6 (updN lv d (lv d - k9)), aI cI pt 6 (updN te d (min (te d) (lv d - k9)))] [.ref pp, .int (nI d), .int (nI k9)] (none) := by
  refine mW_of rfl (Nat.le_of_ble_eq_true rfl) ?_
  intro p e s m args below meth c hC hr hlk hK A hA hD H0 h0 hP hS ls hl
  have hP : va_P D vwCl [oP pp pl pt pa mo dn ea bn stA k, aI cI pl 6 lv, aI cI pt 6 te] H0 := hP
  have hl : lv_has ls 3 [(0, .ref pp), (1, .int (nI d)), (2, .int (nI k9))] := hl
  obtain ⟨hx, hb, hml, hown, hts⟩ := id hC
  refine lv_iload_n hx hb dX0_loses_0 rfl (lv_at hl 1 rfl) ?_
  refine z0_lt (tgt := 49) hC dX0_loses_1 (by decide) (by omega) ?_
  refine lv_iload_n hx hb dX0_loses_4 rfl (lv_at hl 1 rfl) ?_
  refine lv_bipush (v := nI 6) hx hb dX0_loses_5 (by decide) ?_
  refine zc_ge (tgt := 49) hC dX0_loses_7 (by decide) (by omega) (by omega) (fun c7 => by exfalso; omega) (fun c7 => ?_)
  refine lv_aload_n hx hb dX0_loses_10 rfl (lv_at hl 0 rfl) ?_
  refine z_get (k := 0) zcX0 hC hK hP 0 rfl (by decide) lF_X0_11 rfl dX0_loses_11 ?_
  refine lv_iload_n hx hb dX0_loses_14 rfl (lv_at hl 1 rfl) ?_
  refine lv_iconst (v := nI 0) hx hb dX0_loses_15 (by decide) ?_
  refine lv_aload_n hx hb dX0_loses_16 rfl (lv_at hl 0 rfl) ?_
  refine z_get (k := 0) zcX0 hC hK hP 0 rfl (by decide) lF_X0_11 rfl dX0_loses_17 ?_
  refine lv_iload_n hx hb dX0_loses_20 rfl (lv_at hl 1 rfl) ?_
  refine z_ald hC hK hP 1 rfl (by omega) (by decide) dX0_loses_21 ?_
  refine lv_iload_n hx hb dX0_loses_22 rfl (lv_at hl 2 rfl) ?_
  have b23 := hlv d
  refine lv_isub hx hb dX0_loses_23 ?_
  refine va_mmax hx hb (hml.trans hl.1.symm) hown (hts _ lX_X0_44) (hts _ sX_max) (hts _ iX_Math) (hts _ kX_max) (Nat.le_of_ble_eq_true rfl) (Nat.le_of_ble_eq_true rfl) (Nat.le_of_ble_eq_true rfl) (Nat.le_of_ble_eq_true rfl) dX0_loses_24 ?_
  refine z_top (show (if nI 0 < (nI (lv d)) - (nI k9) then (nI (lv d)) - (nI k9) else nI 0) = nI (lv d - k9) from by exact z_max1 (by omega) (by omega)) ?_
  refine z_ast hC hK hP hD hS 1 rfl (by omega) (by decide) dX0_loses_27 (fun H locs hP hD hS => ?_)
  have hP : va_P D vwCl [oP pp pl pt pa mo dn ea bn stA k, aI cI pl 6 (updN lv d (lv d - k9)), aI cI pt 6 te] H := hP
  have hD : va_D A [oP pp pl pt pa mo dn ea bn stA k, aI cI pl 6 (updN lv d (lv d - k9)), aI cI pt 6 te] := hD
  refine lv_aload_n hx hb dX0_loses_28 rfl (lv_at hl 0 rfl) ?_
  refine z_get (k := 1) zcX0 hC hK hP 0 rfl (by decide) lF_X0_15 rfl dX0_loses_29 ?_
  refine lv_iload_n hx hb dX0_loses_32 rfl (lv_at hl 1 rfl) ?_
  refine lv_aload_n hx hb dX0_loses_33 rfl (lv_at hl 0 rfl) ?_
  refine z_get (k := 1) zcX0 hC hK hP 0 rfl (by decide) lF_X0_15 rfl dX0_loses_34 ?_
  refine lv_iload_n hx hb dX0_loses_37 rfl (lv_at hl 1 rfl) ?_
  refine z_ald hC hK hP 2 rfl (by omega) (by decide) dX0_loses_38 ?_
  refine lv_aload_n hx hb dX0_loses_39 rfl (lv_at hl 0 rfl) ?_
  refine z_get (k := 0) zcX0 hC hK hP 0 rfl (by decide) lF_X0_11 rfl dX0_loses_40 ?_
  refine lv_iload_n hx hb dX0_loses_43 rfl (lv_at hl 1 rfl) ?_
  refine z_ald hC hK hP 1 rfl (by omega) (by decide) dX0_loses_44 ?_
  have b45 := hte d
  refine z_top (show (nI ((updN lv d (lv d - k9)) d)) = nI (lv d - k9) from by rw [updN_s]) ?_
  refine va_mmin hx hb (hml.trans hl.1.symm) hown (hts _ lX_X0_50) (hts _ sX_min) (hts _ iX_Math) (hts _ kX_min) (Nat.le_of_ble_eq_true rfl) (Nat.le_of_ble_eq_true rfl) (Nat.le_of_ble_eq_true rfl) (Nat.le_of_ble_eq_true rfl) dX0_loses_45 ?_
  refine z_top (show (if nI (lv d - k9) < nI (te d) then nI (lv d - k9) else nI (te d)) = nI (min (te d) (lv d - k9)) from by exact z_min (by omega) (by omega)) ?_
  refine z_ast hC hK hP hD hS 2 rfl (by omega) (by decide) dX0_loses_48 (fun H locs hP hD hS => ?_)
  have hP : va_P D vwCl [oP pp pl pt pa mo dn ea bn stA k, aI cI pl 6 (updN lv d (lv d - k9)), aI cI pt 6 (updN te d (min (te d) (lv d - k9)))] H := hP
  have hD : va_D A [oP pp pl pt pa mo dn ea bn stA k, aI cI pl 6 (updN lv d (lv d - k9)), aI cI pt 6 (updN te d (min (te d) (lv d - k9)))] := hD
  exact zw_v hC hr hlk hA h0 hP hS dX0_loses_49
set_option maxHeartbeats 1000000 in
set_option maxRecDepth 100000 in
theorem c_X0_remembers {l : Launch} {D : va_G} {cI cZ cB cR : ClassId} {pp : Nat} {pl pt pa mo dn ea bn stA k : Nat} {lv : Nat → Nat} {te : Nat → Nat} {la : Nat → Nat} {st : Nat → Nat}  (hk : k ≤ 10) : mW l yX0_remembers cX0_remembers 2 none 1 40 D cI cZ cB cR [oP pp pl pt pa mo dn ea bn stA k, aI cI pl 6 lv, aI cI pt 6 te, aI cI pa 6 la, aI cI stA 220 st] [oP pp pl pt pa mo dn ea bn stA (remK k), aI cI pl 6 lv, aI cI pt 6 te, aI cI pa 6 la, aI cI stA 220 (remS lv te la mo dn ea bn st k)] [.ref pp] (none) := by
  refine mW_of rfl (Nat.le_of_ble_eq_true rfl) ?_
  intro p e s m args below meth c hC hr hlk hK A hA hD H0 h0 hP hS ls hl
  have hP : va_P D vwCl [oP pp pl pt pa mo dn ea bn stA k, aI cI pl 6 lv, aI cI pt 6 te, aI cI pa 6 la, aI cI stA 220 st] H0 := hP
  have hl : lv_has ls 2 [(0, .ref pp)] := hl
  obtain ⟨hx, hb, hml, hown, hts⟩ := id hC
  refine lv_aload_n hx hb dX0_remembers_0 rfl (lv_at hl 0 rfl) ?_
  refine z_get (k := 8) zcX0 hC hK hP 0 rfl (by decide) lF_X0_37 rfl dX0_remembers_1 ?_
  refine lv_bipush (v := nI 10) hx hb dX0_remembers_4 (by decide) ?_
  refine zc_lt (tgt := 36) hC dX0_remembers_6 (by decide) (by omega) (by omega) (fun c6 => ?_) (fun c6 => ?_)
  · skip
    refine lv_aload_n hx hb dX0_remembers_36 rfl (lv_at hl 0 rfl) ?_
    refine z_get (k := 8) zcX0 hC hK hP 0 rfl (by decide) lF_X0_37 rfl dX0_remembers_37 ?_
    refine lv_bipush (v := nI 22) hx hb dX0_remembers_40 (by decide) ?_
    refine zi_mul hC dX0_remembers_42 ?_
    refine lv_istore_n (lv' := [(1, .int (nI (k * 22))), (0, .ref pp)]) hx hb dX0_remembers_43 rfl hl (by decide) rfl (fun ls hl => ?_)
    refine lv_aload_n hx hb dX0_remembers_44 rfl (lv_at hl 1 rfl) ?_
    refine z_get (k := 0) zcX0 hC hK hP 0 rfl (by decide) lF_X0_11 rfl dX0_remembers_45 ?_
    refine lv_iconst (v := nI 0) hx hb dX0_remembers_48 (by decide) ?_
    refine lv_aload_n hx hb dX0_remembers_49 rfl (lv_at hl 1 rfl) ?_
    refine z_get (k := 7) zcX0 hC hK hP 0 rfl (by decide) lF_X0_34 rfl dX0_remembers_50 ?_
    refine lv_iload_n hx hb dX0_remembers_53 rfl (lv_at hl 0 rfl) ?_
    refine lv_bipush (v := nI 6) hx hb dX0_remembers_54 (by decide) ?_
    refine z_copy hC hK hP hD hS 1 4 rfl rfl (by omega) (by omega) (by decide) (by decide) (Nat.le_of_ble_eq_true rfl) (Nat.le_of_ble_eq_true rfl) lX_X0_53 hl.1 dX0_remembers_56 (fun H locs hP hD hS => ?_)
    have hP : va_P D vwCl [oP pp pl pt pa mo dn ea bn stA k, aI cI pl 6 lv, aI cI pt 6 te, aI cI pa 6 la, aI cI stA 220 (cpyN lv st 0 (k * 22) 6)] H := hP
    have hD : va_D A [oP pp pl pt pa mo dn ea bn stA k, aI cI pl 6 lv, aI cI pt 6 te, aI cI pa 6 la, aI cI stA 220 (cpyN lv st 0 (k * 22) 6)] := hD
    refine lv_aload_n hx hb dX0_remembers_59 rfl (lv_at hl 1 rfl) ?_
    refine z_get (k := 1) zcX0 hC hK hP 0 rfl (by decide) lF_X0_15 rfl dX0_remembers_60 ?_
    refine lv_iconst (v := nI 0) hx hb dX0_remembers_63 (by decide) ?_
    refine lv_aload_n hx hb dX0_remembers_64 rfl (lv_at hl 1 rfl) ?_
    refine z_get (k := 7) zcX0 hC hK hP 0 rfl (by decide) lF_X0_34 rfl dX0_remembers_65 ?_
    refine lv_iload_n hx hb dX0_remembers_68 rfl (lv_at hl 0 rfl) ?_
    refine lv_bipush (v := nI 6) hx hb dX0_remembers_69 (by decide) ?_
    refine zi_add hC dX0_remembers_71 ?_
    refine lv_bipush (v := nI 6) hx hb dX0_remembers_72 (by decide) ?_
    refine z_copy hC hK hP hD hS 2 4 rfl rfl (by omega) (by omega) (by decide) (by decide) (Nat.le_of_ble_eq_true rfl) (Nat.le_of_ble_eq_true rfl) lX_X0_53 hl.1 dX0_remembers_74 (fun H locs hP hD hS => ?_)
    have hP : va_P D vwCl [oP pp pl pt pa mo dn ea bn stA k, aI cI pl 6 lv, aI cI pt 6 te, aI cI pa 6 la, aI cI stA 220 (cpyN te (cpyN lv st 0 (k * 22) 6) 0 ((k * 22) + 6) 6)] H := hP
    have hD : va_D A [oP pp pl pt pa mo dn ea bn stA k, aI cI pl 6 lv, aI cI pt 6 te, aI cI pa 6 la, aI cI stA 220 (cpyN te (cpyN lv st 0 (k * 22) 6) 0 ((k * 22) + 6) 6)] := hD
    refine lv_aload_n hx hb dX0_remembers_77 rfl (lv_at hl 1 rfl) ?_
    refine z_get (k := 2) zcX0 hC hK hP 0 rfl (by decide) lF_X0_18 rfl dX0_remembers_78 ?_
    refine lv_iconst (v := nI 0) hx hb dX0_remembers_81 (by decide) ?_
    refine lv_aload_n hx hb dX0_remembers_82 rfl (lv_at hl 1 rfl) ?_
    refine z_get (k := 7) zcX0 hC hK hP 0 rfl (by decide) lF_X0_34 rfl dX0_remembers_83 ?_
    refine lv_iload_n hx hb dX0_remembers_86 rfl (lv_at hl 0 rfl) ?_
    refine lv_bipush (v := nI 12) hx hb dX0_remembers_87 (by decide) ?_
    refine zi_add hC dX0_remembers_89 ?_
    refine lv_bipush (v := nI 6) hx hb dX0_remembers_90 (by decide) ?_
    refine z_copy hC hK hP hD hS 3 4 rfl rfl (by omega) (by omega) (by decide) (by decide) (Nat.le_of_ble_eq_true rfl) (Nat.le_of_ble_eq_true rfl) lX_X0_53 hl.1 dX0_remembers_92 (fun H locs hP hD hS => ?_)
    have hP : va_P D vwCl [oP pp pl pt pa mo dn ea bn stA k, aI cI pl 6 lv, aI cI pt 6 te, aI cI pa 6 la, aI cI stA 220 (cpyN la (cpyN te (cpyN lv st 0 (k * 22) 6) 0 ((k * 22) + 6) 6) 0 ((k * 22) + 12) 6)] H := hP
    have hD : va_D A [oP pp pl pt pa mo dn ea bn stA k, aI cI pl 6 lv, aI cI pt 6 te, aI cI pa 6 la, aI cI stA 220 (cpyN la (cpyN te (cpyN lv st 0 (k * 22) 6) 0 ((k * 22) + 6) 6) 0 ((k * 22) + 12) 6)] := hD
    refine lv_aload_n hx hb dX0_remembers_95 rfl (lv_at hl 1 rfl) ?_
    refine z_get (k := 7) zcX0 hC hK hP 0 rfl (by decide) lF_X0_34 rfl dX0_remembers_96 ?_
    refine lv_iload_n hx hb dX0_remembers_99 rfl (lv_at hl 0 rfl) ?_
    refine lv_bipush (v := nI 18) hx hb dX0_remembers_100 (by decide) ?_
    refine zi_add hC dX0_remembers_102 ?_
    refine lv_aload_n hx hb dX0_remembers_103 rfl (lv_at hl 1 rfl) ?_
    refine z_get (k := 3) zcX0 hC hK hP 0 rfl (by decide) lF_X0_21 rfl dX0_remembers_104 ?_
    refine z_ast hC hK hP hD hS 4 rfl (by omega) (by decide) dX0_remembers_107 (fun H locs hP hD hS => ?_)
    have hP : va_P D vwCl [oP pp pl pt pa mo dn ea bn stA k, aI cI pl 6 lv, aI cI pt 6 te, aI cI pa 6 la, aI cI stA 220 (updN (cpyN la (cpyN te (cpyN lv st 0 (k * 22) 6) 0 ((k * 22) + 6) 6) 0 ((k * 22) + 12) 6) ((k * 22) + 18) mo)] H := hP
    have hD : va_D A [oP pp pl pt pa mo dn ea bn stA k, aI cI pl 6 lv, aI cI pt 6 te, aI cI pa 6 la, aI cI stA 220 (updN (cpyN la (cpyN te (cpyN lv st 0 (k * 22) 6) 0 ((k * 22) + 6) 6) 0 ((k * 22) + 12) 6) ((k * 22) + 18) mo)] := hD
    refine lv_aload_n hx hb dX0_remembers_108 rfl (lv_at hl 1 rfl) ?_
    refine z_get (k := 7) zcX0 hC hK hP 0 rfl (by decide) lF_X0_34 rfl dX0_remembers_109 ?_
    refine lv_iload_n hx hb dX0_remembers_112 rfl (lv_at hl 0 rfl) ?_
    refine lv_bipush (v := nI 18) hx hb dX0_remembers_113 (by decide) ?_
    refine zi_add hC dX0_remembers_115 ?_
    refine lv_iconst (v := nI 1) hx hb dX0_remembers_116 (by decide) ?_
    refine zi_add hC dX0_remembers_117 ?_
    refine lv_aload_n hx hb dX0_remembers_118 rfl (lv_at hl 1 rfl) ?_
    refine z_get (k := 4) zcX0 hC hK hP 0 rfl (by decide) lF_X0_25 rfl dX0_remembers_119 ?_
    refine z_ast hC hK hP hD hS 4 rfl (by omega) (by decide) dX0_remembers_122 (fun H locs hP hD hS => ?_)
    have hP : va_P D vwCl [oP pp pl pt pa mo dn ea bn stA k, aI cI pl 6 lv, aI cI pt 6 te, aI cI pa 6 la, aI cI stA 220 (updN (updN (cpyN la (cpyN te (cpyN lv st 0 (k * 22) 6) 0 ((k * 22) + 6) 6) 0 ((k * 22) + 12) 6) ((k * 22) + 18) mo) (((k * 22) + 18) + 1) dn)] H := hP
    have hD : va_D A [oP pp pl pt pa mo dn ea bn stA k, aI cI pl 6 lv, aI cI pt 6 te, aI cI pa 6 la, aI cI stA 220 (updN (updN (cpyN la (cpyN te (cpyN lv st 0 (k * 22) 6) 0 ((k * 22) + 6) 6) 0 ((k * 22) + 12) 6) ((k * 22) + 18) mo) (((k * 22) + 18) + 1) dn)] := hD
    refine lv_aload_n hx hb dX0_remembers_123 rfl (lv_at hl 1 rfl) ?_
    refine z_get (k := 7) zcX0 hC hK hP 0 rfl (by decide) lF_X0_34 rfl dX0_remembers_124 ?_
    refine lv_iload_n hx hb dX0_remembers_127 rfl (lv_at hl 0 rfl) ?_
    refine lv_bipush (v := nI 18) hx hb dX0_remembers_128 (by decide) ?_
    refine zi_add hC dX0_remembers_130 ?_
    refine lv_iconst (v := nI 2) hx hb dX0_remembers_131 (by decide) ?_
    refine zi_add hC dX0_remembers_132 ?_
    refine lv_aload_n hx hb dX0_remembers_133 rfl (lv_at hl 1 rfl) ?_
    refine z_get (k := 5) zcX0 hC hK hP 0 rfl (by decide) lF_X0_28 rfl dX0_remembers_134 ?_
    refine z_ast hC hK hP hD hS 4 rfl (by omega) (by decide) dX0_remembers_137 (fun H locs hP hD hS => ?_)
    have hP : va_P D vwCl [oP pp pl pt pa mo dn ea bn stA k, aI cI pl 6 lv, aI cI pt 6 te, aI cI pa 6 la, aI cI stA 220 (updN (updN (updN (cpyN la (cpyN te (cpyN lv st 0 (k * 22) 6) 0 ((k * 22) + 6) 6) 0 ((k * 22) + 12) 6) ((k * 22) + 18) mo) (((k * 22) + 18) + 1) dn) (((k * 22) + 18) + 2) ea)] H := hP
    have hD : va_D A [oP pp pl pt pa mo dn ea bn stA k, aI cI pl 6 lv, aI cI pt 6 te, aI cI pa 6 la, aI cI stA 220 (updN (updN (updN (cpyN la (cpyN te (cpyN lv st 0 (k * 22) 6) 0 ((k * 22) + 6) 6) 0 ((k * 22) + 12) 6) ((k * 22) + 18) mo) (((k * 22) + 18) + 1) dn) (((k * 22) + 18) + 2) ea)] := hD
    refine lv_aload_n hx hb dX0_remembers_138 rfl (lv_at hl 1 rfl) ?_
    refine z_get (k := 7) zcX0 hC hK hP 0 rfl (by decide) lF_X0_34 rfl dX0_remembers_139 ?_
    refine lv_iload_n hx hb dX0_remembers_142 rfl (lv_at hl 0 rfl) ?_
    refine lv_bipush (v := nI 18) hx hb dX0_remembers_143 (by decide) ?_
    refine zi_add hC dX0_remembers_145 ?_
    refine lv_iconst (v := nI 3) hx hb dX0_remembers_146 (by decide) ?_
    refine zi_add hC dX0_remembers_147 ?_
    refine lv_aload_n hx hb dX0_remembers_148 rfl (lv_at hl 1 rfl) ?_
    refine z_get (k := 6) zcX0 hC hK hP 0 rfl (by decide) lF_X0_31 rfl dX0_remembers_149 ?_
    refine z_ast hC hK hP hD hS 4 rfl (by omega) (by decide) dX0_remembers_152 (fun H locs hP hD hS => ?_)
    have hP : va_P D vwCl [oP pp pl pt pa mo dn ea bn stA k, aI cI pl 6 lv, aI cI pt 6 te, aI cI pa 6 la, aI cI stA 220 (updN (updN (updN (updN (cpyN la (cpyN te (cpyN lv st 0 (k * 22) 6) 0 ((k * 22) + 6) 6) 0 ((k * 22) + 12) 6) ((k * 22) + 18) mo) (((k * 22) + 18) + 1) dn) (((k * 22) + 18) + 2) ea) (((k * 22) + 18) + 3) bn)] H := hP
    have hD : va_D A [oP pp pl pt pa mo dn ea bn stA k, aI cI pl 6 lv, aI cI pt 6 te, aI cI pa 6 la, aI cI stA 220 (updN (updN (updN (updN (cpyN la (cpyN te (cpyN lv st 0 (k * 22) 6) 0 ((k * 22) + 6) 6) 0 ((k * 22) + 12) 6) ((k * 22) + 18) mo) (((k * 22) + 18) + 1) dn) (((k * 22) + 18) + 2) ea) (((k * 22) + 18) + 3) bn)] := hD
    refine lv_aload_n hx hb dX0_remembers_153 rfl (lv_at hl 1 rfl) ?_
    refine lv_dup hx hb dX0_remembers_154 rfl ?_
    refine z_get (k := 8) zcX0 hC hK hP 0 rfl (by decide) lF_X0_37 rfl dX0_remembers_155 ?_
    refine lv_iconst (v := nI 1) hx hb dX0_remembers_158 (by decide) ?_
    refine zi_add hC dX0_remembers_159 ?_
    refine z_put (k := 8) zcX0 hC hK hP hD hS 0 rfl (by decide) lF_X0_37 rfl rfl rfl (Nat.le_of_ble_eq_true rfl) dX0_remembers_160 (fun H locs hP hD hS => ?_)
    have hP : va_P D vwCl [oP pp pl pt pa mo dn ea bn stA (k + 1), aI cI pl 6 lv, aI cI pt 6 te, aI cI pa 6 la, aI cI stA 220 (updN (updN (updN (updN (cpyN la (cpyN te (cpyN lv st 0 (k * 22) 6) 0 ((k * 22) + 6) 6) 0 ((k * 22) + 12) 6) ((k * 22) + 18) mo) (((k * 22) + 18) + 1) dn) (((k * 22) + 18) + 2) ea) (((k * 22) + 18) + 3) bn)] H := hP
    have hD : va_D A [oP pp pl pt pa mo dn ea bn stA (k + 1), aI cI pl 6 lv, aI cI pt 6 te, aI cI pa 6 la, aI cI stA 220 (updN (updN (updN (updN (cpyN la (cpyN te (cpyN lv st 0 (k * 22) 6) 0 ((k * 22) + 6) 6) 0 ((k * 22) + 12) 6) ((k * 22) + 18) mo) (((k * 22) + 18) + 1) dn) (((k * 22) + 18) + 2) ea) (((k * 22) + 18) + 3) bn)] := hD
    exact zw_v hC hr hlk hA h0 (by unfold remS remK; first | (rw [if_pos c6, if_pos c6]; exact hP) | (rw [if_neg (by omega), if_neg (by omega), show k = 10 by omega]; exact hP) | (rw [if_neg (by omega), if_neg (by omega)]; exact hP)) hS dX0_remembers_163
  · skip
    refine lv_aload_n hx hb dX0_remembers_9 rfl (lv_at hl 0 rfl) ?_
    refine lv_bipush (v := nI 9) hx hb dX0_remembers_10 (by decide) ?_
    refine z_put (k := 8) zcX0 hC hK hP hD hS 0 rfl (by decide) lF_X0_37 rfl rfl rfl (Nat.le_of_ble_eq_true rfl) dX0_remembers_12 (fun H locs hP hD hS => ?_)
    have hP : va_P D vwCl [oP pp pl pt pa mo dn ea bn stA 9, aI cI pl 6 lv, aI cI pt 6 te, aI cI pa 6 la, aI cI stA 220 st] H := hP
    have hD : va_D A [oP pp pl pt pa mo dn ea bn stA 9, aI cI pl 6 lv, aI cI pt 6 te, aI cI pa 6 la, aI cI stA 220 st] := hD
    refine lv_aload_n hx hb dX0_remembers_15 rfl (lv_at hl 0 rfl) ?_
    refine z_get (k := 7) zcX0 hC hK hP 0 rfl (by decide) lF_X0_34 rfl dX0_remembers_16 ?_
    refine lv_bipush (v := nI 22) hx hb dX0_remembers_19 (by decide) ?_
    refine lv_aload_n hx hb dX0_remembers_21 rfl (lv_at hl 0 rfl) ?_
    refine z_get (k := 7) zcX0 hC hK hP 0 rfl (by decide) lF_X0_34 rfl dX0_remembers_22 ?_
    refine lv_iconst (v := nI 0) hx hb dX0_remembers_25 (by decide) ?_
    refine lv_aload_n hx hb dX0_remembers_26 rfl (lv_at hl 0 rfl) ?_
    refine z_get (k := 8) zcX0 hC hK hP 0 rfl (by decide) lF_X0_37 rfl dX0_remembers_27 ?_
    refine lv_bipush (v := nI 22) hx hb dX0_remembers_30 (by decide) ?_
    refine zi_mul hC dX0_remembers_32 ?_
    refine z_copy hC hK hP hD hS 4 4 rfl rfl (by omega) (by omega) (by decide) (by decide) (Nat.le_of_ble_eq_true rfl) (Nat.le_of_ble_eq_true rfl) lX_X0_53 hl.1 dX0_remembers_33 (fun H locs hP hD hS => ?_)
    have hP : va_P D vwCl [oP pp pl pt pa mo dn ea bn stA 9, aI cI pl 6 lv, aI cI pt 6 te, aI cI pa 6 la, aI cI stA 220 (cpyN st st 22 0 (9 * 22))] H := hP
    have hD : va_D A [oP pp pl pt pa mo dn ea bn stA 9, aI cI pl 6 lv, aI cI pt 6 te, aI cI pa 6 la, aI cI stA 220 (cpyN st st 22 0 (9 * 22))] := hD
    refine lv_aload_n hx hb dX0_remembers_36 rfl (lv_at hl 0 rfl) ?_
    refine z_get (k := 8) zcX0 hC hK hP 0 rfl (by decide) lF_X0_37 rfl dX0_remembers_37 ?_
    refine lv_bipush (v := nI 22) hx hb dX0_remembers_40 (by decide) ?_
    refine zi_mul hC dX0_remembers_42 ?_
    refine lv_istore_n (lv' := [(1, .int (nI (9 * 22))), (0, .ref pp)]) hx hb dX0_remembers_43 rfl hl (by decide) rfl (fun ls hl => ?_)
    refine lv_aload_n hx hb dX0_remembers_44 rfl (lv_at hl 1 rfl) ?_
    refine z_get (k := 0) zcX0 hC hK hP 0 rfl (by decide) lF_X0_11 rfl dX0_remembers_45 ?_
    refine lv_iconst (v := nI 0) hx hb dX0_remembers_48 (by decide) ?_
    refine lv_aload_n hx hb dX0_remembers_49 rfl (lv_at hl 1 rfl) ?_
    refine z_get (k := 7) zcX0 hC hK hP 0 rfl (by decide) lF_X0_34 rfl dX0_remembers_50 ?_
    refine lv_iload_n hx hb dX0_remembers_53 rfl (lv_at hl 0 rfl) ?_
    refine lv_bipush (v := nI 6) hx hb dX0_remembers_54 (by decide) ?_
    refine z_copy hC hK hP hD hS 1 4 rfl rfl (by omega) (by omega) (by decide) (by decide) (Nat.le_of_ble_eq_true rfl) (Nat.le_of_ble_eq_true rfl) lX_X0_53 hl.1 dX0_remembers_56 (fun H locs hP hD hS => ?_)
    have hP : va_P D vwCl [oP pp pl pt pa mo dn ea bn stA 9, aI cI pl 6 lv, aI cI pt 6 te, aI cI pa 6 la, aI cI stA 220 (cpyN lv (cpyN st st 22 0 (9 * 22)) 0 (9 * 22) 6)] H := hP
    have hD : va_D A [oP pp pl pt pa mo dn ea bn stA 9, aI cI pl 6 lv, aI cI pt 6 te, aI cI pa 6 la, aI cI stA 220 (cpyN lv (cpyN st st 22 0 (9 * 22)) 0 (9 * 22) 6)] := hD
    refine lv_aload_n hx hb dX0_remembers_59 rfl (lv_at hl 1 rfl) ?_
    refine z_get (k := 1) zcX0 hC hK hP 0 rfl (by decide) lF_X0_15 rfl dX0_remembers_60 ?_
    refine lv_iconst (v := nI 0) hx hb dX0_remembers_63 (by decide) ?_
    refine lv_aload_n hx hb dX0_remembers_64 rfl (lv_at hl 1 rfl) ?_
    refine z_get (k := 7) zcX0 hC hK hP 0 rfl (by decide) lF_X0_34 rfl dX0_remembers_65 ?_
    refine lv_iload_n hx hb dX0_remembers_68 rfl (lv_at hl 0 rfl) ?_
    refine lv_bipush (v := nI 6) hx hb dX0_remembers_69 (by decide) ?_
    refine zi_add hC dX0_remembers_71 ?_
    refine lv_bipush (v := nI 6) hx hb dX0_remembers_72 (by decide) ?_
    refine z_copy hC hK hP hD hS 2 4 rfl rfl (by omega) (by omega) (by decide) (by decide) (Nat.le_of_ble_eq_true rfl) (Nat.le_of_ble_eq_true rfl) lX_X0_53 hl.1 dX0_remembers_74 (fun H locs hP hD hS => ?_)
    have hP : va_P D vwCl [oP pp pl pt pa mo dn ea bn stA 9, aI cI pl 6 lv, aI cI pt 6 te, aI cI pa 6 la, aI cI stA 220 (cpyN te (cpyN lv (cpyN st st 22 0 (9 * 22)) 0 (9 * 22) 6) 0 ((9 * 22) + 6) 6)] H := hP
    have hD : va_D A [oP pp pl pt pa mo dn ea bn stA 9, aI cI pl 6 lv, aI cI pt 6 te, aI cI pa 6 la, aI cI stA 220 (cpyN te (cpyN lv (cpyN st st 22 0 (9 * 22)) 0 (9 * 22) 6) 0 ((9 * 22) + 6) 6)] := hD
    refine lv_aload_n hx hb dX0_remembers_77 rfl (lv_at hl 1 rfl) ?_
    refine z_get (k := 2) zcX0 hC hK hP 0 rfl (by decide) lF_X0_18 rfl dX0_remembers_78 ?_
    refine lv_iconst (v := nI 0) hx hb dX0_remembers_81 (by decide) ?_
    refine lv_aload_n hx hb dX0_remembers_82 rfl (lv_at hl 1 rfl) ?_
    refine z_get (k := 7) zcX0 hC hK hP 0 rfl (by decide) lF_X0_34 rfl dX0_remembers_83 ?_
    refine lv_iload_n hx hb dX0_remembers_86 rfl (lv_at hl 0 rfl) ?_
    refine lv_bipush (v := nI 12) hx hb dX0_remembers_87 (by decide) ?_
    refine zi_add hC dX0_remembers_89 ?_
    refine lv_bipush (v := nI 6) hx hb dX0_remembers_90 (by decide) ?_
    refine z_copy hC hK hP hD hS 3 4 rfl rfl (by omega) (by omega) (by decide) (by decide) (Nat.le_of_ble_eq_true rfl) (Nat.le_of_ble_eq_true rfl) lX_X0_53 hl.1 dX0_remembers_92 (fun H locs hP hD hS => ?_)
    have hP : va_P D vwCl [oP pp pl pt pa mo dn ea bn stA 9, aI cI pl 6 lv, aI cI pt 6 te, aI cI pa 6 la, aI cI stA 220 (cpyN la (cpyN te (cpyN lv (cpyN st st 22 0 (9 * 22)) 0 (9 * 22) 6) 0 ((9 * 22) + 6) 6) 0 ((9 * 22) + 12) 6)] H := hP
    have hD : va_D A [oP pp pl pt pa mo dn ea bn stA 9, aI cI pl 6 lv, aI cI pt 6 te, aI cI pa 6 la, aI cI stA 220 (cpyN la (cpyN te (cpyN lv (cpyN st st 22 0 (9 * 22)) 0 (9 * 22) 6) 0 ((9 * 22) + 6) 6) 0 ((9 * 22) + 12) 6)] := hD
    refine lv_aload_n hx hb dX0_remembers_95 rfl (lv_at hl 1 rfl) ?_
    refine z_get (k := 7) zcX0 hC hK hP 0 rfl (by decide) lF_X0_34 rfl dX0_remembers_96 ?_
    refine lv_iload_n hx hb dX0_remembers_99 rfl (lv_at hl 0 rfl) ?_
    refine lv_bipush (v := nI 18) hx hb dX0_remembers_100 (by decide) ?_
    refine zi_add hC dX0_remembers_102 ?_
    refine lv_aload_n hx hb dX0_remembers_103 rfl (lv_at hl 1 rfl) ?_
    refine z_get (k := 3) zcX0 hC hK hP 0 rfl (by decide) lF_X0_21 rfl dX0_remembers_104 ?_
    refine z_ast hC hK hP hD hS 4 rfl (by omega) (by decide) dX0_remembers_107 (fun H locs hP hD hS => ?_)
    have hP : va_P D vwCl [oP pp pl pt pa mo dn ea bn stA 9, aI cI pl 6 lv, aI cI pt 6 te, aI cI pa 6 la, aI cI stA 220 (updN (cpyN la (cpyN te (cpyN lv (cpyN st st 22 0 (9 * 22)) 0 (9 * 22) 6) 0 ((9 * 22) + 6) 6) 0 ((9 * 22) + 12) 6) ((9 * 22) + 18) mo)] H := hP
    have hD : va_D A [oP pp pl pt pa mo dn ea bn stA 9, aI cI pl 6 lv, aI cI pt 6 te, aI cI pa 6 la, aI cI stA 220 (updN (cpyN la (cpyN te (cpyN lv (cpyN st st 22 0 (9 * 22)) 0 (9 * 22) 6) 0 ((9 * 22) + 6) 6) 0 ((9 * 22) + 12) 6) ((9 * 22) + 18) mo)] := hD
    refine lv_aload_n hx hb dX0_remembers_108 rfl (lv_at hl 1 rfl) ?_
    refine z_get (k := 7) zcX0 hC hK hP 0 rfl (by decide) lF_X0_34 rfl dX0_remembers_109 ?_
    refine lv_iload_n hx hb dX0_remembers_112 rfl (lv_at hl 0 rfl) ?_
    refine lv_bipush (v := nI 18) hx hb dX0_remembers_113 (by decide) ?_
    refine zi_add hC dX0_remembers_115 ?_
    refine lv_iconst (v := nI 1) hx hb dX0_remembers_116 (by decide) ?_
    refine zi_add hC dX0_remembers_117 ?_
    refine lv_aload_n hx hb dX0_remembers_118 rfl (lv_at hl 1 rfl) ?_
    refine z_get (k := 4) zcX0 hC hK hP 0 rfl (by decide) lF_X0_25 rfl dX0_remembers_119 ?_
    refine z_ast hC hK hP hD hS 4 rfl (by omega) (by decide) dX0_remembers_122 (fun H locs hP hD hS => ?_)
    have hP : va_P D vwCl [oP pp pl pt pa mo dn ea bn stA 9, aI cI pl 6 lv, aI cI pt 6 te, aI cI pa 6 la, aI cI stA 220 (updN (updN (cpyN la (cpyN te (cpyN lv (cpyN st st 22 0 (9 * 22)) 0 (9 * 22) 6) 0 ((9 * 22) + 6) 6) 0 ((9 * 22) + 12) 6) ((9 * 22) + 18) mo) (((9 * 22) + 18) + 1) dn)] H := hP
    have hD : va_D A [oP pp pl pt pa mo dn ea bn stA 9, aI cI pl 6 lv, aI cI pt 6 te, aI cI pa 6 la, aI cI stA 220 (updN (updN (cpyN la (cpyN te (cpyN lv (cpyN st st 22 0 (9 * 22)) 0 (9 * 22) 6) 0 ((9 * 22) + 6) 6) 0 ((9 * 22) + 12) 6) ((9 * 22) + 18) mo) (((9 * 22) + 18) + 1) dn)] := hD
    refine lv_aload_n hx hb dX0_remembers_123 rfl (lv_at hl 1 rfl) ?_
    refine z_get (k := 7) zcX0 hC hK hP 0 rfl (by decide) lF_X0_34 rfl dX0_remembers_124 ?_
    refine lv_iload_n hx hb dX0_remembers_127 rfl (lv_at hl 0 rfl) ?_
    refine lv_bipush (v := nI 18) hx hb dX0_remembers_128 (by decide) ?_
    refine zi_add hC dX0_remembers_130 ?_
    refine lv_iconst (v := nI 2) hx hb dX0_remembers_131 (by decide) ?_
    refine zi_add hC dX0_remembers_132 ?_
    refine lv_aload_n hx hb dX0_remembers_133 rfl (lv_at hl 1 rfl) ?_
    refine z_get (k := 5) zcX0 hC hK hP 0 rfl (by decide) lF_X0_28 rfl dX0_remembers_134 ?_
    refine z_ast hC hK hP hD hS 4 rfl (by omega) (by decide) dX0_remembers_137 (fun H locs hP hD hS => ?_)
    have hP : va_P D vwCl [oP pp pl pt pa mo dn ea bn stA 9, aI cI pl 6 lv, aI cI pt 6 te, aI cI pa 6 la, aI cI stA 220 (updN (updN (updN (cpyN la (cpyN te (cpyN lv (cpyN st st 22 0 (9 * 22)) 0 (9 * 22) 6) 0 ((9 * 22) + 6) 6) 0 ((9 * 22) + 12) 6) ((9 * 22) + 18) mo) (((9 * 22) + 18) + 1) dn) (((9 * 22) + 18) + 2) ea)] H := hP
    have hD : va_D A [oP pp pl pt pa mo dn ea bn stA 9, aI cI pl 6 lv, aI cI pt 6 te, aI cI pa 6 la, aI cI stA 220 (updN (updN (updN (cpyN la (cpyN te (cpyN lv (cpyN st st 22 0 (9 * 22)) 0 (9 * 22) 6) 0 ((9 * 22) + 6) 6) 0 ((9 * 22) + 12) 6) ((9 * 22) + 18) mo) (((9 * 22) + 18) + 1) dn) (((9 * 22) + 18) + 2) ea)] := hD
    refine lv_aload_n hx hb dX0_remembers_138 rfl (lv_at hl 1 rfl) ?_
    refine z_get (k := 7) zcX0 hC hK hP 0 rfl (by decide) lF_X0_34 rfl dX0_remembers_139 ?_
    refine lv_iload_n hx hb dX0_remembers_142 rfl (lv_at hl 0 rfl) ?_
    refine lv_bipush (v := nI 18) hx hb dX0_remembers_143 (by decide) ?_
    refine zi_add hC dX0_remembers_145 ?_
    refine lv_iconst (v := nI 3) hx hb dX0_remembers_146 (by decide) ?_
    refine zi_add hC dX0_remembers_147 ?_
    refine lv_aload_n hx hb dX0_remembers_148 rfl (lv_at hl 1 rfl) ?_
    refine z_get (k := 6) zcX0 hC hK hP 0 rfl (by decide) lF_X0_31 rfl dX0_remembers_149 ?_
    refine z_ast hC hK hP hD hS 4 rfl (by omega) (by decide) dX0_remembers_152 (fun H locs hP hD hS => ?_)
    have hP : va_P D vwCl [oP pp pl pt pa mo dn ea bn stA 9, aI cI pl 6 lv, aI cI pt 6 te, aI cI pa 6 la, aI cI stA 220 (updN (updN (updN (updN (cpyN la (cpyN te (cpyN lv (cpyN st st 22 0 (9 * 22)) 0 (9 * 22) 6) 0 ((9 * 22) + 6) 6) 0 ((9 * 22) + 12) 6) ((9 * 22) + 18) mo) (((9 * 22) + 18) + 1) dn) (((9 * 22) + 18) + 2) ea) (((9 * 22) + 18) + 3) bn)] H := hP
    have hD : va_D A [oP pp pl pt pa mo dn ea bn stA 9, aI cI pl 6 lv, aI cI pt 6 te, aI cI pa 6 la, aI cI stA 220 (updN (updN (updN (updN (cpyN la (cpyN te (cpyN lv (cpyN st st 22 0 (9 * 22)) 0 (9 * 22) 6) 0 ((9 * 22) + 6) 6) 0 ((9 * 22) + 12) 6) ((9 * 22) + 18) mo) (((9 * 22) + 18) + 1) dn) (((9 * 22) + 18) + 2) ea) (((9 * 22) + 18) + 3) bn)] := hD
    refine lv_aload_n hx hb dX0_remembers_153 rfl (lv_at hl 1 rfl) ?_
    refine lv_dup hx hb dX0_remembers_154 rfl ?_
    refine z_get (k := 8) zcX0 hC hK hP 0 rfl (by decide) lF_X0_37 rfl dX0_remembers_155 ?_
    refine lv_iconst (v := nI 1) hx hb dX0_remembers_158 (by decide) ?_
    refine zi_add hC dX0_remembers_159 ?_
    refine z_put (k := 8) zcX0 hC hK hP hD hS 0 rfl (by decide) lF_X0_37 rfl rfl rfl (Nat.le_of_ble_eq_true rfl) dX0_remembers_160 (fun H locs hP hD hS => ?_)
    have hP : va_P D vwCl [oP pp pl pt pa mo dn ea bn stA (9 + 1), aI cI pl 6 lv, aI cI pt 6 te, aI cI pa 6 la, aI cI stA 220 (updN (updN (updN (updN (cpyN la (cpyN te (cpyN lv (cpyN st st 22 0 (9 * 22)) 0 (9 * 22) 6) 0 ((9 * 22) + 6) 6) 0 ((9 * 22) + 12) 6) ((9 * 22) + 18) mo) (((9 * 22) + 18) + 1) dn) (((9 * 22) + 18) + 2) ea) (((9 * 22) + 18) + 3) bn)] H := hP
    have hD : va_D A [oP pp pl pt pa mo dn ea bn stA (9 + 1), aI cI pl 6 lv, aI cI pt 6 te, aI cI pa 6 la, aI cI stA 220 (updN (updN (updN (updN (cpyN la (cpyN te (cpyN lv (cpyN st st 22 0 (9 * 22)) 0 (9 * 22) 6) 0 ((9 * 22) + 6) 6) 0 ((9 * 22) + 12) 6) ((9 * 22) + 18) mo) (((9 * 22) + 18) + 1) dn) (((9 * 22) + 18) + 2) ea) (((9 * 22) + 18) + 3) bn)] := hD
    exact zw_v hC hr hlk hA h0 (by unfold remS remK; first | (rw [if_pos c6, if_pos c6]; exact hP) | (rw [if_neg (by omega), if_neg (by omega), show k = 10 by omega]; exact hP) | (rw [if_neg (by omega), if_neg (by omega)]; exact hP)) hS dX0_remembers_163
set_option maxHeartbeats 1000000 in
set_option maxRecDepth 100000 in
theorem c_X0_stepsBack_0 {l : Launch} {D : va_G} {cI cZ cB cR : ClassId} {pp pl pt pa mo dn ea bn stA : Nat}  : mR l yX0_stepsBack cX0_stepsBack 2 (some .boolean) 1 40 D cI cZ cB cR [oP pp pl pt pa mo dn ea bn stA 0] [.ref pp] (some (.int (bI false))) := by
  refine mR_of rfl (Nat.le_of_ble_eq_true rfl) ?_
  intro p e s m args below meth c hC hr hlk hK hP ls hl
  have hl : lv_has ls 2 [(0, .ref pp)] := hl
  obtain ⟨hx, hb, hml, hown, hts⟩ := id hC
  refine lv_aload_n hx hb dX0_stepsBack_0 rfl (lv_at hl 0 rfl) ?_
  refine z_get (k := 8) zcX0 hC hK hP 0 rfl (by decide) lF_X0_37 rfl dX0_stepsBack_1 ?_
  refine z0_gt (tgt := 9) hC dX0_stepsBack_4 (by decide) (by omega) (fun c4 => by exfalso; omega) (fun c4 => ?_)
  refine lv_iconst (v := nI 0) hx hb dX0_stepsBack_7 (by decide) ?_
  refine z_top (y := bI false) rfl ?_
  exact zr_z hC hr hlk (by first | rfl | omega) dX0_stepsBack_8
set_option maxHeartbeats 1000000 in
set_option maxRecDepth 100000 in
theorem c_X0_stepsBack {l : Launch} {D : va_G} {cI cZ cB cR : ClassId} {pp : Nat} {pl pt pa mo dn ea bn stA k : Nat} {lv : Nat → Nat} {te : Nat → Nat} {la : Nat → Nat} {st : Nat → Nat}  (hk : 0 < k) (hk9 : k ≤ 10) : mW l yX0_stepsBack cX0_stepsBack 2 (some .boolean) 1 40 D cI cZ cB cR [oP pp pl pt pa mo dn ea bn stA k, aI cI pl 6 lv, aI cI pt 6 te, aI cI pa 6 la, aI cI stA 220 st] [oP pp pl pt pa (st ((k - 1) * 22 + 18)) (st ((k - 1) * 22 + 18 + 1)) (st ((k - 1) * 22 + 18 + 2)) (st ((k - 1) * 22 + 18 + 3)) stA (k - 1), aI cI pl 6 (cpyN st lv ((k - 1) * 22) 0 6), aI cI pt 6 (cpyN st te ((k - 1) * 22 + 6) 0 6), aI cI pa 6 (cpyN st la ((k - 1) * 22 + 12) 0 6), aI cI stA 220 st] [.ref pp] (some (.int (bI true))) := by
  refine mW_of rfl (Nat.le_of_ble_eq_true rfl) ?_
  intro p e s m args below meth c hC hr hlk hK A hA hD H0 h0 hP hS ls hl
  have hP : va_P D vwCl [oP pp pl pt pa mo dn ea bn stA k, aI cI pl 6 lv, aI cI pt 6 te, aI cI pa 6 la, aI cI stA 220 st] H0 := hP
  have hl : lv_has ls 2 [(0, .ref pp)] := hl
  obtain ⟨hx, hb, hml, hown, hts⟩ := id hC
  refine lv_aload_n hx hb dX0_stepsBack_0 rfl (lv_at hl 0 rfl) ?_
  refine z_get (k := 8) zcX0 hC hK hP 0 rfl (by decide) lF_X0_37 rfl dX0_stepsBack_1 ?_
  refine z0_gt (tgt := 9) hC dX0_stepsBack_4 (by decide) (by omega) (fun c4 => ?_) (fun c4 => by exfalso; omega)
  refine lv_aload_n hx hb dX0_stepsBack_9 rfl (lv_at hl 0 rfl) ?_
  refine lv_dup hx hb dX0_stepsBack_10 rfl ?_
  refine z_get (k := 8) zcX0 hC hK hP 0 rfl (by decide) lF_X0_37 rfl dX0_stepsBack_11 ?_
  refine lv_iconst (v := nI 1) hx hb dX0_stepsBack_14 (by decide) ?_
  refine zi_sub hC dX0_stepsBack_15 (by omega) ?_
  refine z_put (k := 8) zcX0 hC hK hP hD hS 0 rfl (by decide) lF_X0_37 rfl rfl rfl (Nat.le_of_ble_eq_true rfl) dX0_stepsBack_16 (fun H locs hP hD hS => ?_)
  have hP : va_P D vwCl [oP pp pl pt pa mo dn ea bn stA (k - 1), aI cI pl 6 lv, aI cI pt 6 te, aI cI pa 6 la, aI cI stA 220 st] H := hP
  have hD : va_D A [oP pp pl pt pa mo dn ea bn stA (k - 1), aI cI pl 6 lv, aI cI pt 6 te, aI cI pa 6 la, aI cI stA 220 st] := hD
  refine lv_aload_n hx hb dX0_stepsBack_19 rfl (lv_at hl 0 rfl) ?_
  refine z_get (k := 8) zcX0 hC hK hP 0 rfl (by decide) lF_X0_37 rfl dX0_stepsBack_20 ?_
  refine lv_bipush (v := nI 22) hx hb dX0_stepsBack_23 (by decide) ?_
  refine zi_mul hC dX0_stepsBack_25 ?_
  refine lv_istore_n (lv' := [(1, .int (nI ((k - 1) * 22))), (0, .ref pp)]) hx hb dX0_stepsBack_26 rfl hl (by decide) rfl (fun ls hl => ?_)
  refine lv_aload_n hx hb dX0_stepsBack_27 rfl (lv_at hl 1 rfl) ?_
  refine z_get (k := 7) zcX0 hC hK hP 0 rfl (by decide) lF_X0_34 rfl dX0_stepsBack_28 ?_
  refine lv_iload_n hx hb dX0_stepsBack_31 rfl (lv_at hl 0 rfl) ?_
  refine lv_aload_n hx hb dX0_stepsBack_32 rfl (lv_at hl 1 rfl) ?_
  refine z_get (k := 0) zcX0 hC hK hP 0 rfl (by decide) lF_X0_11 rfl dX0_stepsBack_33 ?_
  refine lv_iconst (v := nI 0) hx hb dX0_stepsBack_36 (by decide) ?_
  refine lv_bipush (v := nI 6) hx hb dX0_stepsBack_37 (by decide) ?_
  refine z_copy hC hK hP hD hS 4 1 rfl rfl (by omega) (by omega) (by decide) (by decide) (Nat.le_of_ble_eq_true rfl) (Nat.le_of_ble_eq_true rfl) lX_X0_53 hl.1 dX0_stepsBack_39 (fun H locs hP hD hS => ?_)
  have hP : va_P D vwCl [oP pp pl pt pa mo dn ea bn stA (k - 1), aI cI pl 6 (cpyN st lv ((k - 1) * 22) 0 6), aI cI pt 6 te, aI cI pa 6 la, aI cI stA 220 st] H := hP
  have hD : va_D A [oP pp pl pt pa mo dn ea bn stA (k - 1), aI cI pl 6 (cpyN st lv ((k - 1) * 22) 0 6), aI cI pt 6 te, aI cI pa 6 la, aI cI stA 220 st] := hD
  refine lv_aload_n hx hb dX0_stepsBack_42 rfl (lv_at hl 1 rfl) ?_
  refine z_get (k := 7) zcX0 hC hK hP 0 rfl (by decide) lF_X0_34 rfl dX0_stepsBack_43 ?_
  refine lv_iload_n hx hb dX0_stepsBack_46 rfl (lv_at hl 0 rfl) ?_
  refine lv_bipush (v := nI 6) hx hb dX0_stepsBack_47 (by decide) ?_
  refine zi_add hC dX0_stepsBack_49 ?_
  refine lv_aload_n hx hb dX0_stepsBack_50 rfl (lv_at hl 1 rfl) ?_
  refine z_get (k := 1) zcX0 hC hK hP 0 rfl (by decide) lF_X0_15 rfl dX0_stepsBack_51 ?_
  refine lv_iconst (v := nI 0) hx hb dX0_stepsBack_54 (by decide) ?_
  refine lv_bipush (v := nI 6) hx hb dX0_stepsBack_55 (by decide) ?_
  refine z_copy hC hK hP hD hS 4 2 rfl rfl (by omega) (by omega) (by decide) (by decide) (Nat.le_of_ble_eq_true rfl) (Nat.le_of_ble_eq_true rfl) lX_X0_53 hl.1 dX0_stepsBack_57 (fun H locs hP hD hS => ?_)
  have hP : va_P D vwCl [oP pp pl pt pa mo dn ea bn stA (k - 1), aI cI pl 6 (cpyN st lv ((k - 1) * 22) 0 6), aI cI pt 6 (cpyN st te (((k - 1) * 22) + 6) 0 6), aI cI pa 6 la, aI cI stA 220 st] H := hP
  have hD : va_D A [oP pp pl pt pa mo dn ea bn stA (k - 1), aI cI pl 6 (cpyN st lv ((k - 1) * 22) 0 6), aI cI pt 6 (cpyN st te (((k - 1) * 22) + 6) 0 6), aI cI pa 6 la, aI cI stA 220 st] := hD
  refine lv_aload_n hx hb dX0_stepsBack_60 rfl (lv_at hl 1 rfl) ?_
  refine z_get (k := 7) zcX0 hC hK hP 0 rfl (by decide) lF_X0_34 rfl dX0_stepsBack_61 ?_
  refine lv_iload_n hx hb dX0_stepsBack_64 rfl (lv_at hl 0 rfl) ?_
  refine lv_bipush (v := nI 12) hx hb dX0_stepsBack_65 (by decide) ?_
  refine zi_add hC dX0_stepsBack_67 ?_
  refine lv_aload_n hx hb dX0_stepsBack_68 rfl (lv_at hl 1 rfl) ?_
  refine z_get (k := 2) zcX0 hC hK hP 0 rfl (by decide) lF_X0_18 rfl dX0_stepsBack_69 ?_
  refine lv_iconst (v := nI 0) hx hb dX0_stepsBack_72 (by decide) ?_
  refine lv_bipush (v := nI 6) hx hb dX0_stepsBack_73 (by decide) ?_
  refine z_copy hC hK hP hD hS 4 3 rfl rfl (by omega) (by omega) (by decide) (by decide) (Nat.le_of_ble_eq_true rfl) (Nat.le_of_ble_eq_true rfl) lX_X0_53 hl.1 dX0_stepsBack_75 (fun H locs hP hD hS => ?_)
  have hP : va_P D vwCl [oP pp pl pt pa mo dn ea bn stA (k - 1), aI cI pl 6 (cpyN st lv ((k - 1) * 22) 0 6), aI cI pt 6 (cpyN st te (((k - 1) * 22) + 6) 0 6), aI cI pa 6 (cpyN st la (((k - 1) * 22) + 12) 0 6), aI cI stA 220 st] H := hP
  have hD : va_D A [oP pp pl pt pa mo dn ea bn stA (k - 1), aI cI pl 6 (cpyN st lv ((k - 1) * 22) 0 6), aI cI pt 6 (cpyN st te (((k - 1) * 22) + 6) 0 6), aI cI pa 6 (cpyN st la (((k - 1) * 22) + 12) 0 6), aI cI stA 220 st] := hD
  refine lv_aload_n hx hb dX0_stepsBack_78 rfl (lv_at hl 1 rfl) ?_
  refine lv_aload_n hx hb dX0_stepsBack_79 rfl (lv_at hl 1 rfl) ?_
  refine z_get (k := 7) zcX0 hC hK hP 0 rfl (by decide) lF_X0_34 rfl dX0_stepsBack_80 ?_
  refine lv_iload_n hx hb dX0_stepsBack_83 rfl (lv_at hl 0 rfl) ?_
  refine lv_bipush (v := nI 18) hx hb dX0_stepsBack_84 (by decide) ?_
  refine zi_add hC dX0_stepsBack_86 ?_
  refine z_ald hC hK hP 4 rfl (by omega) (by decide) dX0_stepsBack_87 ?_
  refine z_put (k := 3) zcX0 hC hK hP hD hS 0 rfl (by decide) lF_X0_21 rfl rfl rfl (Nat.le_of_ble_eq_true rfl) dX0_stepsBack_88 (fun H locs hP hD hS => ?_)
  have hP : va_P D vwCl [oP pp pl pt pa (st (((k - 1) * 22) + 18)) dn ea bn stA (k - 1), aI cI pl 6 (cpyN st lv ((k - 1) * 22) 0 6), aI cI pt 6 (cpyN st te (((k - 1) * 22) + 6) 0 6), aI cI pa 6 (cpyN st la (((k - 1) * 22) + 12) 0 6), aI cI stA 220 st] H := hP
  have hD : va_D A [oP pp pl pt pa (st (((k - 1) * 22) + 18)) dn ea bn stA (k - 1), aI cI pl 6 (cpyN st lv ((k - 1) * 22) 0 6), aI cI pt 6 (cpyN st te (((k - 1) * 22) + 6) 0 6), aI cI pa 6 (cpyN st la (((k - 1) * 22) + 12) 0 6), aI cI stA 220 st] := hD
  refine lv_aload_n hx hb dX0_stepsBack_91 rfl (lv_at hl 1 rfl) ?_
  refine lv_aload_n hx hb dX0_stepsBack_92 rfl (lv_at hl 1 rfl) ?_
  refine z_get (k := 7) zcX0 hC hK hP 0 rfl (by decide) lF_X0_34 rfl dX0_stepsBack_93 ?_
  refine lv_iload_n hx hb dX0_stepsBack_96 rfl (lv_at hl 0 rfl) ?_
  refine lv_bipush (v := nI 18) hx hb dX0_stepsBack_97 (by decide) ?_
  refine zi_add hC dX0_stepsBack_99 ?_
  refine lv_iconst (v := nI 1) hx hb dX0_stepsBack_100 (by decide) ?_
  refine zi_add hC dX0_stepsBack_101 ?_
  refine z_ald hC hK hP 4 rfl (by omega) (by decide) dX0_stepsBack_102 ?_
  refine z_put (k := 4) zcX0 hC hK hP hD hS 0 rfl (by decide) lF_X0_25 rfl rfl rfl (Nat.le_of_ble_eq_true rfl) dX0_stepsBack_103 (fun H locs hP hD hS => ?_)
  have hP : va_P D vwCl [oP pp pl pt pa (st (((k - 1) * 22) + 18)) (st ((((k - 1) * 22) + 18) + 1)) ea bn stA (k - 1), aI cI pl 6 (cpyN st lv ((k - 1) * 22) 0 6), aI cI pt 6 (cpyN st te (((k - 1) * 22) + 6) 0 6), aI cI pa 6 (cpyN st la (((k - 1) * 22) + 12) 0 6), aI cI stA 220 st] H := hP
  have hD : va_D A [oP pp pl pt pa (st (((k - 1) * 22) + 18)) (st ((((k - 1) * 22) + 18) + 1)) ea bn stA (k - 1), aI cI pl 6 (cpyN st lv ((k - 1) * 22) 0 6), aI cI pt 6 (cpyN st te (((k - 1) * 22) + 6) 0 6), aI cI pa 6 (cpyN st la (((k - 1) * 22) + 12) 0 6), aI cI stA 220 st] := hD
  refine lv_aload_n hx hb dX0_stepsBack_106 rfl (lv_at hl 1 rfl) ?_
  refine lv_aload_n hx hb dX0_stepsBack_107 rfl (lv_at hl 1 rfl) ?_
  refine z_get (k := 7) zcX0 hC hK hP 0 rfl (by decide) lF_X0_34 rfl dX0_stepsBack_108 ?_
  refine lv_iload_n hx hb dX0_stepsBack_111 rfl (lv_at hl 0 rfl) ?_
  refine lv_bipush (v := nI 18) hx hb dX0_stepsBack_112 (by decide) ?_
  refine zi_add hC dX0_stepsBack_114 ?_
  refine lv_iconst (v := nI 2) hx hb dX0_stepsBack_115 (by decide) ?_
  refine zi_add hC dX0_stepsBack_116 ?_
  refine z_ald hC hK hP 4 rfl (by omega) (by decide) dX0_stepsBack_117 ?_
  refine z_put (k := 5) zcX0 hC hK hP hD hS 0 rfl (by decide) lF_X0_28 rfl rfl rfl (Nat.le_of_ble_eq_true rfl) dX0_stepsBack_118 (fun H locs hP hD hS => ?_)
  have hP : va_P D vwCl [oP pp pl pt pa (st (((k - 1) * 22) + 18)) (st ((((k - 1) * 22) + 18) + 1)) (st ((((k - 1) * 22) + 18) + 2)) bn stA (k - 1), aI cI pl 6 (cpyN st lv ((k - 1) * 22) 0 6), aI cI pt 6 (cpyN st te (((k - 1) * 22) + 6) 0 6), aI cI pa 6 (cpyN st la (((k - 1) * 22) + 12) 0 6), aI cI stA 220 st] H := hP
  have hD : va_D A [oP pp pl pt pa (st (((k - 1) * 22) + 18)) (st ((((k - 1) * 22) + 18) + 1)) (st ((((k - 1) * 22) + 18) + 2)) bn stA (k - 1), aI cI pl 6 (cpyN st lv ((k - 1) * 22) 0 6), aI cI pt 6 (cpyN st te (((k - 1) * 22) + 6) 0 6), aI cI pa 6 (cpyN st la (((k - 1) * 22) + 12) 0 6), aI cI stA 220 st] := hD
  refine lv_aload_n hx hb dX0_stepsBack_121 rfl (lv_at hl 1 rfl) ?_
  refine lv_aload_n hx hb dX0_stepsBack_122 rfl (lv_at hl 1 rfl) ?_
  refine z_get (k := 7) zcX0 hC hK hP 0 rfl (by decide) lF_X0_34 rfl dX0_stepsBack_123 ?_
  refine lv_iload_n hx hb dX0_stepsBack_126 rfl (lv_at hl 0 rfl) ?_
  refine lv_bipush (v := nI 18) hx hb dX0_stepsBack_127 (by decide) ?_
  refine zi_add hC dX0_stepsBack_129 ?_
  refine lv_iconst (v := nI 3) hx hb dX0_stepsBack_130 (by decide) ?_
  refine zi_add hC dX0_stepsBack_131 ?_
  refine z_ald hC hK hP 4 rfl (by omega) (by decide) dX0_stepsBack_132 ?_
  refine z_put (k := 6) zcX0 hC hK hP hD hS 0 rfl (by decide) lF_X0_31 rfl rfl rfl (Nat.le_of_ble_eq_true rfl) dX0_stepsBack_133 (fun H locs hP hD hS => ?_)
  have hP : va_P D vwCl [oP pp pl pt pa (st (((k - 1) * 22) + 18)) (st ((((k - 1) * 22) + 18) + 1)) (st ((((k - 1) * 22) + 18) + 2)) (st ((((k - 1) * 22) + 18) + 3)) stA (k - 1), aI cI pl 6 (cpyN st lv ((k - 1) * 22) 0 6), aI cI pt 6 (cpyN st te (((k - 1) * 22) + 6) 0 6), aI cI pa 6 (cpyN st la (((k - 1) * 22) + 12) 0 6), aI cI stA 220 st] H := hP
  have hD : va_D A [oP pp pl pt pa (st (((k - 1) * 22) + 18)) (st ((((k - 1) * 22) + 18) + 1)) (st ((((k - 1) * 22) + 18) + 2)) (st ((((k - 1) * 22) + 18) + 3)) stA (k - 1), aI cI pl 6 (cpyN st lv ((k - 1) * 22) 0 6), aI cI pt 6 (cpyN st te (((k - 1) * 22) + 6) 0 6), aI cI pa 6 (cpyN st la (((k - 1) * 22) + 12) 0 6), aI cI stA 220 st] := hD
  refine lv_iconst (v := nI 1) hx hb dX0_stepsBack_136 (by decide) ?_
  refine z_top (y := bI true) rfl ?_
  exact zw_z hC hr hlk hA h0 hP hS (by first | rfl | omega) dX0_stepsBack_137
set_option maxHeartbeats 1000000 in
set_option maxRecDepth 100000 in
theorem c_X0_becomes {l : Launch} {D : va_G} {cI cZ cB cR : ClassId} {pp : Nat} {pl pt pa mo dn ea bn stA k : Nat} {lv : Nat → Nat} {te : Nat → Nat} {la : Nat → Nat} {st : Nat → Nat} {p2 pl2 pt2 pa2 mo2 dn2 ea2 bn2 stA2 k2 : Nat} {lv2 te2 la2 st2 : Nat → Nat}   : mW l yX0_becomes cX0_becomes 2 none 1 40 D cI cZ cB cR [oP pp pl pt pa mo dn ea bn stA k, aI cI pl 6 lv, aI cI pt 6 te, aI cI pa 6 la, aI cI stA 220 st, oP p2 pl2 pt2 pa2 mo2 dn2 ea2 bn2 stA2 k2, aI cI pl2 6 lv2, aI cI pt2 6 te2, aI cI pa2 6 la2, aI cI stA2 220 st2] [oP pp pl pt pa mo2 dn2 ea2 bn2 stA k2, aI cI pl 6 (cpyN lv2 lv 0 0 6), aI cI pt 6 (cpyN te2 te 0 0 6), aI cI pa 6 (cpyN la2 la 0 0 6), aI cI stA 220 (cpyN st2 st 0 0 220), oP p2 pl2 pt2 pa2 mo2 dn2 ea2 bn2 stA2 k2, aI cI pl2 6 lv2, aI cI pt2 6 te2, aI cI pa2 6 la2, aI cI stA2 220 st2] [.ref pp, .ref p2] (none) := by
  refine mW_of rfl (Nat.le_of_ble_eq_true rfl) ?_
  intro p e s m args below meth c hC hr hlk hK A hA hD H0 h0 hP hS ls hl
  have hP : va_P D vwCl [oP pp pl pt pa mo dn ea bn stA k, aI cI pl 6 lv, aI cI pt 6 te, aI cI pa 6 la, aI cI stA 220 st, oP p2 pl2 pt2 pa2 mo2 dn2 ea2 bn2 stA2 k2, aI cI pl2 6 lv2, aI cI pt2 6 te2, aI cI pa2 6 la2, aI cI stA2 220 st2] H0 := hP
  have hl : lv_has ls 2 [(0, .ref pp), (1, .ref p2)] := hl
  obtain ⟨hx, hb, hml, hown, hts⟩ := id hC
  refine lv_aload_n hx hb dX0_becomes_0 rfl (lv_at hl 1 rfl) ?_
  refine z_get (k := 0) zcX0 hC hK hP 5 rfl (by decide) lF_X0_11 rfl dX0_becomes_1 ?_
  refine lv_iconst (v := nI 0) hx hb dX0_becomes_4 (by decide) ?_
  refine lv_aload_n hx hb dX0_becomes_5 rfl (lv_at hl 0 rfl) ?_
  refine z_get (k := 0) zcX0 hC hK hP 0 rfl (by decide) lF_X0_11 rfl dX0_becomes_6 ?_
  refine lv_iconst (v := nI 0) hx hb dX0_becomes_9 (by decide) ?_
  refine lv_bipush (v := nI 6) hx hb dX0_becomes_10 (by decide) ?_
  refine z_copy hC hK hP hD hS 6 1 rfl rfl (by omega) (by omega) (by decide) (by decide) (Nat.le_of_ble_eq_true rfl) (Nat.le_of_ble_eq_true rfl) lX_X0_53 hl.1 dX0_becomes_12 (fun H locs hP hD hS => ?_)
  have hP : va_P D vwCl [oP pp pl pt pa mo dn ea bn stA k, aI cI pl 6 (cpyN lv2 lv 0 0 6), aI cI pt 6 te, aI cI pa 6 la, aI cI stA 220 st, oP p2 pl2 pt2 pa2 mo2 dn2 ea2 bn2 stA2 k2, aI cI pl2 6 lv2, aI cI pt2 6 te2, aI cI pa2 6 la2, aI cI stA2 220 st2] H := hP
  have hD : va_D A [oP pp pl pt pa mo dn ea bn stA k, aI cI pl 6 (cpyN lv2 lv 0 0 6), aI cI pt 6 te, aI cI pa 6 la, aI cI stA 220 st, oP p2 pl2 pt2 pa2 mo2 dn2 ea2 bn2 stA2 k2, aI cI pl2 6 lv2, aI cI pt2 6 te2, aI cI pa2 6 la2, aI cI stA2 220 st2] := hD
  refine lv_aload_n hx hb dX0_becomes_15 rfl (lv_at hl 1 rfl) ?_
  refine z_get (k := 1) zcX0 hC hK hP 5 rfl (by decide) lF_X0_15 rfl dX0_becomes_16 ?_
  refine lv_iconst (v := nI 0) hx hb dX0_becomes_19 (by decide) ?_
  refine lv_aload_n hx hb dX0_becomes_20 rfl (lv_at hl 0 rfl) ?_
  refine z_get (k := 1) zcX0 hC hK hP 0 rfl (by decide) lF_X0_15 rfl dX0_becomes_21 ?_
  refine lv_iconst (v := nI 0) hx hb dX0_becomes_24 (by decide) ?_
  refine lv_bipush (v := nI 6) hx hb dX0_becomes_25 (by decide) ?_
  refine z_copy hC hK hP hD hS 7 2 rfl rfl (by omega) (by omega) (by decide) (by decide) (Nat.le_of_ble_eq_true rfl) (Nat.le_of_ble_eq_true rfl) lX_X0_53 hl.1 dX0_becomes_27 (fun H locs hP hD hS => ?_)
  have hP : va_P D vwCl [oP pp pl pt pa mo dn ea bn stA k, aI cI pl 6 (cpyN lv2 lv 0 0 6), aI cI pt 6 (cpyN te2 te 0 0 6), aI cI pa 6 la, aI cI stA 220 st, oP p2 pl2 pt2 pa2 mo2 dn2 ea2 bn2 stA2 k2, aI cI pl2 6 lv2, aI cI pt2 6 te2, aI cI pa2 6 la2, aI cI stA2 220 st2] H := hP
  have hD : va_D A [oP pp pl pt pa mo dn ea bn stA k, aI cI pl 6 (cpyN lv2 lv 0 0 6), aI cI pt 6 (cpyN te2 te 0 0 6), aI cI pa 6 la, aI cI stA 220 st, oP p2 pl2 pt2 pa2 mo2 dn2 ea2 bn2 stA2 k2, aI cI pl2 6 lv2, aI cI pt2 6 te2, aI cI pa2 6 la2, aI cI stA2 220 st2] := hD
  refine lv_aload_n hx hb dX0_becomes_30 rfl (lv_at hl 1 rfl) ?_
  refine z_get (k := 2) zcX0 hC hK hP 5 rfl (by decide) lF_X0_18 rfl dX0_becomes_31 ?_
  refine lv_iconst (v := nI 0) hx hb dX0_becomes_34 (by decide) ?_
  refine lv_aload_n hx hb dX0_becomes_35 rfl (lv_at hl 0 rfl) ?_
  refine z_get (k := 2) zcX0 hC hK hP 0 rfl (by decide) lF_X0_18 rfl dX0_becomes_36 ?_
  refine lv_iconst (v := nI 0) hx hb dX0_becomes_39 (by decide) ?_
  refine lv_bipush (v := nI 6) hx hb dX0_becomes_40 (by decide) ?_
  refine z_copy hC hK hP hD hS 8 3 rfl rfl (by omega) (by omega) (by decide) (by decide) (Nat.le_of_ble_eq_true rfl) (Nat.le_of_ble_eq_true rfl) lX_X0_53 hl.1 dX0_becomes_42 (fun H locs hP hD hS => ?_)
  have hP : va_P D vwCl [oP pp pl pt pa mo dn ea bn stA k, aI cI pl 6 (cpyN lv2 lv 0 0 6), aI cI pt 6 (cpyN te2 te 0 0 6), aI cI pa 6 (cpyN la2 la 0 0 6), aI cI stA 220 st, oP p2 pl2 pt2 pa2 mo2 dn2 ea2 bn2 stA2 k2, aI cI pl2 6 lv2, aI cI pt2 6 te2, aI cI pa2 6 la2, aI cI stA2 220 st2] H := hP
  have hD : va_D A [oP pp pl pt pa mo dn ea bn stA k, aI cI pl 6 (cpyN lv2 lv 0 0 6), aI cI pt 6 (cpyN te2 te 0 0 6), aI cI pa 6 (cpyN la2 la 0 0 6), aI cI stA 220 st, oP p2 pl2 pt2 pa2 mo2 dn2 ea2 bn2 stA2 k2, aI cI pl2 6 lv2, aI cI pt2 6 te2, aI cI pa2 6 la2, aI cI stA2 220 st2] := hD
  refine lv_aload_n hx hb dX0_becomes_45 rfl (lv_at hl 0 rfl) ?_
  refine lv_aload_n hx hb dX0_becomes_46 rfl (lv_at hl 1 rfl) ?_
  refine z_get (k := 3) zcX0 hC hK hP 5 rfl (by decide) lF_X0_21 rfl dX0_becomes_47 ?_
  refine z_put (k := 3) zcX0 hC hK hP hD hS 0 rfl (by decide) lF_X0_21 rfl rfl rfl (Nat.le_of_ble_eq_true rfl) dX0_becomes_50 (fun H locs hP hD hS => ?_)
  have hP : va_P D vwCl [oP pp pl pt pa mo2 dn ea bn stA k, aI cI pl 6 (cpyN lv2 lv 0 0 6), aI cI pt 6 (cpyN te2 te 0 0 6), aI cI pa 6 (cpyN la2 la 0 0 6), aI cI stA 220 st, oP p2 pl2 pt2 pa2 mo2 dn2 ea2 bn2 stA2 k2, aI cI pl2 6 lv2, aI cI pt2 6 te2, aI cI pa2 6 la2, aI cI stA2 220 st2] H := hP
  have hD : va_D A [oP pp pl pt pa mo2 dn ea bn stA k, aI cI pl 6 (cpyN lv2 lv 0 0 6), aI cI pt 6 (cpyN te2 te 0 0 6), aI cI pa 6 (cpyN la2 la 0 0 6), aI cI stA 220 st, oP p2 pl2 pt2 pa2 mo2 dn2 ea2 bn2 stA2 k2, aI cI pl2 6 lv2, aI cI pt2 6 te2, aI cI pa2 6 la2, aI cI stA2 220 st2] := hD
  refine lv_aload_n hx hb dX0_becomes_53 rfl (lv_at hl 0 rfl) ?_
  refine lv_aload_n hx hb dX0_becomes_54 rfl (lv_at hl 1 rfl) ?_
  refine z_get (k := 4) zcX0 hC hK hP 5 rfl (by decide) lF_X0_25 rfl dX0_becomes_55 ?_
  refine z_put (k := 4) zcX0 hC hK hP hD hS 0 rfl (by decide) lF_X0_25 rfl rfl rfl (Nat.le_of_ble_eq_true rfl) dX0_becomes_58 (fun H locs hP hD hS => ?_)
  have hP : va_P D vwCl [oP pp pl pt pa mo2 dn2 ea bn stA k, aI cI pl 6 (cpyN lv2 lv 0 0 6), aI cI pt 6 (cpyN te2 te 0 0 6), aI cI pa 6 (cpyN la2 la 0 0 6), aI cI stA 220 st, oP p2 pl2 pt2 pa2 mo2 dn2 ea2 bn2 stA2 k2, aI cI pl2 6 lv2, aI cI pt2 6 te2, aI cI pa2 6 la2, aI cI stA2 220 st2] H := hP
  have hD : va_D A [oP pp pl pt pa mo2 dn2 ea bn stA k, aI cI pl 6 (cpyN lv2 lv 0 0 6), aI cI pt 6 (cpyN te2 te 0 0 6), aI cI pa 6 (cpyN la2 la 0 0 6), aI cI stA 220 st, oP p2 pl2 pt2 pa2 mo2 dn2 ea2 bn2 stA2 k2, aI cI pl2 6 lv2, aI cI pt2 6 te2, aI cI pa2 6 la2, aI cI stA2 220 st2] := hD
  refine lv_aload_n hx hb dX0_becomes_61 rfl (lv_at hl 0 rfl) ?_
  refine lv_aload_n hx hb dX0_becomes_62 rfl (lv_at hl 1 rfl) ?_
  refine z_get (k := 5) zcX0 hC hK hP 5 rfl (by decide) lF_X0_28 rfl dX0_becomes_63 ?_
  refine z_put (k := 5) zcX0 hC hK hP hD hS 0 rfl (by decide) lF_X0_28 rfl rfl rfl (Nat.le_of_ble_eq_true rfl) dX0_becomes_66 (fun H locs hP hD hS => ?_)
  have hP : va_P D vwCl [oP pp pl pt pa mo2 dn2 ea2 bn stA k, aI cI pl 6 (cpyN lv2 lv 0 0 6), aI cI pt 6 (cpyN te2 te 0 0 6), aI cI pa 6 (cpyN la2 la 0 0 6), aI cI stA 220 st, oP p2 pl2 pt2 pa2 mo2 dn2 ea2 bn2 stA2 k2, aI cI pl2 6 lv2, aI cI pt2 6 te2, aI cI pa2 6 la2, aI cI stA2 220 st2] H := hP
  have hD : va_D A [oP pp pl pt pa mo2 dn2 ea2 bn stA k, aI cI pl 6 (cpyN lv2 lv 0 0 6), aI cI pt 6 (cpyN te2 te 0 0 6), aI cI pa 6 (cpyN la2 la 0 0 6), aI cI stA 220 st, oP p2 pl2 pt2 pa2 mo2 dn2 ea2 bn2 stA2 k2, aI cI pl2 6 lv2, aI cI pt2 6 te2, aI cI pa2 6 la2, aI cI stA2 220 st2] := hD
  refine lv_aload_n hx hb dX0_becomes_69 rfl (lv_at hl 0 rfl) ?_
  refine lv_aload_n hx hb dX0_becomes_70 rfl (lv_at hl 1 rfl) ?_
  refine z_get (k := 6) zcX0 hC hK hP 5 rfl (by decide) lF_X0_31 rfl dX0_becomes_71 ?_
  refine z_put (k := 6) zcX0 hC hK hP hD hS 0 rfl (by decide) lF_X0_31 rfl rfl rfl (Nat.le_of_ble_eq_true rfl) dX0_becomes_74 (fun H locs hP hD hS => ?_)
  have hP : va_P D vwCl [oP pp pl pt pa mo2 dn2 ea2 bn2 stA k, aI cI pl 6 (cpyN lv2 lv 0 0 6), aI cI pt 6 (cpyN te2 te 0 0 6), aI cI pa 6 (cpyN la2 la 0 0 6), aI cI stA 220 st, oP p2 pl2 pt2 pa2 mo2 dn2 ea2 bn2 stA2 k2, aI cI pl2 6 lv2, aI cI pt2 6 te2, aI cI pa2 6 la2, aI cI stA2 220 st2] H := hP
  have hD : va_D A [oP pp pl pt pa mo2 dn2 ea2 bn2 stA k, aI cI pl 6 (cpyN lv2 lv 0 0 6), aI cI pt 6 (cpyN te2 te 0 0 6), aI cI pa 6 (cpyN la2 la 0 0 6), aI cI stA 220 st, oP p2 pl2 pt2 pa2 mo2 dn2 ea2 bn2 stA2 k2, aI cI pl2 6 lv2, aI cI pt2 6 te2, aI cI pa2 6 la2, aI cI stA2 220 st2] := hD
  refine lv_aload_n hx hb dX0_becomes_77 rfl (lv_at hl 1 rfl) ?_
  refine z_get (k := 7) zcX0 hC hK hP 5 rfl (by decide) lF_X0_34 rfl dX0_becomes_78 ?_
  refine lv_iconst (v := nI 0) hx hb dX0_becomes_81 (by decide) ?_
  refine lv_aload_n hx hb dX0_becomes_82 rfl (lv_at hl 0 rfl) ?_
  refine z_get (k := 7) zcX0 hC hK hP 0 rfl (by decide) lF_X0_34 rfl dX0_becomes_83 ?_
  refine lv_iconst (v := nI 0) hx hb dX0_becomes_86 (by decide) ?_
  refine lv_sipush (v := nI 220) hx hb dX0_becomes_87 (by decide) ?_
  refine z_copy hC hK hP hD hS 9 4 rfl rfl (by omega) (by omega) (by decide) (by decide) (Nat.le_of_ble_eq_true rfl) (Nat.le_of_ble_eq_true rfl) lX_X0_53 hl.1 dX0_becomes_90 (fun H locs hP hD hS => ?_)
  have hP : va_P D vwCl [oP pp pl pt pa mo2 dn2 ea2 bn2 stA k, aI cI pl 6 (cpyN lv2 lv 0 0 6), aI cI pt 6 (cpyN te2 te 0 0 6), aI cI pa 6 (cpyN la2 la 0 0 6), aI cI stA 220 (cpyN st2 st 0 0 220), oP p2 pl2 pt2 pa2 mo2 dn2 ea2 bn2 stA2 k2, aI cI pl2 6 lv2, aI cI pt2 6 te2, aI cI pa2 6 la2, aI cI stA2 220 st2] H := hP
  have hD : va_D A [oP pp pl pt pa mo2 dn2 ea2 bn2 stA k, aI cI pl 6 (cpyN lv2 lv 0 0 6), aI cI pt 6 (cpyN te2 te 0 0 6), aI cI pa 6 (cpyN la2 la 0 0 6), aI cI stA 220 (cpyN st2 st 0 0 220), oP p2 pl2 pt2 pa2 mo2 dn2 ea2 bn2 stA2 k2, aI cI pl2 6 lv2, aI cI pt2 6 te2, aI cI pa2 6 la2, aI cI stA2 220 st2] := hD
  refine lv_aload_n hx hb dX0_becomes_93 rfl (lv_at hl 0 rfl) ?_
  refine lv_aload_n hx hb dX0_becomes_94 rfl (lv_at hl 1 rfl) ?_
  refine z_get (k := 8) zcX0 hC hK hP 5 rfl (by decide) lF_X0_37 rfl dX0_becomes_95 ?_
  refine z_put (k := 8) zcX0 hC hK hP hD hS 0 rfl (by decide) lF_X0_37 rfl rfl rfl (Nat.le_of_ble_eq_true rfl) dX0_becomes_98 (fun H locs hP hD hS => ?_)
  have hP : va_P D vwCl [oP pp pl pt pa mo2 dn2 ea2 bn2 stA k2, aI cI pl 6 (cpyN lv2 lv 0 0 6), aI cI pt 6 (cpyN te2 te 0 0 6), aI cI pa 6 (cpyN la2 la 0 0 6), aI cI stA 220 (cpyN st2 st 0 0 220), oP p2 pl2 pt2 pa2 mo2 dn2 ea2 bn2 stA2 k2, aI cI pl2 6 lv2, aI cI pt2 6 te2, aI cI pa2 6 la2, aI cI stA2 220 st2] H := hP
  have hD : va_D A [oP pp pl pt pa mo2 dn2 ea2 bn2 stA k2, aI cI pl 6 (cpyN lv2 lv 0 0 6), aI cI pt 6 (cpyN te2 te 0 0 6), aI cI pa 6 (cpyN la2 la 0 0 6), aI cI stA 220 (cpyN st2 st 0 0 220), oP p2 pl2 pt2 pa2 mo2 dn2 ea2 bn2 stA2 k2, aI cI pl2 6 lv2, aI cI pt2 6 te2, aI cI pa2 6 la2, aI cI stA2 220 st2] := hD
  exact zw_v hC hr hlk hA h0 hP hS dX0_becomes_101
set_option maxHeartbeats 1000000 in
set_option maxRecDepth 100000 in
theorem c_X0_begins {l : Launch} {D : va_G} {cI cZ cB cR : ClassId} {pp b : Nat} {pl pt pa mo dn ea bn stA k : Nat} {n lvA aiA laA ac woA drA : Nat} {lv : Nat → Nat} {te : Nat → Nat} {la : Nat → Nat} {bl bla : Nat → Nat}   : mW l yX0_begins cX0_begins 3 none 0 0 D cI cZ cB cR [oP pp pl pt pa mo dn ea bn stA k, aI cI pl 6 lv, aI cI pt 6 te, aI cI pa 6 la, oB b n lvA aiA laA ac woA drA, aI cI lvA 6 bl, aI cI laA 6 bla] [oP pp pl pt pa 0 0 0 0 stA 0, aI cI pl 6 (cpyN bl lv 0 0 6), aI cI pt 6 (cpyN (fun _ => 0) te 0 0 6), aI cI pa 6 (cpyN bla la 0 0 6), oB b n lvA aiA laA ac woA drA, aI cI lvA 6 bl, aI cI laA 6 bla] [.ref pp, .ref b] (none) := by
  refine mW_of rfl (Nat.le_of_ble_eq_true rfl) ?_
  intro p e s m args below meth c hC hr hlk hK A hA hD H0 h0 hP hS ls hl
  have hP : va_P D vwCl [oP pp pl pt pa mo dn ea bn stA k, aI cI pl 6 lv, aI cI pt 6 te, aI cI pa 6 la, oB b n lvA aiA laA ac woA drA, aI cI lvA 6 bl, aI cI laA 6 bla] H0 := hP
  have hl : lv_has ls 3 [(0, .ref pp), (1, .ref b)] := hl
  obtain ⟨hx, hb, hml, hown, hts⟩ := id hC
  refine lv_iconst (v := nI 0) hx hb dX0_begins_0 (by decide) ?_
  refine lv_istore_n (lv' := [(2, .int (nI 0)), (0, .ref pp), (1, .ref b)]) hx hb dX0_begins_1 rfl hl (by decide) rfl (fun ls hl => ?_)
  have hL2 : ∀ (z2 : Nat) (d : Nat) (lv9 : Nat → Nat) (te9 : Nat → Nat) (la9 : Nat → Nat), 6 - d = z2 → d ≤ 6 → lv9 = cpyN bl lv 0 0 d → te9 = cpyN (fun _ => 0) te 0 0 d → la9 = cpyN bla la 0 0 d → ∀ (H : Heap) (locs : List Loc), va_P D vwCl [oP pp pl pt pa mo dn ea bn stA k, aI cI pl 6 lv9, aI cI pt 6 te9, aI cI pa 6 la9, oB b n lvA aiA laA ac woA drA, aI cI lvA 6 bl, aI cI laA 6 bla] H → va_D A [oP pp pl pt pa mo dn ea bn stA k, aI cI pl 6 lv9, aI cI pt 6 te9, aI cI pa 6 la9, oB b n lvA aiA laA ac woA drA, aI cI lvA 6 bl, aI cI laA 6 bla] → va_S A H0 H locs → ∀ ls : Array Slot, lv_has ls 3 [(0, .ref pp), (1, .ref b), (2, .int (nI d))] → W p l e { frames := 0, cells := 0, slots := 0, locals := 0 } s m args below meth c H locs 0 0 (MQ below (qW D [oP pp pl pt pa mo dn ea bn stA k, aI cI pl 6 lv, aI cI pt 6 te, aI cI pa 6 la, oB b n lvA aiA laA ac woA drA, aI cI lvA 6 bl, aI cI laA 6 bla] [oP pp pl pt pa 0 0 0 0 stA 0, aI cI pl 6 (cpyN bl lv 0 0 6), aI cI pt 6 (cpyN (fun _ => 0) te 0 0 6), aI cI pa 6 (cpyN bla la 0 0 6), oB b n lvA aiA laA ac woA drA, aI cI lvA 6 bl, aI cI laA 6 bla] (none)) args s 0 0 (zA [oP pp pl pt pa mo dn ea bn stA k, aI cI pl 6 lv, aI cI pt 6 te, aI cI pa 6 la, oB b n lvA aiA laA ac woA drA, aI cI lvA 6 bl, aI cI laA 6 bla])) (F0 m 2 ls []) := by
    intro z2
    induction z2 using Nat.strongRecOn with
    | _ z2 ih2 =>
    intro d lv9 te9 la9 hz2 hd hlv9 hte9 hla9 H locs hP hD hS ls hl
    refine lv_iload_n hx hb dX0_begins_2 rfl (lv_at hl 2 rfl) ?_
    refine lv_bipush (v := nI 6) hx hb dX0_begins_3 (by decide) ?_
    refine zc_ge (tgt := 45) hC dX0_begins_5 (by decide) (by omega) (by omega) (fun c5 => ?_) (fun c5 => ?_)
    · skip
      refine lv_aload_n hx hb dX0_begins_45 rfl (lv_at hl 0 rfl) ?_
      refine lv_iconst (v := nI 0) hx hb dX0_begins_46 (by decide) ?_
      refine z_put (k := 3) zcX0 hC hK hP hD hS 0 rfl (by decide) lF_X0_21 rfl rfl rfl (Nat.le_of_ble_eq_true rfl) dX0_begins_47 (fun H locs hP hD hS => ?_)
      have hP : va_P D vwCl [oP pp pl pt pa 0 dn ea bn stA k, aI cI pl 6 lv9, aI cI pt 6 te9, aI cI pa 6 la9, oB b n lvA aiA laA ac woA drA, aI cI lvA 6 bl, aI cI laA 6 bla] H := hP
      have hD : va_D A [oP pp pl pt pa 0 dn ea bn stA k, aI cI pl 6 lv9, aI cI pt 6 te9, aI cI pa 6 la9, oB b n lvA aiA laA ac woA drA, aI cI lvA 6 bl, aI cI laA 6 bla] := hD
      refine lv_aload_n hx hb dX0_begins_50 rfl (lv_at hl 0 rfl) ?_
      refine lv_iconst (v := nI 0) hx hb dX0_begins_51 (by decide) ?_
      refine z_put (k := 4) zcX0 hC hK hP hD hS 0 rfl (by decide) lF_X0_25 rfl rfl rfl (Nat.le_of_ble_eq_true rfl) dX0_begins_52 (fun H locs hP hD hS => ?_)
      have hP : va_P D vwCl [oP pp pl pt pa 0 0 ea bn stA k, aI cI pl 6 lv9, aI cI pt 6 te9, aI cI pa 6 la9, oB b n lvA aiA laA ac woA drA, aI cI lvA 6 bl, aI cI laA 6 bla] H := hP
      have hD : va_D A [oP pp pl pt pa 0 0 ea bn stA k, aI cI pl 6 lv9, aI cI pt 6 te9, aI cI pa 6 la9, oB b n lvA aiA laA ac woA drA, aI cI lvA 6 bl, aI cI laA 6 bla] := hD
      refine lv_aload_n hx hb dX0_begins_55 rfl (lv_at hl 0 rfl) ?_
      refine lv_iconst (v := nI 0) hx hb dX0_begins_56 (by decide) ?_
      refine z_put (k := 5) zcX0 hC hK hP hD hS 0 rfl (by decide) lF_X0_28 rfl rfl rfl (Nat.le_of_ble_eq_true rfl) dX0_begins_57 (fun H locs hP hD hS => ?_)
      have hP : va_P D vwCl [oP pp pl pt pa 0 0 0 bn stA k, aI cI pl 6 lv9, aI cI pt 6 te9, aI cI pa 6 la9, oB b n lvA aiA laA ac woA drA, aI cI lvA 6 bl, aI cI laA 6 bla] H := hP
      have hD : va_D A [oP pp pl pt pa 0 0 0 bn stA k, aI cI pl 6 lv9, aI cI pt 6 te9, aI cI pa 6 la9, oB b n lvA aiA laA ac woA drA, aI cI lvA 6 bl, aI cI laA 6 bla] := hD
      refine lv_aload_n hx hb dX0_begins_60 rfl (lv_at hl 0 rfl) ?_
      refine lv_iconst (v := nI 0) hx hb dX0_begins_61 (by decide) ?_
      refine z_put (k := 6) zcX0 hC hK hP hD hS 0 rfl (by decide) lF_X0_31 rfl rfl rfl (Nat.le_of_ble_eq_true rfl) dX0_begins_62 (fun H locs hP hD hS => ?_)
      have hP : va_P D vwCl [oP pp pl pt pa 0 0 0 0 stA k, aI cI pl 6 lv9, aI cI pt 6 te9, aI cI pa 6 la9, oB b n lvA aiA laA ac woA drA, aI cI lvA 6 bl, aI cI laA 6 bla] H := hP
      have hD : va_D A [oP pp pl pt pa 0 0 0 0 stA k, aI cI pl 6 lv9, aI cI pt 6 te9, aI cI pa 6 la9, oB b n lvA aiA laA ac woA drA, aI cI lvA 6 bl, aI cI laA 6 bla] := hD
      refine lv_aload_n hx hb dX0_begins_65 rfl (lv_at hl 0 rfl) ?_
      refine lv_iconst (v := nI 0) hx hb dX0_begins_66 (by decide) ?_
      refine z_put (k := 8) zcX0 hC hK hP hD hS 0 rfl (by decide) lF_X0_37 rfl rfl rfl (Nat.le_of_ble_eq_true rfl) dX0_begins_67 (fun H locs hP hD hS => ?_)
      have hP : va_P D vwCl [oP pp pl pt pa 0 0 0 0 stA 0, aI cI pl 6 lv9, aI cI pt 6 te9, aI cI pa 6 la9, oB b n lvA aiA laA ac woA drA, aI cI lvA 6 bl, aI cI laA 6 bla] H := hP
      have hD : va_D A [oP pp pl pt pa 0 0 0 0 stA 0, aI cI pl 6 lv9, aI cI pt 6 te9, aI cI pa 6 la9, oB b n lvA aiA laA ac woA drA, aI cI lvA 6 bl, aI cI laA 6 bla] := hD
      exact zw_v hC hr hlk hA h0 (by rw [hlv9, hte9, hla9, show d = 6 by omega] at hP; exact hP) hS dX0_begins_70
    · skip
      refine lv_aload_n hx hb dX0_begins_8 rfl (lv_at hl 0 rfl) ?_
      refine z_get (k := 0) zcX0 hC hK hP 0 rfl (by decide) lF_X0_11 rfl dX0_begins_9 ?_
      refine lv_iload_n hx hb dX0_begins_12 rfl (lv_at hl 2 rfl) ?_
      refine lv_aload_n hx hb dX0_begins_13 rfl (lv_at hl 1 rfl) ?_
      refine z_get (k := 1) zcX1 hC hK hP 4 rfl (by decide) lF_X0_40 rfl dX0_begins_14 ?_
      refine lv_iload_n hx hb dX0_begins_17 rfl (lv_at hl 2 rfl) ?_
      refine z_ald hC hK hP 5 rfl (by omega) (by decide) dX0_begins_18 ?_
      refine z_ast hC hK hP hD hS 1 rfl (by omega) (by decide) dX0_begins_19 (fun H locs hP hD hS => ?_)
      have hP : va_P D vwCl [oP pp pl pt pa mo dn ea bn stA k, aI cI pl 6 (updN lv9 d (bl d)), aI cI pt 6 te9, aI cI pa 6 la9, oB b n lvA aiA laA ac woA drA, aI cI lvA 6 bl, aI cI laA 6 bla] H := hP
      have hD : va_D A [oP pp pl pt pa mo dn ea bn stA k, aI cI pl 6 (updN lv9 d (bl d)), aI cI pt 6 te9, aI cI pa 6 la9, oB b n lvA aiA laA ac woA drA, aI cI lvA 6 bl, aI cI laA 6 bla] := hD
      refine lv_aload_n hx hb dX0_begins_20 rfl (lv_at hl 0 rfl) ?_
      refine z_get (k := 1) zcX0 hC hK hP 0 rfl (by decide) lF_X0_15 rfl dX0_begins_21 ?_
      refine lv_iload_n hx hb dX0_begins_24 rfl (lv_at hl 2 rfl) ?_
      refine lv_iconst (v := nI 0) hx hb dX0_begins_25 (by decide) ?_
      refine z_ast hC hK hP hD hS 2 rfl (by omega) (by decide) dX0_begins_26 (fun H locs hP hD hS => ?_)
      have hP : va_P D vwCl [oP pp pl pt pa mo dn ea bn stA k, aI cI pl 6 (updN lv9 d (bl d)), aI cI pt 6 (updN te9 d 0), aI cI pa 6 la9, oB b n lvA aiA laA ac woA drA, aI cI lvA 6 bl, aI cI laA 6 bla] H := hP
      have hD : va_D A [oP pp pl pt pa mo dn ea bn stA k, aI cI pl 6 (updN lv9 d (bl d)), aI cI pt 6 (updN te9 d 0), aI cI pa 6 la9, oB b n lvA aiA laA ac woA drA, aI cI lvA 6 bl, aI cI laA 6 bla] := hD
      refine lv_aload_n hx hb dX0_begins_27 rfl (lv_at hl 0 rfl) ?_
      refine z_get (k := 2) zcX0 hC hK hP 0 rfl (by decide) lF_X0_18 rfl dX0_begins_28 ?_
      refine lv_iload_n hx hb dX0_begins_31 rfl (lv_at hl 2 rfl) ?_
      refine lv_aload_n hx hb dX0_begins_32 rfl (lv_at hl 1 rfl) ?_
      refine z_get (k := 3) zcX1 hC hK hP 4 rfl (by decide) lF_X0_43 rfl dX0_begins_33 ?_
      refine lv_iload_n hx hb dX0_begins_36 rfl (lv_at hl 2 rfl) ?_
      refine z_ald hC hK hP 6 rfl (by omega) (by decide) dX0_begins_37 ?_
      refine z_ast hC hK hP hD hS 3 rfl (by omega) (by decide) dX0_begins_38 (fun H locs hP hD hS => ?_)
      have hP : va_P D vwCl [oP pp pl pt pa mo dn ea bn stA k, aI cI pl 6 (updN lv9 d (bl d)), aI cI pt 6 (updN te9 d 0), aI cI pa 6 (updN la9 d (bla d)), oB b n lvA aiA laA ac woA drA, aI cI lvA 6 bl, aI cI laA 6 bla] H := hP
      have hD : va_D A [oP pp pl pt pa mo dn ea bn stA k, aI cI pl 6 (updN lv9 d (bl d)), aI cI pt 6 (updN te9 d 0), aI cI pa 6 (updN la9 d (bla d)), oB b n lvA aiA laA ac woA drA, aI cI lvA 6 bl, aI cI laA 6 bla] := hD
      refine lv_iinc (v := nI (d + 1)) (lv' := [(2, .int (nI (d + 1))), (0, .ref pp), (1, .ref b)]) hx hb dX0_begins_39 hl (k := 2) rfl (z_inc d 1) (by decide) rfl (fun ls hl => ?_)
      refine lv_goto (tgt := 2) hx hb dX0_begins_42 (by decide) ?_
      exact ih2 (6 - (d + 1)) (by omega) (d + 1) (updN lv9 d (bl d)) (updN te9 d 0) (updN la9 d (bla d)) rfl (by omega) (by rw [hlv9, cpy_s]) (by rw [hte9]; exact cpy_s (fun _ => 0) te d) (by rw [hla9, cpy_s]) _ _ hP hD hS ls (lv_sub hl [1, 2, 0] rfl)
  exact hL2 _ 0 lv te la rfl (by omega) (by exact (cpy_0 _ _).symm) (by exact (cpy_0 _ _).symm) (by exact (cpy_0 _ _).symm) _ _ hP hD hS ls (lv_sub hl [1, 2, 0] rfl)
set_option maxHeartbeats 1000000 in
set_option maxRecDepth 100000 in
theorem c_X1_empties {l : Launch} {D : va_G} {cI cZ cB cR : ClassId} {b : Nat} {n lvA aiA laA ac woA drA : Nat}   : mW l yX1_empties cX1_empties 1 none 0 0 D cI cZ cB cR [oB b n lvA aiA laA ac woA drA] [oB b 0 lvA aiA laA 0 woA drA] [.ref b] (none) := by
  refine mW_of rfl (Nat.le_of_ble_eq_true rfl) ?_
  intro p e s m args below meth c hC hr hlk hK A hA hD H0 h0 hP hS ls hl
  have hP : va_P D vwCl [oB b n lvA aiA laA ac woA drA] H0 := hP
  have hl : lv_has ls 1 [(0, .ref b)] := hl
  obtain ⟨hx, hb, hml, hown, hts⟩ := id hC
  refine lv_aload_n hx hb dX1_empties_0 rfl (lv_at hl 0 rfl) ?_
  refine lv_iconst (v := nI 0) hx hb dX1_empties_1 (by decide) ?_
  refine z_put (k := 0) zcX1 hC hK hP hD hS 0 rfl (by decide) lF_X1_9 rfl rfl rfl (Nat.le_of_ble_eq_true rfl) dX1_empties_2 (fun H locs hP hD hS => ?_)
  have hP : va_P D vwCl [oB b 0 lvA aiA laA ac woA drA] H := hP
  have hD : va_D A [oB b 0 lvA aiA laA ac woA drA] := hD
  refine lv_aload_n hx hb dX1_empties_5 rfl (lv_at hl 0 rfl) ?_
  refine lv_iconst (v := nI 0) hx hb dX1_empties_6 (by decide) ?_
  refine z_put (k := 4) zcX1 hC hK hP hD hS 0 rfl (by decide) lF_X1_25 rfl rfl rfl (Nat.le_of_ble_eq_true rfl) dX1_empties_7 (fun H locs hP hD hS => ?_)
  have hP : va_P D vwCl [oB b 0 lvA aiA laA 0 woA drA] H := hP
  have hD : va_D A [oB b 0 lvA aiA laA 0 woA drA] := hD
  exact zw_v hC hr hlk hA h0 hP hS dX1_empties_10
set_option maxHeartbeats 1000000 in
set_option maxRecDepth 100000 in
theorem c_X1_addsDecanter {l : Launch} {D : va_G} {cI cZ cB cR : ClassId} {b : Nat} {n lvA aiA laA ac woA drA : Nat} {bl bla : Nat → Nat} {ai : Nat → Nat} {x9 y9 : Nat} (hn : n < 6) : mW l yX1_addsDecanter cX1_addsDecanter 3 none 0 0 D cI cZ cB cR [oB b n lvA aiA laA ac woA drA, aI cI lvA 6 bl, aI cI aiA 6 ai, aI cI laA 6 bla] [oB b (n + 1) lvA aiA laA ac woA drA, aI cI lvA 6 (updN bl n x9), aI cI aiA 6 (updN ai n y9), aI cI laA 6 (updN bla n n)] [.ref b, .int (nI x9), .int (nI y9)] (none) := by
  refine mW_of rfl (Nat.le_of_ble_eq_true rfl) ?_
  intro p e s m args below meth c hC hr hlk hK A hA hD H0 h0 hP hS ls hl
  have hP : va_P D vwCl [oB b n lvA aiA laA ac woA drA, aI cI lvA 6 bl, aI cI aiA 6 ai, aI cI laA 6 bla] H0 := hP
  have hl : lv_has ls 3 [(0, .ref b), (1, .int (nI x9)), (2, .int (nI y9))] := hl
  obtain ⟨hx, hb, hml, hown, hts⟩ := id hC
  refine lv_aload_n hx hb dX1_addsDecanter_0 rfl (lv_at hl 0 rfl) ?_
  refine z_get (k := 0) zcX1 hC hK hP 0 rfl (by decide) lF_X1_9 rfl dX1_addsDecanter_1 ?_
  refine lv_bipush (v := nI 6) hx hb dX1_addsDecanter_4 (by decide) ?_
  refine zc_ge (tgt := 52) hC dX1_addsDecanter_6 (by decide) (by omega) (by omega) (fun c6 => by exfalso; omega) (fun c6 => ?_)
  refine lv_aload_n hx hb dX1_addsDecanter_9 rfl (lv_at hl 0 rfl) ?_
  refine z_get (k := 1) zcX1 hC hK hP 0 rfl (by decide) lF_X1_15 rfl dX1_addsDecanter_10 ?_
  refine lv_aload_n hx hb dX1_addsDecanter_13 rfl (lv_at hl 0 rfl) ?_
  refine z_get (k := 0) zcX1 hC hK hP 0 rfl (by decide) lF_X1_9 rfl dX1_addsDecanter_14 ?_
  refine lv_iload_n hx hb dX1_addsDecanter_17 rfl (lv_at hl 1 rfl) ?_
  refine z_ast hC hK hP hD hS 1 rfl (by omega) (by decide) dX1_addsDecanter_18 (fun H locs hP hD hS => ?_)
  have hP : va_P D vwCl [oB b n lvA aiA laA ac woA drA, aI cI lvA 6 (updN bl n x9), aI cI aiA 6 ai, aI cI laA 6 bla] H := hP
  have hD : va_D A [oB b n lvA aiA laA ac woA drA, aI cI lvA 6 (updN bl n x9), aI cI aiA 6 ai, aI cI laA 6 bla] := hD
  refine lv_aload_n hx hb dX1_addsDecanter_19 rfl (lv_at hl 0 rfl) ?_
  refine z_get (k := 2) zcX1 hC hK hP 0 rfl (by decide) lF_X1_19 rfl dX1_addsDecanter_20 ?_
  refine lv_aload_n hx hb dX1_addsDecanter_23 rfl (lv_at hl 0 rfl) ?_
  refine z_get (k := 0) zcX1 hC hK hP 0 rfl (by decide) lF_X1_9 rfl dX1_addsDecanter_24 ?_
  refine lv_iload_n hx hb dX1_addsDecanter_27 rfl (lv_at hl 2 rfl) ?_
  refine z_ast hC hK hP hD hS 2 rfl (by omega) (by decide) dX1_addsDecanter_28 (fun H locs hP hD hS => ?_)
  have hP : va_P D vwCl [oB b n lvA aiA laA ac woA drA, aI cI lvA 6 (updN bl n x9), aI cI aiA 6 (updN ai n y9), aI cI laA 6 bla] H := hP
  have hD : va_D A [oB b n lvA aiA laA ac woA drA, aI cI lvA 6 (updN bl n x9), aI cI aiA 6 (updN ai n y9), aI cI laA 6 bla] := hD
  refine lv_aload_n hx hb dX1_addsDecanter_29 rfl (lv_at hl 0 rfl) ?_
  refine z_get (k := 3) zcX1 hC hK hP 0 rfl (by decide) lF_X1_22 rfl dX1_addsDecanter_30 ?_
  refine lv_aload_n hx hb dX1_addsDecanter_33 rfl (lv_at hl 0 rfl) ?_
  refine z_get (k := 0) zcX1 hC hK hP 0 rfl (by decide) lF_X1_9 rfl dX1_addsDecanter_34 ?_
  refine lv_aload_n hx hb dX1_addsDecanter_37 rfl (lv_at hl 0 rfl) ?_
  refine z_get (k := 0) zcX1 hC hK hP 0 rfl (by decide) lF_X1_9 rfl dX1_addsDecanter_38 ?_
  refine z_ast hC hK hP hD hS 3 rfl (by omega) (by decide) dX1_addsDecanter_41 (fun H locs hP hD hS => ?_)
  have hP : va_P D vwCl [oB b n lvA aiA laA ac woA drA, aI cI lvA 6 (updN bl n x9), aI cI aiA 6 (updN ai n y9), aI cI laA 6 (updN bla n n)] H := hP
  have hD : va_D A [oB b n lvA aiA laA ac woA drA, aI cI lvA 6 (updN bl n x9), aI cI aiA 6 (updN ai n y9), aI cI laA 6 (updN bla n n)] := hD
  refine lv_aload_n hx hb dX1_addsDecanter_42 rfl (lv_at hl 0 rfl) ?_
  refine lv_dup hx hb dX1_addsDecanter_43 rfl ?_
  refine z_get (k := 0) zcX1 hC hK hP 0 rfl (by decide) lF_X1_9 rfl dX1_addsDecanter_44 ?_
  refine lv_iconst (v := nI 1) hx hb dX1_addsDecanter_47 (by decide) ?_
  refine zi_add hC dX1_addsDecanter_48 ?_
  refine z_put (k := 0) zcX1 hC hK hP hD hS 0 rfl (by decide) lF_X1_9 rfl rfl rfl (Nat.le_of_ble_eq_true rfl) dX1_addsDecanter_49 (fun H locs hP hD hS => ?_)
  have hP : va_P D vwCl [oB b (n + 1) lvA aiA laA ac woA drA, aI cI lvA 6 (updN bl n x9), aI cI aiA 6 (updN ai n y9), aI cI laA 6 (updN bla n n)] H := hP
  have hD : va_D A [oB b (n + 1) lvA aiA laA ac woA drA, aI cI lvA 6 (updN bl n x9), aI cI aiA 6 (updN ai n y9), aI cI laA 6 (updN bla n n)] := hD
  exact zw_v hC hr hlk hA h0 hP hS dX1_addsDecanter_52
set_option maxHeartbeats 1000000 in
set_option maxRecDepth 100000 in
theorem c_X1_addsAct {l : Launch} {D : va_G} {cI cZ cB cR : ClassId} {b : Nat} {n lvA aiA laA ac woA drA : Nat} {wo : Nat → Nat} {r : Nat → Nat} {dr : Nat → Nat → Nat} {x9 : Nat} (hac : ac < 5) : mW l yX1_addsAct cX1_addsAct 3 none 0 0 D cI cZ cB cR [oB b n lvA aiA laA ac woA drA, aI cI woA 5 wo, aR cR drA 5 r, aI cI (r 0) 6 (dr 0), aI cI (r 1) 6 (dr 1), aI cI (r 2) 6 (dr 2), aI cI (r 3) 6 (dr 3), aI cI (r 4) 6 (dr 4)] [oB b n lvA aiA laA (ac + 1) woA drA, aI cI woA 5 (updN wo ac x9), aR cR drA 5 r, aI cI (r 0) 6 (updF dr ac (cpyN (fun _ => 0) (dr ac) 0 0 6) 0), aI cI (r 1) 6 (updF dr ac (cpyN (fun _ => 0) (dr ac) 0 0 6) 1), aI cI (r 2) 6 (updF dr ac (cpyN (fun _ => 0) (dr ac) 0 0 6) 2), aI cI (r 3) 6 (updF dr ac (cpyN (fun _ => 0) (dr ac) 0 0 6) 3), aI cI (r 4) 6 (updF dr ac (cpyN (fun _ => 0) (dr ac) 0 0 6) 4)] [.ref b, .int (nI x9)] (none) := by
  refine mW_of rfl (Nat.le_of_ble_eq_true rfl) ?_
  intro p e s m args below meth c hC hr hlk hK A hA hD H0 h0 hP hS ls hl
  have hP : va_P D vwCl [oB b n lvA aiA laA ac woA drA, aI cI woA 5 wo, aR cR drA 5 r, aI cI (r 0) 6 (dr 0), aI cI (r 1) 6 (dr 1), aI cI (r 2) 6 (dr 2), aI cI (r 3) 6 (dr 3), aI cI (r 4) 6 (dr 4)] H0 := hP
  have hl : lv_has ls 3 [(0, .ref b), (1, .int (nI x9))] := hl
  obtain ⟨hx, hb, hml, hown, hts⟩ := id hC
  refine lv_aload_n hx hb dX1_addsAct_0 rfl (lv_at hl 0 rfl) ?_
  refine z_get (k := 4) zcX1 hC hK hP 0 rfl (by decide) lF_X1_25 rfl dX1_addsAct_1 ?_
  refine lv_iconst (v := nI 5) hx hb dX1_addsAct_4 (by decide) ?_
  refine zc_ge (tgt := 54) hC dX1_addsAct_5 (by decide) (by omega) (by omega) (fun c5 => by exfalso; omega) (fun c5 => ?_)
  refine lv_aload_n hx hb dX1_addsAct_8 rfl (lv_at hl 0 rfl) ?_
  refine z_get (k := 5) zcX1 hC hK hP 0 rfl (by decide) lF_X1_28 rfl dX1_addsAct_9 ?_
  refine lv_aload_n hx hb dX1_addsAct_12 rfl (lv_at hl 0 rfl) ?_
  refine z_get (k := 4) zcX1 hC hK hP 0 rfl (by decide) lF_X1_25 rfl dX1_addsAct_13 ?_
  refine lv_iload_n hx hb dX1_addsAct_16 rfl (lv_at hl 1 rfl) ?_
  refine z_ast hC hK hP hD hS 1 rfl (by omega) (by decide) dX1_addsAct_17 (fun H locs hP hD hS => ?_)
  have hP : va_P D vwCl [oB b n lvA aiA laA ac woA drA, aI cI woA 5 (updN wo ac x9), aR cR drA 5 r, aI cI (r 0) 6 (dr 0), aI cI (r 1) 6 (dr 1), aI cI (r 2) 6 (dr 2), aI cI (r 3) 6 (dr 3), aI cI (r 4) 6 (dr 4)] H := hP
  have hD : va_D A [oB b n lvA aiA laA ac woA drA, aI cI woA 5 (updN wo ac x9), aR cR drA 5 r, aI cI (r 0) 6 (dr 0), aI cI (r 1) 6 (dr 1), aI cI (r 2) 6 (dr 2), aI cI (r 3) 6 (dr 3), aI cI (r 4) 6 (dr 4)] := hD
  refine lv_iconst (v := nI 0) hx hb dX1_addsAct_18 (by decide) ?_
  refine lv_istore_n (lv' := [(2, .int (nI 0)), (0, .ref b), (1, .int (nI x9))]) hx hb dX1_addsAct_19 rfl hl (by decide) rfl (fun ls hl => ?_)
  have hL20 : ∀ (z20 : Nat) (d : Nat) (dr9 : Nat → Nat → Nat), 6 - d = z20 → d ≤ 6 → dr9 = updF dr ac (cpyN (fun _ => 0) (dr ac) 0 0 d) → ∀ (H : Heap) (locs : List Loc), va_P D vwCl [oB b n lvA aiA laA ac woA drA, aI cI woA 5 (updN wo ac x9), aR cR drA 5 r, aI cI (r 0) 6 (dr9 0), aI cI (r 1) 6 (dr9 1), aI cI (r 2) 6 (dr9 2), aI cI (r 3) 6 (dr9 3), aI cI (r 4) 6 (dr9 4)] H → va_D A [oB b n lvA aiA laA ac woA drA, aI cI woA 5 (updN wo ac x9), aR cR drA 5 r, aI cI (r 0) 6 (dr9 0), aI cI (r 1) 6 (dr9 1), aI cI (r 2) 6 (dr9 2), aI cI (r 3) 6 (dr9 3), aI cI (r 4) 6 (dr9 4)] → va_S A H0 H locs → ∀ ls : Array Slot, lv_has ls 3 [(0, .ref b), (1, .int (nI x9)), (2, .int (nI d))] → W p l e { frames := 0, cells := 0, slots := 0, locals := 0 } s m args below meth c H locs 0 0 (MQ below (qW D [oB b n lvA aiA laA ac woA drA, aI cI woA 5 wo, aR cR drA 5 r, aI cI (r 0) 6 (dr 0), aI cI (r 1) 6 (dr 1), aI cI (r 2) 6 (dr 2), aI cI (r 3) 6 (dr 3), aI cI (r 4) 6 (dr 4)] [oB b n lvA aiA laA (ac + 1) woA drA, aI cI woA 5 (updN wo ac x9), aR cR drA 5 r, aI cI (r 0) 6 (updF dr ac (cpyN (fun _ => 0) (dr ac) 0 0 6) 0), aI cI (r 1) 6 (updF dr ac (cpyN (fun _ => 0) (dr ac) 0 0 6) 1), aI cI (r 2) 6 (updF dr ac (cpyN (fun _ => 0) (dr ac) 0 0 6) 2), aI cI (r 3) 6 (updF dr ac (cpyN (fun _ => 0) (dr ac) 0 0 6) 3), aI cI (r 4) 6 (updF dr ac (cpyN (fun _ => 0) (dr ac) 0 0 6) 4)] (none)) args s 0 0 (zA [oB b n lvA aiA laA ac woA drA, aI cI woA 5 wo, aR cR drA 5 r, aI cI (r 0) 6 (dr 0), aI cI (r 1) 6 (dr 1), aI cI (r 2) 6 (dr 2), aI cI (r 3) 6 (dr 3), aI cI (r 4) 6 (dr 4)])) (F0 m 20 ls []) := by
    intro z20
    induction z20 using Nat.strongRecOn with
    | _ z20 ih20 =>
    intro d dr9 hz20 hd hdr9 H locs hP hD hS ls hl
    refine lv_iload_n hx hb dX1_addsAct_20 rfl (lv_at hl 2 rfl) ?_
    refine lv_bipush (v := nI 6) hx hb dX1_addsAct_21 (by decide) ?_
    refine zc_ge (tgt := 44) hC dX1_addsAct_23 (by decide) (by omega) (by omega) (fun c23 => ?_) (fun c23 => ?_)
    · skip
      refine lv_aload_n hx hb dX1_addsAct_44 rfl (lv_at hl 0 rfl) ?_
      refine lv_dup hx hb dX1_addsAct_45 rfl ?_
      refine z_get (k := 4) zcX1 hC hK hP 0 rfl (by decide) lF_X1_25 rfl dX1_addsAct_46 ?_
      refine lv_iconst (v := nI 1) hx hb dX1_addsAct_49 (by decide) ?_
      refine zi_add hC dX1_addsAct_50 ?_
      refine z_put (k := 4) zcX1 hC hK hP hD hS 0 rfl (by decide) lF_X1_25 rfl rfl rfl (Nat.le_of_ble_eq_true rfl) dX1_addsAct_51 (fun H locs hP hD hS => ?_)
      have hP : va_P D vwCl [oB b n lvA aiA laA (ac + 1) woA drA, aI cI woA 5 (updN wo ac x9), aR cR drA 5 r, aI cI (r 0) 6 (dr9 0), aI cI (r 1) 6 (dr9 1), aI cI (r 2) 6 (dr9 2), aI cI (r 3) 6 (dr9 3), aI cI (r 4) 6 (dr9 4)] H := hP
      have hD : va_D A [oB b n lvA aiA laA (ac + 1) woA drA, aI cI woA 5 (updN wo ac x9), aR cR drA 5 r, aI cI (r 0) 6 (dr9 0), aI cI (r 1) 6 (dr9 1), aI cI (r 2) 6 (dr9 2), aI cI (r 3) 6 (dr9 3), aI cI (r 4) 6 (dr9 4)] := hD
      exact zw_v hC hr hlk hA h0 (by rw [hdr9, show d = 6 by omega] at hP; exact hP) hS dX1_addsAct_54
    · skip
      refine lv_aload_n hx hb dX1_addsAct_26 rfl (lv_at hl 0 rfl) ?_
      refine z_get (k := 6) zcX1 hC hK hP 0 rfl (by decide) lF_X1_33 rfl dX1_addsAct_27 ?_
      refine lv_aload_n hx hb dX1_addsAct_30 rfl (lv_at hl 0 rfl) ?_
      refine z_get (k := 4) zcX1 hC hK hP 0 rfl (by decide) lF_X1_25 rfl dX1_addsAct_31 ?_
      refine z_rld hC hK hP 2 rfl (by omega) (by decide) dX1_addsAct_34 ?_
      refine lv_iload_n hx hb dX1_addsAct_35 rfl (lv_at hl 2 rfl) ?_
      refine lv_iconst (v := nI 0) hx hb dX1_addsAct_36 (by decide) ?_
      refine z_ast hC hK hP hD hS (3 + ac) (row5 (X := [oB b n lvA aiA laA ac woA drA, aI cI woA 5 (updN wo ac x9), aR cR drA 5 r]) (dr := dr9) (by omega)) (by omega) (by decide) dX1_addsAct_37 (fun H locs hP hD hS => ?_)
      rw [show (3 + ac) = List.length [oB b n lvA aiA laA ac woA drA, aI cI woA 5 (updN wo ac x9), aR cR drA 5 r] + ac from rfl] at hP hD
      have hP := (row5_set (X := [oB b n lvA aiA laA ac woA drA, aI cI woA 5 (updN wo ac x9), aR cR drA 5 r]) (cI := cI) (r := r) (dr := dr9) (g := updN (dr9 ac) d 0) (show ac < 5 by omega)) ▸ hP
      have hD := (row5_set (X := [oB b n lvA aiA laA ac woA drA, aI cI woA 5 (updN wo ac x9), aR cR drA 5 r]) (cI := cI) (r := r) (dr := dr9) (g := updN (dr9 ac) d 0) (show ac < 5 by omega)) ▸ hD
      have hP : va_P D vwCl [oB b n lvA aiA laA ac woA drA, aI cI woA 5 (updN wo ac x9), aR cR drA 5 r, aI cI (r 0) 6 ((updF dr9 ac (updN (dr9 ac) d 0)) 0), aI cI (r 1) 6 ((updF dr9 ac (updN (dr9 ac) d 0)) 1), aI cI (r 2) 6 ((updF dr9 ac (updN (dr9 ac) d 0)) 2), aI cI (r 3) 6 ((updF dr9 ac (updN (dr9 ac) d 0)) 3), aI cI (r 4) 6 ((updF dr9 ac (updN (dr9 ac) d 0)) 4)] H := hP
      have hD : va_D A [oB b n lvA aiA laA ac woA drA, aI cI woA 5 (updN wo ac x9), aR cR drA 5 r, aI cI (r 0) 6 ((updF dr9 ac (updN (dr9 ac) d 0)) 0), aI cI (r 1) 6 ((updF dr9 ac (updN (dr9 ac) d 0)) 1), aI cI (r 2) 6 ((updF dr9 ac (updN (dr9 ac) d 0)) 2), aI cI (r 3) 6 ((updF dr9 ac (updN (dr9 ac) d 0)) 3), aI cI (r 4) 6 ((updF dr9 ac (updN (dr9 ac) d 0)) 4)] := hD
      refine lv_iinc (v := nI (d + 1)) (lv' := [(2, .int (nI (d + 1))), (0, .ref b), (1, .int (nI x9))]) hx hb dX1_addsAct_38 hl (k := 2) rfl (z_inc d 1) (by decide) rfl (fun ls hl => ?_)
      refine lv_goto (tgt := 20) hx hb dX1_addsAct_41 (by decide) ?_
      exact ih20 (6 - (d + 1)) (by omega) (d + 1) (updF dr9 ac (updN (dr9 ac) d 0)) rfl (by omega) (by rw [hdr9, updF_s, updF_u]; exact congrArg (updF dr ac) (cpy_s (fun _ => 0) (dr ac) d)) _ _ hP hD hS ls (lv_sub hl [1, 2, 0] rfl)
  exact hL20 _ 0 dr rfl (by omega) (by rw [cpy_0, updF_id]) _ _ hP hD hS ls (lv_sub hl [1, 2, 0] rfl)
set_option maxHeartbeats 1000000 in
set_option maxRecDepth 100000 in
theorem c_X1_latestActNeeds {l : Launch} {D : va_G} {cI cZ cB cR : ClassId} {b : Nat} {n lvA aiA laA ac woA drA : Nat} {r : Nat → Nat} {dr : Nat → Nat → Nat} {d x9 : Nat} (hac : 0 < ac) (hac5 : ac ≤ 5) (hd : d < n) (hn : n ≤ 6) : mW l yX1_latestActNeeds cX1_latestActNeeds 3 none 0 0 D cI cZ cB cR [oB b n lvA aiA laA ac woA drA, aR cR drA 5 r, aI cI (r 0) 6 (dr 0), aI cI (r 1) 6 (dr 1), aI cI (r 2) 6 (dr 2), aI cI (r 3) 6 (dr 3), aI cI (r 4) 6 (dr 4)] [oB b n lvA aiA laA ac woA drA, aR cR drA 5 r, aI cI (r 0) 6 (updF dr (ac - 1) (updN (dr (ac - 1)) d x9) 0), aI cI (r 1) 6 (updF dr (ac - 1) (updN (dr (ac - 1)) d x9) 1), aI cI (r 2) 6 (updF dr (ac - 1) (updN (dr (ac - 1)) d x9) 2), aI cI (r 3) 6 (updF dr (ac - 1) (updN (dr (ac - 1)) d x9) 3), aI cI (r 4) 6 (updF dr (ac - 1) (updN (dr (ac - 1)) d x9) 4)] [.ref b, .int (nI d), .int (nI x9)] (none) := by
  refine mW_of rfl (Nat.le_of_ble_eq_true rfl) ?_
  intro p e s m args below meth c hC hr hlk hK A hA hD H0 h0 hP hS ls hl
  have hP : va_P D vwCl [oB b n lvA aiA laA ac woA drA, aR cR drA 5 r, aI cI (r 0) 6 (dr 0), aI cI (r 1) 6 (dr 1), aI cI (r 2) 6 (dr 2), aI cI (r 3) 6 (dr 3), aI cI (r 4) 6 (dr 4)] H0 := hP
  have hl : lv_has ls 3 [(0, .ref b), (1, .int (nI d)), (2, .int (nI x9))] := hl
  obtain ⟨hx, hb, hml, hown, hts⟩ := id hC
  refine lv_aload_n hx hb dX1_latestActNeeds_0 rfl (lv_at hl 0 rfl) ?_
  refine z_get (k := 4) zcX1 hC hK hP 0 rfl (by decide) lF_X1_25 rfl dX1_latestActNeeds_1 ?_
  refine z0_le (tgt := 33) hC dX1_latestActNeeds_4 (by decide) (by omega) (fun c4 => by exfalso; omega) (fun c4 => ?_)
  refine lv_iload_n hx hb dX1_latestActNeeds_7 rfl (lv_at hl 1 rfl) ?_
  refine z0_lt (tgt := 33) hC dX1_latestActNeeds_8 (by decide) (by omega) ?_
  refine lv_iload_n hx hb dX1_latestActNeeds_11 rfl (lv_at hl 1 rfl) ?_
  refine lv_aload_n hx hb dX1_latestActNeeds_12 rfl (lv_at hl 0 rfl) ?_
  refine z_get (k := 0) zcX1 hC hK hP 0 rfl (by decide) lF_X1_9 rfl dX1_latestActNeeds_13 ?_
  refine zc_ge (tgt := 33) hC dX1_latestActNeeds_16 (by decide) (by omega) (by omega) (fun c16 => by exfalso; omega) (fun c16 => ?_)
  refine lv_aload_n hx hb dX1_latestActNeeds_19 rfl (lv_at hl 0 rfl) ?_
  refine z_get (k := 6) zcX1 hC hK hP 0 rfl (by decide) lF_X1_33 rfl dX1_latestActNeeds_20 ?_
  refine lv_aload_n hx hb dX1_latestActNeeds_23 rfl (lv_at hl 0 rfl) ?_
  refine z_get (k := 4) zcX1 hC hK hP 0 rfl (by decide) lF_X1_25 rfl dX1_latestActNeeds_24 ?_
  refine lv_iconst (v := nI 1) hx hb dX1_latestActNeeds_27 (by decide) ?_
  refine zi_sub hC dX1_latestActNeeds_28 (by omega) ?_
  refine z_rld hC hK hP 1 rfl (by omega) (by decide) dX1_latestActNeeds_29 ?_
  refine lv_iload_n hx hb dX1_latestActNeeds_30 rfl (lv_at hl 1 rfl) ?_
  refine lv_iload_n hx hb dX1_latestActNeeds_31 rfl (lv_at hl 2 rfl) ?_
  refine z_ast hC hK hP hD hS (2 + (ac - 1)) (row5 (X := [oB b n lvA aiA laA ac woA drA, aR cR drA 5 r]) (dr := dr) (by omega)) (by omega) (by decide) dX1_latestActNeeds_32 (fun H locs hP hD hS => ?_)
  rw [show (2 + (ac - 1)) = List.length [oB b n lvA aiA laA ac woA drA, aR cR drA 5 r] + (ac - 1) from rfl] at hP hD
  have hP := (row5_set (X := [oB b n lvA aiA laA ac woA drA, aR cR drA 5 r]) (cI := cI) (r := r) (dr := dr) (g := updN (dr (ac - 1)) d x9) (show ac - 1 < 5 by omega)) ▸ hP
  have hD := (row5_set (X := [oB b n lvA aiA laA ac woA drA, aR cR drA 5 r]) (cI := cI) (r := r) (dr := dr) (g := updN (dr (ac - 1)) d x9) (show ac - 1 < 5 by omega)) ▸ hD
  have hP : va_P D vwCl [oB b n lvA aiA laA ac woA drA, aR cR drA 5 r, aI cI (r 0) 6 ((updF dr (ac - 1) (updN (dr (ac - 1)) d x9)) 0), aI cI (r 1) 6 ((updF dr (ac - 1) (updN (dr (ac - 1)) d x9)) 1), aI cI (r 2) 6 ((updF dr (ac - 1) (updN (dr (ac - 1)) d x9)) 2), aI cI (r 3) 6 ((updF dr (ac - 1) (updN (dr (ac - 1)) d x9)) 3), aI cI (r 4) 6 ((updF dr (ac - 1) (updN (dr (ac - 1)) d x9)) 4)] H := hP
  have hD : va_D A [oB b n lvA aiA laA ac woA drA, aR cR drA 5 r, aI cI (r 0) 6 ((updF dr (ac - 1) (updN (dr (ac - 1)) d x9)) 0), aI cI (r 1) 6 ((updF dr (ac - 1) (updN (dr (ac - 1)) d x9)) 1), aI cI (r 2) 6 ((updF dr (ac - 1) (updN (dr (ac - 1)) d x9)) 2), aI cI (r 3) 6 ((updF dr (ac - 1) (updN (dr (ac - 1)) d x9)) 3), aI cI (r 4) 6 ((updF dr (ac - 1) (updN (dr (ac - 1)) d x9)) 4)] := hD
  exact zw_v hC hr hlk hA h0 hP hS dX1_latestActNeeds_33
set_option maxHeartbeats 1000000 in
set_option maxRecDepth 100000 in
theorem c_X1_exchangesLabels {l : Launch} {D : va_G} {cI cZ cB cR : ClassId} {b : Nat} {n lvA aiA laA ac woA drA : Nat} {bla : Nat → Nat} {d e9 : Nat} (hd : d < n) (he : e9 < n) (hn : n ≤ 6) : mW l yX1_exchangesLabels cX1_exchangesLabels 4 none 0 0 D cI cZ cB cR [oB b n lvA aiA laA ac woA drA, aI cI laA 6 bla] [oB b n lvA aiA laA ac woA drA, aI cI laA 6 (updN (updN bla d (bla e9)) e9 (bla d))] [.ref b, .int (nI d), .int (nI e9)] (none) := by
  refine mW_of rfl (Nat.le_of_ble_eq_true rfl) ?_
  intro p e s m args below meth c hC hr hlk hK A hA hD H0 h0 hP hS ls hl
  have hP : va_P D vwCl [oB b n lvA aiA laA ac woA drA, aI cI laA 6 bla] H0 := hP
  have hl : lv_has ls 4 [(0, .ref b), (1, .int (nI d)), (2, .int (nI e9))] := hl
  obtain ⟨hx, hb, hml, hown, hts⟩ := id hC
  refine lv_iload_n hx hb dX1_exchangesLabels_0 rfl (lv_at hl 1 rfl) ?_
  refine z0_lt (tgt := 50) hC dX1_exchangesLabels_1 (by decide) (by omega) ?_
  refine lv_iload_n hx hb dX1_exchangesLabels_4 rfl (lv_at hl 1 rfl) ?_
  refine lv_aload_n hx hb dX1_exchangesLabels_5 rfl (lv_at hl 0 rfl) ?_
  refine z_get (k := 0) zcX1 hC hK hP 0 rfl (by decide) lF_X1_9 rfl dX1_exchangesLabels_6 ?_
  refine zc_ge (tgt := 50) hC dX1_exchangesLabels_9 (by decide) (by omega) (by omega) (fun c9 => by exfalso; omega) (fun c9 => ?_)
  refine lv_iload_n hx hb dX1_exchangesLabels_12 rfl (lv_at hl 2 rfl) ?_
  refine z0_lt (tgt := 50) hC dX1_exchangesLabels_13 (by decide) (by omega) ?_
  refine lv_iload_n hx hb dX1_exchangesLabels_16 rfl (lv_at hl 2 rfl) ?_
  refine lv_aload_n hx hb dX1_exchangesLabels_17 rfl (lv_at hl 0 rfl) ?_
  refine z_get (k := 0) zcX1 hC hK hP 0 rfl (by decide) lF_X1_9 rfl dX1_exchangesLabels_18 ?_
  refine zc_ge (tgt := 50) hC dX1_exchangesLabels_21 (by decide) (by omega) (by omega) (fun c21 => by exfalso; omega) (fun c21 => ?_)
  refine lv_aload_n hx hb dX1_exchangesLabels_24 rfl (lv_at hl 0 rfl) ?_
  refine z_get (k := 3) zcX1 hC hK hP 0 rfl (by decide) lF_X1_22 rfl dX1_exchangesLabels_25 ?_
  refine lv_iload_n hx hb dX1_exchangesLabels_28 rfl (lv_at hl 1 rfl) ?_
  refine z_ald hC hK hP 1 rfl (by omega) (by decide) dX1_exchangesLabels_29 ?_
  refine lv_istore_n (lv' := [(3, .int (nI (bla d))), (0, .ref b), (1, .int (nI d)), (2, .int (nI e9))]) hx hb dX1_exchangesLabels_30 rfl hl (by decide) rfl (fun ls hl => ?_)
  refine lv_aload_n hx hb dX1_exchangesLabels_31 rfl (lv_at hl 1 rfl) ?_
  refine z_get (k := 3) zcX1 hC hK hP 0 rfl (by decide) lF_X1_22 rfl dX1_exchangesLabels_32 ?_
  refine lv_iload_n hx hb dX1_exchangesLabels_35 rfl (lv_at hl 2 rfl) ?_
  refine lv_aload_n hx hb dX1_exchangesLabels_36 rfl (lv_at hl 1 rfl) ?_
  refine z_get (k := 3) zcX1 hC hK hP 0 rfl (by decide) lF_X1_22 rfl dX1_exchangesLabels_37 ?_
  refine lv_iload_n hx hb dX1_exchangesLabels_40 rfl (lv_at hl 3 rfl) ?_
  refine z_ald hC hK hP 1 rfl (by omega) (by decide) dX1_exchangesLabels_41 ?_
  refine z_ast hC hK hP hD hS 1 rfl (by omega) (by decide) dX1_exchangesLabels_42 (fun H locs hP hD hS => ?_)
  have hP : va_P D vwCl [oB b n lvA aiA laA ac woA drA, aI cI laA 6 (updN bla d (bla e9))] H := hP
  have hD : va_D A [oB b n lvA aiA laA ac woA drA, aI cI laA 6 (updN bla d (bla e9))] := hD
  refine lv_aload_n hx hb dX1_exchangesLabels_43 rfl (lv_at hl 1 rfl) ?_
  refine z_get (k := 3) zcX1 hC hK hP 0 rfl (by decide) lF_X1_22 rfl dX1_exchangesLabels_44 ?_
  refine lv_iload_n hx hb dX1_exchangesLabels_47 rfl (lv_at hl 3 rfl) ?_
  refine lv_iload_n hx hb dX1_exchangesLabels_48 rfl (lv_at hl 0 rfl) ?_
  refine z_ast hC hK hP hD hS 1 rfl (by omega) (by decide) dX1_exchangesLabels_49 (fun H locs hP hD hS => ?_)
  have hP : va_P D vwCl [oB b n lvA aiA laA ac woA drA, aI cI laA 6 (updN (updN bla d (bla e9)) e9 (bla d))] H := hP
  have hD : va_D A [oB b n lvA aiA laA ac woA drA, aI cI laA 6 (updN (updN bla d (bla e9)) e9 (bla d))] := hD
  exact zw_v hC hr hlk hA h0 hP hS dX1_exchangesLabels_50
