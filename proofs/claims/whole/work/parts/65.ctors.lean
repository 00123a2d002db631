/-! constructors -/
theorem nM_X3_9 : zLkN RX3 9 yX2_init cX2_init 1 none 0 "KingDrops" := ⟨memU 94 (by decide +kernel), memU 96 (by decide +kernel), memU 77 (by decide +kernel), by decide +kernel⟩
theorem nM_X3_18 : zLkN RX3 18 yX1_init cX1_init 1 none 0 "KingDrops" := ⟨memU 121 (by decide +kernel), memU 123 (by decide +kernel), memU 78 (by decide +kernel), by decide +kernel⟩
theorem nM_X3_28 : zLkN RX3 28 yX0_init cX0_init 1 none 0 "KingDrops" := ⟨memU 159 (by decide +kernel), memU 161 (by decide +kernel), memU 79 (by decide +kernel), by decide +kernel⟩
theorem nM_L_9 : zLk RL 9 yX3_init cX3_init 1 none 0 := ⟨memU 86 (by decide +kernel), memU 88 (by decide +kernel), memU 76 (by decide +kernel), by decide +kernel⟩
theorem nM_L_12 : zLk RL 12 yX4_init cX4_init 1 none 0 := ⟨memU 573 (by decide +kernel), memU 575 (by decide +kernel), memU 80 (by decide +kernel), by decide +kernel⟩
theorem nI_X0 : Cond.instanceMethod yX0_init ∈ wsU := memU 160 (by decide +kernel)
theorem nI_X1 : Cond.instanceMethod yX1_init ∈ wsU := memU 122 (by decide +kernel)
theorem nI_X2 : Cond.instanceMethod yX2_init ∈ wsU := memU 95 (by decide +kernel)
theorem nI_X3 : Cond.instanceMethod yX3_init ∈ wsU := memU 87 (by decide +kernel)
theorem nI_X4 : Cond.instanceMethod yX4_init ∈ wsU := memU 574 (by decide +kernel)
theorem gF_X3_10 : Cond.fieldLink RX3 10 (TX3 0).1 (TX3 0).2.1 (TX3 0).2.2.1 ∈ wsU := memU 199 (by decide +kernel)
theorem gF_X3_19 : Cond.fieldLink RX3 19 (TX3 1).1 (TX3 1).2.1 (TX3 1).2.2.1 ∈ wsU := memU 200 (by decide +kernel)
theorem gF_X3_23 : Cond.fieldLink RX3 23 (TX3 2).1 (TX3 2).2.1 (TX3 2).2.2.1 ∈ wsU := memU 201 (by decide +kernel)
theorem gF_X3_29 : Cond.fieldLink RX3 29 (TX3 3).1 (TX3 3).2.1 (TX3 3).2.2.1 ∈ wsU := memU 202 (by decide +kernel)
theorem gF_X3_33 : Cond.fieldLink RX3 33 (TX3 4).1 (TX3 4).2.1 (TX3 4).2.2.1 ∈ wsU := memU 203 (by decide +kernel)
theorem gF_X3_36 : Cond.fieldLink RX3 36 (TX3 5).1 (TX3 5).2.1 (TX3 5).2.2.1 ∈ wsU := memU 204 (by decide +kernel)
theorem gF_X3_39 : Cond.fieldLink RX3 39 (TX3 6).1 (TX3 6).2.1 (TX3 6).2.2.1 ∈ wsU := memU 205 (by decide +kernel)
theorem gF_X3_43 : Cond.fieldLink RX3 43 (TX3 7).1 (TX3 7).2.1 (TX3 7).2.2.1 ∈ wsU := memU 206 (by decide +kernel)
theorem gF_X3_47 : Cond.fieldLink RX3 47 (TX3 8).1 (TX3 8).2.1 (TX3 8).2.2.1 ∈ wsU := memU 207 (by decide +kernel)
theorem gF_X3_51 : Cond.fieldLink RX3 51 (TX3 9).1 (TX3 9).2.1 (TX3 9).2.2.1 ∈ wsU := memU 208 (by decide +kernel)
theorem gF_X3_54 : Cond.fieldLink RX3 54 (TX3 10).1 (TX3 10).2.1 (TX3 10).2.2.1 ∈ wsU := memU 209 (by decide +kernel)
theorem gF_X0_11 : Cond.fieldLink RX0 11 (TX0 0).1 (TX0 0).2.1 (TX0 0).2.2.1 ∈ wsU := memU 163 (by decide +kernel)
theorem gF_X0_15 : Cond.fieldLink RX0 15 (TX0 1).1 (TX0 1).2.1 (TX0 1).2.2.1 ∈ wsU := memU 165 (by decide +kernel)
theorem gF_X0_18 : Cond.fieldLink RX0 18 (TX0 2).1 (TX0 2).2.1 (TX0 2).2.2.1 ∈ wsU := memU 167 (by decide +kernel)
theorem gF_X0_21 : Cond.fieldLink RX0 21 (TX0 3).1 (TX0 3).2.1 (TX0 3).2.2.1 ∈ wsU := memU 169 (by decide +kernel)
theorem gF_X0_25 : Cond.fieldLink RX0 25 (TX0 4).1 (TX0 4).2.1 (TX0 4).2.2.1 ∈ wsU := memU 171 (by decide +kernel)
theorem gF_X0_28 : Cond.fieldLink RX0 28 (TX0 5).1 (TX0 5).2.1 (TX0 5).2.2.1 ∈ wsU := memU 173 (by decide +kernel)
theorem gF_X0_31 : Cond.fieldLink RX0 31 (TX0 6).1 (TX0 6).2.1 (TX0 6).2.2.1 ∈ wsU := memU 175 (by decide +kernel)
theorem gF_X0_34 : Cond.fieldLink RX0 34 (TX0 7).1 (TX0 7).2.1 (TX0 7).2.2.1 ∈ wsU := memU 177 (by decide +kernel)
theorem gF_X0_37 : Cond.fieldLink RX0 37 (TX0 8).1 (TX0 8).2.1 (TX0 8).2.2.1 ∈ wsU := memU 178 (by decide +kernel)
theorem gF_X1_9 : Cond.fieldLink RX1 9 (TX1 0).1 (TX1 0).2.1 (TX1 0).2.2.1 ∈ wsU := memU 127 (by decide +kernel)
theorem gF_X1_15 : Cond.fieldLink RX1 15 (TX1 1).1 (TX1 1).2.1 (TX1 1).2.2.1 ∈ wsU := memU 130 (by decide +kernel)
theorem gF_X1_19 : Cond.fieldLink RX1 19 (TX1 2).1 (TX1 2).2.1 (TX1 2).2.2.1 ∈ wsU := memU 132 (by decide +kernel)
theorem gF_X1_22 : Cond.fieldLink RX1 22 (TX1 3).1 (TX1 3).2.1 (TX1 3).2.2.1 ∈ wsU := memU 134 (by decide +kernel)
theorem gF_X1_25 : Cond.fieldLink RX1 25 (TX1 4).1 (TX1 4).2.1 (TX1 4).2.2.1 ∈ wsU := memU 136 (by decide +kernel)
theorem gF_X1_28 : Cond.fieldLink RX1 28 (TX1 5).1 (TX1 5).2.1 (TX1 5).2.2.1 ∈ wsU := memU 139 (by decide +kernel)
theorem gF_X1_33 : Cond.fieldLink RX1 33 (TX1 6).1 (TX1 6).2.1 (TX1 6).2.2.1 ∈ wsU := memU 141 (by decide +kernel)
theorem gF_X2_9 : Cond.fieldLink RX2 9 (TX2 0).1 (TX2 0).2.1 (TX2 0).2.2.1 ∈ wsU := memU 98 (by decide +kernel)
theorem gF_X2_15 : Cond.fieldLink RX2 15 (TX2 1).1 (TX2 1).2.1 (TX2 1).2.2.1 ∈ wsU := memU 99 (by decide +kernel)
theorem gF_X2_19 : Cond.fieldLink RX2 19 (TX2 2).1 (TX2 2).2.1 (TX2 2).2.2.1 ∈ wsU := memU 101 (by decide +kernel)
theorem gF_X2_22 : Cond.fieldLink RX2 22 (TX2 3).1 (TX2 3).2.1 (TX2 3).2.2.1 ∈ wsU := memU 102 (by decide +kernel)
theorem gF_X2_25 : Cond.fieldLink RX2 25 (TX2 4).1 (TX2 4).2.1 (TX2 4).2.2.1 ∈ wsU := memU 103 (by decide +kernel)
theorem gF_X2_28 : Cond.fieldLink RX2 28 (TX2 5).1 (TX2 5).2.1 (TX2 5).2.2.1 ∈ wsU := memU 104 (by decide +kernel)
theorem gF_X4_7 : Cond.fieldLink RX4 7 (TX4 1).1 (TX4 1).2.1 (TX4 1).2.2.1 ∈ wsU := memU 586 (by decide +kernel)
theorem gF_X4_13 : Cond.fieldLink RX4 13 (TX4 3).1 (TX4 3).2.1 (TX4 3).2.2.1 ∈ wsU := memU 588 (by decide +kernel)
theorem gF_X4_17 : Cond.fieldLink RX4 17 (TX4 4).1 (TX4 4).2.1 (TX4 4).2.2.1 ∈ wsU := memU 589 (by decide +kernel)
theorem gF_X4_20 : Cond.fieldLink RX4 20 (TX4 5).1 (TX4 5).2.1 (TX4 5).2.2.1 ∈ wsU := memU 590 (by decide +kernel)
theorem gF_X4_23 : Cond.fieldLink RX4 23 (TX4 6).1 (TX4 6).2.1 (TX4 6).2.2.1 ∈ wsU := memU 591 (by decide +kernel)
theorem gF_X4_26 : Cond.fieldLink RX4 26 (TX4 7).1 (TX4 7).2.1 (TX4 7).2.2.1 ∈ wsU := memU 592 (by decide +kernel)
theorem gF_X4_29 : Cond.fieldLink RX4 29 (TX4 8).1 (TX4 8).2.1 (TX4 8).2.2.1 ∈ wsU := memU 593 (by decide +kernel)
theorem gF_X4_32 : Cond.fieldLink RX4 32 (TX4 9).1 (TX4 9).2.1 (TX4 9).2.2.1 ∈ wsU := memU 594 (by decide +kernel)
theorem gF_X4_35 : Cond.fieldLink RX4 35 (TX4 15).1 (TX4 15).2.1 (TX4 15).2.2.1 ∈ wsU := memU 600 (by decide +kernel)
theorem gF_X4_38 : Cond.fieldLink RX4 38 (TX4 16).1 (TX4 16).2.1 (TX4 16).2.2.1 ∈ wsU := memU 601 (by decide +kernel)
theorem gF_X4_42 : Cond.fieldLink RX4 42 (TX4 17).1 (TX4 17).2.1 (TX4 17).2.2.1 ∈ wsU := memU 602 (by decide +kernel)
theorem gF_X4_45 : Cond.fieldLink RX4 45 (TX4 18).1 (TX4 18).2.1 (TX4 18).2.2.1 ∈ wsU := memU 603 (by decide +kernel)
theorem gF_X4_48 : Cond.fieldLink RX4 48 (TX4 20).1 (TX4 20).2.1 (TX4 20).2.2.1 ∈ wsU := memU 605 (by decide +kernel)
theorem gF_X4_61 : Cond.fieldLink RX4 61 (TX4 2).1 (TX4 2).2.1 (TX4 2).2.2.1 ∈ wsU := memU 587 (by decide +kernel)
theorem gF_X4_65 : Cond.fieldLink RX4 65 (TX4 10).1 (TX4 10).2.1 (TX4 10).2.2.1 ∈ wsU := memU 595 (by decide +kernel)
theorem gF_X4_72 : Cond.fieldLink RX4 72 (TX4 11).1 (TX4 11).2.1 (TX4 11).2.2.1 ∈ wsU := memU 596 (by decide +kernel)
theorem gF_X4_75 : Cond.fieldLink RX4 75 (TX4 13).1 (TX4 13).2.1 (TX4 13).2.2.1 ∈ wsU := memU 598 (by decide +kernel)
theorem gF_X4_78 : Cond.fieldLink RX4 78 (TX4 12).1 (TX4 12).2.1 (TX4 12).2.2.1 ∈ wsU := memU 597 (by decide +kernel)
theorem gF_X4_81 : Cond.fieldLink RX4 81 (TX4 14).1 (TX4 14).2.1 (TX4 14).2.2.1 ∈ wsU := memU 599 (by decide +kernel)
theorem gF_X4_98 : Cond.fieldLink RX4 98 (TX4 19).1 (TX4 19).2.1 (TX4 19).2.2.1 ∈ wsU := memU 604 (by decide +kernel)
theorem gF_X4_164 : Cond.fieldLink RX4 164 (TX4 0).1 (TX4 0).2.1 (TX4 0).2.2.1 ∈ wsU := memU 585 (by decide +kernel)
theorem nC_X3_7 : Cond.classLink RX3 7 RX2 ∈ wsU := memU 92 (by decide +kernel)
theorem nC_X3_16 : Cond.classLink RX3 16 RX1 ∈ wsU := memU 119 (by decide +kernel)
theorem nC_X3_26 : Cond.classLink RX3 26 RX0 ∈ wsU := memU 157 (by decide +kernel)
theorem nC_L_7 : Cond.classLink RL 7 RX3 ∈ wsU := memU 84 (by decide +kernel)
theorem nC_L_10 : Cond.classLink RL 10 RX4 ∈ wsU := memU 571 (by decide +kernel)
theorem nN_X0 : Cond.instantiable RX0 9 ∈ wsU := memU 158 (by decide +kernel)
theorem nZ_X0 : Cond.initialized RX0 ∈ wsU := memU 79 (by decide +kernel)
theorem nN_X1 : Cond.instantiable RX1 7 ∈ wsU := memU 120 (by decide +kernel)
theorem nZ_X1 : Cond.initialized RX1 ∈ wsU := memU 78 (by decide +kernel)
theorem nN_X2 : Cond.instantiable RX2 6 ∈ wsU := memU 93 (by decide +kernel)
theorem nZ_X2 : Cond.initialized RX2 ∈ wsU := memU 77 (by decide +kernel)
theorem nN_X3 : Cond.instantiable RX3 11 ∈ wsU := memU 85 (by decide +kernel)
theorem nZ_X3 : Cond.initialized RX3 ∈ wsU := memU 76 (by decide +kernel)
theorem nN_X4 : Cond.instantiable RX4 21 ∈ wsU := memU 572 (by decide +kernel)
theorem nZ_X4 : Cond.initialized RX4 ∈ wsU := memU 80 (by decide +kernel)
theorem nD_X0 : ∀ j, j < 9 → defaultValue (tyX0 j) = vp_V [.null, .null, .null, .int 0, .int 0, .int 0, .int 0, .null, .int 0] j := by
  intro j hj
  match j, hj with
  | 0, _ => rfl
  | 1, _ => rfl
  | 2, _ => rfl
  | 3, _ => rfl
  | 4, _ => rfl
  | 5, _ => rfl
  | 6, _ => rfl
  | 7, _ => rfl
  | 8, _ => rfl
theorem nD_X1 : ∀ j, j < 7 → defaultValue (tyX1 j) = vp_V [.int 0, .null, .null, .null, .int 0, .null, .null] j := by
  intro j hj
  match j, hj with
  | 0, _ => rfl
  | 1, _ => rfl
  | 2, _ => rfl
  | 3, _ => rfl
  | 4, _ => rfl
  | 5, _ => rfl
  | 6, _ => rfl
theorem nD_X2 : ∀ j, j < 6 → defaultValue (tyX2 j) = vp_V [.null, .int 0, .int 0, .int 0, .int 0, .int 0] j := by
  intro j hj
  match j, hj with
  | 0, _ => rfl
  | 1, _ => rfl
  | 2, _ => rfl
  | 3, _ => rfl
  | 4, _ => rfl
  | 5, _ => rfl
theorem nD_X3 : ∀ j, j < 11 → defaultValue (tyX3 j) = vp_V [.null, .null, .null, .null, .null, .null, .int 0, .null, .null, .int 0, .long 0] j := by
  intro j hj
  match j, hj with
  | 0, _ => rfl
  | 1, _ => rfl
  | 2, _ => rfl
  | 3, _ => rfl
  | 4, _ => rfl
  | 5, _ => rfl
  | 6, _ => rfl
  | 7, _ => rfl
  | 8, _ => rfl
  | 9, _ => rfl
  | 10, _ => rfl
theorem nD_X4 : ∀ j, j < 21 → defaultValue (tyX4 j) = vp_V [.long 0, .null, .int 0, .null, .null, .null, .null, .null, .null, .null, .int 0, .int 0, .int 0, .int 0, .int 0, .null, .null, .null, .null, .int 0, .null] j := by
  intro j hj
  match j, hj with
  | 0, _ => rfl
  | 1, _ => rfl
  | 2, _ => rfl
  | 3, _ => rfl
  | 4, _ => rfl
  | 5, _ => rfl
  | 6, _ => rfl
  | 7, _ => rfl
  | 8, _ => rfl
  | 9, _ => rfl
  | 10, _ => rfl
  | 11, _ => rfl
  | 12, _ => rfl
  | 13, _ => rfl
  | 14, _ => rfl
  | 15, _ => rfl
  | 16, _ => rfl
  | 17, _ => rfl
  | 18, _ => rfl
  | 19, _ => rfl
  | 20, _ => rfl
  | k + 21, h => omega
def bX2 (cI : ClassId) (b : Nat) (w : va_W) : Prop := ∃ f : Nat → Nat, w = [oT b (f 1) 0 0 0 0 0, aI cI (f 1) 150 (fun _ => 0)]
def bX0 (cI : ClassId) (b : Nat) (w : va_W) : Prop := ∃ f : Nat → Nat, w = [oP b (f 1) (f 2) (f 3) 0 0 0 0 (f 4) 0, aI cI (f 1) 6 (fun _ => 0), aI cI (f 2) 6 (fun _ => 0), aI cI (f 3) 6 (fun _ => 0), aI cI (f 4) 220 (fun _ => 0)]
def bX1 (cI cR : ClassId) (b : Nat) (w : va_W) : Prop := ∃ f : Nat → Nat, w = [oB b 0 (f 1) (f 2) (f 3) 0 (f 4) (f 5), aI cI (f 1) 6 (fun _ => 0), aI cI (f 2) 6 (fun _ => 0), aI cI (f 3) 6 (fun _ => 0), aI cI (f 4) 5 (fun _ => 0), aR cR (f 5) 5 (fun i => f (6 + i)), aI cI (f 6) 6 (fun _ => 0), aI cI (f 7) 6 (fun _ => 0), aI cI (f 8) 6 (fun _ => 0), aI cI (f 9) 6 (fun _ => 0), aI cI (f 10) 6 (fun _ => 0)]
set_option maxHeartbeats 4000000 in
set_option maxRecDepth 100000 in
theorem c_X2_init {l : Launch} {D : va_G} {cI cZ cB cR : ClassId} {b sz : Nat} : mA l yX2_init cX2_init 1 1 12 1 150 D cI cZ cB cR b sz (.inr (2, [.null, .int 0, .int 0, .int 0, .int 0, .int 0])) (bX2 cI b) := by
  refine mA_of rfl (Nat.le_of_ble_eq_true rfl) ?_
  intro p e s m args below meth c hC hr hlk hnm hK hG hsz A hAe hA hD hP hS ls hl
  have hl : lv_has ls 1 [(0, .ref b)] := hl
  obtain ⟨hx, hb, hml, hown, hts⟩ := id hC
  refine lv_aload_n hx hb dX2_init_0 rfl (lv_at hl 0 rfl) ?_
  refine W.objInit hx hb hown (hts _ oW_X2) (hts _ oW_i) (hts _ oW_c) rfl (by rw [hml]; exact hl.1) rfl dX2_init_1 (Nat.le_of_ble_eq_true rfl) (Nat.le_of_ble_eq_true rfl) ?_
  refine W.eq (g2 := F0 m 4 ls []) rfl ?_
  refine lv_aload_n hx hb dX2_init_4 rfl (lv_at hl 0 rfl) ?_
  refine lv_sipush (v := nI 150) hx hb dX2_init_5 (by decide) ?_
  refine z_newI hC hK hP hD hS hA (n := 150) (by decide) (Nat.le_of_ble_eq_true rfl) (Nat.le_of_ble_eq_true rfl) dX2_init_8 (fun q1 H hP hD hS => ?_)
  have hP : va_P D vwCl [(b, .inr (2, [.null, .int 0, .int 0, .int 0, .int 0, .int 0])), aI cI q1 150 (fun _ => 0)] H := hP
  have hD : va_D A [(b, .inr (2, [.null, .int 0, .int 0, .int 0, .int 0, .int 0])), aI cI q1 150 (fun _ => 0)] := hD
  refine W.widen (k := 1) (n := 150) (Nat.le_of_ble_eq_true rfl) (Nat.le_of_ble_eq_true rfl) ?_
  refine z_putF (k := 0) zcX2 hC hnm hK hP hD hS 0 rfl (by decide) gF_X2_9 rfl rfl rfl rfl (Nat.le_of_ble_eq_true rfl) dX2_init_10 (fun H locs hP hD hS => ?_)
  have hP : va_P D vwCl [(b, .inr (2, [.ref q1, .int 0, .int 0, .int 0, .int 0, .int 0])), aI cI q1 150 (fun _ => 0)] H := hP
  have hD : va_D A [(b, .inr (2, [.ref q1, .int 0, .int 0, .int 0, .int 0, .int 0])), aI cI q1 150 (fun _ => 0)] := hD
  refine lv_aload_n hx hb dX2_init_13 rfl (lv_at hl 0 rfl) ?_
  refine lv_iconst (v := nI 0) hx hb dX2_init_14 (by decide) ?_
  refine z_put (k := 1) zcX2 hC hK hP hD hS 0 rfl (by decide) lF_X2_15 rfl rfl rfl (Nat.le_of_ble_eq_true rfl) dX2_init_15 (fun H locs hP hD hS => ?_)
  have hP : va_P D vwCl [(b, .inr (2, [.ref q1, .int (nI 0), .int 0, .int 0, .int 0, .int 0])), aI cI q1 150 (fun _ => 0)] H := hP
  have hD : va_D A [(b, .inr (2, [.ref q1, .int (nI 0), .int 0, .int 0, .int 0, .int 0])), aI cI q1 150 (fun _ => 0)] := hD
  refine lv_aload_n hx hb dX2_init_18 rfl (lv_at hl 0 rfl) ?_
  refine lv_iconst (v := nI 0) hx hb dX2_init_19 (by decide) ?_
  refine z_put (k := 2) zcX2 hC hK hP hD hS 0 rfl (by decide) lF_X2_19 rfl rfl rfl (Nat.le_of_ble_eq_true rfl) dX2_init_20 (fun H locs hP hD hS => ?_)
  have hP : va_P D vwCl [(b, .inr (2, [.ref q1, .int (nI 0), .int (nI 0), .int 0, .int 0, .int 0])), aI cI q1 150 (fun _ => 0)] H := hP
  have hD : va_D A [(b, .inr (2, [.ref q1, .int (nI 0), .int (nI 0), .int 0, .int 0, .int 0])), aI cI q1 150 (fun _ => 0)] := hD
  refine lv_aload_n hx hb dX2_init_23 rfl (lv_at hl 0 rfl) ?_
  refine lv_iconst (v := nI 0) hx hb dX2_init_24 (by decide) ?_
  refine z_put (k := 3) zcX2 hC hK hP hD hS 0 rfl (by decide) lF_X2_22 rfl rfl rfl (Nat.le_of_ble_eq_true rfl) dX2_init_25 (fun H locs hP hD hS => ?_)
  have hP : va_P D vwCl [(b, .inr (2, [.ref q1, .int (nI 0), .int (nI 0), .int (nI 0), .int 0, .int 0])), aI cI q1 150 (fun _ => 0)] H := hP
  have hD : va_D A [(b, .inr (2, [.ref q1, .int (nI 0), .int (nI 0), .int (nI 0), .int 0, .int 0])), aI cI q1 150 (fun _ => 0)] := hD
  refine lv_aload_n hx hb dX2_init_28 rfl (lv_at hl 0 rfl) ?_
  refine lv_iconst (v := nI 0) hx hb dX2_init_29 (by decide) ?_
  refine z_put (k := 4) zcX2 hC hK hP hD hS 0 rfl (by decide) lF_X2_25 rfl rfl rfl (Nat.le_of_ble_eq_true rfl) dX2_init_30 (fun H locs hP hD hS => ?_)
  have hP : va_P D vwCl [(b, .inr (2, [.ref q1, .int (nI 0), .int (nI 0), .int (nI 0), .int (nI 0), .int 0])), aI cI q1 150 (fun _ => 0)] H := hP
  have hD : va_D A [(b, .inr (2, [.ref q1, .int (nI 0), .int (nI 0), .int (nI 0), .int (nI 0), .int 0])), aI cI q1 150 (fun _ => 0)] := hD
  refine lv_aload_n hx hb dX2_init_33 rfl (lv_at hl 0 rfl) ?_
  refine lv_iconst (v := nI 0) hx hb dX2_init_34 (by decide) ?_
  refine z_put (k := 5) zcX2 hC hK hP hD hS 0 rfl (by decide) lF_X2_28 rfl rfl rfl (Nat.le_of_ble_eq_true rfl) dX2_init_35 (fun H locs hP hD hS => ?_)
  have hP : va_P D vwCl [(b, .inr (2, [.ref q1, .int (nI 0), .int (nI 0), .int (nI 0), .int (nI 0), .int (nI 0)])), aI cI q1 150 (fun _ => 0)] H := hP
  have hD : va_D A [(b, .inr (2, [.ref q1, .int (nI 0), .int (nI 0), .int (nI 0), .int (nI 0), .int (nI 0)])), aI cI q1 150 (fun _ => 0)] := hD
  exact zA_v hC hr hlk hAe hP hD hS ⟨(fun k => [b, q1].getD k 0), rfl⟩ dX2_init_38
set_option maxHeartbeats 4000000 in
set_option maxRecDepth 100000 in
theorem c_X0_init {l : Launch} {D : va_G} {cI cZ cB cR : ClassId} {b sz : Nat} : mA l yX0_init cX0_init 1 1 12 4 238 D cI cZ cB cR b sz (.inr (0, [.null, .null, .null, .int 0, .int 0, .int 0, .int 0, .null, .int 0])) (bX0 cI b) := by
  refine mA_of rfl (Nat.le_of_ble_eq_true rfl) ?_
  intro p e s m args below meth c hC hr hlk hnm hK hG hsz A hAe hA hD hP hS ls hl
  have hl : lv_has ls 1 [(0, .ref b)] := hl
  obtain ⟨hx, hb, hml, hown, hts⟩ := id hC
  refine lv_aload_n hx hb dX0_init_0 rfl (lv_at hl 0 rfl) ?_
  refine W.objInit hx hb hown (hts _ oW_X0) (hts _ oW_i) (hts _ oW_c) rfl (by rw [hml]; exact hl.1) rfl dX0_init_1 (Nat.le_of_ble_eq_true rfl) (Nat.le_of_ble_eq_true rfl) ?_
  refine W.eq (g2 := F0 m 4 ls []) rfl ?_
  refine lv_aload_n hx hb dX0_init_4 rfl (lv_at hl 0 rfl) ?_
  refine lv_bipush (v := nI 6) hx hb dX0_init_5 (by decide) ?_
  refine z_newI hC hK hP hD hS hA (n := 6) (by decide) (Nat.le_of_ble_eq_true rfl) (Nat.le_of_ble_eq_true rfl) dX0_init_7 (fun q1 H hP hD hS => ?_)
  have hP : va_P D vwCl [(b, .inr (0, [.null, .null, .null, .int 0, .int 0, .int 0, .int 0, .null, .int 0])), aI cI q1 6 (fun _ => 0)] H := hP
  have hD : va_D A [(b, .inr (0, [.null, .null, .null, .int 0, .int 0, .int 0, .int 0, .null, .int 0])), aI cI q1 6 (fun _ => 0)] := hD
  refine W.widen (k := 1) (n := 6) (Nat.le_of_ble_eq_true rfl) (Nat.le_of_ble_eq_true rfl) ?_
  refine z_putF (k := 0) zcX0 hC hnm hK hP hD hS 0 rfl (by decide) gF_X0_11 rfl rfl rfl rfl (Nat.le_of_ble_eq_true rfl) dX0_init_9 (fun H locs hP hD hS => ?_)
  have hP : va_P D vwCl [(b, .inr (0, [.ref q1, .null, .null, .int 0, .int 0, .int 0, .int 0, .null, .int 0])), aI cI q1 6 (fun _ => 0)] H := hP
  have hD : va_D A [(b, .inr (0, [.ref q1, .null, .null, .int 0, .int 0, .int 0, .int 0, .null, .int 0])), aI cI q1 6 (fun _ => 0)] := hD
  refine lv_aload_n hx hb dX0_init_12 rfl (lv_at hl 0 rfl) ?_
  refine lv_bipush (v := nI 6) hx hb dX0_init_13 (by decide) ?_
  refine z_newI hC hK hP hD hS hA (n := 6) (by decide) (Nat.le_of_ble_eq_true rfl) (Nat.le_of_ble_eq_true rfl) dX0_init_15 (fun q2 H hP hD hS => ?_)
  have hP : va_P D vwCl [(b, .inr (0, [.ref q1, .null, .null, .int 0, .int 0, .int 0, .int 0, .null, .int 0])), aI cI q1 6 (fun _ => 0), aI cI q2 6 (fun _ => 0)] H := hP
  have hD : va_D A [(b, .inr (0, [.ref q1, .null, .null, .int 0, .int 0, .int 0, .int 0, .null, .int 0])), aI cI q1 6 (fun _ => 0), aI cI q2 6 (fun _ => 0)] := hD
  refine W.widen (k := 2) (n := 12) (Nat.le_of_ble_eq_true rfl) (Nat.le_of_ble_eq_true rfl) ?_
  refine z_putF (k := 1) zcX0 hC hnm hK hP hD hS 0 rfl (by decide) gF_X0_15 rfl rfl rfl rfl (Nat.le_of_ble_eq_true rfl) dX0_init_17 (fun H locs hP hD hS => ?_)
  have hP : va_P D vwCl [(b, .inr (0, [.ref q1, .ref q2, .null, .int 0, .int 0, .int 0, .int 0, .null, .int 0])), aI cI q1 6 (fun _ => 0), aI cI q2 6 (fun _ => 0)] H := hP
  have hD : va_D A [(b, .inr (0, [.ref q1, .ref q2, .null, .int 0, .int 0, .int 0, .int 0, .null, .int 0])), aI cI q1 6 (fun _ => 0), aI cI q2 6 (fun _ => 0)] := hD
  refine lv_aload_n hx hb dX0_init_20 rfl (lv_at hl 0 rfl) ?_
  refine lv_bipush (v := nI 6) hx hb dX0_init_21 (by decide) ?_
  refine z_newI hC hK hP hD hS hA (n := 6) (by decide) (Nat.le_of_ble_eq_true rfl) (Nat.le_of_ble_eq_true rfl) dX0_init_23 (fun q3 H hP hD hS => ?_)
  have hP : va_P D vwCl [(b, .inr (0, [.ref q1, .ref q2, .null, .int 0, .int 0, .int 0, .int 0, .null, .int 0])), aI cI q1 6 (fun _ => 0), aI cI q2 6 (fun _ => 0), aI cI q3 6 (fun _ => 0)] H := hP
  have hD : va_D A [(b, .inr (0, [.ref q1, .ref q2, .null, .int 0, .int 0, .int 0, .int 0, .null, .int 0])), aI cI q1 6 (fun _ => 0), aI cI q2 6 (fun _ => 0), aI cI q3 6 (fun _ => 0)] := hD
  refine W.widen (k := 3) (n := 18) (Nat.le_of_ble_eq_true rfl) (Nat.le_of_ble_eq_true rfl) ?_
  refine z_putF (k := 2) zcX0 hC hnm hK hP hD hS 0 rfl (by decide) gF_X0_18 rfl rfl rfl rfl (Nat.le_of_ble_eq_true rfl) dX0_init_25 (fun H locs hP hD hS => ?_)
  have hP : va_P D vwCl [(b, .inr (0, [.ref q1, .ref q2, .ref q3, .int 0, .int 0, .int 0, .int 0, .null, .int 0])), aI cI q1 6 (fun _ => 0), aI cI q2 6 (fun _ => 0), aI cI q3 6 (fun _ => 0)] H := hP
  have hD : va_D A [(b, .inr (0, [.ref q1, .ref q2, .ref q3, .int 0, .int 0, .int 0, .int 0, .null, .int 0])), aI cI q1 6 (fun _ => 0), aI cI q2 6 (fun _ => 0), aI cI q3 6 (fun _ => 0)] := hD
  refine lv_aload_n hx hb dX0_init_28 rfl (lv_at hl 0 rfl) ?_
  refine lv_iconst (v := nI 0) hx hb dX0_init_29 (by decide) ?_
  refine z_put (k := 3) zcX0 hC hK hP hD hS 0 rfl (by decide) lF_X0_21 rfl rfl rfl (Nat.le_of_ble_eq_true rfl) dX0_init_30 (fun H locs hP hD hS => ?_)
  have hP : va_P D vwCl [(b, .inr (0, [.ref q1, .ref q2, .ref q3, .int (nI 0), .int 0, .int 0, .int 0, .null, .int 0])), aI cI q1 6 (fun _ => 0), aI cI q2 6 (fun _ => 0), aI cI q3 6 (fun _ => 0)] H := hP
  have hD : va_D A [(b, .inr (0, [.ref q1, .ref q2, .ref q3, .int (nI 0), .int 0, .int 0, .int 0, .null, .int 0])), aI cI q1 6 (fun _ => 0), aI cI q2 6 (fun _ => 0), aI cI q3 6 (fun _ => 0)] := hD
  refine lv_aload_n hx hb dX0_init_33 rfl (lv_at hl 0 rfl) ?_
  refine lv_iconst (v := nI 0) hx hb dX0_init_34 (by decide) ?_
  refine z_put (k := 4) zcX0 hC hK hP hD hS 0 rfl (by decide) lF_X0_25 rfl rfl rfl (Nat.le_of_ble_eq_true rfl) dX0_init_35 (fun H locs hP hD hS => ?_)
  have hP : va_P D vwCl [(b, .inr (0, [.ref q1, .ref q2, .ref q3, .int (nI 0), .int (nI 0), .int 0, .int 0, .null, .int 0])), aI cI q1 6 (fun _ => 0), aI cI q2 6 (fun _ => 0), aI cI q3 6 (fun _ => 0)] H := hP
  have hD : va_D A [(b, .inr (0, [.ref q1, .ref q2, .ref q3, .int (nI 0), .int (nI 0), .int 0, .int 0, .null, .int 0])), aI cI q1 6 (fun _ => 0), aI cI q2 6 (fun _ => 0), aI cI q3 6 (fun _ => 0)] := hD
  refine lv_aload_n hx hb dX0_init_38 rfl (lv_at hl 0 rfl) ?_
  refine lv_iconst (v := nI 0) hx hb dX0_init_39 (by decide) ?_
  refine z_put (k := 5) zcX0 hC hK hP hD hS 0 rfl (by decide) lF_X0_28 rfl rfl rfl (Nat.le_of_ble_eq_true rfl) dX0_init_40 (fun H locs hP hD hS => ?_)
  have hP : va_P D vwCl [(b, .inr (0, [.ref q1, .ref q2, .ref q3, .int (nI 0), .int (nI 0), .int (nI 0), .int 0, .null, .int 0])), aI cI q1 6 (fun _ => 0), aI cI q2 6 (fun _ => 0), aI cI q3 6 (fun _ => 0)] H := hP
  have hD : va_D A [(b, .inr (0, [.ref q1, .ref q2, .ref q3, .int (nI 0), .int (nI 0), .int (nI 0), .int 0, .null, .int 0])), aI cI q1 6 (fun _ => 0), aI cI q2 6 (fun _ => 0), aI cI q3 6 (fun _ => 0)] := hD
  refine lv_aload_n hx hb dX0_init_43 rfl (lv_at hl 0 rfl) ?_
  refine lv_iconst (v := nI 0) hx hb dX0_init_44 (by decide) ?_
  refine z_put (k := 6) zcX0 hC hK hP hD hS 0 rfl (by decide) lF_X0_31 rfl rfl rfl (Nat.le_of_ble_eq_true rfl) dX0_init_45 (fun H locs hP hD hS => ?_)
  have hP : va_P D vwCl [(b, .inr (0, [.ref q1, .ref q2, .ref q3, .int (nI 0), .int (nI 0), .int (nI 0), .int (nI 0), .null, .int 0])), aI cI q1 6 (fun _ => 0), aI cI q2 6 (fun _ => 0), aI cI q3 6 (fun _ => 0)] H := hP
  have hD : va_D A [(b, .inr (0, [.ref q1, .ref q2, .ref q3, .int (nI 0), .int (nI 0), .int (nI 0), .int (nI 0), .null, .int 0])), aI cI q1 6 (fun _ => 0), aI cI q2 6 (fun _ => 0), aI cI q3 6 (fun _ => 0)] := hD
  refine lv_aload_n hx hb dX0_init_48 rfl (lv_at hl 0 rfl) ?_
  refine lv_sipush (v := nI 220) hx hb dX0_init_49 (by decide) ?_
  refine z_newI hC hK hP hD hS hA (n := 220) (by decide) (Nat.le_of_ble_eq_true rfl) (Nat.le_of_ble_eq_true rfl) dX0_init_52 (fun q4 H hP hD hS => ?_)
  have hP : va_P D vwCl [(b, .inr (0, [.ref q1, .ref q2, .ref q3, .int (nI 0), .int (nI 0), .int (nI 0), .int (nI 0), .null, .int 0])), aI cI q1 6 (fun _ => 0), aI cI q2 6 (fun _ => 0), aI cI q3 6 (fun _ => 0), aI cI q4 220 (fun _ => 0)] H := hP
  have hD : va_D A [(b, .inr (0, [.ref q1, .ref q2, .ref q3, .int (nI 0), .int (nI 0), .int (nI 0), .int (nI 0), .null, .int 0])), aI cI q1 6 (fun _ => 0), aI cI q2 6 (fun _ => 0), aI cI q3 6 (fun _ => 0), aI cI q4 220 (fun _ => 0)] := hD
  refine W.widen (k := 4) (n := 238) (Nat.le_of_ble_eq_true rfl) (Nat.le_of_ble_eq_true rfl) ?_
  refine z_putF (k := 7) zcX0 hC hnm hK hP hD hS 0 rfl (by decide) gF_X0_34 rfl rfl rfl rfl (Nat.le_of_ble_eq_true rfl) dX0_init_54 (fun H locs hP hD hS => ?_)
  have hP : va_P D vwCl [(b, .inr (0, [.ref q1, .ref q2, .ref q3, .int (nI 0), .int (nI 0), .int (nI 0), .int (nI 0), .ref q4, .int 0])), aI cI q1 6 (fun _ => 0), aI cI q2 6 (fun _ => 0), aI cI q3 6 (fun _ => 0), aI cI q4 220 (fun _ => 0)] H := hP
  have hD : va_D A [(b, .inr (0, [.ref q1, .ref q2, .ref q3, .int (nI 0), .int (nI 0), .int (nI 0), .int (nI 0), .ref q4, .int 0])), aI cI q1 6 (fun _ => 0), aI cI q2 6 (fun _ => 0), aI cI q3 6 (fun _ => 0), aI cI q4 220 (fun _ => 0)] := hD
  refine lv_aload_n hx hb dX0_init_57 rfl (lv_at hl 0 rfl) ?_
  refine lv_iconst (v := nI 0) hx hb dX0_init_58 (by decide) ?_
  refine z_put (k := 8) zcX0 hC hK hP hD hS 0 rfl (by decide) lF_X0_37 rfl rfl rfl (Nat.le_of_ble_eq_true rfl) dX0_init_59 (fun H locs hP hD hS => ?_)
  have hP : va_P D vwCl [(b, .inr (0, [.ref q1, .ref q2, .ref q3, .int (nI 0), .int (nI 0), .int (nI 0), .int (nI 0), .ref q4, .int (nI 0)])), aI cI q1 6 (fun _ => 0), aI cI q2 6 (fun _ => 0), aI cI q3 6 (fun _ => 0), aI cI q4 220 (fun _ => 0)] H := hP
  have hD : va_D A [(b, .inr (0, [.ref q1, .ref q2, .ref q3, .int (nI 0), .int (nI 0), .int (nI 0), .int (nI 0), .ref q4, .int (nI 0)])), aI cI q1 6 (fun _ => 0), aI cI q2 6 (fun _ => 0), aI cI q3 6 (fun _ => 0), aI cI q4 220 (fun _ => 0)] := hD
  exact zA_v hC hr hlk hAe hP hD hS ⟨(fun k => [b, q1, q2, q3, q4].getD k 0), rfl⟩ dX0_init_62
set_option maxHeartbeats 4000000 in
set_option maxRecDepth 100000 in
theorem c_X1_init {l : Launch} {D : va_G} {cI cZ cB cR : ClassId} {b sz : Nat} : mA l yX1_init cX1_init 1 1 12 10 58 D cI cZ cB cR b sz (.inr (1, [.int 0, .null, .null, .null, .int 0, .null, .null])) (bX1 cI cR b) := by
  refine mA_of rfl (Nat.le_of_ble_eq_true rfl) ?_
  intro p e s m args below meth c hC hr hlk hnm hK hG hsz A hAe hA hD hP hS ls hl
  have hl : lv_has ls 1 [(0, .ref b)] := hl
  obtain ⟨hx, hb, hml, hown, hts⟩ := id hC
  refine lv_aload_n hx hb dX1_init_0 rfl (lv_at hl 0 rfl) ?_
  refine W.objInit hx hb hown (hts _ oW_X1) (hts _ oW_i) (hts _ oW_c) rfl (by rw [hml]; exact hl.1) rfl dX1_init_1 (Nat.le_of_ble_eq_true rfl) (Nat.le_of_ble_eq_true rfl) ?_
  refine W.eq (g2 := F0 m 4 ls []) rfl ?_
  refine lv_aload_n hx hb dX1_init_4 rfl (lv_at hl 0 rfl) ?_
  refine lv_iconst (v := nI 0) hx hb dX1_init_5 (by decide) ?_
  refine z_put (k := 0) zcX1 hC hK hP hD hS 0 rfl (by decide) lF_X1_9 rfl rfl rfl (Nat.le_of_ble_eq_true rfl) dX1_init_6 (fun H locs hP hD hS => ?_)
  have hP : va_P D vwCl [(b, .inr (1, [.int (nI 0), .null, .null, .null, .int 0, .null, .null]))] H := hP
  have hD : va_D A [(b, .inr (1, [.int (nI 0), .null, .null, .null, .int 0, .null, .null]))] := hD
  refine lv_aload_n hx hb dX1_init_9 rfl (lv_at hl 0 rfl) ?_
  refine lv_bipush (v := nI 6) hx hb dX1_init_10 (by decide) ?_
  refine z_newI hC hK hP hD hS hA (n := 6) (by decide) (Nat.le_of_ble_eq_true rfl) (Nat.le_of_ble_eq_true rfl) dX1_init_12 (fun q1 H hP hD hS => ?_)
  have hP : va_P D vwCl [(b, .inr (1, [.int (nI 0), .null, .null, .null, .int 0, .null, .null])), aI cI q1 6 (fun _ => 0)] H := hP
  have hD : va_D A [(b, .inr (1, [.int (nI 0), .null, .null, .null, .int 0, .null, .null])), aI cI q1 6 (fun _ => 0)] := hD
  refine W.widen (k := 1) (n := 6) (Nat.le_of_ble_eq_true rfl) (Nat.le_of_ble_eq_true rfl) ?_
  refine z_putF (k := 1) zcX1 hC hnm hK hP hD hS 0 rfl (by decide) gF_X1_15 rfl rfl rfl rfl (Nat.le_of_ble_eq_true rfl) dX1_init_14 (fun H locs hP hD hS => ?_)
  have hP : va_P D vwCl [(b, .inr (1, [.int (nI 0), .ref q1, .null, .null, .int 0, .null, .null])), aI cI q1 6 (fun _ => 0)] H := hP
  have hD : va_D A [(b, .inr (1, [.int (nI 0), .ref q1, .null, .null, .int 0, .null, .null])), aI cI q1 6 (fun _ => 0)] := hD
  refine lv_aload_n hx hb dX1_init_17 rfl (lv_at hl 0 rfl) ?_
  refine lv_bipush (v := nI 6) hx hb dX1_init_18 (by decide) ?_
  refine z_newI hC hK hP hD hS hA (n := 6) (by decide) (Nat.le_of_ble_eq_true rfl) (Nat.le_of_ble_eq_true rfl) dX1_init_20 (fun q2 H hP hD hS => ?_)
  have hP : va_P D vwCl [(b, .inr (1, [.int (nI 0), .ref q1, .null, .null, .int 0, .null, .null])), aI cI q1 6 (fun _ => 0), aI cI q2 6 (fun _ => 0)] H := hP
  have hD : va_D A [(b, .inr (1, [.int (nI 0), .ref q1, .null, .null, .int 0, .null, .null])), aI cI q1 6 (fun _ => 0), aI cI q2 6 (fun _ => 0)] := hD
  refine W.widen (k := 2) (n := 12) (Nat.le_of_ble_eq_true rfl) (Nat.le_of_ble_eq_true rfl) ?_
  refine z_putF (k := 2) zcX1 hC hnm hK hP hD hS 0 rfl (by decide) gF_X1_19 rfl rfl rfl rfl (Nat.le_of_ble_eq_true rfl) dX1_init_22 (fun H locs hP hD hS => ?_)
  have hP : va_P D vwCl [(b, .inr (1, [.int (nI 0), .ref q1, .ref q2, .null, .int 0, .null, .null])), aI cI q1 6 (fun _ => 0), aI cI q2 6 (fun _ => 0)] H := hP
  have hD : va_D A [(b, .inr (1, [.int (nI 0), .ref q1, .ref q2, .null, .int 0, .null, .null])), aI cI q1 6 (fun _ => 0), aI cI q2 6 (fun _ => 0)] := hD
  refine lv_aload_n hx hb dX1_init_25 rfl (lv_at hl 0 rfl) ?_
  refine lv_bipush (v := nI 6) hx hb dX1_init_26 (by decide) ?_
  refine z_newI hC hK hP hD hS hA (n := 6) (by decide) (Nat.le_of_ble_eq_true rfl) (Nat.le_of_ble_eq_true rfl) dX1_init_28 (fun q3 H hP hD hS => ?_)
  have hP : va_P D vwCl [(b, .inr (1, [.int (nI 0), .ref q1, .ref q2, .null, .int 0, .null, .null])), aI cI q1 6 (fun _ => 0), aI cI q2 6 (fun _ => 0), aI cI q3 6 (fun _ => 0)] H := hP
  have hD : va_D A [(b, .inr (1, [.int (nI 0), .ref q1, .ref q2, .null, .int 0, .null, .null])), aI cI q1 6 (fun _ => 0), aI cI q2 6 (fun _ => 0), aI cI q3 6 (fun _ => 0)] := hD
  refine W.widen (k := 3) (n := 18) (Nat.le_of_ble_eq_true rfl) (Nat.le_of_ble_eq_true rfl) ?_
  refine z_putF (k := 3) zcX1 hC hnm hK hP hD hS 0 rfl (by decide) gF_X1_22 rfl rfl rfl rfl (Nat.le_of_ble_eq_true rfl) dX1_init_30 (fun H locs hP hD hS => ?_)
  have hP : va_P D vwCl [(b, .inr (1, [.int (nI 0), .ref q1, .ref q2, .ref q3, .int 0, .null, .null])), aI cI q1 6 (fun _ => 0), aI cI q2 6 (fun _ => 0), aI cI q3 6 (fun _ => 0)] H := hP
  have hD : va_D A [(b, .inr (1, [.int (nI 0), .ref q1, .ref q2, .ref q3, .int 0, .null, .null])), aI cI q1 6 (fun _ => 0), aI cI q2 6 (fun _ => 0), aI cI q3 6 (fun _ => 0)] := hD
  refine lv_aload_n hx hb dX1_init_33 rfl (lv_at hl 0 rfl) ?_
  refine lv_iconst (v := nI 0) hx hb dX1_init_34 (by decide) ?_
  refine z_put (k := 4) zcX1 hC hK hP hD hS 0 rfl (by decide) lF_X1_25 rfl rfl rfl (Nat.le_of_ble_eq_true rfl) dX1_init_35 (fun H locs hP hD hS => ?_)
  have hP : va_P D vwCl [(b, .inr (1, [.int (nI 0), .ref q1, .ref q2, .ref q3, .int (nI 0), .null, .null])), aI cI q1 6 (fun _ => 0), aI cI q2 6 (fun _ => 0), aI cI q3 6 (fun _ => 0)] H := hP
  have hD : va_D A [(b, .inr (1, [.int (nI 0), .ref q1, .ref q2, .ref q3, .int (nI 0), .null, .null])), aI cI q1 6 (fun _ => 0), aI cI q2 6 (fun _ => 0), aI cI q3 6 (fun _ => 0)] := hD
  refine lv_aload_n hx hb dX1_init_38 rfl (lv_at hl 0 rfl) ?_
  refine lv_iconst (v := nI 5) hx hb dX1_init_39 (by decide) ?_
  refine z_newI hC hK hP hD hS hA (n := 5) (by decide) (Nat.le_of_ble_eq_true rfl) (Nat.le_of_ble_eq_true rfl) dX1_init_40 (fun q4 H hP hD hS => ?_)
  have hP : va_P D vwCl [(b, .inr (1, [.int (nI 0), .ref q1, .ref q2, .ref q3, .int (nI 0), .null, .null])), aI cI q1 6 (fun _ => 0), aI cI q2 6 (fun _ => 0), aI cI q3 6 (fun _ => 0), aI cI q4 5 (fun _ => 0)] H := hP
  have hD : va_D A [(b, .inr (1, [.int (nI 0), .ref q1, .ref q2, .ref q3, .int (nI 0), .null, .null])), aI cI q1 6 (fun _ => 0), aI cI q2 6 (fun _ => 0), aI cI q3 6 (fun _ => 0), aI cI q4 5 (fun _ => 0)] := hD
  refine W.widen (k := 4) (n := 23) (Nat.le_of_ble_eq_true rfl) (Nat.le_of_ble_eq_true rfl) ?_
  refine z_putF (k := 5) zcX1 hC hnm hK hP hD hS 0 rfl (by decide) gF_X1_28 rfl rfl rfl rfl (Nat.le_of_ble_eq_true rfl) dX1_init_42 (fun H locs hP hD hS => ?_)
  have hP : va_P D vwCl [(b, .inr (1, [.int (nI 0), .ref q1, .ref q2, .ref q3, .int (nI 0), .ref q4, .null])), aI cI q1 6 (fun _ => 0), aI cI q2 6 (fun _ => 0), aI cI q3 6 (fun _ => 0), aI cI q4 5 (fun _ => 0)] H := hP
  have hD : va_D A [(b, .inr (1, [.int (nI 0), .ref q1, .ref q2, .ref q3, .int (nI 0), .ref q4, .null])), aI cI q1 6 (fun _ => 0), aI cI q2 6 (fun _ => 0), aI cI q3 6 (fun _ => 0), aI cI q4 5 (fun _ => 0)] := hD
  refine lv_aload_n hx hb dX1_init_45 rfl (lv_at hl 0 rfl) ?_
  refine lv_iconst (v := nI 5) hx hb dX1_init_46 (by decide) ?_
  refine lv_bipush (v := nI 6) hx hb dX1_init_47 (by decide) ?_
  refine z_grid hG hC aW_cl hK hP hD hS hA (Nat.le_of_ble_eq_true rfl) (Nat.le_of_ble_eq_true rfl) dX1_init_49 (fun q5 H hP hD hS => ?_)
  have hP : va_P D vwCl [(b, .inr (1, [.int (nI 0), .ref q1, .ref q2, .ref q3, .int (nI 0), .ref q4, .null])), aI cI q1 6 (fun _ => 0), aI cI q2 6 (fun _ => 0), aI cI q3 6 (fun _ => 0), aI cI q4 5 (fun _ => 0), aR cR q5 5 (fun i => q5 + 1 + i), aI cI (q5 + 1) 6 (fun _ => 0), aI cI (q5 + 2) 6 (fun _ => 0), aI cI (q5 + 3) 6 (fun _ => 0), aI cI (q5 + 4) 6 (fun _ => 0), aI cI (q5 + 5) 6 (fun _ => 0)] H := hP
  have hD : va_D A [(b, .inr (1, [.int (nI 0), .ref q1, .ref q2, .ref q3, .int (nI 0), .ref q4, .null])), aI cI q1 6 (fun _ => 0), aI cI q2 6 (fun _ => 0), aI cI q3 6 (fun _ => 0), aI cI q4 5 (fun _ => 0), aR cR q5 5 (fun i => q5 + 1 + i), aI cI (q5 + 1) 6 (fun _ => 0), aI cI (q5 + 2) 6 (fun _ => 0), aI cI (q5 + 3) 6 (fun _ => 0), aI cI (q5 + 4) 6 (fun _ => 0), aI cI (q5 + 5) 6 (fun _ => 0)] := hD
  refine W.widen (k := 10) (n := 58) (Nat.le_of_ble_eq_true rfl) (Nat.le_of_ble_eq_true rfl) ?_
  refine z_putF (k := 6) zcX1 hC hnm hK hP hD hS 0 rfl (by decide) gF_X1_33 rfl rfl rfl rfl (Nat.le_of_ble_eq_true rfl) dX1_init_53 (fun H locs hP hD hS => ?_)
  have hP : va_P D vwCl [(b, .inr (1, [.int (nI 0), .ref q1, .ref q2, .ref q3, .int (nI 0), .ref q4, .ref q5])), aI cI q1 6 (fun _ => 0), aI cI q2 6 (fun _ => 0), aI cI q3 6 (fun _ => 0), aI cI q4 5 (fun _ => 0), aR cR q5 5 (fun i => q5 + 1 + i), aI cI (q5 + 1) 6 (fun _ => 0), aI cI (q5 + 2) 6 (fun _ => 0), aI cI (q5 + 3) 6 (fun _ => 0), aI cI (q5 + 4) 6 (fun _ => 0), aI cI (q5 + 5) 6 (fun _ => 0)] H := hP
  have hD : va_D A [(b, .inr (1, [.int (nI 0), .ref q1, .ref q2, .ref q3, .int (nI 0), .ref q4, .ref q5])), aI cI q1 6 (fun _ => 0), aI cI q2 6 (fun _ => 0), aI cI q3 6 (fun _ => 0), aI cI q4 5 (fun _ => 0), aR cR q5 5 (fun i => q5 + 1 + i), aI cI (q5 + 1) 6 (fun _ => 0), aI cI (q5 + 2) 6 (fun _ => 0), aI cI (q5 + 3) 6 (fun _ => 0), aI cI (q5 + 4) 6 (fun _ => 0), aI cI (q5 + 5) 6 (fun _ => 0)] := hD
  rw [show aR cR q5 5 (fun i => q5 + 1 + i) = aR cR q5 5 (fun i => (fun k => [b, q1, q2, q3, q4, q5, q5 + 1, q5 + 2, q5 + 3, q5 + 4, q5 + 5].getD k 0) (6 + i)) from aR_cong (fun i hi => by rcases (show i = 0 ∨ i = 1 ∨ i = 2 ∨ i = 3 ∨ i = 4 by omega) with rfl | rfl | rfl | rfl | rfl <;> rfl)] at hP hD
  exact zA_v hC hr hlk hAe hP hD hS ⟨(fun k => [b, q1, q2, q3, q4, q5, q5 + 1, q5 + 2, q5 + 3, q5 + 4, q5 + 5].getD k 0), rfl⟩ dX1_init_56
def S0 : KS := (0, 0, 0, (0, 0, 0, 0, 0, (fun _ => 0)), (0, (fun _ => 0), (fun _ => 0), (fun _ => 0), 0, (fun _ => 0), (fun _ _ => 0)), (0, (fun _ => 0), (fun _ => 0), (fun _ => 0), 0, (fun _ => 0), (fun _ _ => 0)), (0, 0, 0, 0, 0, (fun _ => 0), (fun _ => 0), (fun _ => 0), (fun _ => 0)), (0, 0, 0, 0, 0, (fun _ => 0), (fun _ => 0), (fun _ => 0), (fun _ => 0)), (0, 0, 0, 0, 0, (fun _ => 0), (fun _ => 0), (fun _ => 0), (fun _ => 0)), (fun _ => 0), (fun _ => false))
def bX3 (cI cZ cR : ClassId) (b : Nat) (w : va_W) : Prop := ∃ ad : Nat → Nat, ad 0 = b ∧ w = wK cI cZ cR ad S0
set_option maxHeartbeats 4000000 in
set_option maxRecDepth 100000 in
theorem c_X3_init {l : Launch} {D : va_G} {cI cZ cB cR : ClassId} {b sz : Nat} : mA l yX3_init cX3_init 1 2 32 41 1039 D cI cZ cB cR b sz (.inr (3, [.null, .null, .null, .null, .null, .null, .int 0, .null, .null, .int 0, .long 0])) (bX3 cI cZ cR b) := by
  refine mA_of rfl (Nat.le_of_ble_eq_true rfl) ?_
  intro p e s m args below meth c hC hr hlk hnm hK hG hsz A hAe hA hD hP hS ls hl
  have hl : lv_has ls 1 [(0, .ref b)] := hl
  obtain ⟨hx, hb, hml, hown, hts⟩ := id hC
  refine lv_aload_n hx hb dX3_init_0 rfl (lv_at hl 0 rfl) ?_
  refine W.objInit hx hb hown (hts _ oW_X3) (hts _ oW_i) (hts _ oW_c) rfl (by rw [hml]; exact hl.1) rfl dX3_init_1 (Nat.le_of_ble_eq_true rfl) (Nat.le_of_ble_eq_true rfl) ?_
  refine W.eq (g2 := F0 m 4 ls []) rfl ?_
  refine lv_aload_n hx hb dX3_init_4 rfl (lv_at hl 0 rfl) ?_
  refine z_new zcX2 hC nC_X3_7 nN_X2 nZ_X2 hK hP hD hS hA nD_X2 (Nat.le_of_ble_eq_true rfl) (Nat.le_of_ble_eq_true rfl) dX3_init_5 (fun q1 H hP hD hS => ?_)
  refine W.widen (k := 1) (n := 6) (Nat.le_of_ble_eq_true rfl) (Nat.le_of_ble_eq_true rfl) ?_
  refine lv_dup hx hb dX3_init_8 rfl ?_
  refine zAN (X := [(b, .inr (3, [.null, .null, .null, .null, .null, .null, .int 0, .null, .null, .int 0, .long 0]))]) (sz := H.size) rfl hC (c_X2_init (l := l) (b := q1)) nM_X3_9 nI_X2 rfl (by decide) hG hK hP hD hS hA hl.1 rfl (Nat.le_of_ble_eq_true rfl) dX3_init_9 ⟨Nat.le_of_ble_eq_true rfl, Nat.le_of_ble_eq_true rfl⟩ (fun w1 H locs hB1 hP hD hS => ?_)
  obtain ⟨f1, rfl⟩ := hB1
  have hP : va_P D vwCl [(b, .inr (3, [.null, .null, .null, .null, .null, .null, .int 0, .null, .null, .int 0, .long 0])), oT q1 (f1 1) 0 0 0 0 0, aI cI (f1 1) 150 (fun _ => 0)] H := hP
  have hD : va_D A [(b, .inr (3, [.null, .null, .null, .null, .null, .null, .int 0, .null, .null, .int 0, .long 0])), oT q1 (f1 1) 0 0 0 0 0, aI cI (f1 1) 150 (fun _ => 0)] := hD
  refine W.widen (k := 2) (n := 156) (Nat.le_of_ble_eq_true rfl) (Nat.le_of_ble_eq_true rfl) ?_
  refine z_putF (k := 0) zcX3 hC hnm hK hP hD hS 0 rfl (by decide) gF_X3_10 rfl rfl rfl rfl (Nat.le_of_ble_eq_true rfl) dX3_init_12 (fun H locs hP hD hS => ?_)
  have hP : va_P D vwCl [(b, .inr (3, [.ref q1, .null, .null, .null, .null, .null, .int 0, .null, .null, .int 0, .long 0])), oT q1 (f1 1) 0 0 0 0 0, aI cI (f1 1) 150 (fun _ => 0)] H := hP
  have hD : va_D A [(b, .inr (3, [.ref q1, .null, .null, .null, .null, .null, .int 0, .null, .null, .int 0, .long 0])), oT q1 (f1 1) 0 0 0 0 0, aI cI (f1 1) 150 (fun _ => 0)] := hD
  refine lv_aload_n hx hb dX3_init_15 rfl (lv_at hl 0 rfl) ?_
  refine z_new zcX1 hC nC_X3_16 nN_X1 nZ_X1 hK hP hD hS hA nD_X1 (Nat.le_of_ble_eq_true rfl) (Nat.le_of_ble_eq_true rfl) dX3_init_16 (fun q2 H hP hD hS => ?_)
  refine W.widen (k := 3) (n := 163) (Nat.le_of_ble_eq_true rfl) (Nat.le_of_ble_eq_true rfl) ?_
  refine lv_dup hx hb dX3_init_19 rfl ?_
  refine zAN (X := [(b, .inr (3, [.ref q1, .null, .null, .null, .null, .null, .int 0, .null, .null, .int 0, .long 0])), oT q1 (f1 1) 0 0 0 0 0, aI cI (f1 1) 150 (fun _ => 0)]) (sz := H.size) rfl hC (c_X1_init (l := l) (b := q2)) nM_X3_18 nI_X1 rfl (by decide) hG hK hP hD hS hA hl.1 rfl (Nat.le_of_ble_eq_true rfl) dX3_init_20 ⟨Nat.le_of_ble_eq_true rfl, Nat.le_of_ble_eq_true rfl⟩ (fun w2 H locs hB2 hP hD hS => ?_)
  obtain ⟨f2, rfl⟩ := hB2
  have hP : va_P D vwCl [(b, .inr (3, [.ref q1, .null, .null, .null, .null, .null, .int 0, .null, .null, .int 0, .long 0])), oT q1 (f1 1) 0 0 0 0 0, aI cI (f1 1) 150 (fun _ => 0), oB q2 0 (f2 1) (f2 2) (f2 3) 0 (f2 4) (f2 5), aI cI (f2 1) 6 (fun _ => 0), aI cI (f2 2) 6 (fun _ => 0), aI cI (f2 3) 6 (fun _ => 0), aI cI (f2 4) 5 (fun _ => 0), aR cR (f2 5) 5 (fun i => f2 (6 + i)), aI cI (f2 6) 6 (fun _ => 0), aI cI (f2 7) 6 (fun _ => 0), aI cI (f2 8) 6 (fun _ => 0), aI cI (f2 9) 6 (fun _ => 0), aI cI (f2 10) 6 (fun _ => 0)] H := hP
  have hD : va_D A [(b, .inr (3, [.ref q1, .null, .null, .null, .null, .null, .int 0, .null, .null, .int 0, .long 0])), oT q1 (f1 1) 0 0 0 0 0, aI cI (f1 1) 150 (fun _ => 0), oB q2 0 (f2 1) (f2 2) (f2 3) 0 (f2 4) (f2 5), aI cI (f2 1) 6 (fun _ => 0), aI cI (f2 2) 6 (fun _ => 0), aI cI (f2 3) 6 (fun _ => 0), aI cI (f2 4) 5 (fun _ => 0), aR cR (f2 5) 5 (fun i => f2 (6 + i)), aI cI (f2 6) 6 (fun _ => 0), aI cI (f2 7) 6 (fun _ => 0), aI cI (f2 8) 6 (fun _ => 0), aI cI (f2 9) 6 (fun _ => 0), aI cI (f2 10) 6 (fun _ => 0)] := hD
  refine W.widen (k := 13) (n := 221) (Nat.le_of_ble_eq_true rfl) (Nat.le_of_ble_eq_true rfl) ?_
  refine z_put (k := 1) zcX3 hC hK hP hD hS 0 rfl (by decide) lF_X3_19 rfl rfl rfl (Nat.le_of_ble_eq_true rfl) dX3_init_23 (fun H locs hP hD hS => ?_)
  have hP : va_P D vwCl [(b, .inr (3, [.ref q1, .ref q2, .null, .null, .null, .null, .int 0, .null, .null, .int 0, .long 0])), oT q1 (f1 1) 0 0 0 0 0, aI cI (f1 1) 150 (fun _ => 0), oB q2 0 (f2 1) (f2 2) (f2 3) 0 (f2 4) (f2 5), aI cI (f2 1) 6 (fun _ => 0), aI cI (f2 2) 6 (fun _ => 0), aI cI (f2 3) 6 (fun _ => 0), aI cI (f2 4) 5 (fun _ => 0), aR cR (f2 5) 5 (fun i => f2 (6 + i)), aI cI (f2 6) 6 (fun _ => 0), aI cI (f2 7) 6 (fun _ => 0), aI cI (f2 8) 6 (fun _ => 0), aI cI (f2 9) 6 (fun _ => 0), aI cI (f2 10) 6 (fun _ => 0)] H := hP
  have hD : va_D A [(b, .inr (3, [.ref q1, .ref q2, .null, .null, .null, .null, .int 0, .null, .null, .int 0, .long 0])), oT q1 (f1 1) 0 0 0 0 0, aI cI (f1 1) 150 (fun _ => 0), oB q2 0 (f2 1) (f2 2) (f2 3) 0 (f2 4) (f2 5), aI cI (f2 1) 6 (fun _ => 0), aI cI (f2 2) 6 (fun _ => 0), aI cI (f2 3) 6 (fun _ => 0), aI cI (f2 4) 5 (fun _ => 0), aR cR (f2 5) 5 (fun i => f2 (6 + i)), aI cI (f2 6) 6 (fun _ => 0), aI cI (f2 7) 6 (fun _ => 0), aI cI (f2 8) 6 (fun _ => 0), aI cI (f2 9) 6 (fun _ => 0), aI cI (f2 10) 6 (fun _ => 0)] := hD
  refine lv_aload_n hx hb dX3_init_26 rfl (lv_at hl 0 rfl) ?_
  refine z_new zcX1 hC nC_X3_16 nN_X1 nZ_X1 hK hP hD hS hA nD_X1 (Nat.le_of_ble_eq_true rfl) (Nat.le_of_ble_eq_true rfl) dX3_init_27 (fun q3 H hP hD hS => ?_)
  refine W.widen (k := 14) (n := 228) (Nat.le_of_ble_eq_true rfl) (Nat.le_of_ble_eq_true rfl) ?_
  refine lv_dup hx hb dX3_init_30 rfl ?_
  refine zAN (X := [(b, .inr (3, [.ref q1, .ref q2, .null, .null, .null, .null, .int 0, .null, .null, .int 0, .long 0])), oT q1 (f1 1) 0 0 0 0 0, aI cI (f1 1) 150 (fun _ => 0), oB q2 0 (f2 1) (f2 2) (f2 3) 0 (f2 4) (f2 5), aI cI (f2 1) 6 (fun _ => 0), aI cI (f2 2) 6 (fun _ => 0), aI cI (f2 3) 6 (fun _ => 0), aI cI (f2 4) 5 (fun _ => 0), aR cR (f2 5) 5 (fun i => f2 (6 + i)), aI cI (f2 6) 6 (fun _ => 0), aI cI (f2 7) 6 (fun _ => 0), aI cI (f2 8) 6 (fun _ => 0), aI cI (f2 9) 6 (fun _ => 0), aI cI (f2 10) 6 (fun _ => 0)]) (sz := H.size) rfl hC (c_X1_init (l := l) (b := q3)) nM_X3_18 nI_X1 rfl (by decide) hG hK hP hD hS hA hl.1 rfl (Nat.le_of_ble_eq_true rfl) dX3_init_31 ⟨Nat.le_of_ble_eq_true rfl, Nat.le_of_ble_eq_true rfl⟩ (fun w3 H locs hB3 hP hD hS => ?_)
  obtain ⟨f3, rfl⟩ := hB3
  have hP : va_P D vwCl [(b, .inr (3, [.ref q1, .ref q2, .null, .null, .null, .null, .int 0, .null, .null, .int 0, .long 0])), oT q1 (f1 1) 0 0 0 0 0, aI cI (f1 1) 150 (fun _ => 0), oB q2 0 (f2 1) (f2 2) (f2 3) 0 (f2 4) (f2 5), aI cI (f2 1) 6 (fun _ => 0), aI cI (f2 2) 6 (fun _ => 0), aI cI (f2 3) 6 (fun _ => 0), aI cI (f2 4) 5 (fun _ => 0), aR cR (f2 5) 5 (fun i => f2 (6 + i)), aI cI (f2 6) 6 (fun _ => 0), aI cI (f2 7) 6 (fun _ => 0), aI cI (f2 8) 6 (fun _ => 0), aI cI (f2 9) 6 (fun _ => 0), aI cI (f2 10) 6 (fun _ => 0), oB q3 0 (f3 1) (f3 2) (f3 3) 0 (f3 4) (f3 5), aI cI (f3 1) 6 (fun _ => 0), aI cI (f3 2) 6 (fun _ => 0), aI cI (f3 3) 6 (fun _ => 0), aI cI (f3 4) 5 (fun _ => 0), aR cR (f3 5) 5 (fun i => f3 (6 + i)), aI cI (f3 6) 6 (fun _ => 0), aI cI (f3 7) 6 (fun _ => 0), aI cI (f3 8) 6 (fun _ => 0), aI cI (f3 9) 6 (fun _ => 0), aI cI (f3 10) 6 (fun _ => 0)] H := hP
  have hD : va_D A [(b, .inr (3, [.ref q1, .ref q2, .null, .null, .null, .null, .int 0, .null, .null, .int 0, .long 0])), oT q1 (f1 1) 0 0 0 0 0, aI cI (f1 1) 150 (fun _ => 0), oB q2 0 (f2 1) (f2 2) (f2 3) 0 (f2 4) (f2 5), aI cI (f2 1) 6 (fun _ => 0), aI cI (f2 2) 6 (fun _ => 0), aI cI (f2 3) 6 (fun _ => 0), aI cI (f2 4) 5 (fun _ => 0), aR cR (f2 5) 5 (fun i => f2 (6 + i)), aI cI (f2 6) 6 (fun _ => 0), aI cI (f2 7) 6 (fun _ => 0), aI cI (f2 8) 6 (fun _ => 0), aI cI (f2 9) 6 (fun _ => 0), aI cI (f2 10) 6 (fun _ => 0), oB q3 0 (f3 1) (f3 2) (f3 3) 0 (f3 4) (f3 5), aI cI (f3 1) 6 (fun _ => 0), aI cI (f3 2) 6 (fun _ => 0), aI cI (f3 3) 6 (fun _ => 0), aI cI (f3 4) 5 (fun _ => 0), aR cR (f3 5) 5 (fun i => f3 (6 + i)), aI cI (f3 6) 6 (fun _ => 0), aI cI (f3 7) 6 (fun _ => 0), aI cI (f3 8) 6 (fun _ => 0), aI cI (f3 9) 6 (fun _ => 0), aI cI (f3 10) 6 (fun _ => 0)] := hD
  refine W.widen (k := 24) (n := 286) (Nat.le_of_ble_eq_true rfl) (Nat.le_of_ble_eq_true rfl) ?_
  refine z_put (k := 2) zcX3 hC hK hP hD hS 0 rfl (by decide) lF_X3_23 rfl rfl rfl (Nat.le_of_ble_eq_true rfl) dX3_init_34 (fun H locs hP hD hS => ?_)
  have hP : va_P D vwCl [(b, .inr (3, [.ref q1, .ref q2, .ref q3, .null, .null, .null, .int 0, .null, .null, .int 0, .long 0])), oT q1 (f1 1) 0 0 0 0 0, aI cI (f1 1) 150 (fun _ => 0), oB q2 0 (f2 1) (f2 2) (f2 3) 0 (f2 4) (f2 5), aI cI (f2 1) 6 (fun _ => 0), aI cI (f2 2) 6 (fun _ => 0), aI cI (f2 3) 6 (fun _ => 0), aI cI (f2 4) 5 (fun _ => 0), aR cR (f2 5) 5 (fun i => f2 (6 + i)), aI cI (f2 6) 6 (fun _ => 0), aI cI (f2 7) 6 (fun _ => 0), aI cI (f2 8) 6 (fun _ => 0), aI cI (f2 9) 6 (fun _ => 0), aI cI (f2 10) 6 (fun _ => 0), oB q3 0 (f3 1) (f3 2) (f3 3) 0 (f3 4) (f3 5), aI cI (f3 1) 6 (fun _ => 0), aI cI (f3 2) 6 (fun _ => 0), aI cI (f3 3) 6 (fun _ => 0), aI cI (f3 4) 5 (fun _ => 0), aR cR (f3 5) 5 (fun i => f3 (6 + i)), aI cI (f3 6) 6 (fun _ => 0), aI cI (f3 7) 6 (fun _ => 0), aI cI (f3 8) 6 (fun _ => 0), aI cI (f3 9) 6 (fun _ => 0), aI cI (f3 10) 6 (fun _ => 0)] H := hP
  have hD : va_D A [(b, .inr (3, [.ref q1, .ref q2, .ref q3, .null, .null, .null, .int 0, .null, .null, .int 0, .long 0])), oT q1 (f1 1) 0 0 0 0 0, aI cI (f1 1) 150 (fun _ => 0), oB q2 0 (f2 1) (f2 2) (f2 3) 0 (f2 4) (f2 5), aI cI (f2 1) 6 (fun _ => 0), aI cI (f2 2) 6 (fun _ => 0), aI cI (f2 3) 6 (fun _ => 0), aI cI (f2 4) 5 (fun _ => 0), aR cR (f2 5) 5 (fun i => f2 (6 + i)), aI cI (f2 6) 6 (fun _ => 0), aI cI (f2 7) 6 (fun _ => 0), aI cI (f2 8) 6 (fun _ => 0), aI cI (f2 9) 6 (fun _ => 0), aI cI (f2 10) 6 (fun _ => 0), oB q3 0 (f3 1) (f3 2) (f3 3) 0 (f3 4) (f3 5), aI cI (f3 1) 6 (fun _ => 0), aI cI (f3 2) 6 (fun _ => 0), aI cI (f3 3) 6 (fun _ => 0), aI cI (f3 4) 5 (fun _ => 0), aR cR (f3 5) 5 (fun i => f3 (6 + i)), aI cI (f3 6) 6 (fun _ => 0), aI cI (f3 7) 6 (fun _ => 0), aI cI (f3 8) 6 (fun _ => 0), aI cI (f3 9) 6 (fun _ => 0), aI cI (f3 10) 6 (fun _ => 0)] := hD
  refine lv_aload_n hx hb dX3_init_37 rfl (lv_at hl 0 rfl) ?_
  refine z_new zcX0 hC nC_X3_26 nN_X0 nZ_X0 hK hP hD hS hA nD_X0 (Nat.le_of_ble_eq_true rfl) (Nat.le_of_ble_eq_true rfl) dX3_init_38 (fun q4 H hP hD hS => ?_)
  refine W.widen (k := 25) (n := 295) (Nat.le_of_ble_eq_true rfl) (Nat.le_of_ble_eq_true rfl) ?_
  refine lv_dup hx hb dX3_init_41 rfl ?_
  refine zAN (X := [(b, .inr (3, [.ref q1, .ref q2, .ref q3, .null, .null, .null, .int 0, .null, .null, .int 0, .long 0])), oT q1 (f1 1) 0 0 0 0 0, aI cI (f1 1) 150 (fun _ => 0), oB q2 0 (f2 1) (f2 2) (f2 3) 0 (f2 4) (f2 5), aI cI (f2 1) 6 (fun _ => 0), aI cI (f2 2) 6 (fun _ => 0), aI cI (f2 3) 6 (fun _ => 0), aI cI (f2 4) 5 (fun _ => 0), aR cR (f2 5) 5 (fun i => f2 (6 + i)), aI cI (f2 6) 6 (fun _ => 0), aI cI (f2 7) 6 (fun _ => 0), aI cI (f2 8) 6 (fun _ => 0), aI cI (f2 9) 6 (fun _ => 0), aI cI (f2 10) 6 (fun _ => 0), oB q3 0 (f3 1) (f3 2) (f3 3) 0 (f3 4) (f3 5), aI cI (f3 1) 6 (fun _ => 0), aI cI (f3 2) 6 (fun _ => 0), aI cI (f3 3) 6 (fun _ => 0), aI cI (f3 4) 5 (fun _ => 0), aR cR (f3 5) 5 (fun i => f3 (6 + i)), aI cI (f3 6) 6 (fun _ => 0), aI cI (f3 7) 6 (fun _ => 0), aI cI (f3 8) 6 (fun _ => 0), aI cI (f3 9) 6 (fun _ => 0), aI cI (f3 10) 6 (fun _ => 0)]) (sz := H.size) rfl hC (c_X0_init (l := l) (b := q4)) nM_X3_28 nI_X0 rfl (by decide) hG hK hP hD hS hA hl.1 rfl (Nat.le_of_ble_eq_true rfl) dX3_init_42 ⟨Nat.le_of_ble_eq_true rfl, Nat.le_of_ble_eq_true rfl⟩ (fun w4 H locs hB4 hP hD hS => ?_)
  obtain ⟨f4, rfl⟩ := hB4
  have hP : va_P D vwCl [(b, .inr (3, [.ref q1, .ref q2, .ref q3, .null, .null, .null, .int 0, .null, .null, .int 0, .long 0])), oT q1 (f1 1) 0 0 0 0 0, aI cI (f1 1) 150 (fun _ => 0), oB q2 0 (f2 1) (f2 2) (f2 3) 0 (f2 4) (f2 5), aI cI (f2 1) 6 (fun _ => 0), aI cI (f2 2) 6 (fun _ => 0), aI cI (f2 3) 6 (fun _ => 0), aI cI (f2 4) 5 (fun _ => 0), aR cR (f2 5) 5 (fun i => f2 (6 + i)), aI cI (f2 6) 6 (fun _ => 0), aI cI (f2 7) 6 (fun _ => 0), aI cI (f2 8) 6 (fun _ => 0), aI cI (f2 9) 6 (fun _ => 0), aI cI (f2 10) 6 (fun _ => 0), oB q3 0 (f3 1) (f3 2) (f3 3) 0 (f3 4) (f3 5), aI cI (f3 1) 6 (fun _ => 0), aI cI (f3 2) 6 (fun _ => 0), aI cI (f3 3) 6 (fun _ => 0), aI cI (f3 4) 5 (fun _ => 0), aR cR (f3 5) 5 (fun i => f3 (6 + i)), aI cI (f3 6) 6 (fun _ => 0), aI cI (f3 7) 6 (fun _ => 0), aI cI (f3 8) 6 (fun _ => 0), aI cI (f3 9) 6 (fun _ => 0), aI cI (f3 10) 6 (fun _ => 0), oP q4 (f4 1) (f4 2) (f4 3) 0 0 0 0 (f4 4) 0, aI cI (f4 1) 6 (fun _ => 0), aI cI (f4 2) 6 (fun _ => 0), aI cI (f4 3) 6 (fun _ => 0), aI cI (f4 4) 220 (fun _ => 0)] H := hP
  have hD : va_D A [(b, .inr (3, [.ref q1, .ref q2, .ref q3, .null, .null, .null, .int 0, .null, .null, .int 0, .long 0])), oT q1 (f1 1) 0 0 0 0 0, aI cI (f1 1) 150 (fun _ => 0), oB q2 0 (f2 1) (f2 2) (f2 3) 0 (f2 4) (f2 5), aI cI (f2 1) 6 (fun _ => 0), aI cI (f2 2) 6 (fun _ => 0), aI cI (f2 3) 6 (fun _ => 0), aI cI (f2 4) 5 (fun _ => 0), aR cR (f2 5) 5 (fun i => f2 (6 + i)), aI cI (f2 6) 6 (fun _ => 0), aI cI (f2 7) 6 (fun _ => 0), aI cI (f2 8) 6 (fun _ => 0), aI cI (f2 9) 6 (fun _ => 0), aI cI (f2 10) 6 (fun _ => 0), oB q3 0 (f3 1) (f3 2) (f3 3) 0 (f3 4) (f3 5), aI cI (f3 1) 6 (fun _ => 0), aI cI (f3 2) 6 (fun _ => 0), aI cI (f3 3) 6 (fun _ => 0), aI cI (f3 4) 5 (fun _ => 0), aR cR (f3 5) 5 (fun i => f3 (6 + i)), aI cI (f3 6) 6 (fun _ => 0), aI cI (f3 7) 6 (fun _ => 0), aI cI (f3 8) 6 (fun _ => 0), aI cI (f3 9) 6 (fun _ => 0), aI cI (f3 10) 6 (fun _ => 0), oP q4 (f4 1) (f4 2) (f4 3) 0 0 0 0 (f4 4) 0, aI cI (f4 1) 6 (fun _ => 0), aI cI (f4 2) 6 (fun _ => 0), aI cI (f4 3) 6 (fun _ => 0), aI cI (f4 4) 220 (fun _ => 0)] := hD
  refine W.widen (k := 29) (n := 533) (Nat.le_of_ble_eq_true rfl) (Nat.le_of_ble_eq_true rfl) ?_
  refine z_putF (k := 3) zcX3 hC hnm hK hP hD hS 0 rfl (by decide) gF_X3_29 rfl rfl rfl rfl (Nat.le_of_ble_eq_true rfl) dX3_init_45 (fun H locs hP hD hS => ?_)
  have hP : va_P D vwCl [(b, .inr (3, [.ref q1, .ref q2, .ref q3, .ref q4, .null, .null, .int 0, .null, .null, .int 0, .long 0])), oT q1 (f1 1) 0 0 0 0 0, aI cI (f1 1) 150 (fun _ => 0), oB q2 0 (f2 1) (f2 2) (f2 3) 0 (f2 4) (f2 5), aI cI (f2 1) 6 (fun _ => 0), aI cI (f2 2) 6 (fun _ => 0), aI cI (f2 3) 6 (fun _ => 0), aI cI (f2 4) 5 (fun _ => 0), aR cR (f2 5) 5 (fun i => f2 (6 + i)), aI cI (f2 6) 6 (fun _ => 0), aI cI (f2 7) 6 (fun _ => 0), aI cI (f2 8) 6 (fun _ => 0), aI cI (f2 9) 6 (fun _ => 0), aI cI (f2 10) 6 (fun _ => 0), oB q3 0 (f3 1) (f3 2) (f3 3) 0 (f3 4) (f3 5), aI cI (f3 1) 6 (fun _ => 0), aI cI (f3 2) 6 (fun _ => 0), aI cI (f3 3) 6 (fun _ => 0), aI cI (f3 4) 5 (fun _ => 0), aR cR (f3 5) 5 (fun i => f3 (6 + i)), aI cI (f3 6) 6 (fun _ => 0), aI cI (f3 7) 6 (fun _ => 0), aI cI (f3 8) 6 (fun _ => 0), aI cI (f3 9) 6 (fun _ => 0), aI cI (f3 10) 6 (fun _ => 0), oP q4 (f4 1) (f4 2) (f4 3) 0 0 0 0 (f4 4) 0, aI cI (f4 1) 6 (fun _ => 0), aI cI (f4 2) 6 (fun _ => 0), aI cI (f4 3) 6 (fun _ => 0), aI cI (f4 4) 220 (fun _ => 0)] H := hP
  have hD : va_D A [(b, .inr (3, [.ref q1, .ref q2, .ref q3, .ref q4, .null, .null, .int 0, .null, .null, .int 0, .long 0])), oT q1 (f1 1) 0 0 0 0 0, aI cI (f1 1) 150 (fun _ => 0), oB q2 0 (f2 1) (f2 2) (f2 3) 0 (f2 4) (f2 5), aI cI (f2 1) 6 (fun _ => 0), aI cI (f2 2) 6 (fun _ => 0), aI cI (f2 3) 6 (fun _ => 0), aI cI (f2 4) 5 (fun _ => 0), aR cR (f2 5) 5 (fun i => f2 (6 + i)), aI cI (f2 6) 6 (fun _ => 0), aI cI (f2 7) 6 (fun _ => 0), aI cI (f2 8) 6 (fun _ => 0), aI cI (f2 9) 6 (fun _ => 0), aI cI (f2 10) 6 (fun _ => 0), oB q3 0 (f3 1) (f3 2) (f3 3) 0 (f3 4) (f3 5), aI cI (f3 1) 6 (fun _ => 0), aI cI (f3 2) 6 (fun _ => 0), aI cI (f3 3) 6 (fun _ => 0), aI cI (f3 4) 5 (fun _ => 0), aR cR (f3 5) 5 (fun i => f3 (6 + i)), aI cI (f3 6) 6 (fun _ => 0), aI cI (f3 7) 6 (fun _ => 0), aI cI (f3 8) 6 (fun _ => 0), aI cI (f3 9) 6 (fun _ => 0), aI cI (f3 10) 6 (fun _ => 0), oP q4 (f4 1) (f4 2) (f4 3) 0 0 0 0 (f4 4) 0, aI cI (f4 1) 6 (fun _ => 0), aI cI (f4 2) 6 (fun _ => 0), aI cI (f4 3) 6 (fun _ => 0), aI cI (f4 4) 220 (fun _ => 0)] := hD
  refine lv_aload_n hx hb dX3_init_48 rfl (lv_at hl 0 rfl) ?_
  refine z_new zcX0 hC nC_X3_26 nN_X0 nZ_X0 hK hP hD hS hA nD_X0 (Nat.le_of_ble_eq_true rfl) (Nat.le_of_ble_eq_true rfl) dX3_init_49 (fun q5 H hP hD hS => ?_)
  refine W.widen (k := 30) (n := 542) (Nat.le_of_ble_eq_true rfl) (Nat.le_of_ble_eq_true rfl) ?_
  refine lv_dup hx hb dX3_init_52 rfl ?_
  refine zAN (X := [(b, .inr (3, [.ref q1, .ref q2, .ref q3, .ref q4, .null, .null, .int 0, .null, .null, .int 0, .long 0])), oT q1 (f1 1) 0 0 0 0 0, aI cI (f1 1) 150 (fun _ => 0), oB q2 0 (f2 1) (f2 2) (f2 3) 0 (f2 4) (f2 5), aI cI (f2 1) 6 (fun _ => 0), aI cI (f2 2) 6 (fun _ => 0), aI cI (f2 3) 6 (fun _ => 0), aI cI (f2 4) 5 (fun _ => 0), aR cR (f2 5) 5 (fun i => f2 (6 + i)), aI cI (f2 6) 6 (fun _ => 0), aI cI (f2 7) 6 (fun _ => 0), aI cI (f2 8) 6 (fun _ => 0), aI cI (f2 9) 6 (fun _ => 0), aI cI (f2 10) 6 (fun _ => 0), oB q3 0 (f3 1) (f3 2) (f3 3) 0 (f3 4) (f3 5), aI cI (f3 1) 6 (fun _ => 0), aI cI (f3 2) 6 (fun _ => 0), aI cI (f3 3) 6 (fun _ => 0), aI cI (f3 4) 5 (fun _ => 0), aR cR (f3 5) 5 (fun i => f3 (6 + i)), aI cI (f3 6) 6 (fun _ => 0), aI cI (f3 7) 6 (fun _ => 0), aI cI (f3 8) 6 (fun _ => 0), aI cI (f3 9) 6 (fun _ => 0), aI cI (f3 10) 6 (fun _ => 0), oP q4 (f4 1) (f4 2) (f4 3) 0 0 0 0 (f4 4) 0, aI cI (f4 1) 6 (fun _ => 0), aI cI (f4 2) 6 (fun _ => 0), aI cI (f4 3) 6 (fun _ => 0), aI cI (f4 4) 220 (fun _ => 0)]) (sz := H.size) rfl hC (c_X0_init (l := l) (b := q5)) nM_X3_28 nI_X0 rfl (by decide) hG hK hP hD hS hA hl.1 rfl (Nat.le_of_ble_eq_true rfl) dX3_init_53 ⟨Nat.le_of_ble_eq_true rfl, Nat.le_of_ble_eq_true rfl⟩ (fun w5 H locs hB5 hP hD hS => ?_)
  obtain ⟨f5, rfl⟩ := hB5
  have hP : va_P D vwCl [(b, .inr (3, [.ref q1, .ref q2, .ref q3, .ref q4, .null, .null, .int 0, .null, .null, .int 0, .long 0])), oT q1 (f1 1) 0 0 0 0 0, aI cI (f1 1) 150 (fun _ => 0), oB q2 0 (f2 1) (f2 2) (f2 3) 0 (f2 4) (f2 5), aI cI (f2 1) 6 (fun _ => 0), aI cI (f2 2) 6 (fun _ => 0), aI cI (f2 3) 6 (fun _ => 0), aI cI (f2 4) 5 (fun _ => 0), aR cR (f2 5) 5 (fun i => f2 (6 + i)), aI cI (f2 6) 6 (fun _ => 0), aI cI (f2 7) 6 (fun _ => 0), aI cI (f2 8) 6 (fun _ => 0), aI cI (f2 9) 6 (fun _ => 0), aI cI (f2 10) 6 (fun _ => 0), oB q3 0 (f3 1) (f3 2) (f3 3) 0 (f3 4) (f3 5), aI cI (f3 1) 6 (fun _ => 0), aI cI (f3 2) 6 (fun _ => 0), aI cI (f3 3) 6 (fun _ => 0), aI cI (f3 4) 5 (fun _ => 0), aR cR (f3 5) 5 (fun i => f3 (6 + i)), aI cI (f3 6) 6 (fun _ => 0), aI cI (f3 7) 6 (fun _ => 0), aI cI (f3 8) 6 (fun _ => 0), aI cI (f3 9) 6 (fun _ => 0), aI cI (f3 10) 6 (fun _ => 0), oP q4 (f4 1) (f4 2) (f4 3) 0 0 0 0 (f4 4) 0, aI cI (f4 1) 6 (fun _ => 0), aI cI (f4 2) 6 (fun _ => 0), aI cI (f4 3) 6 (fun _ => 0), aI cI (f4 4) 220 (fun _ => 0), oP q5 (f5 1) (f5 2) (f5 3) 0 0 0 0 (f5 4) 0, aI cI (f5 1) 6 (fun _ => 0), aI cI (f5 2) 6 (fun _ => 0), aI cI (f5 3) 6 (fun _ => 0), aI cI (f5 4) 220 (fun _ => 0)] H := hP
  have hD : va_D A [(b, .inr (3, [.ref q1, .ref q2, .ref q3, .ref q4, .null, .null, .int 0, .null, .null, .int 0, .long 0])), oT q1 (f1 1) 0 0 0 0 0, aI cI (f1 1) 150 (fun _ => 0), oB q2 0 (f2 1) (f2 2) (f2 3) 0 (f2 4) (f2 5), aI cI (f2 1) 6 (fun _ => 0), aI cI (f2 2) 6 (fun _ => 0), aI cI (f2 3) 6 (fun _ => 0), aI cI (f2 4) 5 (fun _ => 0), aR cR (f2 5) 5 (fun i => f2 (6 + i)), aI cI (f2 6) 6 (fun _ => 0), aI cI (f2 7) 6 (fun _ => 0), aI cI (f2 8) 6 (fun _ => 0), aI cI (f2 9) 6 (fun _ => 0), aI cI (f2 10) 6 (fun _ => 0), oB q3 0 (f3 1) (f3 2) (f3 3) 0 (f3 4) (f3 5), aI cI (f3 1) 6 (fun _ => 0), aI cI (f3 2) 6 (fun _ => 0), aI cI (f3 3) 6 (fun _ => 0), aI cI (f3 4) 5 (fun _ => 0), aR cR (f3 5) 5 (fun i => f3 (6 + i)), aI cI (f3 6) 6 (fun _ => 0), aI cI (f3 7) 6 (fun _ => 0), aI cI (f3 8) 6 (fun _ => 0), aI cI (f3 9) 6 (fun _ => 0), aI cI (f3 10) 6 (fun _ => 0), oP q4 (f4 1) (f4 2) (f4 3) 0 0 0 0 (f4 4) 0, aI cI (f4 1) 6 (fun _ => 0), aI cI (f4 2) 6 (fun _ => 0), aI cI (f4 3) 6 (fun _ => 0), aI cI (f4 4) 220 (fun _ => 0), oP q5 (f5 1) (f5 2) (f5 3) 0 0 0 0 (f5 4) 0, aI cI (f5 1) 6 (fun _ => 0), aI cI (f5 2) 6 (fun _ => 0), aI cI (f5 3) 6 (fun _ => 0), aI cI (f5 4) 220 (fun _ => 0)] := hD
  refine W.widen (k := 34) (n := 780) (Nat.le_of_ble_eq_true rfl) (Nat.le_of_ble_eq_true rfl) ?_
  refine z_putF (k := 4) zcX3 hC hnm hK hP hD hS 0 rfl (by decide) gF_X3_33 rfl rfl rfl rfl (Nat.le_of_ble_eq_true rfl) dX3_init_56 (fun H locs hP hD hS => ?_)
  have hP : va_P D vwCl [(b, .inr (3, [.ref q1, .ref q2, .ref q3, .ref q4, .ref q5, .null, .int 0, .null, .null, .int 0, .long 0])), oT q1 (f1 1) 0 0 0 0 0, aI cI (f1 1) 150 (fun _ => 0), oB q2 0 (f2 1) (f2 2) (f2 3) 0 (f2 4) (f2 5), aI cI (f2 1) 6 (fun _ => 0), aI cI (f2 2) 6 (fun _ => 0), aI cI (f2 3) 6 (fun _ => 0), aI cI (f2 4) 5 (fun _ => 0), aR cR (f2 5) 5 (fun i => f2 (6 + i)), aI cI (f2 6) 6 (fun _ => 0), aI cI (f2 7) 6 (fun _ => 0), aI cI (f2 8) 6 (fun _ => 0), aI cI (f2 9) 6 (fun _ => 0), aI cI (f2 10) 6 (fun _ => 0), oB q3 0 (f3 1) (f3 2) (f3 3) 0 (f3 4) (f3 5), aI cI (f3 1) 6 (fun _ => 0), aI cI (f3 2) 6 (fun _ => 0), aI cI (f3 3) 6 (fun _ => 0), aI cI (f3 4) 5 (fun _ => 0), aR cR (f3 5) 5 (fun i => f3 (6 + i)), aI cI (f3 6) 6 (fun _ => 0), aI cI (f3 7) 6 (fun _ => 0), aI cI (f3 8) 6 (fun _ => 0), aI cI (f3 9) 6 (fun _ => 0), aI cI (f3 10) 6 (fun _ => 0), oP q4 (f4 1) (f4 2) (f4 3) 0 0 0 0 (f4 4) 0, aI cI (f4 1) 6 (fun _ => 0), aI cI (f4 2) 6 (fun _ => 0), aI cI (f4 3) 6 (fun _ => 0), aI cI (f4 4) 220 (fun _ => 0), oP q5 (f5 1) (f5 2) (f5 3) 0 0 0 0 (f5 4) 0, aI cI (f5 1) 6 (fun _ => 0), aI cI (f5 2) 6 (fun _ => 0), aI cI (f5 3) 6 (fun _ => 0), aI cI (f5 4) 220 (fun _ => 0)] H := hP
  have hD : va_D A [(b, .inr (3, [.ref q1, .ref q2, .ref q3, .ref q4, .ref q5, .null, .int 0, .null, .null, .int 0, .long 0])), oT q1 (f1 1) 0 0 0 0 0, aI cI (f1 1) 150 (fun _ => 0), oB q2 0 (f2 1) (f2 2) (f2 3) 0 (f2 4) (f2 5), aI cI (f2 1) 6 (fun _ => 0), aI cI (f2 2) 6 (fun _ => 0), aI cI (f2 3) 6 (fun _ => 0), aI cI (f2 4) 5 (fun _ => 0), aR cR (f2 5) 5 (fun i => f2 (6 + i)), aI cI (f2 6) 6 (fun _ => 0), aI cI (f2 7) 6 (fun _ => 0), aI cI (f2 8) 6 (fun _ => 0), aI cI (f2 9) 6 (fun _ => 0), aI cI (f2 10) 6 (fun _ => 0), oB q3 0 (f3 1) (f3 2) (f3 3) 0 (f3 4) (f3 5), aI cI (f3 1) 6 (fun _ => 0), aI cI (f3 2) 6 (fun _ => 0), aI cI (f3 3) 6 (fun _ => 0), aI cI (f3 4) 5 (fun _ => 0), aR cR (f3 5) 5 (fun i => f3 (6 + i)), aI cI (f3 6) 6 (fun _ => 0), aI cI (f3 7) 6 (fun _ => 0), aI cI (f3 8) 6 (fun _ => 0), aI cI (f3 9) 6 (fun _ => 0), aI cI (f3 10) 6 (fun _ => 0), oP q4 (f4 1) (f4 2) (f4 3) 0 0 0 0 (f4 4) 0, aI cI (f4 1) 6 (fun _ => 0), aI cI (f4 2) 6 (fun _ => 0), aI cI (f4 3) 6 (fun _ => 0), aI cI (f4 4) 220 (fun _ => 0), oP q5 (f5 1) (f5 2) (f5 3) 0 0 0 0 (f5 4) 0, aI cI (f5 1) 6 (fun _ => 0), aI cI (f5 2) 6 (fun _ => 0), aI cI (f5 3) 6 (fun _ => 0), aI cI (f5 4) 220 (fun _ => 0)] := hD
  refine lv_aload_n hx hb dX3_init_59 rfl (lv_at hl 0 rfl) ?_
  refine z_new zcX0 hC nC_X3_26 nN_X0 nZ_X0 hK hP hD hS hA nD_X0 (Nat.le_of_ble_eq_true rfl) (Nat.le_of_ble_eq_true rfl) dX3_init_60 (fun q6 H hP hD hS => ?_)
  refine W.widen (k := 35) (n := 789) (Nat.le_of_ble_eq_true rfl) (Nat.le_of_ble_eq_true rfl) ?_
  refine lv_dup hx hb dX3_init_63 rfl ?_
  refine zAN (X := [(b, .inr (3, [.ref q1, .ref q2, .ref q3, .ref q4, .ref q5, .null, .int 0, .null, .null, .int 0, .long 0])), oT q1 (f1 1) 0 0 0 0 0, aI cI (f1 1) 150 (fun _ => 0), oB q2 0 (f2 1) (f2 2) (f2 3) 0 (f2 4) (f2 5), aI cI (f2 1) 6 (fun _ => 0), aI cI (f2 2) 6 (fun _ => 0), aI cI (f2 3) 6 (fun _ => 0), aI cI (f2 4) 5 (fun _ => 0), aR cR (f2 5) 5 (fun i => f2 (6 + i)), aI cI (f2 6) 6 (fun _ => 0), aI cI (f2 7) 6 (fun _ => 0), aI cI (f2 8) 6 (fun _ => 0), aI cI (f2 9) 6 (fun _ => 0), aI cI (f2 10) 6 (fun _ => 0), oB q3 0 (f3 1) (f3 2) (f3 3) 0 (f3 4) (f3 5), aI cI (f3 1) 6 (fun _ => 0), aI cI (f3 2) 6 (fun _ => 0), aI cI (f3 3) 6 (fun _ => 0), aI cI (f3 4) 5 (fun _ => 0), aR cR (f3 5) 5 (fun i => f3 (6 + i)), aI cI (f3 6) 6 (fun _ => 0), aI cI (f3 7) 6 (fun _ => 0), aI cI (f3 8) 6 (fun _ => 0), aI cI (f3 9) 6 (fun _ => 0), aI cI (f3 10) 6 (fun _ => 0), oP q4 (f4 1) (f4 2) (f4 3) 0 0 0 0 (f4 4) 0, aI cI (f4 1) 6 (fun _ => 0), aI cI (f4 2) 6 (fun _ => 0), aI cI (f4 3) 6 (fun _ => 0), aI cI (f4 4) 220 (fun _ => 0), oP q5 (f5 1) (f5 2) (f5 3) 0 0 0 0 (f5 4) 0, aI cI (f5 1) 6 (fun _ => 0), aI cI (f5 2) 6 (fun _ => 0), aI cI (f5 3) 6 (fun _ => 0), aI cI (f5 4) 220 (fun _ => 0)]) (sz := H.size) rfl hC (c_X0_init (l := l) (b := q6)) nM_X3_28 nI_X0 rfl (by decide) hG hK hP hD hS hA hl.1 rfl (Nat.le_of_ble_eq_true rfl) dX3_init_64 ⟨Nat.le_of_ble_eq_true rfl, Nat.le_of_ble_eq_true rfl⟩ (fun w6 H locs hB6 hP hD hS => ?_)
  obtain ⟨f6, rfl⟩ := hB6
  have hP : va_P D vwCl [(b, .inr (3, [.ref q1, .ref q2, .ref q3, .ref q4, .ref q5, .null, .int 0, .null, .null, .int 0, .long 0])), oT q1 (f1 1) 0 0 0 0 0, aI cI (f1 1) 150 (fun _ => 0), oB q2 0 (f2 1) (f2 2) (f2 3) 0 (f2 4) (f2 5), aI cI (f2 1) 6 (fun _ => 0), aI cI (f2 2) 6 (fun _ => 0), aI cI (f2 3) 6 (fun _ => 0), aI cI (f2 4) 5 (fun _ => 0), aR cR (f2 5) 5 (fun i => f2 (6 + i)), aI cI (f2 6) 6 (fun _ => 0), aI cI (f2 7) 6 (fun _ => 0), aI cI (f2 8) 6 (fun _ => 0), aI cI (f2 9) 6 (fun _ => 0), aI cI (f2 10) 6 (fun _ => 0), oB q3 0 (f3 1) (f3 2) (f3 3) 0 (f3 4) (f3 5), aI cI (f3 1) 6 (fun _ => 0), aI cI (f3 2) 6 (fun _ => 0), aI cI (f3 3) 6 (fun _ => 0), aI cI (f3 4) 5 (fun _ => 0), aR cR (f3 5) 5 (fun i => f3 (6 + i)), aI cI (f3 6) 6 (fun _ => 0), aI cI (f3 7) 6 (fun _ => 0), aI cI (f3 8) 6 (fun _ => 0), aI cI (f3 9) 6 (fun _ => 0), aI cI (f3 10) 6 (fun _ => 0), oP q4 (f4 1) (f4 2) (f4 3) 0 0 0 0 (f4 4) 0, aI cI (f4 1) 6 (fun _ => 0), aI cI (f4 2) 6 (fun _ => 0), aI cI (f4 3) 6 (fun _ => 0), aI cI (f4 4) 220 (fun _ => 0), oP q5 (f5 1) (f5 2) (f5 3) 0 0 0 0 (f5 4) 0, aI cI (f5 1) 6 (fun _ => 0), aI cI (f5 2) 6 (fun _ => 0), aI cI (f5 3) 6 (fun _ => 0), aI cI (f5 4) 220 (fun _ => 0), oP q6 (f6 1) (f6 2) (f6 3) 0 0 0 0 (f6 4) 0, aI cI (f6 1) 6 (fun _ => 0), aI cI (f6 2) 6 (fun _ => 0), aI cI (f6 3) 6 (fun _ => 0), aI cI (f6 4) 220 (fun _ => 0)] H := hP
  have hD : va_D A [(b, .inr (3, [.ref q1, .ref q2, .ref q3, .ref q4, .ref q5, .null, .int 0, .null, .null, .int 0, .long 0])), oT q1 (f1 1) 0 0 0 0 0, aI cI (f1 1) 150 (fun _ => 0), oB q2 0 (f2 1) (f2 2) (f2 3) 0 (f2 4) (f2 5), aI cI (f2 1) 6 (fun _ => 0), aI cI (f2 2) 6 (fun _ => 0), aI cI (f2 3) 6 (fun _ => 0), aI cI (f2 4) 5 (fun _ => 0), aR cR (f2 5) 5 (fun i => f2 (6 + i)), aI cI (f2 6) 6 (fun _ => 0), aI cI (f2 7) 6 (fun _ => 0), aI cI (f2 8) 6 (fun _ => 0), aI cI (f2 9) 6 (fun _ => 0), aI cI (f2 10) 6 (fun _ => 0), oB q3 0 (f3 1) (f3 2) (f3 3) 0 (f3 4) (f3 5), aI cI (f3 1) 6 (fun _ => 0), aI cI (f3 2) 6 (fun _ => 0), aI cI (f3 3) 6 (fun _ => 0), aI cI (f3 4) 5 (fun _ => 0), aR cR (f3 5) 5 (fun i => f3 (6 + i)), aI cI (f3 6) 6 (fun _ => 0), aI cI (f3 7) 6 (fun _ => 0), aI cI (f3 8) 6 (fun _ => 0), aI cI (f3 9) 6 (fun _ => 0), aI cI (f3 10) 6 (fun _ => 0), oP q4 (f4 1) (f4 2) (f4 3) 0 0 0 0 (f4 4) 0, aI cI (f4 1) 6 (fun _ => 0), aI cI (f4 2) 6 (fun _ => 0), aI cI (f4 3) 6 (fun _ => 0), aI cI (f4 4) 220 (fun _ => 0), oP q5 (f5 1) (f5 2) (f5 3) 0 0 0 0 (f5 4) 0, aI cI (f5 1) 6 (fun _ => 0), aI cI (f5 2) 6 (fun _ => 0), aI cI (f5 3) 6 (fun _ => 0), aI cI (f5 4) 220 (fun _ => 0), oP q6 (f6 1) (f6 2) (f6 3) 0 0 0 0 (f6 4) 0, aI cI (f6 1) 6 (fun _ => 0), aI cI (f6 2) 6 (fun _ => 0), aI cI (f6 3) 6 (fun _ => 0), aI cI (f6 4) 220 (fun _ => 0)] := hD
  refine W.widen (k := 39) (n := 1027) (Nat.le_of_ble_eq_true rfl) (Nat.le_of_ble_eq_true rfl) ?_
  refine z_putF (k := 5) zcX3 hC hnm hK hP hD hS 0 rfl (by decide) gF_X3_36 rfl rfl rfl rfl (Nat.le_of_ble_eq_true rfl) dX3_init_67 (fun H locs hP hD hS => ?_)
  have hP : va_P D vwCl [(b, .inr (3, [.ref q1, .ref q2, .ref q3, .ref q4, .ref q5, .ref q6, .int 0, .null, .null, .int 0, .long 0])), oT q1 (f1 1) 0 0 0 0 0, aI cI (f1 1) 150 (fun _ => 0), oB q2 0 (f2 1) (f2 2) (f2 3) 0 (f2 4) (f2 5), aI cI (f2 1) 6 (fun _ => 0), aI cI (f2 2) 6 (fun _ => 0), aI cI (f2 3) 6 (fun _ => 0), aI cI (f2 4) 5 (fun _ => 0), aR cR (f2 5) 5 (fun i => f2 (6 + i)), aI cI (f2 6) 6 (fun _ => 0), aI cI (f2 7) 6 (fun _ => 0), aI cI (f2 8) 6 (fun _ => 0), aI cI (f2 9) 6 (fun _ => 0), aI cI (f2 10) 6 (fun _ => 0), oB q3 0 (f3 1) (f3 2) (f3 3) 0 (f3 4) (f3 5), aI cI (f3 1) 6 (fun _ => 0), aI cI (f3 2) 6 (fun _ => 0), aI cI (f3 3) 6 (fun _ => 0), aI cI (f3 4) 5 (fun _ => 0), aR cR (f3 5) 5 (fun i => f3 (6 + i)), aI cI (f3 6) 6 (fun _ => 0), aI cI (f3 7) 6 (fun _ => 0), aI cI (f3 8) 6 (fun _ => 0), aI cI (f3 9) 6 (fun _ => 0), aI cI (f3 10) 6 (fun _ => 0), oP q4 (f4 1) (f4 2) (f4 3) 0 0 0 0 (f4 4) 0, aI cI (f4 1) 6 (fun _ => 0), aI cI (f4 2) 6 (fun _ => 0), aI cI (f4 3) 6 (fun _ => 0), aI cI (f4 4) 220 (fun _ => 0), oP q5 (f5 1) (f5 2) (f5 3) 0 0 0 0 (f5 4) 0, aI cI (f5 1) 6 (fun _ => 0), aI cI (f5 2) 6 (fun _ => 0), aI cI (f5 3) 6 (fun _ => 0), aI cI (f5 4) 220 (fun _ => 0), oP q6 (f6 1) (f6 2) (f6 3) 0 0 0 0 (f6 4) 0, aI cI (f6 1) 6 (fun _ => 0), aI cI (f6 2) 6 (fun _ => 0), aI cI (f6 3) 6 (fun _ => 0), aI cI (f6 4) 220 (fun _ => 0)] H := hP
  have hD : va_D A [(b, .inr (3, [.ref q1, .ref q2, .ref q3, .ref q4, .ref q5, .ref q6, .int 0, .null, .null, .int 0, .long 0])), oT q1 (f1 1) 0 0 0 0 0, aI cI (f1 1) 150 (fun _ => 0), oB q2 0 (f2 1) (f2 2) (f2 3) 0 (f2 4) (f2 5), aI cI (f2 1) 6 (fun _ => 0), aI cI (f2 2) 6 (fun _ => 0), aI cI (f2 3) 6 (fun _ => 0), aI cI (f2 4) 5 (fun _ => 0), aR cR (f2 5) 5 (fun i => f2 (6 + i)), aI cI (f2 6) 6 (fun _ => 0), aI cI (f2 7) 6 (fun _ => 0), aI cI (f2 8) 6 (fun _ => 0), aI cI (f2 9) 6 (fun _ => 0), aI cI (f2 10) 6 (fun _ => 0), oB q3 0 (f3 1) (f3 2) (f3 3) 0 (f3 4) (f3 5), aI cI (f3 1) 6 (fun _ => 0), aI cI (f3 2) 6 (fun _ => 0), aI cI (f3 3) 6 (fun _ => 0), aI cI (f3 4) 5 (fun _ => 0), aR cR (f3 5) 5 (fun i => f3 (6 + i)), aI cI (f3 6) 6 (fun _ => 0), aI cI (f3 7) 6 (fun _ => 0), aI cI (f3 8) 6 (fun _ => 0), aI cI (f3 9) 6 (fun _ => 0), aI cI (f3 10) 6 (fun _ => 0), oP q4 (f4 1) (f4 2) (f4 3) 0 0 0 0 (f4 4) 0, aI cI (f4 1) 6 (fun _ => 0), aI cI (f4 2) 6 (fun _ => 0), aI cI (f4 3) 6 (fun _ => 0), aI cI (f4 4) 220 (fun _ => 0), oP q5 (f5 1) (f5 2) (f5 3) 0 0 0 0 (f5 4) 0, aI cI (f5 1) 6 (fun _ => 0), aI cI (f5 2) 6 (fun _ => 0), aI cI (f5 3) 6 (fun _ => 0), aI cI (f5 4) 220 (fun _ => 0), oP q6 (f6 1) (f6 2) (f6 3) 0 0 0 0 (f6 4) 0, aI cI (f6 1) 6 (fun _ => 0), aI cI (f6 2) 6 (fun _ => 0), aI cI (f6 3) 6 (fun _ => 0), aI cI (f6 4) 220 (fun _ => 0)] := hD
  refine lv_aload_n hx hb dX3_init_70 rfl (lv_at hl 0 rfl) ?_
  refine lv_iconst (v := nI 0) hx hb dX3_init_71 (by decide) ?_
  refine z_put (k := 6) zcX3 hC hK hP hD hS 0 rfl (by decide) lF_X3_39 rfl rfl rfl (Nat.le_of_ble_eq_true rfl) dX3_init_72 (fun H locs hP hD hS => ?_)
  have hP : va_P D vwCl [(b, .inr (3, [.ref q1, .ref q2, .ref q3, .ref q4, .ref q5, .ref q6, .int (nI 0), .null, .null, .int 0, .long 0])), oT q1 (f1 1) 0 0 0 0 0, aI cI (f1 1) 150 (fun _ => 0), oB q2 0 (f2 1) (f2 2) (f2 3) 0 (f2 4) (f2 5), aI cI (f2 1) 6 (fun _ => 0), aI cI (f2 2) 6 (fun _ => 0), aI cI (f2 3) 6 (fun _ => 0), aI cI (f2 4) 5 (fun _ => 0), aR cR (f2 5) 5 (fun i => f2 (6 + i)), aI cI (f2 6) 6 (fun _ => 0), aI cI (f2 7) 6 (fun _ => 0), aI cI (f2 8) 6 (fun _ => 0), aI cI (f2 9) 6 (fun _ => 0), aI cI (f2 10) 6 (fun _ => 0), oB q3 0 (f3 1) (f3 2) (f3 3) 0 (f3 4) (f3 5), aI cI (f3 1) 6 (fun _ => 0), aI cI (f3 2) 6 (fun _ => 0), aI cI (f3 3) 6 (fun _ => 0), aI cI (f3 4) 5 (fun _ => 0), aR cR (f3 5) 5 (fun i => f3 (6 + i)), aI cI (f3 6) 6 (fun _ => 0), aI cI (f3 7) 6 (fun _ => 0), aI cI (f3 8) 6 (fun _ => 0), aI cI (f3 9) 6 (fun _ => 0), aI cI (f3 10) 6 (fun _ => 0), oP q4 (f4 1) (f4 2) (f4 3) 0 0 0 0 (f4 4) 0, aI cI (f4 1) 6 (fun _ => 0), aI cI (f4 2) 6 (fun _ => 0), aI cI (f4 3) 6 (fun _ => 0), aI cI (f4 4) 220 (fun _ => 0), oP q5 (f5 1) (f5 2) (f5 3) 0 0 0 0 (f5 4) 0, aI cI (f5 1) 6 (fun _ => 0), aI cI (f5 2) 6 (fun _ => 0), aI cI (f5 3) 6 (fun _ => 0), aI cI (f5 4) 220 (fun _ => 0), oP q6 (f6 1) (f6 2) (f6 3) 0 0 0 0 (f6 4) 0, aI cI (f6 1) 6 (fun _ => 0), aI cI (f6 2) 6 (fun _ => 0), aI cI (f6 3) 6 (fun _ => 0), aI cI (f6 4) 220 (fun _ => 0)] H := hP
  have hD : va_D A [(b, .inr (3, [.ref q1, .ref q2, .ref q3, .ref q4, .ref q5, .ref q6, .int (nI 0), .null, .null, .int 0, .long 0])), oT q1 (f1 1) 0 0 0 0 0, aI cI (f1 1) 150 (fun _ => 0), oB q2 0 (f2 1) (f2 2) (f2 3) 0 (f2 4) (f2 5), aI cI (f2 1) 6 (fun _ => 0), aI cI (f2 2) 6 (fun _ => 0), aI cI (f2 3) 6 (fun _ => 0), aI cI (f2 4) 5 (fun _ => 0), aR cR (f2 5) 5 (fun i => f2 (6 + i)), aI cI (f2 6) 6 (fun _ => 0), aI cI (f2 7) 6 (fun _ => 0), aI cI (f2 8) 6 (fun _ => 0), aI cI (f2 9) 6 (fun _ => 0), aI cI (f2 10) 6 (fun _ => 0), oB q3 0 (f3 1) (f3 2) (f3 3) 0 (f3 4) (f3 5), aI cI (f3 1) 6 (fun _ => 0), aI cI (f3 2) 6 (fun _ => 0), aI cI (f3 3) 6 (fun _ => 0), aI cI (f3 4) 5 (fun _ => 0), aR cR (f3 5) 5 (fun i => f3 (6 + i)), aI cI (f3 6) 6 (fun _ => 0), aI cI (f3 7) 6 (fun _ => 0), aI cI (f3 8) 6 (fun _ => 0), aI cI (f3 9) 6 (fun _ => 0), aI cI (f3 10) 6 (fun _ => 0), oP q4 (f4 1) (f4 2) (f4 3) 0 0 0 0 (f4 4) 0, aI cI (f4 1) 6 (fun _ => 0), aI cI (f4 2) 6 (fun _ => 0), aI cI (f4 3) 6 (fun _ => 0), aI cI (f4 4) 220 (fun _ => 0), oP q5 (f5 1) (f5 2) (f5 3) 0 0 0 0 (f5 4) 0, aI cI (f5 1) 6 (fun _ => 0), aI cI (f5 2) 6 (fun _ => 0), aI cI (f5 3) 6 (fun _ => 0), aI cI (f5 4) 220 (fun _ => 0), oP q6 (f6 1) (f6 2) (f6 3) 0 0 0 0 (f6 4) 0, aI cI (f6 1) 6 (fun _ => 0), aI cI (f6 2) 6 (fun _ => 0), aI cI (f6 3) 6 (fun _ => 0), aI cI (f6 4) 220 (fun _ => 0)] := hD
  refine lv_aload_n hx hb dX3_init_75 rfl (lv_at hl 0 rfl) ?_
  refine lv_bipush (v := nI 6) hx hb dX3_init_76 (by decide) ?_
  refine z_newI hC hK hP hD hS hA (n := 6) (by decide) (Nat.le_of_ble_eq_true rfl) (Nat.le_of_ble_eq_true rfl) dX3_init_78 (fun q7 H hP hD hS => ?_)
  have hP : va_P D vwCl [(b, .inr (3, [.ref q1, .ref q2, .ref q3, .ref q4, .ref q5, .ref q6, .int (nI 0), .null, .null, .int 0, .long 0])), oT q1 (f1 1) 0 0 0 0 0, aI cI (f1 1) 150 (fun _ => 0), oB q2 0 (f2 1) (f2 2) (f2 3) 0 (f2 4) (f2 5), aI cI (f2 1) 6 (fun _ => 0), aI cI (f2 2) 6 (fun _ => 0), aI cI (f2 3) 6 (fun _ => 0), aI cI (f2 4) 5 (fun _ => 0), aR cR (f2 5) 5 (fun i => f2 (6 + i)), aI cI (f2 6) 6 (fun _ => 0), aI cI (f2 7) 6 (fun _ => 0), aI cI (f2 8) 6 (fun _ => 0), aI cI (f2 9) 6 (fun _ => 0), aI cI (f2 10) 6 (fun _ => 0), oB q3 0 (f3 1) (f3 2) (f3 3) 0 (f3 4) (f3 5), aI cI (f3 1) 6 (fun _ => 0), aI cI (f3 2) 6 (fun _ => 0), aI cI (f3 3) 6 (fun _ => 0), aI cI (f3 4) 5 (fun _ => 0), aR cR (f3 5) 5 (fun i => f3 (6 + i)), aI cI (f3 6) 6 (fun _ => 0), aI cI (f3 7) 6 (fun _ => 0), aI cI (f3 8) 6 (fun _ => 0), aI cI (f3 9) 6 (fun _ => 0), aI cI (f3 10) 6 (fun _ => 0), oP q4 (f4 1) (f4 2) (f4 3) 0 0 0 0 (f4 4) 0, aI cI (f4 1) 6 (fun _ => 0), aI cI (f4 2) 6 (fun _ => 0), aI cI (f4 3) 6 (fun _ => 0), aI cI (f4 4) 220 (fun _ => 0), oP q5 (f5 1) (f5 2) (f5 3) 0 0 0 0 (f5 4) 0, aI cI (f5 1) 6 (fun _ => 0), aI cI (f5 2) 6 (fun _ => 0), aI cI (f5 3) 6 (fun _ => 0), aI cI (f5 4) 220 (fun _ => 0), oP q6 (f6 1) (f6 2) (f6 3) 0 0 0 0 (f6 4) 0, aI cI (f6 1) 6 (fun _ => 0), aI cI (f6 2) 6 (fun _ => 0), aI cI (f6 3) 6 (fun _ => 0), aI cI (f6 4) 220 (fun _ => 0), aI cI q7 6 (fun _ => 0)] H := hP
  have hD : va_D A [(b, .inr (3, [.ref q1, .ref q2, .ref q3, .ref q4, .ref q5, .ref q6, .int (nI 0), .null, .null, .int 0, .long 0])), oT q1 (f1 1) 0 0 0 0 0, aI cI (f1 1) 150 (fun _ => 0), oB q2 0 (f2 1) (f2 2) (f2 3) 0 (f2 4) (f2 5), aI cI (f2 1) 6 (fun _ => 0), aI cI (f2 2) 6 (fun _ => 0), aI cI (f2 3) 6 (fun _ => 0), aI cI (f2 4) 5 (fun _ => 0), aR cR (f2 5) 5 (fun i => f2 (6 + i)), aI cI (f2 6) 6 (fun _ => 0), aI cI (f2 7) 6 (fun _ => 0), aI cI (f2 8) 6 (fun _ => 0), aI cI (f2 9) 6 (fun _ => 0), aI cI (f2 10) 6 (fun _ => 0), oB q3 0 (f3 1) (f3 2) (f3 3) 0 (f3 4) (f3 5), aI cI (f3 1) 6 (fun _ => 0), aI cI (f3 2) 6 (fun _ => 0), aI cI (f3 3) 6 (fun _ => 0), aI cI (f3 4) 5 (fun _ => 0), aR cR (f3 5) 5 (fun i => f3 (6 + i)), aI cI (f3 6) 6 (fun _ => 0), aI cI (f3 7) 6 (fun _ => 0), aI cI (f3 8) 6 (fun _ => 0), aI cI (f3 9) 6 (fun _ => 0), aI cI (f3 10) 6 (fun _ => 0), oP q4 (f4 1) (f4 2) (f4 3) 0 0 0 0 (f4 4) 0, aI cI (f4 1) 6 (fun _ => 0), aI cI (f4 2) 6 (fun _ => 0), aI cI (f4 3) 6 (fun _ => 0), aI cI (f4 4) 220 (fun _ => 0), oP q5 (f5 1) (f5 2) (f5 3) 0 0 0 0 (f5 4) 0, aI cI (f5 1) 6 (fun _ => 0), aI cI (f5 2) 6 (fun _ => 0), aI cI (f5 3) 6 (fun _ => 0), aI cI (f5 4) 220 (fun _ => 0), oP q6 (f6 1) (f6 2) (f6 3) 0 0 0 0 (f6 4) 0, aI cI (f6 1) 6 (fun _ => 0), aI cI (f6 2) 6 (fun _ => 0), aI cI (f6 3) 6 (fun _ => 0), aI cI (f6 4) 220 (fun _ => 0), aI cI q7 6 (fun _ => 0)] := hD
  refine W.widen (k := 40) (n := 1033) (Nat.le_of_ble_eq_true rfl) (Nat.le_of_ble_eq_true rfl) ?_
  refine z_putF (k := 7) zcX3 hC hnm hK hP hD hS 0 rfl (by decide) gF_X3_43 rfl rfl rfl rfl (Nat.le_of_ble_eq_true rfl) dX3_init_80 (fun H locs hP hD hS => ?_)
  have hP : va_P D vwCl [(b, .inr (3, [.ref q1, .ref q2, .ref q3, .ref q4, .ref q5, .ref q6, .int (nI 0), .ref q7, .null, .int 0, .long 0])), oT q1 (f1 1) 0 0 0 0 0, aI cI (f1 1) 150 (fun _ => 0), oB q2 0 (f2 1) (f2 2) (f2 3) 0 (f2 4) (f2 5), aI cI (f2 1) 6 (fun _ => 0), aI cI (f2 2) 6 (fun _ => 0), aI cI (f2 3) 6 (fun _ => 0), aI cI (f2 4) 5 (fun _ => 0), aR cR (f2 5) 5 (fun i => f2 (6 + i)), aI cI (f2 6) 6 (fun _ => 0), aI cI (f2 7) 6 (fun _ => 0), aI cI (f2 8) 6 (fun _ => 0), aI cI (f2 9) 6 (fun _ => 0), aI cI (f2 10) 6 (fun _ => 0), oB q3 0 (f3 1) (f3 2) (f3 3) 0 (f3 4) (f3 5), aI cI (f3 1) 6 (fun _ => 0), aI cI (f3 2) 6 (fun _ => 0), aI cI (f3 3) 6 (fun _ => 0), aI cI (f3 4) 5 (fun _ => 0), aR cR (f3 5) 5 (fun i => f3 (6 + i)), aI cI (f3 6) 6 (fun _ => 0), aI cI (f3 7) 6 (fun _ => 0), aI cI (f3 8) 6 (fun _ => 0), aI cI (f3 9) 6 (fun _ => 0), aI cI (f3 10) 6 (fun _ => 0), oP q4 (f4 1) (f4 2) (f4 3) 0 0 0 0 (f4 4) 0, aI cI (f4 1) 6 (fun _ => 0), aI cI (f4 2) 6 (fun _ => 0), aI cI (f4 3) 6 (fun _ => 0), aI cI (f4 4) 220 (fun _ => 0), oP q5 (f5 1) (f5 2) (f5 3) 0 0 0 0 (f5 4) 0, aI cI (f5 1) 6 (fun _ => 0), aI cI (f5 2) 6 (fun _ => 0), aI cI (f5 3) 6 (fun _ => 0), aI cI (f5 4) 220 (fun _ => 0), oP q6 (f6 1) (f6 2) (f6 3) 0 0 0 0 (f6 4) 0, aI cI (f6 1) 6 (fun _ => 0), aI cI (f6 2) 6 (fun _ => 0), aI cI (f6 3) 6 (fun _ => 0), aI cI (f6 4) 220 (fun _ => 0), aI cI q7 6 (fun _ => 0)] H := hP
  have hD : va_D A [(b, .inr (3, [.ref q1, .ref q2, .ref q3, .ref q4, .ref q5, .ref q6, .int (nI 0), .ref q7, .null, .int 0, .long 0])), oT q1 (f1 1) 0 0 0 0 0, aI cI (f1 1) 150 (fun _ => 0), oB q2 0 (f2 1) (f2 2) (f2 3) 0 (f2 4) (f2 5), aI cI (f2 1) 6 (fun _ => 0), aI cI (f2 2) 6 (fun _ => 0), aI cI (f2 3) 6 (fun _ => 0), aI cI (f2 4) 5 (fun _ => 0), aR cR (f2 5) 5 (fun i => f2 (6 + i)), aI cI (f2 6) 6 (fun _ => 0), aI cI (f2 7) 6 (fun _ => 0), aI cI (f2 8) 6 (fun _ => 0), aI cI (f2 9) 6 (fun _ => 0), aI cI (f2 10) 6 (fun _ => 0), oB q3 0 (f3 1) (f3 2) (f3 3) 0 (f3 4) (f3 5), aI cI (f3 1) 6 (fun _ => 0), aI cI (f3 2) 6 (fun _ => 0), aI cI (f3 3) 6 (fun _ => 0), aI cI (f3 4) 5 (fun _ => 0), aR cR (f3 5) 5 (fun i => f3 (6 + i)), aI cI (f3 6) 6 (fun _ => 0), aI cI (f3 7) 6 (fun _ => 0), aI cI (f3 8) 6 (fun _ => 0), aI cI (f3 9) 6 (fun _ => 0), aI cI (f3 10) 6 (fun _ => 0), oP q4 (f4 1) (f4 2) (f4 3) 0 0 0 0 (f4 4) 0, aI cI (f4 1) 6 (fun _ => 0), aI cI (f4 2) 6 (fun _ => 0), aI cI (f4 3) 6 (fun _ => 0), aI cI (f4 4) 220 (fun _ => 0), oP q5 (f5 1) (f5 2) (f5 3) 0 0 0 0 (f5 4) 0, aI cI (f5 1) 6 (fun _ => 0), aI cI (f5 2) 6 (fun _ => 0), aI cI (f5 3) 6 (fun _ => 0), aI cI (f5 4) 220 (fun _ => 0), oP q6 (f6 1) (f6 2) (f6 3) 0 0 0 0 (f6 4) 0, aI cI (f6 1) 6 (fun _ => 0), aI cI (f6 2) 6 (fun _ => 0), aI cI (f6 3) 6 (fun _ => 0), aI cI (f6 4) 220 (fun _ => 0), aI cI q7 6 (fun _ => 0)] := hD
  refine lv_aload_n hx hb dX3_init_83 rfl (lv_at hl 0 rfl) ?_
  refine lv_bipush (v := nI 6) hx hb dX3_init_84 (by decide) ?_
  refine z_newZ hC hK hP hD hS hA (n := 6) (by decide) (Nat.le_of_ble_eq_true rfl) (Nat.le_of_ble_eq_true rfl) dX3_init_86 (fun q8 H hP hD hS => ?_)
  have hP : va_P D vwCl [(b, .inr (3, [.ref q1, .ref q2, .ref q3, .ref q4, .ref q5, .ref q6, .int (nI 0), .ref q7, .null, .int 0, .long 0])), oT q1 (f1 1) 0 0 0 0 0, aI cI (f1 1) 150 (fun _ => 0), oB q2 0 (f2 1) (f2 2) (f2 3) 0 (f2 4) (f2 5), aI cI (f2 1) 6 (fun _ => 0), aI cI (f2 2) 6 (fun _ => 0), aI cI (f2 3) 6 (fun _ => 0), aI cI (f2 4) 5 (fun _ => 0), aR cR (f2 5) 5 (fun i => f2 (6 + i)), aI cI (f2 6) 6 (fun _ => 0), aI cI (f2 7) 6 (fun _ => 0), aI cI (f2 8) 6 (fun _ => 0), aI cI (f2 9) 6 (fun _ => 0), aI cI (f2 10) 6 (fun _ => 0), oB q3 0 (f3 1) (f3 2) (f3 3) 0 (f3 4) (f3 5), aI cI (f3 1) 6 (fun _ => 0), aI cI (f3 2) 6 (fun _ => 0), aI cI (f3 3) 6 (fun _ => 0), aI cI (f3 4) 5 (fun _ => 0), aR cR (f3 5) 5 (fun i => f3 (6 + i)), aI cI (f3 6) 6 (fun _ => 0), aI cI (f3 7) 6 (fun _ => 0), aI cI (f3 8) 6 (fun _ => 0), aI cI (f3 9) 6 (fun _ => 0), aI cI (f3 10) 6 (fun _ => 0), oP q4 (f4 1) (f4 2) (f4 3) 0 0 0 0 (f4 4) 0, aI cI (f4 1) 6 (fun _ => 0), aI cI (f4 2) 6 (fun _ => 0), aI cI (f4 3) 6 (fun _ => 0), aI cI (f4 4) 220 (fun _ => 0), oP q5 (f5 1) (f5 2) (f5 3) 0 0 0 0 (f5 4) 0, aI cI (f5 1) 6 (fun _ => 0), aI cI (f5 2) 6 (fun _ => 0), aI cI (f5 3) 6 (fun _ => 0), aI cI (f5 4) 220 (fun _ => 0), oP q6 (f6 1) (f6 2) (f6 3) 0 0 0 0 (f6 4) 0, aI cI (f6 1) 6 (fun _ => 0), aI cI (f6 2) 6 (fun _ => 0), aI cI (f6 3) 6 (fun _ => 0), aI cI (f6 4) 220 (fun _ => 0), aI cI q7 6 (fun _ => 0), aZ cZ q8 6 (fun _ => false)] H := hP
  have hD : va_D A [(b, .inr (3, [.ref q1, .ref q2, .ref q3, .ref q4, .ref q5, .ref q6, .int (nI 0), .ref q7, .null, .int 0, .long 0])), oT q1 (f1 1) 0 0 0 0 0, aI cI (f1 1) 150 (fun _ => 0), oB q2 0 (f2 1) (f2 2) (f2 3) 0 (f2 4) (f2 5), aI cI (f2 1) 6 (fun _ => 0), aI cI (f2 2) 6 (fun _ => 0), aI cI (f2 3) 6 (fun _ => 0), aI cI (f2 4) 5 (fun _ => 0), aR cR (f2 5) 5 (fun i => f2 (6 + i)), aI cI (f2 6) 6 (fun _ => 0), aI cI (f2 7) 6 (fun _ => 0), aI cI (f2 8) 6 (fun _ => 0), aI cI (f2 9) 6 (fun _ => 0), aI cI (f2 10) 6 (fun _ => 0), oB q3 0 (f3 1) (f3 2) (f3 3) 0 (f3 4) (f3 5), aI cI (f3 1) 6 (fun _ => 0), aI cI (f3 2) 6 (fun _ => 0), aI cI (f3 3) 6 (fun _ => 0), aI cI (f3 4) 5 (fun _ => 0), aR cR (f3 5) 5 (fun i => f3 (6 + i)), aI cI (f3 6) 6 (fun _ => 0), aI cI (f3 7) 6 (fun _ => 0), aI cI (f3 8) 6 (fun _ => 0), aI cI (f3 9) 6 (fun _ => 0), aI cI (f3 10) 6 (fun _ => 0), oP q4 (f4 1) (f4 2) (f4 3) 0 0 0 0 (f4 4) 0, aI cI (f4 1) 6 (fun _ => 0), aI cI (f4 2) 6 (fun _ => 0), aI cI (f4 3) 6 (fun _ => 0), aI cI (f4 4) 220 (fun _ => 0), oP q5 (f5 1) (f5 2) (f5 3) 0 0 0 0 (f5 4) 0, aI cI (f5 1) 6 (fun _ => 0), aI cI (f5 2) 6 (fun _ => 0), aI cI (f5 3) 6 (fun _ => 0), aI cI (f5 4) 220 (fun _ => 0), oP q6 (f6 1) (f6 2) (f6 3) 0 0 0 0 (f6 4) 0, aI cI (f6 1) 6 (fun _ => 0), aI cI (f6 2) 6 (fun _ => 0), aI cI (f6 3) 6 (fun _ => 0), aI cI (f6 4) 220 (fun _ => 0), aI cI q7 6 (fun _ => 0), aZ cZ q8 6 (fun _ => false)] := hD
  refine W.widen (k := 41) (n := 1039) (Nat.le_of_ble_eq_true rfl) (Nat.le_of_ble_eq_true rfl) ?_
  refine z_putF (k := 8) zcX3 hC hnm hK hP hD hS 0 rfl (by decide) gF_X3_47 rfl rfl rfl rfl (Nat.le_of_ble_eq_true rfl) dX3_init_88 (fun H locs hP hD hS => ?_)
  have hP : va_P D vwCl [(b, .inr (3, [.ref q1, .ref q2, .ref q3, .ref q4, .ref q5, .ref q6, .int (nI 0), .ref q7, .ref q8, .int 0, .long 0])), oT q1 (f1 1) 0 0 0 0 0, aI cI (f1 1) 150 (fun _ => 0), oB q2 0 (f2 1) (f2 2) (f2 3) 0 (f2 4) (f2 5), aI cI (f2 1) 6 (fun _ => 0), aI cI (f2 2) 6 (fun _ => 0), aI cI (f2 3) 6 (fun _ => 0), aI cI (f2 4) 5 (fun _ => 0), aR cR (f2 5) 5 (fun i => f2 (6 + i)), aI cI (f2 6) 6 (fun _ => 0), aI cI (f2 7) 6 (fun _ => 0), aI cI (f2 8) 6 (fun _ => 0), aI cI (f2 9) 6 (fun _ => 0), aI cI (f2 10) 6 (fun _ => 0), oB q3 0 (f3 1) (f3 2) (f3 3) 0 (f3 4) (f3 5), aI cI (f3 1) 6 (fun _ => 0), aI cI (f3 2) 6 (fun _ => 0), aI cI (f3 3) 6 (fun _ => 0), aI cI (f3 4) 5 (fun _ => 0), aR cR (f3 5) 5 (fun i => f3 (6 + i)), aI cI (f3 6) 6 (fun _ => 0), aI cI (f3 7) 6 (fun _ => 0), aI cI (f3 8) 6 (fun _ => 0), aI cI (f3 9) 6 (fun _ => 0), aI cI (f3 10) 6 (fun _ => 0), oP q4 (f4 1) (f4 2) (f4 3) 0 0 0 0 (f4 4) 0, aI cI (f4 1) 6 (fun _ => 0), aI cI (f4 2) 6 (fun _ => 0), aI cI (f4 3) 6 (fun _ => 0), aI cI (f4 4) 220 (fun _ => 0), oP q5 (f5 1) (f5 2) (f5 3) 0 0 0 0 (f5 4) 0, aI cI (f5 1) 6 (fun _ => 0), aI cI (f5 2) 6 (fun _ => 0), aI cI (f5 3) 6 (fun _ => 0), aI cI (f5 4) 220 (fun _ => 0), oP q6 (f6 1) (f6 2) (f6 3) 0 0 0 0 (f6 4) 0, aI cI (f6 1) 6 (fun _ => 0), aI cI (f6 2) 6 (fun _ => 0), aI cI (f6 3) 6 (fun _ => 0), aI cI (f6 4) 220 (fun _ => 0), aI cI q7 6 (fun _ => 0), aZ cZ q8 6 (fun _ => false)] H := hP
  have hD : va_D A [(b, .inr (3, [.ref q1, .ref q2, .ref q3, .ref q4, .ref q5, .ref q6, .int (nI 0), .ref q7, .ref q8, .int 0, .long 0])), oT q1 (f1 1) 0 0 0 0 0, aI cI (f1 1) 150 (fun _ => 0), oB q2 0 (f2 1) (f2 2) (f2 3) 0 (f2 4) (f2 5), aI cI (f2 1) 6 (fun _ => 0), aI cI (f2 2) 6 (fun _ => 0), aI cI (f2 3) 6 (fun _ => 0), aI cI (f2 4) 5 (fun _ => 0), aR cR (f2 5) 5 (fun i => f2 (6 + i)), aI cI (f2 6) 6 (fun _ => 0), aI cI (f2 7) 6 (fun _ => 0), aI cI (f2 8) 6 (fun _ => 0), aI cI (f2 9) 6 (fun _ => 0), aI cI (f2 10) 6 (fun _ => 0), oB q3 0 (f3 1) (f3 2) (f3 3) 0 (f3 4) (f3 5), aI cI (f3 1) 6 (fun _ => 0), aI cI (f3 2) 6 (fun _ => 0), aI cI (f3 3) 6 (fun _ => 0), aI cI (f3 4) 5 (fun _ => 0), aR cR (f3 5) 5 (fun i => f3 (6 + i)), aI cI (f3 6) 6 (fun _ => 0), aI cI (f3 7) 6 (fun _ => 0), aI cI (f3 8) 6 (fun _ => 0), aI cI (f3 9) 6 (fun _ => 0), aI cI (f3 10) 6 (fun _ => 0), oP q4 (f4 1) (f4 2) (f4 3) 0 0 0 0 (f4 4) 0, aI cI (f4 1) 6 (fun _ => 0), aI cI (f4 2) 6 (fun _ => 0), aI cI (f4 3) 6 (fun _ => 0), aI cI (f4 4) 220 (fun _ => 0), oP q5 (f5 1) (f5 2) (f5 3) 0 0 0 0 (f5 4) 0, aI cI (f5 1) 6 (fun _ => 0), aI cI (f5 2) 6 (fun _ => 0), aI cI (f5 3) 6 (fun _ => 0), aI cI (f5 4) 220 (fun _ => 0), oP q6 (f6 1) (f6 2) (f6 3) 0 0 0 0 (f6 4) 0, aI cI (f6 1) 6 (fun _ => 0), aI cI (f6 2) 6 (fun _ => 0), aI cI (f6 3) 6 (fun _ => 0), aI cI (f6 4) 220 (fun _ => 0), aI cI q7 6 (fun _ => 0), aZ cZ q8 6 (fun _ => false)] := hD
  refine lv_aload_n hx hb dX3_init_91 rfl (lv_at hl 0 rfl) ?_
  refine lv_iconst (v := nI 0) hx hb dX3_init_92 (by decide) ?_
  refine z_put (k := 9) zcX3 hC hK hP hD hS 0 rfl (by decide) lF_X3_51 rfl rfl rfl (Nat.le_of_ble_eq_true rfl) dX3_init_93 (fun H locs hP hD hS => ?_)
  have hP : va_P D vwCl [(b, .inr (3, [.ref q1, .ref q2, .ref q3, .ref q4, .ref q5, .ref q6, .int (nI 0), .ref q7, .ref q8, .int (nI 0), .long 0])), oT q1 (f1 1) 0 0 0 0 0, aI cI (f1 1) 150 (fun _ => 0), oB q2 0 (f2 1) (f2 2) (f2 3) 0 (f2 4) (f2 5), aI cI (f2 1) 6 (fun _ => 0), aI cI (f2 2) 6 (fun _ => 0), aI cI (f2 3) 6 (fun _ => 0), aI cI (f2 4) 5 (fun _ => 0), aR cR (f2 5) 5 (fun i => f2 (6 + i)), aI cI (f2 6) 6 (fun _ => 0), aI cI (f2 7) 6 (fun _ => 0), aI cI (f2 8) 6 (fun _ => 0), aI cI (f2 9) 6 (fun _ => 0), aI cI (f2 10) 6 (fun _ => 0), oB q3 0 (f3 1) (f3 2) (f3 3) 0 (f3 4) (f3 5), aI cI (f3 1) 6 (fun _ => 0), aI cI (f3 2) 6 (fun _ => 0), aI cI (f3 3) 6 (fun _ => 0), aI cI (f3 4) 5 (fun _ => 0), aR cR (f3 5) 5 (fun i => f3 (6 + i)), aI cI (f3 6) 6 (fun _ => 0), aI cI (f3 7) 6 (fun _ => 0), aI cI (f3 8) 6 (fun _ => 0), aI cI (f3 9) 6 (fun _ => 0), aI cI (f3 10) 6 (fun _ => 0), oP q4 (f4 1) (f4 2) (f4 3) 0 0 0 0 (f4 4) 0, aI cI (f4 1) 6 (fun _ => 0), aI cI (f4 2) 6 (fun _ => 0), aI cI (f4 3) 6 (fun _ => 0), aI cI (f4 4) 220 (fun _ => 0), oP q5 (f5 1) (f5 2) (f5 3) 0 0 0 0 (f5 4) 0, aI cI (f5 1) 6 (fun _ => 0), aI cI (f5 2) 6 (fun _ => 0), aI cI (f5 3) 6 (fun _ => 0), aI cI (f5 4) 220 (fun _ => 0), oP q6 (f6 1) (f6 2) (f6 3) 0 0 0 0 (f6 4) 0, aI cI (f6 1) 6 (fun _ => 0), aI cI (f6 2) 6 (fun _ => 0), aI cI (f6 3) 6 (fun _ => 0), aI cI (f6 4) 220 (fun _ => 0), aI cI q7 6 (fun _ => 0), aZ cZ q8 6 (fun _ => false)] H := hP
  have hD : va_D A [(b, .inr (3, [.ref q1, .ref q2, .ref q3, .ref q4, .ref q5, .ref q6, .int (nI 0), .ref q7, .ref q8, .int (nI 0), .long 0])), oT q1 (f1 1) 0 0 0 0 0, aI cI (f1 1) 150 (fun _ => 0), oB q2 0 (f2 1) (f2 2) (f2 3) 0 (f2 4) (f2 5), aI cI (f2 1) 6 (fun _ => 0), aI cI (f2 2) 6 (fun _ => 0), aI cI (f2 3) 6 (fun _ => 0), aI cI (f2 4) 5 (fun _ => 0), aR cR (f2 5) 5 (fun i => f2 (6 + i)), aI cI (f2 6) 6 (fun _ => 0), aI cI (f2 7) 6 (fun _ => 0), aI cI (f2 8) 6 (fun _ => 0), aI cI (f2 9) 6 (fun _ => 0), aI cI (f2 10) 6 (fun _ => 0), oB q3 0 (f3 1) (f3 2) (f3 3) 0 (f3 4) (f3 5), aI cI (f3 1) 6 (fun _ => 0), aI cI (f3 2) 6 (fun _ => 0), aI cI (f3 3) 6 (fun _ => 0), aI cI (f3 4) 5 (fun _ => 0), aR cR (f3 5) 5 (fun i => f3 (6 + i)), aI cI (f3 6) 6 (fun _ => 0), aI cI (f3 7) 6 (fun _ => 0), aI cI (f3 8) 6 (fun _ => 0), aI cI (f3 9) 6 (fun _ => 0), aI cI (f3 10) 6 (fun _ => 0), oP q4 (f4 1) (f4 2) (f4 3) 0 0 0 0 (f4 4) 0, aI cI (f4 1) 6 (fun _ => 0), aI cI (f4 2) 6 (fun _ => 0), aI cI (f4 3) 6 (fun _ => 0), aI cI (f4 4) 220 (fun _ => 0), oP q5 (f5 1) (f5 2) (f5 3) 0 0 0 0 (f5 4) 0, aI cI (f5 1) 6 (fun _ => 0), aI cI (f5 2) 6 (fun _ => 0), aI cI (f5 3) 6 (fun _ => 0), aI cI (f5 4) 220 (fun _ => 0), oP q6 (f6 1) (f6 2) (f6 3) 0 0 0 0 (f6 4) 0, aI cI (f6 1) 6 (fun _ => 0), aI cI (f6 2) 6 (fun _ => 0), aI cI (f6 3) 6 (fun _ => 0), aI cI (f6 4) 220 (fun _ => 0), aI cI q7 6 (fun _ => 0), aZ cZ q8 6 (fun _ => false)] := hD
  refine lv_aload_n hx hb dX3_init_96 rfl (lv_at hl 0 rfl) ?_
  refine lv_lconst (v := 0) hx hb dX3_init_97 (by decide) ?_
  refine z_put (k := 10) zcX3 hC hK hP hD hS 0 rfl (by decide) lF_X3_54 rfl rfl rfl (Nat.le_of_ble_eq_true rfl) dX3_init_98 (fun H locs hP hD hS => ?_)
  have hP : va_P D vwCl [(b, .inr (3, [.ref q1, .ref q2, .ref q3, .ref q4, .ref q5, .ref q6, .int (nI 0), .ref q7, .ref q8, .int (nI 0), .long 0])), oT q1 (f1 1) 0 0 0 0 0, aI cI (f1 1) 150 (fun _ => 0), oB q2 0 (f2 1) (f2 2) (f2 3) 0 (f2 4) (f2 5), aI cI (f2 1) 6 (fun _ => 0), aI cI (f2 2) 6 (fun _ => 0), aI cI (f2 3) 6 (fun _ => 0), aI cI (f2 4) 5 (fun _ => 0), aR cR (f2 5) 5 (fun i => f2 (6 + i)), aI cI (f2 6) 6 (fun _ => 0), aI cI (f2 7) 6 (fun _ => 0), aI cI (f2 8) 6 (fun _ => 0), aI cI (f2 9) 6 (fun _ => 0), aI cI (f2 10) 6 (fun _ => 0), oB q3 0 (f3 1) (f3 2) (f3 3) 0 (f3 4) (f3 5), aI cI (f3 1) 6 (fun _ => 0), aI cI (f3 2) 6 (fun _ => 0), aI cI (f3 3) 6 (fun _ => 0), aI cI (f3 4) 5 (fun _ => 0), aR cR (f3 5) 5 (fun i => f3 (6 + i)), aI cI (f3 6) 6 (fun _ => 0), aI cI (f3 7) 6 (fun _ => 0), aI cI (f3 8) 6 (fun _ => 0), aI cI (f3 9) 6 (fun _ => 0), aI cI (f3 10) 6 (fun _ => 0), oP q4 (f4 1) (f4 2) (f4 3) 0 0 0 0 (f4 4) 0, aI cI (f4 1) 6 (fun _ => 0), aI cI (f4 2) 6 (fun _ => 0), aI cI (f4 3) 6 (fun _ => 0), aI cI (f4 4) 220 (fun _ => 0), oP q5 (f5 1) (f5 2) (f5 3) 0 0 0 0 (f5 4) 0, aI cI (f5 1) 6 (fun _ => 0), aI cI (f5 2) 6 (fun _ => 0), aI cI (f5 3) 6 (fun _ => 0), aI cI (f5 4) 220 (fun _ => 0), oP q6 (f6 1) (f6 2) (f6 3) 0 0 0 0 (f6 4) 0, aI cI (f6 1) 6 (fun _ => 0), aI cI (f6 2) 6 (fun _ => 0), aI cI (f6 3) 6 (fun _ => 0), aI cI (f6 4) 220 (fun _ => 0), aI cI q7 6 (fun _ => 0), aZ cZ q8 6 (fun _ => false)] H := hP
  have hD : va_D A [(b, .inr (3, [.ref q1, .ref q2, .ref q3, .ref q4, .ref q5, .ref q6, .int (nI 0), .ref q7, .ref q8, .int (nI 0), .long 0])), oT q1 (f1 1) 0 0 0 0 0, aI cI (f1 1) 150 (fun _ => 0), oB q2 0 (f2 1) (f2 2) (f2 3) 0 (f2 4) (f2 5), aI cI (f2 1) 6 (fun _ => 0), aI cI (f2 2) 6 (fun _ => 0), aI cI (f2 3) 6 (fun _ => 0), aI cI (f2 4) 5 (fun _ => 0), aR cR (f2 5) 5 (fun i => f2 (6 + i)), aI cI (f2 6) 6 (fun _ => 0), aI cI (f2 7) 6 (fun _ => 0), aI cI (f2 8) 6 (fun _ => 0), aI cI (f2 9) 6 (fun _ => 0), aI cI (f2 10) 6 (fun _ => 0), oB q3 0 (f3 1) (f3 2) (f3 3) 0 (f3 4) (f3 5), aI cI (f3 1) 6 (fun _ => 0), aI cI (f3 2) 6 (fun _ => 0), aI cI (f3 3) 6 (fun _ => 0), aI cI (f3 4) 5 (fun _ => 0), aR cR (f3 5) 5 (fun i => f3 (6 + i)), aI cI (f3 6) 6 (fun _ => 0), aI cI (f3 7) 6 (fun _ => 0), aI cI (f3 8) 6 (fun _ => 0), aI cI (f3 9) 6 (fun _ => 0), aI cI (f3 10) 6 (fun _ => 0), oP q4 (f4 1) (f4 2) (f4 3) 0 0 0 0 (f4 4) 0, aI cI (f4 1) 6 (fun _ => 0), aI cI (f4 2) 6 (fun _ => 0), aI cI (f4 3) 6 (fun _ => 0), aI cI (f4 4) 220 (fun _ => 0), oP q5 (f5 1) (f5 2) (f5 3) 0 0 0 0 (f5 4) 0, aI cI (f5 1) 6 (fun _ => 0), aI cI (f5 2) 6 (fun _ => 0), aI cI (f5 3) 6 (fun _ => 0), aI cI (f5 4) 220 (fun _ => 0), oP q6 (f6 1) (f6 2) (f6 3) 0 0 0 0 (f6 4) 0, aI cI (f6 1) 6 (fun _ => 0), aI cI (f6 2) 6 (fun _ => 0), aI cI (f6 3) 6 (fun _ => 0), aI cI (f6 4) 220 (fun _ => 0), aI cI q7 6 (fun _ => 0), aZ cZ q8 6 (fun _ => false)] := hD
  rw [show aR cR (f2 5) 5 (fun i => f2 (6 + i)) = aR cR (f2 5) 5 (fun i => (fun k => [(b), (q1), (f1 1), (q2), (f2 1), (f2 2), (f2 3), (f2 4), (f2 5), (f2 6), (f2 7), (f2 8), (f2 9), (f2 10), (q3), (f3 1), (f3 2), (f3 3), (f3 4), (f3 5), (f3 6), (f3 7), (f3 8), (f3 9), (f3 10), (q4), (f4 1), (f4 2), (f4 3), (f4 4), (q5), (f5 1), (f5 2), (f5 3), (f5 4), (q6), (f6 1), (f6 2), (f6 3), (f6 4), (q7), (q8)].getD k 0) (9 + i)) from aR_cong (fun i hi => by rcases (show i = 0 ∨ i = 1 ∨ i = 2 ∨ i = 3 ∨ i = 4 by omega) with rfl | rfl | rfl | rfl | rfl <;> rfl), show aR cR (f3 5) 5 (fun i => f3 (6 + i)) = aR cR (f3 5) 5 (fun i => (fun k => [(b), (q1), (f1 1), (q2), (f2 1), (f2 2), (f2 3), (f2 4), (f2 5), (f2 6), (f2 7), (f2 8), (f2 9), (f2 10), (q3), (f3 1), (f3 2), (f3 3), (f3 4), (f3 5), (f3 6), (f3 7), (f3 8), (f3 9), (f3 10), (q4), (f4 1), (f4 2), (f4 3), (f4 4), (q5), (f5 1), (f5 2), (f5 3), (f5 4), (q6), (f6 1), (f6 2), (f6 3), (f6 4), (q7), (q8)].getD k 0) (20 + i)) from aR_cong (fun i hi => by rcases (show i = 0 ∨ i = 1 ∨ i = 2 ∨ i = 3 ∨ i = 4 by omega) with rfl | rfl | rfl | rfl | rfl <;> rfl)] at hP hD
  exact zA_v hC hr hlk hAe hP hD hS ⟨(fun k => [(b), (q1), (f1 1), (q2), (f2 1), (f2 2), (f2 3), (f2 4), (f2 5), (f2 6), (f2 7), (f2 8), (f2 9), (f2 10), (q3), (f3 1), (f3 2), (f3 3), (f3 4), (f3 5), (f3 6), (f3 7), (f3 8), (f3 9), (f3 10), (q4), (f4 1), (f4 2), (f4 3), (f4 4), (q5), (f5 1), (f5 2), (f5 3), (f5 4), (q6), (f6 1), (f6 2), (f6 3), (f6 4), (q7), (q8)].getD k 0), rfl, rfl⟩ dX3_init_101
