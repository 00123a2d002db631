def numOk (by_ : Nat → Nat) (len : Nat) (u : Cu) (m : Int32) : Bool := decide ((adv by_ len u).2.1 = 2 ∧ (adv by_ len u).2.2.2 ≤ m)
def vN (u : Cu) : Nat := u.2.2.2.toNatClampNeg
/-- a token's pieces fit -/
def wfU (len : Nat) (u : Cu) : Prop := u.1 ≤ len ∧ u.2.1 ≤ 4 ∧ u.2.2.1 ≤ len ∧ (u.2.1 = 2 → u.2.2.2 = nI (vN u) ∧ vN u < 100)
theorem skp_le {by_ : Nat → Nat} : ∀ k p, skp by_ k p ≤ p + k
  | 0, p => Nat.le_refl _
  | k + 1, p => by
    unfold skp
    split
    · have := skp_le (by_ := by_) k (p + 1); omega
    · omega
theorem rn_in {by_ : Nat → Nat} {s : Nat} : ∀ k p, p ≤ rn by_ s k p ∧ rn by_ s k p ≤ p + k ∧ (∀ i, p ≤ i → i < rn by_ s k p → sortN (by_ i) = s)
  | 0, p => ⟨Nat.le_refl _, Nat.le_refl _, fun i h1 h2 => absurd h1 (by show ¬ p ≤ i; have : i < p := h2; omega)⟩
  | k + 1, p => by
    unfold rn
    split
    · rename_i h
      obtain ⟨h1, h2, h3⟩ := rn_in (by_ := by_) (s := s) k (p + 1)
      refine ⟨by omega, by omega, fun i h4 h5 => ?_⟩
      by_cases e : i = p
      · rw [e]; exact h
      · exact h3 i (by omega) h5
    · exact ⟨Nat.le_refl _, by omega, fun i h1 h2 => absurd h1 (by omega)⟩
theorem advE_in {by_ : Nat → Nat} {len q : Nat} (h : q < len) : q < advE by_ len q ∧ advE by_ len q ≤ len ∧ (sortN (by_ q) = 2 → sortN (by_ (advE by_ len q - 1)) = 2) := by
  unfold advE
  split
  · obtain ⟨h1, h2, h3⟩ := rn_in (by_ := by_) (s := sortN (by_ q)) (len - (q + 1)) (q + 1)
    refine ⟨by omega, by omega, fun h4 => ?_⟩
    by_cases e : rn by_ (sortN (by_ q)) (len - (q + 1)) (q + 1) = q + 1
    · rw [e, Nat.add_sub_cancel]; exact h4
    · rw [h3 _ (by omega) (by omega), h4]
  · refine ⟨by omega, by omega, fun h4 => ?_⟩
    rw [Nat.add_sub_cancel]; exact h4
theorem adv_wf {by_ : Nat → Nat} {len : Nat} {u : Cu} (h : u.1 ≤ len) : wfU len (adv by_ len u) := by
  have hq := skp_le (by_ := by_) (len - u.1) u.1
  unfold adv
  by_cases hl : skp by_ (len - u.1) u.1 < len
  · rw [if_pos hl]
    generalize skp by_ (len - u.1) u.1 = q at hl
    obtain ⟨h1, h2, h3⟩ := advE_in (by_ := by_) hl
    have hs := sortN_le (by_ q)
    unfold advW wfU
    refine ⟨h2, ?_, Nat.le_of_lt hl, fun hk => ?_⟩
    · show svK _ _ _ ≤ 4
      unfold svK
      split <;> omega
    · have hk : svK (sortN (by_ q)) (by_ q) (advE by_ len q - q) = 2 := hk
      unfold svK at hk
      split at hk
      · omega
      · rename_i hn
        have d1 := sortN_2 hk
        have d2 := sortN_2 (h3 hk)
        have key : ∃ v, v < 100 ∧ svV (sortN (by_ q)) (by_ q) (by_ (advE by_ len q - 1)) (advE by_ len q - q) u.2.2.2 = nI v := by
          unfold svV
          rw [if_pos hk]
          by_cases w1 : advE by_ len q - q = 1
          · rw [if_pos w1]; exact ⟨_, by omega, rfl⟩
          · rw [if_neg w1]
            by_cases w2 : advE by_ len q - q = 2 ∧ by_ q ≠ 48
            · rw [if_pos w2]; exact ⟨_, by omega, rfl⟩
            · exact absurd ⟨hk, w1, w2⟩ hn
        obtain ⟨v, hv, e⟩ := key
        have e2 : vN (advW by_ len q u.2.2.2) = v := by
          show Int32.toNatClampNeg (svV _ _ _ _ _) = v
          rw [e]
          exact nI_clamp (by omega)
        show svV _ _ _ _ _ = nI (vN (advW by_ len q u.2.2.2)) ∧ vN (advW by_ len q u.2.2.2) < 100
        rw [e2, e]
        exact ⟨rfl, hv⟩
  · rw [if_neg hl]
    exact ⟨Nat.le_refl _, by show 0 ≤ 4; omega, Nat.le_refl _, fun h => absurd h (by show ¬ 0 = 2; omega)⟩
theorem numOk_t {by_ : Nat → Nat} {len : Nat} {u : Cu} {m : Int32} (hu : u.1 ≤ len) (h : numOk by_ len u m = true) : (adv by_ len u).2.2.2 = nI (vN (adv by_ len u)) ∧ vN (adv by_ len u) < 100 ∧ nI (vN (adv by_ len u)) ≤ m := by
  have h1 := of_decide_eq_true h
  obtain ⟨-, -, -, h2⟩ := adv_wf (by_ := by_) hu
  obtain ⟨h3, h4⟩ := h2 h1.1
  exact ⟨h3, h4, h3 ▸ h1.2⟩
theorem numOk_n {by_ : Nat → Nat} {len n : Nat} {u : Cu} (hu : u.1 ≤ len) (hn : n ≤ 6) (h : numOk by_ len u (nI n - nI 1) = true) : vN (adv by_ len u) < n := by
  obtain ⟨-, h2, h3⟩ := numOk_t hu h
  have h4 := Int32.le_iff_toInt_le.mp h3
  rw [pk_sub_toInt (by omega) (by omega), nI_toInt (by omega)] at h4
  omega
def rdF (by_ : Nat → Nat) (len : Nat) (u : Cu) (n : Nat) (bl ai bla : Nat → Nat) : Bool × Cu × Nat × (Nat → Nat) × (Nat → Nat) × (Nat → Nat) :=
  if numOk by_ len u (nI 40) = true then (if numOk by_ len (adv by_ len u) (nI 5) = true then (decide ((adv by_ len (adv by_ len (adv by_ len u))).2.1 = 3), adv by_ len (adv by_ len (adv by_ len u)), n + 1, updN bl n (vN (adv by_ len u)), updN ai n (vN (adv by_ len (adv by_ len u))), updN bla n n) else (false, adv by_ len (adv by_ len u), n, bl, ai, bla)) else (false, adv by_ len u, n, bl, ai, bla)
def actL (by_ : Nat → Nat) (len n a : Nat) : Nat → Cu → (Nat → Nat → Nat) → Bool × Cu × (Nat → Nat → Nat)
  | 0, u, dr => (decide (u.2.1 = 3), u, dr)
  | k + 1, u, dr => if u.2.1 = 2 then (if vN u < n then (if numOk by_ len u (nI 9) = true then actL by_ len n a k (adv by_ len (adv by_ len u)) (updF dr a (updN (dr a) (vN u) (vN (adv by_ len u)))) else (false, adv by_ len u, dr)) else (false, u, dr)) else (decide (u.2.1 = 3), u, dr)
theorem actL_0 (by_ : Nat → Nat) (len n a : Nat) (u : Cu) (dr : Nat → Nat → Nat) : actL by_ len n a 0 u dr = (decide (u.2.1 = 3), u, dr) := rfl
theorem actL_s (by_ : Nat → Nat) (len n a k : Nat) (u : Cu) (dr : Nat → Nat → Nat) : actL by_ len n a (k + 1) u dr = if u.2.1 = 2 then (if vN u < n then (if numOk by_ len u (nI 9) = true then actL by_ len n a k (adv by_ len (adv by_ len u)) (updF dr a (updN (dr a) (vN u) (vN (adv by_ len u)))) else (false, adv by_ len u, dr)) else (false, u, dr)) else (decide (u.2.1 = 3), u, dr) := rfl
def raF (by_ : Nat → Nat) (len : Nat) (u : Cu) (n ac : Nat) (wo : Nat → Nat) (dr : Nat → Nat → Nat) : Bool × Cu × Nat × (Nat → Nat) × (Nat → Nat → Nat) :=
  if numOk by_ len u (nI 99) = true then ((actL by_ len n (ac + 1 - 1) 6 (adv by_ len (adv by_ len u)) (updF dr ac (cpyN (fun _ => 0) (dr ac) 0 0 6))).1, (actL by_ len n (ac + 1 - 1) 6 (adv by_ len (adv by_ len u)) (updF dr ac (cpyN (fun _ => 0) (dr ac) 0 0 6))).2.1, ac + 1, updN wo ac (vN (adv by_ len u)), (actL by_ len n (ac + 1 - 1) 6 (adv by_ len (adv by_ len u)) (updF dr ac (cpyN (fun _ => 0) (dr ac) 0 0 6))).2.2) else (false, adv by_ len u, ac, wo, dr)
def rxF (by_ : Nat → Nat) (len : Nat) (u : Cu) (n : Nat) (bla : Nat → Nat) : Bool × Cu × (Nat → Nat) :=
  if numOk by_ len u (nI n - nI 1) = true then (if numOk by_ len (adv by_ len u) (nI n - nI 1) = true ∧ vN (adv by_ len (adv by_ len u)) ≠ vN (adv by_ len u) then (decide ((adv by_ len (adv by_ len (adv by_ len u))).2.1 = 3), adv by_ len (adv by_ len (adv by_ len u)), updN (updN bla (vN (adv by_ len u)) (bla (vN (adv by_ len (adv by_ len u))))) (vN (adv by_ len (adv by_ len u))) (bla (vN (adv by_ len u)))) else (false, adv by_ len (adv by_ len u), bla)) else (false, adv by_ len u, bla)
set_option maxHeartbeats 1000000 in
set_option maxRecDepth 100000 in
theorem c_X2_readsNumber {l : Launch} {D : va_G} {cI cZ cB cR : ClassId} {t byA len : Nat} {u : Cu} {by_ : Nat → Nat} {m9 : Int32} (hlen : len ≤ 150) (hby : ∀ i, by_ i < 256) (hu : u.1 ≤ len)  : mW l yX2_readsNumber cX2_readsNumber 2 (some .boolean) 2 46 D cI cZ cB cR [oT t byA len u.1 u.2.1 u.2.2.1 u.2.2.2, aI cI byA 150 by_] [oT t byA len ((adv by_ len u).1) ((adv by_ len u).2.1) ((adv by_ len u).2.2.1) ((adv by_ len u).2.2.2), aI cI byA 150 by_] [.ref t, .int m9] (some (.int (bI (numOk by_ len u m9)))) := by
  refine mW_of rfl (Nat.le_of_ble_eq_true rfl) ?_
  intro p e s m args below meth c hC hr hlk hK A hA hD H0 h0 hP hS ls hl
  have hP : va_P D vwCl [oT t byA len u.1 u.2.1 u.2.2.1 u.2.2.2, aI cI byA 150 by_] H0 := hP
  have hl : lv_has ls 2 [(0, .ref t), (1, .int m9)] := hl
  obtain ⟨hx, hb, hml, hown, hts⟩ := id hC
  refine lv_aload_n hx hb dX2_readsNumber_0 rfl (lv_at hl 0 rfl) ?_
  refine zXV (As := []) (b := t) (rest := []) hC (c_X2_advances (l := l) (hlen := hlen) (hby := hby) (hpl := hu)) lM_X2_31 vM_X2_advances (by decide) hK hP hD hS [0, 1] [t, byA] rfl (by decide) rfl rfl ⟨rfl, rfl, rfl⟩ rfl hl.1 rfl (Nat.le_of_ble_eq_true rfl) dX2_readsNumber_1 (by decide) (fun H locs hP hD hS => ?_)
  have hP : va_P D vwCl [oT t byA len ((adv by_ len u).1) ((adv by_ len u).2.1) ((adv by_ len u).2.2.1) ((adv by_ len u).2.2.2), aI cI byA 150 by_] H := hP
  have hD : va_D A [oT t byA len ((adv by_ len u).1) ((adv by_ len u).2.1) ((adv by_ len u).2.2.1) ((adv by_ len u).2.2.2), aI cI byA 150 by_] := hD
  show W _ _ _ _ _ _ _ _ _ _ _ _ _ _ _ (F0 m 4 ls [])
  refine lv_aload_n hx hb dX2_readsNumber_4 rfl (lv_at hl 0 rfl) ?_
  refine z_get (k := 3) zcX2 hC hK hP 0 rfl (by decide) lF_X2_22 rfl dX2_readsNumber_5 ?_
  have b8 := (adv_wf (by_ := by_) hu).2.1
  refine lv_iconst (v := nI 2) hx hb dX2_readsNumber_8 (by decide) ?_
  refine zc_ne (tgt := 24) hC dX2_readsNumber_9 (by decide) (by omega) (by omega) (fun c9 => ?_) (fun c9 => ?_)
  · skip
    refine lv_iconst (v := nI 0) hx hb dX2_readsNumber_24 (by decide) ?_
    refine z_top (y := bI false) rfl ?_
    exact zw_z hC hr hlk hA h0 hP hS (by unfold numOk; first | exact (decide_eq_true ⟨c9, Int32.not_lt.mp c17⟩).symm | exact (decide_eq_false (fun h => c9 h.1)).symm | exact (decide_eq_false (fun h => absurd h.2 (Int32.not_le.mpr c17))).symm) dX2_readsNumber_25
  · skip
    refine lv_aload_n hx hb dX2_readsNumber_12 rfl (lv_at hl 0 rfl) ?_
    refine z_get (k := 5) zcX2 hC hK hP 0 rfl (by decide) lF_X2_28 rfl dX2_readsNumber_13 ?_
    refine lv_iload_n hx hb dX2_readsNumber_16 rfl (lv_at hl 1 rfl) ?_
    refine lv_icmp_gt (tgt := 24) hx hb dX2_readsNumber_17 (by decide) (fun c17 => ?_) (fun c17 => ?_)
    · skip
      refine lv_iconst (v := nI 0) hx hb dX2_readsNumber_24 (by decide) ?_
      refine z_top (y := bI false) rfl ?_
      exact zw_z hC hr hlk hA h0 hP hS (by unfold numOk; first | exact (decide_eq_true ⟨c9, Int32.not_lt.mp c17⟩).symm | exact (decide_eq_false (fun h => c9 h.1)).symm | exact (decide_eq_false (fun h => absurd h.2 (Int32.not_le.mpr c17))).symm) dX2_readsNumber_25
    · skip
      refine lv_iconst (v := nI 1) hx hb dX2_readsNumber_20 (by decide) ?_
      refine lv_goto (tgt := 25) hx hb dX2_readsNumber_21 (by decide) ?_
      refine z_top (y := bI true) rfl ?_
      exact zw_z hC hr hlk hA h0 hP hS (by unfold numOk; first | exact (decide_eq_true ⟨c9, Int32.not_lt.mp c17⟩).symm | exact (decide_eq_false (fun h => c9 h.1)).symm | exact (decide_eq_false (fun h => absurd h.2 (Int32.not_le.mpr c17))).symm) dX2_readsNumber_25
set_option maxHeartbeats 1000000 in
set_option maxRecDepth 100000 in
theorem c_X2_readsStop {l : Launch} {D : va_G} {cI cZ cB cR : ClassId} {t byA len : Nat} {u : Cu} {by_ : Nat → Nat}  (hlen : len ≤ 150) (hby : ∀ i, by_ i < 256) (hu : u.1 ≤ len)  : mW l yX2_readsStop cX2_readsStop 1 (some .boolean) 2 46 D cI cZ cB cR [oT t byA len u.1 u.2.1 u.2.2.1 u.2.2.2, aI cI byA 150 by_] [oT t byA len ((adv by_ len u).1) ((adv by_ len u).2.1) ((adv by_ len u).2.2.1) ((adv by_ len u).2.2.2), aI cI byA 150 by_] [.ref t] (some (.int (bI (decide ((adv by_ len u).2.1 = 3))))) := by
  refine mW_of rfl (Nat.le_of_ble_eq_true rfl) ?_
  intro p e s m args below meth c hC hr hlk hK A hA hD H0 h0 hP hS ls hl
  have hP : va_P D vwCl [oT t byA len u.1 u.2.1 u.2.2.1 u.2.2.2, aI cI byA 150 by_] H0 := hP
  have hl : lv_has ls 1 [(0, .ref t)] := hl
  obtain ⟨hx, hb, hml, hown, hts⟩ := id hC
  refine lv_aload_n hx hb dX2_readsStop_0 rfl (lv_at hl 0 rfl) ?_
  refine zXV (As := []) (b := t) (rest := []) hC (c_X2_advances (l := l) (hlen := hlen) (hby := hby) (hpl := hu)) lM_X2_31 vM_X2_advances (by decide) hK hP hD hS [0, 1] [t, byA] rfl (by decide) rfl rfl ⟨rfl, rfl, rfl⟩ rfl hl.1 rfl (Nat.le_of_ble_eq_true rfl) dX2_readsStop_1 (by decide) (fun H locs hP hD hS => ?_)
  have hP : va_P D vwCl [oT t byA len ((adv by_ len u).1) ((adv by_ len u).2.1) ((adv by_ len u).2.2.1) ((adv by_ len u).2.2.2), aI cI byA 150 by_] H := hP
  have hD : va_D A [oT t byA len ((adv by_ len u).1) ((adv by_ len u).2.1) ((adv by_ len u).2.2.1) ((adv by_ len u).2.2.2), aI cI byA 150 by_] := hD
  show W _ _ _ _ _ _ _ _ _ _ _ _ _ _ _ (F0 m 4 ls [])
  refine lv_aload_n hx hb dX2_readsStop_4 rfl (lv_at hl 0 rfl) ?_
  refine z_get (k := 3) zcX2 hC hK hP 0 rfl (by decide) lF_X2_22 rfl dX2_readsStop_5 ?_
  have b8 := (adv_wf (by_ := by_) hu).2.1
  refine lv_iconst (v := nI 3) hx hb dX2_readsStop_8 (by decide) ?_
  refine zc_ne (tgt := 16) hC dX2_readsStop_9 (by decide) (by omega) (by omega) (fun c9 => ?_) (fun c9 => ?_)
  · skip
    refine lv_iconst (v := nI 0) hx hb dX2_readsStop_16 (by decide) ?_
    refine z_top (y := bI false) rfl ?_
    exact zw_z hC hr hlk hA h0 hP hS (by first | exact (decide_eq_true c9).symm | exact (decide_eq_false c9).symm) dX2_readsStop_17
  · skip
    refine lv_iconst (v := nI 1) hx hb dX2_readsStop_12 (by decide) ?_
    refine lv_goto (tgt := 17) hx hb dX2_readsStop_13 (by decide) ?_
    refine z_top (y := bI true) rfl ?_
    exact zw_z hC hr hlk hA h0 hP hS (by first | exact (decide_eq_true c9).symm | exact (decide_eq_false c9).symm) dX2_readsStop_17
set_option maxHeartbeats 1000000 in
set_option maxRecDepth 100000 in
theorem c_X2_readsDecanter {l : Launch} {D : va_G} {cI cZ cB cR : ClassId} {t byA len : Nat} {u : Cu} {by_ : Nat → Nat} {b : Nat} {n lvA aiA laA ac woA drA : Nat} {bl bla : Nat → Nat} {ai : Nat → Nat}  (hlen : len ≤ 150) (hby : ∀ i, by_ i < 256) (hu : u.1 ≤ len) (hn : n < 6) : mW l yX2_readsDecanter cX2_readsDecanter 3 (some .boolean) 3 67 D cI cZ cB cR [oT t byA len u.1 u.2.1 u.2.2.1 u.2.2.2, aI cI byA 150 by_, oB b n lvA aiA laA ac woA drA, aI cI lvA 6 bl, aI cI aiA 6 ai, aI cI laA 6 bla] [oT t byA len (((rdF by_ len u n bl ai bla).2.1).1) (((rdF by_ len u n bl ai bla).2.1).2.1) (((rdF by_ len u n bl ai bla).2.1).2.2.1) (((rdF by_ len u n bl ai bla).2.1).2.2.2), aI cI byA 150 by_, oB b ((rdF by_ len u n bl ai bla).2.2.1) lvA aiA laA ac woA drA, aI cI lvA 6 ((rdF by_ len u n bl ai bla).2.2.2.1), aI cI aiA 6 ((rdF by_ len u n bl ai bla).2.2.2.2.1), aI cI laA 6 ((rdF by_ len u n bl ai bla).2.2.2.2.2)] [.ref t, .ref b] (some (.int (bI (rdF by_ len u n bl ai bla).1))) := by
  refine mW_of rfl (Nat.le_of_ble_eq_true rfl) ?_
  intro p e s m args below meth c hC hr hlk hK A hA hD H0 h0 hP hS ls hl
  have hP : va_P D vwCl [oT t byA len u.1 u.2.1 u.2.2.1 u.2.2.2, aI cI byA 150 by_, oB b n lvA aiA laA ac woA drA, aI cI lvA 6 bl, aI cI aiA 6 ai, aI cI laA 6 bla] H0 := hP
  have hl : lv_has ls 3 [(0, .ref t), (1, .ref b)] := hl
  obtain ⟨hx, hb, hml, hown, hts⟩ := id hC
  refine lv_aload_n hx hb dX2_readsDecanter_0 rfl (lv_at hl 0 rfl) ?_
  refine lv_bipush (v := nI 40) hx hb dX2_readsDecanter_1 (by decide) ?_
  refine zXV (As := [.int (nI 40)]) (b := t) (rest := []) hC (c_X2_readsNumber (l := l) (u := u) (hlen := hlen) (hby := hby) (hu := hu)) lM_X2_55 vM_X2_readsNumber (by decide) hK hP hD hS [0, 1] [t, byA] rfl (by decide) rfl rfl ⟨rfl, rfl, rfl⟩ rfl hl.1 rfl (Nat.le_of_ble_eq_true rfl) dX2_readsDecanter_3 (by decide) (fun H locs hP hD hS => ?_)
  have hP : va_P D vwCl [oT t byA len ((adv by_ len u).1) ((adv by_ len u).2.1) ((adv by_ len u).2.2.1) ((adv by_ len u).2.2.2), aI cI byA 150 by_, oB b n lvA aiA laA ac woA drA, aI cI lvA 6 bl, aI cI aiA 6 ai, aI cI laA 6 bla] H := hP
  have hD : va_D A [oT t byA len ((adv by_ len u).1) ((adv by_ len u).2.1) ((adv by_ len u).2.2.1) ((adv by_ len u).2.2.2), aI cI byA 150 by_, oB b n lvA aiA laA ac woA drA, aI cI lvA 6 bl, aI cI aiA 6 ai, aI cI laA 6 bla] := hD
  show W _ _ _ _ _ _ _ _ _ _ _ _ _ _ _ (F0 m 6 ls [.int (bI (numOk by_ len u (nI 40)))])
  refine zb_ne (tgt := 11) hC dX2_readsDecanter_6 (by decide) (fun c6 => ?_) (fun c6 => ?_)
  · skip
    refine lv_aload_n hx hb dX2_readsDecanter_11 rfl (lv_at hl 0 rfl) ?_
    refine z_get (k := 5) zcX2 hC hK hP 0 rfl (by decide) lF_X2_28 rfl dX2_readsDecanter_12 ?_
    refine z_top (show ((adv by_ len u).2.2.2) = nI (vN (adv by_ len u)) from by exact (numOk_t hu c6).1) ?_
    refine lv_istore_n (lv' := [(2, .int (nI (vN (adv by_ len u)))), (0, .ref t), (1, .ref b)]) hx hb dX2_readsDecanter_15 rfl hl (by decide) rfl (fun ls hl => ?_)
    refine lv_aload_n hx hb dX2_readsDecanter_16 rfl (lv_at hl 1 rfl) ?_
    refine lv_iconst (v := nI 5) hx hb dX2_readsDecanter_17 (by decide) ?_
    refine zXV (As := [.int (nI 5)]) (b := t) (rest := []) hC (c_X2_readsNumber (l := l) (u := adv by_ len u) (hlen := hlen) (hby := hby) (hu := (adv_wf (by_ := by_) hu).1)) lM_X2_55 vM_X2_readsNumber (by decide) hK hP hD hS [0, 1] [t, byA] rfl (by decide) rfl rfl ⟨rfl, rfl, rfl⟩ rfl hl.1 rfl (Nat.le_of_ble_eq_true rfl) dX2_readsDecanter_18 (by decide) (fun H locs hP hD hS => ?_)
    have hP : va_P D vwCl [oT t byA len ((adv by_ len (adv by_ len u)).1) ((adv by_ len (adv by_ len u)).2.1) ((adv by_ len (adv by_ len u)).2.2.1) ((adv by_ len (adv by_ len u)).2.2.2), aI cI byA 150 by_, oB b n lvA aiA laA ac woA drA, aI cI lvA 6 bl, aI cI aiA 6 ai, aI cI laA 6 bla] H := hP
    have hD : va_D A [oT t byA len ((adv by_ len (adv by_ len u)).1) ((adv by_ len (adv by_ len u)).2.1) ((adv by_ len (adv by_ len u)).2.2.1) ((adv by_ len (adv by_ len u)).2.2.2), aI cI byA 150 by_, oB b n lvA aiA laA ac woA drA, aI cI lvA 6 bl, aI cI aiA 6 ai, aI cI laA 6 bla] := hD
    show W _ _ _ _ _ _ _ _ _ _ _ _ _ _ _ (F0 m 21 ls [.int (bI (numOk by_ len (adv by_ len u) (nI 5)))])
    refine zb_ne (tgt := 26) hC dX2_readsDecanter_21 (by decide) (fun c21 => ?_) (fun c21 => ?_)
    · skip
      refine lv_aload_n hx hb dX2_readsDecanter_26 rfl (lv_at hl 2 rfl) ?_
      refine lv_iload_n hx hb dX2_readsDecanter_27 rfl (lv_at hl 0 rfl) ?_
      refine lv_aload_n hx hb dX2_readsDecanter_28 rfl (lv_at hl 1 rfl) ?_
      refine z_get (k := 5) zcX2 hC hK hP 0 rfl (by decide) lF_X2_28 rfl dX2_readsDecanter_29 ?_
      refine z_top (show ((adv by_ len (adv by_ len u)).2.2.2) = nI (vN (adv by_ len (adv by_ len u))) from by exact (numOk_t (adv_wf (by_ := by_) hu).1 c21).1) ?_
      refine zXVN (As := [.int (nI (vN (adv by_ len u))), .int (nI (vN (adv by_ len (adv by_ len u))))]) (b := b) (rest := []) hC (c_X1_addsDecanter (l := l) (hn := hn)) lM_X2_59 vM_X1_addsDecanter (by decide) hK hP hD hS [2, 3, 4, 5] [b, lvA, aiA, laA] rfl (by decide) rfl rfl ⟨rfl, rfl, rfl⟩ rfl hl.1 rfl (Nat.le_of_ble_eq_true rfl) dX2_readsDecanter_32 (by decide) (fun H locs hP hD hS => ?_)
      have hP : va_P D vwCl [oT t byA len ((adv by_ len (adv by_ len u)).1) ((adv by_ len (adv by_ len u)).2.1) ((adv by_ len (adv by_ len u)).2.2.1) ((adv by_ len (adv by_ len u)).2.2.2), aI cI byA 150 by_, oB b (n + 1) lvA aiA laA ac woA drA, aI cI lvA 6 (updN bl n (vN (adv by_ len u))), aI cI aiA 6 (updN ai n (vN (adv by_ len (adv by_ len u)))), aI cI laA 6 (updN bla n n)] H := hP
      have hD : va_D A [oT t byA len ((adv by_ len (adv by_ len u)).1) ((adv by_ len (adv by_ len u)).2.1) ((adv by_ len (adv by_ len u)).2.2.1) ((adv by_ len (adv by_ len u)).2.2.2), aI cI byA 150 by_, oB b (n + 1) lvA aiA laA ac woA drA, aI cI lvA 6 (updN bl n (vN (adv by_ len u))), aI cI aiA 6 (updN ai n (vN (adv by_ len (adv by_ len u)))), aI cI laA 6 (updN bla n n)] := hD
      show W _ _ _ _ _ _ _ _ _ _ _ _ _ _ _ (F0 m 35 ls [])
      refine lv_aload_n hx hb dX2_readsDecanter_35 rfl (lv_at hl 1 rfl) ?_
      refine zXV (As := []) (b := t) (rest := []) hC (c_X2_readsStop (l := l) (u := adv by_ len (adv by_ len u)) (hlen := hlen) (hby := hby) (hu := (adv_wf (by_ := by_) (adv_wf (by_ := by_) hu).1).1)) lM_X2_63 vM_X2_readsStop (by decide) hK hP hD hS [0, 1] [t, byA] rfl (by decide) rfl rfl ⟨rfl, rfl, rfl⟩ rfl hl.1 rfl (Nat.le_of_ble_eq_true rfl) dX2_readsDecanter_36 (by decide) (fun H locs hP hD hS => ?_)
      have hP : va_P D vwCl [oT t byA len ((adv by_ len (adv by_ len (adv by_ len u))).1) ((adv by_ len (adv by_ len (adv by_ len u))).2.1) ((adv by_ len (adv by_ len (adv by_ len u))).2.2.1) ((adv by_ len (adv by_ len (adv by_ len u))).2.2.2), aI cI byA 150 by_, oB b (n + 1) lvA aiA laA ac woA drA, aI cI lvA 6 (updN bl n (vN (adv by_ len u))), aI cI aiA 6 (updN ai n (vN (adv by_ len (adv by_ len u)))), aI cI laA 6 (updN bla n n)] H := hP
      have hD : va_D A [oT t byA len ((adv by_ len (adv by_ len (adv by_ len u))).1) ((adv by_ len (adv by_ len (adv by_ len u))).2.1) ((adv by_ len (adv by_ len (adv by_ len u))).2.2.1) ((adv by_ len (adv by_ len (adv by_ len u))).2.2.2), aI cI byA 150 by_, oB b (n + 1) lvA aiA laA ac woA drA, aI cI lvA 6 (updN bl n (vN (adv by_ len u))), aI cI aiA 6 (updN ai n (vN (adv by_ len (adv by_ len u)))), aI cI laA 6 (updN bla n n)] := hD
      show W _ _ _ _ _ _ _ _ _ _ _ _ _ _ _ (F0 m 39 ls [.int (bI (decide ((adv by_ len (adv by_ len (adv by_ len u))).2.1 = 3)))])
      exact zw_z hC hr hlk hA h0 (by unfold rdF; first | (rw [if_pos c6, if_pos c21]; exact hP) | (rw [if_pos c6, if_neg (by rw [c21]; decide)]; exact hP) | (rw [if_neg (by rw [c6]; decide)]; exact hP)) hS (by unfold rdF; first | rw [if_pos c6, if_pos c21] | rw [if_pos c6, if_neg (by rw [c21]; decide)] | rw [if_neg (by rw [c6]; decide)]) dX2_readsDecanter_39
    · skip
      refine lv_iconst (v := nI 0) hx hb dX2_readsDecanter_24 (by decide) ?_
      refine z_top (y := bI false) rfl ?_
      exact zw_z hC hr hlk hA h0 (by unfold rdF; first | (rw [if_pos c6, if_pos c21]; exact hP) | (rw [if_pos c6, if_neg (by rw [c21]; decide)]; exact hP) | (rw [if_neg (by rw [c6]; decide)]; exact hP)) hS (by unfold rdF; first | rw [if_pos c6, if_pos c21] | rw [if_pos c6, if_neg (by rw [c21]; decide)] | rw [if_neg (by rw [c6]; decide)]) dX2_readsDecanter_25
  · skip
    refine lv_iconst (v := nI 0) hx hb dX2_readsDecanter_9 (by decide) ?_
    refine z_top (y := bI false) rfl ?_
    exact zw_z hC hr hlk hA h0 (by unfold rdF; first | (rw [if_pos c6, if_pos c21]; exact hP) | (rw [if_pos c6, if_neg (by rw [c21]; decide)]; exact hP) | (rw [if_neg (by rw [c6]; decide)]; exact hP)) hS (by unfold rdF; first | rw [if_pos c6, if_pos c21] | rw [if_pos c6, if_neg (by rw [c21]; decide)] | rw [if_neg (by rw [c6]; decide)]) dX2_readsDecanter_10
set_option maxHeartbeats 1000000 in
set_option maxRecDepth 100000 in
theorem c_X2_readsExchange {l : Launch} {D : va_G} {cI cZ cB cR : ClassId} {t byA len : Nat} {u : Cu} {by_ : Nat → Nat} {b : Nat} {n lvA aiA laA ac woA drA : Nat} {bla : Nat → Nat}  (hlen : len ≤ 150) (hby : ∀ i, by_ i < 256) (hu : u.1 ≤ len) (hn : n ≤ 6) : mW l yX2_readsExchange cX2_readsExchange 3 (some .boolean) 3 67 D cI cZ cB cR [oT t byA len u.1 u.2.1 u.2.2.1 u.2.2.2, aI cI byA 150 by_, oB b n lvA aiA laA ac woA drA, aI cI laA 6 bla] [oT t byA len (((rxF by_ len u n bla).2.1).1) (((rxF by_ len u n bla).2.1).2.1) (((rxF by_ len u n bla).2.1).2.2.1) (((rxF by_ len u n bla).2.1).2.2.2), aI cI byA 150 by_, oB b n lvA aiA laA ac woA drA, aI cI laA 6 ((rxF by_ len u n bla).2.2)] [.ref t, .ref b] (some (.int (bI (rxF by_ len u n bla).1))) := by
  refine mW_of rfl (Nat.le_of_ble_eq_true rfl) ?_
  intro p e s m args below meth c hC hr hlk hK A hA hD H0 h0 hP hS ls hl
  have hP : va_P D vwCl [oT t byA len u.1 u.2.1 u.2.2.1 u.2.2.2, aI cI byA 150 by_, oB b n lvA aiA laA ac woA drA, aI cI laA 6 bla] H0 := hP
  have hl : lv_has ls 3 [(0, .ref t), (1, .ref b)] := hl
  obtain ⟨hx, hb, hml, hown, hts⟩ := id hC
  refine lv_aload_n hx hb dX2_readsExchange_0 rfl (lv_at hl 0 rfl) ?_
  refine lv_aload_n hx hb dX2_readsExchange_1 rfl (lv_at hl 1 rfl) ?_
  refine z_get (k := 0) zcX1 hC hK hP 2 rfl (by decide) lF_X2_38 rfl dX2_readsExchange_2 ?_
  refine lv_iconst (v := nI 1) hx hb dX2_readsExchange_5 (by decide) ?_
  refine lv_isub hx hb dX2_readsExchange_6 ?_
  refine zXV (As := [.int ((nI n) - (nI 1))]) (b := t) (rest := []) hC (c_X2_readsNumber (l := l) (u := u) (hlen := hlen) (hby := hby) (hu := hu)) lM_X2_55 vM_X2_readsNumber (by decide) hK hP hD hS [0, 1] [t, byA] rfl (by decide) rfl rfl ⟨rfl, rfl, rfl⟩ rfl hl.1 rfl (Nat.le_of_ble_eq_true rfl) dX2_readsExchange_7 (by decide) (fun H locs hP hD hS => ?_)
  have hP : va_P D vwCl [oT t byA len ((adv by_ len u).1) ((adv by_ len u).2.1) ((adv by_ len u).2.2.1) ((adv by_ len u).2.2.2), aI cI byA 150 by_, oB b n lvA aiA laA ac woA drA, aI cI laA 6 bla] H := hP
  have hD : va_D A [oT t byA len ((adv by_ len u).1) ((adv by_ len u).2.1) ((adv by_ len u).2.2.1) ((adv by_ len u).2.2.2), aI cI byA 150 by_, oB b n lvA aiA laA ac woA drA, aI cI laA 6 bla] := hD
  show W _ _ _ _ _ _ _ _ _ _ _ _ _ _ _ (F0 m 10 ls [.int (bI (numOk by_ len u (nI n - nI 1)))])
  refine zb_ne (tgt := 15) hC dX2_readsExchange_10 (by decide) (fun c10 => ?_) (fun c10 => ?_)
  · skip
    refine lv_aload_n hx hb dX2_readsExchange_15 rfl (lv_at hl 0 rfl) ?_
    refine z_get (k := 5) zcX2 hC hK hP 0 rfl (by decide) lF_X2_28 rfl dX2_readsExchange_16 ?_
    have b19 := (numOk_t hu c10).2.1
    refine z_top (show ((adv by_ len u).2.2.2) = nI (vN (adv by_ len u)) from by exact (numOk_t hu c10).1) ?_
    refine lv_istore_n (lv' := [(2, .int (nI (vN (adv by_ len u)))), (0, .ref t), (1, .ref b)]) hx hb dX2_readsExchange_19 rfl hl (by decide) rfl (fun ls hl => ?_)
    refine lv_aload_n hx hb dX2_readsExchange_20 rfl (lv_at hl 1 rfl) ?_
    refine lv_aload_n hx hb dX2_readsExchange_21 rfl (lv_at hl 2 rfl) ?_
    refine z_get (k := 0) zcX1 hC hK hP 2 rfl (by decide) lF_X2_38 rfl dX2_readsExchange_22 ?_
    refine lv_iconst (v := nI 1) hx hb dX2_readsExchange_25 (by decide) ?_
    refine lv_isub hx hb dX2_readsExchange_26 ?_
    refine zXV (As := [.int ((nI n) - (nI 1))]) (b := t) (rest := []) hC (c_X2_readsNumber (l := l) (u := adv by_ len u) (hlen := hlen) (hby := hby) (hu := (adv_wf (by_ := by_) hu).1)) lM_X2_55 vM_X2_readsNumber (by decide) hK hP hD hS [0, 1] [t, byA] rfl (by decide) rfl rfl ⟨rfl, rfl, rfl⟩ rfl hl.1 rfl (Nat.le_of_ble_eq_true rfl) dX2_readsExchange_27 (by decide) (fun H locs hP hD hS => ?_)
    have hP : va_P D vwCl [oT t byA len ((adv by_ len (adv by_ len u)).1) ((adv by_ len (adv by_ len u)).2.1) ((adv by_ len (adv by_ len u)).2.2.1) ((adv by_ len (adv by_ len u)).2.2.2), aI cI byA 150 by_, oB b n lvA aiA laA ac woA drA, aI cI laA 6 bla] H := hP
    have hD : va_D A [oT t byA len ((adv by_ len (adv by_ len u)).1) ((adv by_ len (adv by_ len u)).2.1) ((adv by_ len (adv by_ len u)).2.2.1) ((adv by_ len (adv by_ len u)).2.2.2), aI cI byA 150 by_, oB b n lvA aiA laA ac woA drA, aI cI laA 6 bla] := hD
    show W _ _ _ _ _ _ _ _ _ _ _ _ _ _ _ (F0 m 30 ls [.int (bI (numOk by_ len (adv by_ len u) (nI n - nI 1)))])
    refine zb_eq (tgt := 41) hC dX2_readsExchange_30 (by decide) (fun c30 => ?_) (fun c30 => ?_)
    · skip
      refine lv_iconst (v := nI 0) hx hb dX2_readsExchange_41 (by decide) ?_
      refine z_top (y := bI false) rfl ?_
      exact zw_z hC hr hlk hA h0 (by unfold rxF; rw [if_pos c10, if_neg (fun h => absurd (h.1.symm.trans c30) (by decide))]; exact hP) hS (by unfold rxF; rw [if_pos c10, if_neg (fun h => absurd (h.1.symm.trans c30) (by decide))]) dX2_readsExchange_42
    · skip
      refine lv_aload_n hx hb dX2_readsExchange_33 rfl (lv_at hl 1 rfl) ?_
      refine z_get (k := 5) zcX2 hC hK hP 0 rfl (by decide) lF_X2_28 rfl dX2_readsExchange_34 ?_
      have b37 := (numOk_t (adv_wf (by_ := by_) hu).1 c30).2.1
      refine z_top (show ((adv by_ len (adv by_ len u)).2.2.2) = nI (vN (adv by_ len (adv by_ len u))) from by exact (numOk_t (adv_wf (by_ := by_) hu).1 c30).1) ?_
      refine lv_iload_n hx hb dX2_readsExchange_37 rfl (lv_at hl 0 rfl) ?_
      refine zc_ne (tgt := 43) hC dX2_readsExchange_38 (by decide) (by omega) (by omega) (fun c38 => ?_) (fun c38 => ?_)
      · skip
        refine lv_aload_n hx hb dX2_readsExchange_43 rfl (lv_at hl 2 rfl) ?_
        refine lv_iload_n hx hb dX2_readsExchange_44 rfl (lv_at hl 0 rfl) ?_
        refine lv_aload_n hx hb dX2_readsExchange_45 rfl (lv_at hl 1 rfl) ?_
        refine z_get (k := 5) zcX2 hC hK hP 0 rfl (by decide) lF_X2_28 rfl dX2_readsExchange_46 ?_
        refine z_top (show ((adv by_ len (adv by_ len u)).2.2.2) = nI (vN (adv by_ len (adv by_ len u))) from by exact (numOk_t (adv_wf (by_ := by_) hu).1 c30).1) ?_
        refine zXVN (As := [.int (nI (vN (adv by_ len u))), .int (nI (vN (adv by_ len (adv by_ len u))))]) (b := b) (rest := []) hC (c_X1_exchangesLabels (l := l) (hd := numOk_n hu hn c10) (he := numOk_n (adv_wf (by_ := by_) hu).1 hn c30) (hn := hn)) lM_X2_74 vM_X1_exchangesLabels (by decide) hK hP hD hS [2, 3] [b, laA] rfl (by decide) rfl rfl ⟨rfl, rfl, rfl⟩ rfl hl.1 rfl (Nat.le_of_ble_eq_true rfl) dX2_readsExchange_49 (by decide) (fun H locs hP hD hS => ?_)
        have hP : va_P D vwCl [oT t byA len ((adv by_ len (adv by_ len u)).1) ((adv by_ len (adv by_ len u)).2.1) ((adv by_ len (adv by_ len u)).2.2.1) ((adv by_ len (adv by_ len u)).2.2.2), aI cI byA 150 by_, oB b n lvA aiA laA ac woA drA, aI cI laA 6 (updN (updN bla (vN (adv by_ len u)) (bla (vN (adv by_ len (adv by_ len u))))) (vN (adv by_ len (adv by_ len u))) (bla (vN (adv by_ len u))))] H := hP
        have hD : va_D A [oT t byA len ((adv by_ len (adv by_ len u)).1) ((adv by_ len (adv by_ len u)).2.1) ((adv by_ len (adv by_ len u)).2.2.1) ((adv by_ len (adv by_ len u)).2.2.2), aI cI byA 150 by_, oB b n lvA aiA laA ac woA drA, aI cI laA 6 (updN (updN bla (vN (adv by_ len u)) (bla (vN (adv by_ len (adv by_ len u))))) (vN (adv by_ len (adv by_ len u))) (bla (vN (adv by_ len u))))] := hD
        show W _ _ _ _ _ _ _ _ _ _ _ _ _ _ _ (F0 m 52 ls [])
        refine lv_aload_n hx hb dX2_readsExchange_52 rfl (lv_at hl 1 rfl) ?_
        refine zXV (As := []) (b := t) (rest := []) hC (c_X2_readsStop (l := l) (u := adv by_ len (adv by_ len u)) (hlen := hlen) (hby := hby) (hu := (adv_wf (by_ := by_) (adv_wf (by_ := by_) hu).1).1)) lM_X2_63 vM_X2_readsStop (by decide) hK hP hD hS [0, 1] [t, byA] rfl (by decide) rfl rfl ⟨rfl, rfl, rfl⟩ rfl hl.1 rfl (Nat.le_of_ble_eq_true rfl) dX2_readsExchange_53 (by decide) (fun H locs hP hD hS => ?_)
        have hP : va_P D vwCl [oT t byA len ((adv by_ len (adv by_ len (adv by_ len u))).1) ((adv by_ len (adv by_ len (adv by_ len u))).2.1) ((adv by_ len (adv by_ len (adv by_ len u))).2.2.1) ((adv by_ len (adv by_ len (adv by_ len u))).2.2.2), aI cI byA 150 by_, oB b n lvA aiA laA ac woA drA, aI cI laA 6 (updN (updN bla (vN (adv by_ len u)) (bla (vN (adv by_ len (adv by_ len u))))) (vN (adv by_ len (adv by_ len u))) (bla (vN (adv by_ len u))))] H := hP
        have hD : va_D A [oT t byA len ((adv by_ len (adv by_ len (adv by_ len u))).1) ((adv by_ len (adv by_ len (adv by_ len u))).2.1) ((adv by_ len (adv by_ len (adv by_ len u))).2.2.1) ((adv by_ len (adv by_ len (adv by_ len u))).2.2.2), aI cI byA 150 by_, oB b n lvA aiA laA ac woA drA, aI cI laA 6 (updN (updN bla (vN (adv by_ len u)) (bla (vN (adv by_ len (adv by_ len u))))) (vN (adv by_ len (adv by_ len u))) (bla (vN (adv by_ len u))))] := hD
        show W _ _ _ _ _ _ _ _ _ _ _ _ _ _ _ (F0 m 56 ls [.int (bI (decide ((adv by_ len (adv by_ len (adv by_ len u))).2.1 = 3)))])
        exact zw_z hC hr hlk hA h0 (by unfold rxF; rw [if_pos c10, if_pos ⟨c30, c38⟩]; exact hP) hS (by unfold rxF; rw [if_pos c10, if_pos ⟨c30, c38⟩]) dX2_readsExchange_56
      · skip
        refine lv_iconst (v := nI 0) hx hb dX2_readsExchange_41 (by decide) ?_
        refine z_top (y := bI false) rfl ?_
        exact zw_z hC hr hlk hA h0 (by unfold rxF; rw [if_pos c10, if_neg (fun h => h.2 c38)]; exact hP) hS (by unfold rxF; rw [if_pos c10, if_neg (fun h => h.2 c38)]) dX2_readsExchange_42
  · skip
    refine lv_iconst (v := nI 0) hx hb dX2_readsExchange_13 (by decide) ?_
    refine z_top (y := bI false) rfl ?_
    exact zw_z hC hr hlk hA h0 (by unfold rxF; rw [if_neg (by rw [c10]; decide)]; exact hP) hS (by unfold rxF; rw [if_neg (by rw [c10]; decide)]) dX2_readsExchange_14
set_option maxHeartbeats 1000000 in
set_option maxRecDepth 100000 in
theorem c_X2_readsAct {l : Launch} {D : va_G} {cI cZ cB cR : ClassId} {t byA len : Nat} {u : Cu} {by_ : Nat → Nat} {b : Nat} {n lvA aiA laA ac woA drA : Nat} {wo : Nat → Nat} {r : Nat → Nat} {dr : Nat → Nat → Nat}  (hlen : len ≤ 150) (hby : ∀ i, by_ i < 256) (hu : u.1 ≤ len) (hn : n ≤ 6) (hac : ac < 5) : mW l yX2_readsAct cX2_readsAct 4 (some .boolean) 3 67 D cI cZ cB cR [oT t byA len u.1 u.2.1 u.2.2.1 u.2.2.2, aI cI byA 150 by_, oB b n lvA aiA laA ac woA drA, aI cI woA 5 wo, aR cR drA 5 r, aI cI (r 0) 6 (dr 0), aI cI (r 1) 6 (dr 1), aI cI (r 2) 6 (dr 2), aI cI (r 3) 6 (dr 3), aI cI (r 4) 6 (dr 4)] [oT t byA len (((raF by_ len u n ac wo dr).2.1).1) (((raF by_ len u n ac wo dr).2.1).2.1) (((raF by_ len u n ac wo dr).2.1).2.2.1) (((raF by_ len u n ac wo dr).2.1).2.2.2), aI cI byA 150 by_, oB b n lvA aiA laA ((raF by_ len u n ac wo dr).2.2.1) woA drA, aI cI woA 5 ((raF by_ len u n ac wo dr).2.2.2.1), aR cR drA 5 r, aI cI (r 0) 6 ((raF by_ len u n ac wo dr).2.2.2.2 0), aI cI (r 1) 6 ((raF by_ len u n ac wo dr).2.2.2.2 1), aI cI (r 2) 6 ((raF by_ len u n ac wo dr).2.2.2.2 2), aI cI (r 3) 6 ((raF by_ len u n ac wo dr).2.2.2.2 3), aI cI (r 4) 6 ((raF by_ len u n ac wo dr).2.2.2.2 4)] [.ref t, .ref b] (some (.int (bI (raF by_ len u n ac wo dr).1))) := by
  refine mW_of rfl (Nat.le_of_ble_eq_true rfl) ?_
  intro p e s m args below meth c hC hr hlk hK A hA hD H0 h0 hP hS ls hl
  have hP : va_P D vwCl [oT t byA len u.1 u.2.1 u.2.2.1 u.2.2.2, aI cI byA 150 by_, oB b n lvA aiA laA ac woA drA, aI cI woA 5 wo, aR cR drA 5 r, aI cI (r 0) 6 (dr 0), aI cI (r 1) 6 (dr 1), aI cI (r 2) 6 (dr 2), aI cI (r 3) 6 (dr 3), aI cI (r 4) 6 (dr 4)] H0 := hP
  have hl : lv_has ls 4 [(0, .ref t), (1, .ref b)] := hl
  obtain ⟨hx, hb, hml, hown, hts⟩ := id hC
  refine lv_aload_n hx hb dX2_readsAct_0 rfl (lv_at hl 0 rfl) ?_
  refine lv_bipush (v := nI 99) hx hb dX2_readsAct_1 (by decide) ?_
  refine zXV (As := [.int (nI 99)]) (b := t) (rest := []) hC (c_X2_readsNumber (l := l) (u := u) (hlen := hlen) (hby := hby) (hu := hu)) lM_X2_55 vM_X2_readsNumber (by decide) hK hP hD hS [0, 1] [t, byA] rfl (by decide) rfl rfl ⟨rfl, rfl, rfl⟩ rfl hl.1 rfl (Nat.le_of_ble_eq_true rfl) dX2_readsAct_3 (by decide) (fun H locs hP hD hS => ?_)
  have hP : va_P D vwCl [oT t byA len ((adv by_ len u).1) ((adv by_ len u).2.1) ((adv by_ len u).2.2.1) ((adv by_ len u).2.2.2), aI cI byA 150 by_, oB b n lvA aiA laA ac woA drA, aI cI woA 5 wo, aR cR drA 5 r, aI cI (r 0) 6 (dr 0), aI cI (r 1) 6 (dr 1), aI cI (r 2) 6 (dr 2), aI cI (r 3) 6 (dr 3), aI cI (r 4) 6 (dr 4)] H := hP
  have hD : va_D A [oT t byA len ((adv by_ len u).1) ((adv by_ len u).2.1) ((adv by_ len u).2.2.1) ((adv by_ len u).2.2.2), aI cI byA 150 by_, oB b n lvA aiA laA ac woA drA, aI cI woA 5 wo, aR cR drA 5 r, aI cI (r 0) 6 (dr 0), aI cI (r 1) 6 (dr 1), aI cI (r 2) 6 (dr 2), aI cI (r 3) 6 (dr 3), aI cI (r 4) 6 (dr 4)] := hD
  show W _ _ _ _ _ _ _ _ _ _ _ _ _ _ _ (F0 m 6 ls [.int (bI (numOk by_ len u (nI 99)))])
  refine zb_ne (tgt := 11) hC dX2_readsAct_6 (by decide) (fun c6 => ?_) (fun c6 => ?_)
  · skip
    refine lv_aload_n hx hb dX2_readsAct_11 rfl (lv_at hl 1 rfl) ?_
    refine lv_aload_n hx hb dX2_readsAct_12 rfl (lv_at hl 0 rfl) ?_
    refine z_get (k := 5) zcX2 hC hK hP 0 rfl (by decide) lF_X2_28 rfl dX2_readsAct_13 ?_
    refine z_top (show ((adv by_ len u).2.2.2) = nI (vN (adv by_ len u)) from by exact (numOk_t hu c6).1) ?_
    refine zXVN (As := [.int (nI (vN (adv by_ len u)))]) (b := b) (rest := []) hC (c_X1_addsAct (l := l) (hac := hac)) lM_X2_67 vM_X1_addsAct (by decide) hK hP hD hS [2, 3, 4, 5, 6, 7, 8, 9] [b, woA, drA, r 0, r 1, r 2, r 3, r 4] rfl (by decide) rfl rfl ⟨rfl, rfl, rfl⟩ rfl hl.1 rfl (Nat.le_of_ble_eq_true rfl) dX2_readsAct_16 (by decide) (fun H locs hP hD hS => ?_)
    have hP : va_P D vwCl [oT t byA len ((adv by_ len u).1) ((adv by_ len u).2.1) ((adv by_ len u).2.2.1) ((adv by_ len u).2.2.2), aI cI byA 150 by_, oB b n lvA aiA laA (ac + 1) woA drA, aI cI woA 5 (updN wo ac (vN (adv by_ len u))), aR cR drA 5 r, aI cI (r 0) 6 ((updF dr ac (cpyN (fun _ => 0) (dr ac) 0 0 6)) 0), aI cI (r 1) 6 ((updF dr ac (cpyN (fun _ => 0) (dr ac) 0 0 6)) 1), aI cI (r 2) 6 ((updF dr ac (cpyN (fun _ => 0) (dr ac) 0 0 6)) 2), aI cI (r 3) 6 ((updF dr ac (cpyN (fun _ => 0) (dr ac) 0 0 6)) 3), aI cI (r 4) 6 ((updF dr ac (cpyN (fun _ => 0) (dr ac) 0 0 6)) 4)] H := hP
    have hD : va_D A [oT t byA len ((adv by_ len u).1) ((adv by_ len u).2.1) ((adv by_ len u).2.2.1) ((adv by_ len u).2.2.2), aI cI byA 150 by_, oB b n lvA aiA laA (ac + 1) woA drA, aI cI woA 5 (updN wo ac (vN (adv by_ len u))), aR cR drA 5 r, aI cI (r 0) 6 ((updF dr ac (cpyN (fun _ => 0) (dr ac) 0 0 6)) 0), aI cI (r 1) 6 ((updF dr ac (cpyN (fun _ => 0) (dr ac) 0 0 6)) 1), aI cI (r 2) 6 ((updF dr ac (cpyN (fun _ => 0) (dr ac) 0 0 6)) 2), aI cI (r 3) 6 ((updF dr ac (cpyN (fun _ => 0) (dr ac) 0 0 6)) 3), aI cI (r 4) 6 ((updF dr ac (cpyN (fun _ => 0) (dr ac) 0 0 6)) 4)] := hD
    show W _ _ _ _ _ _ _ _ _ _ _ _ _ _ _ (F0 m 19 ls [])
    refine lv_aload_n hx hb dX2_readsAct_19 rfl (lv_at hl 0 rfl) ?_
    refine zXV (As := []) (b := t) (rest := []) hC (c_X2_advances (l := l) (hlen := hlen) (hby := hby) (hpl := (adv_wf (by_ := by_) hu).1)) lM_X2_31 vM_X2_advances (by decide) hK hP hD hS [0, 1] [t, byA] rfl (by decide) rfl rfl ⟨rfl, rfl, rfl⟩ rfl hl.1 rfl (Nat.le_of_ble_eq_true rfl) dX2_readsAct_20 (by decide) (fun H locs hP hD hS => ?_)
    have hP : va_P D vwCl [oT t byA len ((adv by_ len (adv by_ len u)).1) ((adv by_ len (adv by_ len u)).2.1) ((adv by_ len (adv by_ len u)).2.2.1) ((adv by_ len (adv by_ len u)).2.2.2), aI cI byA 150 by_, oB b n lvA aiA laA (ac + 1) woA drA, aI cI woA 5 (updN wo ac (vN (adv by_ len u))), aR cR drA 5 r, aI cI (r 0) 6 ((updF dr ac (cpyN (fun _ => 0) (dr ac) 0 0 6)) 0), aI cI (r 1) 6 ((updF dr ac (cpyN (fun _ => 0) (dr ac) 0 0 6)) 1), aI cI (r 2) 6 ((updF dr ac (cpyN (fun _ => 0) (dr ac) 0 0 6)) 2), aI cI (r 3) 6 ((updF dr ac (cpyN (fun _ => 0) (dr ac) 0 0 6)) 3), aI cI (r 4) 6 ((updF dr ac (cpyN (fun _ => 0) (dr ac) 0 0 6)) 4)] H := hP
    have hD : va_D A [oT t byA len ((adv by_ len (adv by_ len u)).1) ((adv by_ len (adv by_ len u)).2.1) ((adv by_ len (adv by_ len u)).2.2.1) ((adv by_ len (adv by_ len u)).2.2.2), aI cI byA 150 by_, oB b n lvA aiA laA (ac + 1) woA drA, aI cI woA 5 (updN wo ac (vN (adv by_ len u))), aR cR drA 5 r, aI cI (r 0) 6 ((updF dr ac (cpyN (fun _ => 0) (dr ac) 0 0 6)) 0), aI cI (r 1) 6 ((updF dr ac (cpyN (fun _ => 0) (dr ac) 0 0 6)) 1), aI cI (r 2) 6 ((updF dr ac (cpyN (fun _ => 0) (dr ac) 0 0 6)) 2), aI cI (r 3) 6 ((updF dr ac (cpyN (fun _ => 0) (dr ac) 0 0 6)) 3), aI cI (r 4) 6 ((updF dr ac (cpyN (fun _ => 0) (dr ac) 0 0 6)) 4)] := hD
    show W _ _ _ _ _ _ _ _ _ _ _ _ _ _ _ (F0 m 23 ls [])
    refine lv_iconst (v := nI 0) hx hb dX2_readsAct_23 (by decide) ?_
    refine lv_istore_n (lv' := [(2, .int (nI 0)), (0, .ref t), (1, .ref b)]) hx hb dX2_readsAct_24 rfl hl (by decide) rfl (fun ls hl => ?_)
    have hL25 : ∀ (z25 : Nat) (t9 : Nat) (u9 : Cu) (dr9 : Nat → Nat → Nat), 6 - t9 = z25 → t9 ≤ 6 → actL by_ len n (ac + 1 - 1) (6 - t9) u9 dr9 = actL by_ len n (ac + 1 - 1) 6 (adv by_ len (adv by_ len u)) (updF dr ac (cpyN (fun _ => 0) (dr ac) 0 0 6)) → wfU len u9 → ∀ (H : Heap) (locs : List Loc), va_P D vwCl [oT t byA len u9.1 u9.2.1 u9.2.2.1 u9.2.2.2, aI cI byA 150 by_, oB b n lvA aiA laA (ac + 1) woA drA, aI cI woA 5 (updN wo ac (vN (adv by_ len u))), aR cR drA 5 r, aI cI (r 0) 6 (dr9 0), aI cI (r 1) 6 (dr9 1), aI cI (r 2) 6 (dr9 2), aI cI (r 3) 6 (dr9 3), aI cI (r 4) 6 (dr9 4)] H → va_D A [oT t byA len u9.1 u9.2.1 u9.2.2.1 u9.2.2.2, aI cI byA 150 by_, oB b n lvA aiA laA (ac + 1) woA drA, aI cI woA 5 (updN wo ac (vN (adv by_ len u))), aR cR drA 5 r, aI cI (r 0) 6 (dr9 0), aI cI (r 1) 6 (dr9 1), aI cI (r 2) 6 (dr9 2), aI cI (r 3) 6 (dr9 3), aI cI (r 4) 6 (dr9 4)] → va_S A H0 H locs → ∀ ls : Array Slot, lv_has ls 4 [(0, .ref t), (1, .ref b), (2, .int (nI t9))] → W p l e { frames := 3, cells := 0, slots := 0, locals := 67 } s m args below meth c H locs 0 0 (MQ below (qW D [oT t byA len u.1 u.2.1 u.2.2.1 u.2.2.2, aI cI byA 150 by_, oB b n lvA aiA laA ac woA drA, aI cI woA 5 wo, aR cR drA 5 r, aI cI (r 0) 6 (dr 0), aI cI (r 1) 6 (dr 1), aI cI (r 2) 6 (dr 2), aI cI (r 3) 6 (dr 3), aI cI (r 4) 6 (dr 4)] [oT t byA len (((raF by_ len u n ac wo dr).2.1).1) (((raF by_ len u n ac wo dr).2.1).2.1) (((raF by_ len u n ac wo dr).2.1).2.2.1) (((raF by_ len u n ac wo dr).2.1).2.2.2), aI cI byA 150 by_, oB b n lvA aiA laA ((raF by_ len u n ac wo dr).2.2.1) woA drA, aI cI woA 5 ((raF by_ len u n ac wo dr).2.2.2.1), aR cR drA 5 r, aI cI (r 0) 6 ((raF by_ len u n ac wo dr).2.2.2.2 0), aI cI (r 1) 6 ((raF by_ len u n ac wo dr).2.2.2.2 1), aI cI (r 2) 6 ((raF by_ len u n ac wo dr).2.2.2.2 2), aI cI (r 3) 6 ((raF by_ len u n ac wo dr).2.2.2.2 3), aI cI (r 4) 6 ((raF by_ len u n ac wo dr).2.2.2.2 4)] (some (.int (bI (raF by_ len u n ac wo dr).1)))) args s 0 0 (zA [oT t byA len u.1 u.2.1 u.2.2.1 u.2.2.2, aI cI byA 150 by_, oB b n lvA aiA laA ac woA drA, aI cI woA 5 wo, aR cR drA 5 r, aI cI (r 0) 6 (dr 0), aI cI (r 1) 6 (dr 1), aI cI (r 2) 6 (dr 2), aI cI (r 3) 6 (dr 3), aI cI (r 4) 6 (dr 4)])) (F0 m 25 ls []) := by
      intro z25
      induction z25 using Nat.strongRecOn with
      | _ z25 ih25 =>
      intro t9 u9 dr9 hz25 ht hq hw H locs hP hD hS ls hl
      refine lv_iload_n hx hb dX2_readsAct_25 rfl (lv_at hl 2 rfl) ?_
      refine lv_bipush (v := nI 6) hx hb dX2_readsAct_26 (by decide) ?_
      refine zc_ge (tgt := 82) hC dX2_readsAct_28 (by decide) (by omega) (by omega) (fun c28 => ?_) (fun c28 => ?_)
      · skip
        refine lv_aload_n hx hb dX2_readsAct_82 rfl (lv_at hl 0 rfl) ?_
        refine z_get (k := 3) zcX2 hC hK hP 0 rfl (by decide) lF_X2_22 rfl dX2_readsAct_83 ?_
        have b86 := hw.2.1
        refine lv_iconst (v := nI 3) hx hb dX2_readsAct_86 (by decide) ?_
        refine zc_ne (tgt := 94) hC dX2_readsAct_87 (by decide) (by omega) (by omega) (fun c87 => ?_) (fun c87 => ?_)
        · skip
          refine lv_iconst (v := nI 0) hx hb dX2_readsAct_94 (by decide) ?_
          refine z_top (y := bI false) rfl ?_
          exact zw_z hC hr hlk hA h0 (by unfold raF; rw [if_pos c6, ← hq, show 6 - t9 = 0 by omega, actL_0]; exact hP) hS (by unfold raF; rw [if_pos c6, ← hq, show 6 - t9 = 0 by omega, actL_0]; exact (decide_eq_false c87).symm) dX2_readsAct_95
        · skip
          refine lv_iconst (v := nI 1) hx hb dX2_readsAct_90 (by decide) ?_
          refine lv_goto (tgt := 95) hx hb dX2_readsAct_91 (by decide) ?_
          refine z_top (y := bI true) rfl ?_
          exact zw_z hC hr hlk hA h0 (by unfold raF; rw [if_pos c6, ← hq, show 6 - t9 = 0 by omega, actL_0]; exact hP) hS (by unfold raF; rw [if_pos c6, ← hq, show 6 - t9 = 0 by omega, actL_0]; exact (decide_eq_true c87).symm) dX2_readsAct_95
      · skip
        refine lv_aload_n hx hb dX2_readsAct_31 rfl (lv_at hl 0 rfl) ?_
        have b32 := hw.2.1
        refine z_get (k := 3) zcX2 hC hK hP 0 rfl (by decide) lF_X2_22 rfl dX2_readsAct_32 ?_
        have b35 := hw.2.1
        refine lv_iconst (v := nI 2) hx hb dX2_readsAct_35 (by decide) ?_
        refine zc_ne (tgt := 82) hC dX2_readsAct_36 (by decide) (by omega) (by omega) (fun c36 => ?_) (fun c36 => ?_)
        · skip
          refine lv_aload_n hx hb dX2_readsAct_82 rfl (lv_at hl 0 rfl) ?_
          refine z_get (k := 3) zcX2 hC hK hP 0 rfl (by decide) lF_X2_22 rfl dX2_readsAct_83 ?_
          have b86 := hw.2.1
          refine lv_iconst (v := nI 3) hx hb dX2_readsAct_86 (by decide) ?_
          refine zc_ne (tgt := 94) hC dX2_readsAct_87 (by decide) (by omega) (by omega) (fun c87 => ?_) (fun c87 => ?_)
          · skip
            refine lv_iconst (v := nI 0) hx hb dX2_readsAct_94 (by decide) ?_
            refine z_top (y := bI false) rfl ?_
            exact zw_z hC hr hlk hA h0 (by unfold raF; rw [if_pos c6, ← hq, show 6 - t9 = (6 - (t9 + 1)) + 1 by omega, actL_s, if_neg c36]; exact hP) hS (by unfold raF; rw [if_pos c6, ← hq, show 6 - t9 = (6 - (t9 + 1)) + 1 by omega, actL_s, if_neg c36]; exact (decide_eq_false c87).symm) dX2_readsAct_95
          · skip
            refine lv_iconst (v := nI 1) hx hb dX2_readsAct_90 (by decide) ?_
            refine lv_goto (tgt := 95) hx hb dX2_readsAct_91 (by decide) ?_
            refine z_top (y := bI true) rfl ?_
            exact zw_z hC hr hlk hA h0 (by unfold raF; rw [if_pos c6, ← hq, show 6 - t9 = (6 - (t9 + 1)) + 1 by omega, actL_s, if_neg c36]; exact hP) hS (by unfold raF; rw [if_pos c6, ← hq, show 6 - t9 = (6 - (t9 + 1)) + 1 by omega, actL_s, if_neg c36]; exact (decide_eq_true c87).symm) dX2_readsAct_95
        · skip
          refine lv_aload_n hx hb dX2_readsAct_39 rfl (lv_at hl 0 rfl) ?_
          refine z_get (k := 5) zcX2 hC hK hP 0 rfl (by decide) lF_X2_28 rfl dX2_readsAct_40 ?_
          have b43 := (hw.2.2.2 c36).2
          refine z_top (show (u9.2.2.2) = nI (vN u9) from by exact (hw.2.2.2 c36).1) ?_
          refine lv_istore_n (lv' := [(3, .int (nI (vN u9))), (0, .ref t), (1, .ref b), (2, .int (nI t9))]) hx hb dX2_readsAct_43 rfl hl (by decide) rfl (fun ls hl => ?_)
          refine lv_iload_n hx hb dX2_readsAct_44 rfl (lv_at hl 0 rfl) ?_
          refine lv_aload_n hx hb dX2_readsAct_45 rfl (lv_at hl 2 rfl) ?_
          refine z_get (k := 0) zcX1 hC hK hP 2 rfl (by decide) lF_X2_38 rfl dX2_readsAct_46 ?_
          refine zc_ge (tgt := 61) hC dX2_readsAct_49 (by decide) (by omega) (by omega) (fun c49 => ?_) (fun c49 => ?_)
          · skip
            refine lv_iconst (v := nI 0) hx hb dX2_readsAct_61 (by decide) ?_
            refine z_top (y := bI false) rfl ?_
            exact zw_z hC hr hlk hA h0 (by unfold raF; rw [if_pos c6, ← hq, show 6 - t9 = (6 - (t9 + 1)) + 1 by omega, actL_s, if_pos c36, if_neg (Nat.not_lt.mpr c49)]; exact hP) hS (by unfold raF; rw [if_pos c6, ← hq, show 6 - t9 = (6 - (t9 + 1)) + 1 by omega, actL_s, if_pos c36, if_neg (Nat.not_lt.mpr c49)]) dX2_readsAct_62
          · skip
            refine lv_aload_n hx hb dX2_readsAct_52 rfl (lv_at hl 1 rfl) ?_
            refine lv_bipush (v := nI 9) hx hb dX2_readsAct_53 (by decide) ?_
            refine zXV (As := [.int (nI 9)]) (b := t) (rest := []) hC (c_X2_readsNumber (l := l) (u := u9) (hlen := hlen) (hby := hby) (hu := hw.1)) lM_X2_55 vM_X2_readsNumber (by decide) hK hP hD hS [0, 1] [t, byA] rfl (by decide) rfl rfl ⟨rfl, rfl, rfl⟩ rfl hl.1 rfl (Nat.le_of_ble_eq_true rfl) dX2_readsAct_55 (by decide) (fun H locs hP hD hS => ?_)
            have hP : va_P D vwCl [oT t byA len ((adv by_ len u9).1) ((adv by_ len u9).2.1) ((adv by_ len u9).2.2.1) ((adv by_ len u9).2.2.2), aI cI byA 150 by_, oB b n lvA aiA laA (ac + 1) woA drA, aI cI woA 5 (updN wo ac (vN (adv by_ len u))), aR cR drA 5 r, aI cI (r 0) 6 (dr9 0), aI cI (r 1) 6 (dr9 1), aI cI (r 2) 6 (dr9 2), aI cI (r 3) 6 (dr9 3), aI cI (r 4) 6 (dr9 4)] H := hP
            have hD : va_D A [oT t byA len ((adv by_ len u9).1) ((adv by_ len u9).2.1) ((adv by_ len u9).2.2.1) ((adv by_ len u9).2.2.2), aI cI byA 150 by_, oB b n lvA aiA laA (ac + 1) woA drA, aI cI woA 5 (updN wo ac (vN (adv by_ len u))), aR cR drA 5 r, aI cI (r 0) 6 (dr9 0), aI cI (r 1) 6 (dr9 1), aI cI (r 2) 6 (dr9 2), aI cI (r 3) 6 (dr9 3), aI cI (r 4) 6 (dr9 4)] := hD
            show W _ _ _ _ _ _ _ _ _ _ _ _ _ _ _ (F0 m 58 ls [.int (bI (numOk by_ len u9 (nI 9)))])
            refine zb_ne (tgt := 63) hC dX2_readsAct_58 (by decide) (fun c58 => ?_) (fun c58 => ?_)
            · skip
              refine lv_aload_n hx hb dX2_readsAct_63 rfl (lv_at hl 2 rfl) ?_
              refine lv_iload_n hx hb dX2_readsAct_64 rfl (lv_at hl 0 rfl) ?_
              refine lv_aload_n hx hb dX2_readsAct_65 rfl (lv_at hl 1 rfl) ?_
              refine z_get (k := 5) zcX2 hC hK hP 0 rfl (by decide) lF_X2_28 rfl dX2_readsAct_66 ?_
              refine z_top (show ((adv by_ len u9).2.2.2) = nI (vN (adv by_ len u9)) from by exact (numOk_t hw.1 c58).1) ?_
              refine zXVN (As := [.int (nI (vN u9)), .int (nI (vN (adv by_ len u9)))]) (b := b) (rest := []) hC (c_X1_latestActNeeds (l := l) (hac := by omega) (hac5 := by omega) (hd := by omega) (hn := hn)) lM_X2_71 vM_X1_latestActNeeds (by decide) hK hP hD hS [2, 4, 5, 6, 7, 8, 9] [b, drA, r 0, r 1, r 2, r 3, r 4] rfl (by decide) rfl rfl ⟨rfl, rfl, rfl⟩ rfl hl.1 rfl (Nat.le_of_ble_eq_true rfl) dX2_readsAct_69 (by decide) (fun H locs hP hD hS => ?_)
              have hP : va_P D vwCl [oT t byA len ((adv by_ len u9).1) ((adv by_ len u9).2.1) ((adv by_ len u9).2.2.1) ((adv by_ len u9).2.2.2), aI cI byA 150 by_, oB b n lvA aiA laA (ac + 1) woA drA, aI cI woA 5 (updN wo ac (vN (adv by_ len u))), aR cR drA 5 r, aI cI (r 0) 6 ((updF dr9 (ac + 1 - 1) (updN (dr9 (ac + 1 - 1)) (vN u9) (vN (adv by_ len u9)))) 0), aI cI (r 1) 6 ((updF dr9 (ac + 1 - 1) (updN (dr9 (ac + 1 - 1)) (vN u9) (vN (adv by_ len u9)))) 1), aI cI (r 2) 6 ((updF dr9 (ac + 1 - 1) (updN (dr9 (ac + 1 - 1)) (vN u9) (vN (adv by_ len u9)))) 2), aI cI (r 3) 6 ((updF dr9 (ac + 1 - 1) (updN (dr9 (ac + 1 - 1)) (vN u9) (vN (adv by_ len u9)))) 3), aI cI (r 4) 6 ((updF dr9 (ac + 1 - 1) (updN (dr9 (ac + 1 - 1)) (vN u9) (vN (adv by_ len u9)))) 4)] H := hP
              have hD : va_D A [oT t byA len ((adv by_ len u9).1) ((adv by_ len u9).2.1) ((adv by_ len u9).2.2.1) ((adv by_ len u9).2.2.2), aI cI byA 150 by_, oB b n lvA aiA laA (ac + 1) woA drA, aI cI woA 5 (updN wo ac (vN (adv by_ len u))), aR cR drA 5 r, aI cI (r 0) 6 ((updF dr9 (ac + 1 - 1) (updN (dr9 (ac + 1 - 1)) (vN u9) (vN (adv by_ len u9)))) 0), aI cI (r 1) 6 ((updF dr9 (ac + 1 - 1) (updN (dr9 (ac + 1 - 1)) (vN u9) (vN (adv by_ len u9)))) 1), aI cI (r 2) 6 ((updF dr9 (ac + 1 - 1) (updN (dr9 (ac + 1 - 1)) (vN u9) (vN (adv by_ len u9)))) 2), aI cI (r 3) 6 ((updF dr9 (ac + 1 - 1) (updN (dr9 (ac + 1 - 1)) (vN u9) (vN (adv by_ len u9)))) 3), aI cI (r 4) 6 ((updF dr9 (ac + 1 - 1) (updN (dr9 (ac + 1 - 1)) (vN u9) (vN (adv by_ len u9)))) 4)] := hD
              show W _ _ _ _ _ _ _ _ _ _ _ _ _ _ _ (F0 m 72 ls [])
              refine lv_aload_n hx hb dX2_readsAct_72 rfl (lv_at hl 1 rfl) ?_
              refine zXV (As := []) (b := t) (rest := []) hC (c_X2_advances (l := l) (hlen := hlen) (hby := hby) (hpl := (adv_wf (by_ := by_) hw.1).1)) lM_X2_31 vM_X2_advances (by decide) hK hP hD hS [0, 1] [t, byA] rfl (by decide) rfl rfl ⟨rfl, rfl, rfl⟩ rfl hl.1 rfl (Nat.le_of_ble_eq_true rfl) dX2_readsAct_73 (by decide) (fun H locs hP hD hS => ?_)
              have hP : va_P D vwCl [oT t byA len ((adv by_ len (adv by_ len u9)).1) ((adv by_ len (adv by_ len u9)).2.1) ((adv by_ len (adv by_ len u9)).2.2.1) ((adv by_ len (adv by_ len u9)).2.2.2), aI cI byA 150 by_, oB b n lvA aiA laA (ac + 1) woA drA, aI cI woA 5 (updN wo ac (vN (adv by_ len u))), aR cR drA 5 r, aI cI (r 0) 6 ((updF dr9 (ac + 1 - 1) (updN (dr9 (ac + 1 - 1)) (vN u9) (vN (adv by_ len u9)))) 0), aI cI (r 1) 6 ((updF dr9 (ac + 1 - 1) (updN (dr9 (ac + 1 - 1)) (vN u9) (vN (adv by_ len u9)))) 1), aI cI (r 2) 6 ((updF dr9 (ac + 1 - 1) (updN (dr9 (ac + 1 - 1)) (vN u9) (vN (adv by_ len u9)))) 2), aI cI (r 3) 6 ((updF dr9 (ac + 1 - 1) (updN (dr9 (ac + 1 - 1)) (vN u9) (vN (adv by_ len u9)))) 3), aI cI (r 4) 6 ((updF dr9 (ac + 1 - 1) (updN (dr9 (ac + 1 - 1)) (vN u9) (vN (adv by_ len u9)))) 4)] H := hP
              have hD : va_D A [oT t byA len ((adv by_ len (adv by_ len u9)).1) ((adv by_ len (adv by_ len u9)).2.1) ((adv by_ len (adv by_ len u9)).2.2.1) ((adv by_ len (adv by_ len u9)).2.2.2), aI cI byA 150 by_, oB b n lvA aiA laA (ac + 1) woA drA, aI cI woA 5 (updN wo ac (vN (adv by_ len u))), aR cR drA 5 r, aI cI (r 0) 6 ((updF dr9 (ac + 1 - 1) (updN (dr9 (ac + 1 - 1)) (vN u9) (vN (adv by_ len u9)))) 0), aI cI (r 1) 6 ((updF dr9 (ac + 1 - 1) (updN (dr9 (ac + 1 - 1)) (vN u9) (vN (adv by_ len u9)))) 1), aI cI (r 2) 6 ((updF dr9 (ac + 1 - 1) (updN (dr9 (ac + 1 - 1)) (vN u9) (vN (adv by_ len u9)))) 2), aI cI (r 3) 6 ((updF dr9 (ac + 1 - 1) (updN (dr9 (ac + 1 - 1)) (vN u9) (vN (adv by_ len u9)))) 3), aI cI (r 4) 6 ((updF dr9 (ac + 1 - 1) (updN (dr9 (ac + 1 - 1)) (vN u9) (vN (adv by_ len u9)))) 4)] := hD
              show W _ _ _ _ _ _ _ _ _ _ _ _ _ _ _ (F0 m 76 ls [])
              refine lv_iinc (v := nI (t9 + 1)) (lv' := [(2, .int (nI (t9 + 1))), (3, .int (nI (vN u9))), (0, .ref t), (1, .ref b)]) hx hb dX2_readsAct_76 hl (k := 3) rfl (z_inc t9 1) (by decide) rfl (fun ls hl => ?_)
              refine lv_goto (tgt := 25) hx hb dX2_readsAct_79 (by decide) ?_
              exact ih25 (6 - (t9 + 1)) (by omega) (t9 + 1) (adv by_ len (adv by_ len u9)) (updF dr9 (ac + 1 - 1) (updN (dr9 (ac + 1 - 1)) (vN u9) (vN (adv by_ len u9)))) rfl (by omega) (by rw [← hq, show 6 - t9 = (6 - (t9 + 1)) + 1 by omega, actL_s, if_pos c36, if_pos c49, if_pos c58]) (by exact adv_wf (adv_wf hw.1).1) _ _ hP hD hS ls (lv_sub hl [2, 3, 0] rfl)
            · skip
              refine lv_iconst (v := nI 0) hx hb dX2_readsAct_61 (by decide) ?_
              refine z_top (y := bI false) rfl ?_
              exact zw_z hC hr hlk hA h0 (by unfold raF; rw [if_pos c6, ← hq, show 6 - t9 = (6 - (t9 + 1)) + 1 by omega, actL_s, if_pos c36, if_pos c49, if_neg (by rw [c58]; decide)]; exact hP) hS (by unfold raF; rw [if_pos c6, ← hq, show 6 - t9 = (6 - (t9 + 1)) + 1 by omega, actL_s, if_pos c36, if_pos c49, if_neg (by rw [c58]; decide)]) dX2_readsAct_62
    exact hL25 _ 0 (adv by_ len (adv by_ len u)) (updF dr ac (cpyN (fun _ => 0) (dr ac) 0 0 6)) rfl (by omega) (by rfl) (by exact adv_wf (adv_wf (by_ := by_) hu).1) _ _ hP hD hS ls (lv_sub hl [1, 2, 0] rfl)
  · skip
    refine lv_iconst (v := nI 0) hx hb dX2_readsAct_9 (by decide) ?_
    refine z_top (y := bI false) rfl ?_
    exact zw_z hC hr hlk hA h0 (by unfold raF; rw [if_neg (by rw [c6]; decide)]; exact hP) hS (by unfold raF; rw [if_neg (by rw [c6]; decide)]) dX2_readsAct_10
