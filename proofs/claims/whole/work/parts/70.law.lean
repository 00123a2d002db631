/-! THE CLAIM OUT OF ONE WALK OF THE LAW'S BODY. Your part is whole_start (and what it stands on); all else here is the same for every law, but numbers. -/
def R_law : String := "KingDropsLaw"
def lw_P (b : Addr) (xs : List Int32) (args : Array Value) (s : State) : Prop := args = #[.ref b] ∧ s.IntsAt b xs ∧ xs.length ≤ 2048 ∧ (Jvm.Cond.and given_1 narrow_1).before args s = true
def lw_Q (_ : Array Value) (s : State) (o : Outcome) (t : State) : Prop := o = .returned (some (.int 1)) ∧ Framed s o t [] 600000 7302250
def lw_Z (below : List Frame) (a : Array Value) (s : State) : State → Prop := fun t => ∃ o, t.status = .running ∧ Ended t below o ∧ lw_Q a s o t
/-- the law's own end, with 1 on the stack, nothing written that was there before, its room as the claim has it -/
theorem lw_ret {p : Program} {l : Launch} {e : Env} {s : State} {m : MethodId} {below : List Frame} {meth : Method} {c : Code} {b : Nat} (hx : p.tables.exec = Jvm.exec) (hb : c.code = code) (hr : meth.sig.returnType = ret) (hlocks : meth.locks = false) {pc : Nat} {H : Heap} {ls : Array Slot} (hdg : decode code pc = .ok (.ireturn, 1)) : W p l e room_1 s m #[Value.ref b] below meth c H [] 600000 7302250 (lw_Z below #[Value.ref b] s) (F0 m pc ls [.int 1]) := by
  intro T hT X
  obtain ⟨fs, hret, hrun, hended, hW, hframe⟩ := X.leave (v := some (.int 1)) (hlocks := hlocks) (fun h => by rw [hr] at h; cases h)
  have hmeth' : T.vm.method? m = some meth := X.method'
  refine ⟨T.setFrames fs, ?_, .returned (some (.int 1)), hrun, hended, rfl, ⟨_, rfl⟩, hW, hframe⟩
  jvm_step X.here [X.here.top, hx, hb, hdg, hmeth', hr, ret, narrow_b1]
  (try refine ⟨rfl, ?_⟩); (try refine ⟨rfl, ?_⟩)
  first | (intro acts; rw [hret _ acts rfl rfl rfl]) | rw [hret _ _ rfl rfl rfl]
  exact Steps.refl _
/-- what holds at the law's entry: the machine, the code, the tables' words (any of lw_tbl by 'hts w (by decide +kernel)'), the script of L ints xs at the cell b, what the Statement gives of the start (any of its parts by flat_of_before) -/
def lw_At (p : Program) (s : State) (m : MethodId) (meth : Method) (c : Code) (b L : Nat) (xs : Nat → Int32) : Prop :=
  p.tables.exec = Jvm.exec ∧ c.code = code ∧ meth.sig.returnType = ret ∧ c.maxLocals = 4 ∧ s.vm.findClass R_law = some m.cls ∧ (∀ w ∈ lw_tbl, w.before #[Value.ref b] s = true) ∧ va_X b L xs s s.heap ∧ b < s.heap.size ∧ meth.locks = false ∧ (Jvm.Cond.and given_1 narrow_1).before #[Value.ref b] s = true
set_option maxHeartbeats 4000000 in
set_option maxRecDepth 100000 in
/-- THE LAW'S LOOP: at its head both sides are related -/
theorem law_loop {p : Program} {l : Launch} {e : Env} {s : State} {m : MethodId} {below : List Frame} {meth : Method} {c : Code} {b L : Nat} {xs : Nat → Int32} {D : va_G} {cI cZ cB cR : ClassId} {sa : Nat} (hL : L ≤ 2048) (C0 : lw_At p s m meth c b L xs) (hK : KK D cI cZ cB cR s) (hZ : ZZ sa s s.heap) (am : Nat → Nat) :
    ∀ (n i : Nat), i ≤ L → L + 1 ≤ i + n → ∀ (ad : Nat → Nat) (S : KS) (M : MS) (H : Heap) (locs : List Loc), Rel S M → va_P D vwCl (wK cI cZ cR ad S ++ wM cI cZ cB am M) H → va_D (fun q : Nat => s.heap.size ≤ q) (wK cI cZ cR ad S ++ wM cI cZ cB am M) → va_S (fun q : Nat => s.heap.size ≤ q) s.heap H locs → ∀ ls : Array Slot, lv_has ls 4 [(0, .ref b), (1, .ref (ad 0)), (2, .ref (am 0)), (3, .int (nI i))] → W p l e room_1 s m #[Value.ref b] below meth c H locs 56 2068 (lw_Z below #[Value.ref b] s) (F0 m 18 ls []) := by
  obtain ⟨hx, hb, hr, hml, hown, hts, hX, hbl, hlocks, hgv⟩ := C0
  have hC : CallFix p m c cL_law 4 s #[Value.ref b] wsU RL := ⟨hx, hb, hml, hown, fun w hw => hts w (wsU_tbl w hw)⟩
  have hbA : ¬ (fun q : Nat => s.heap.size ≤ q) b := Nat.not_le.mpr hbl
  intro n
  induction n with
  | zero =>
    intro i h1 h2
    exact absurd h2 (by omega)
  | succ n ih =>
    intro i hi hin ad S M H locs hR hP hD hS ls hl
    refine lv_iload_n hx hb dL_law_18 rfl (lv_at hl 3 rfl) ?_
    refine lv_aload_n hx hb dL_law_19 rfl (lv_at hl 0 rfl) ?_
    refine va_slen hx hb hX hbl hbA hS dL_law_20 ?_
    refine lv_iconst (v := nI 4) hx hb dL_law_21 (by decide) ?_
    refine lv_isub hx hb dL_law_22 ?_
    refine lv_icmp_gt (tgt := 733) hx hb dL_law_23 (by decide) (fun _ => ?_) (fun c_9 => ?_)
    · refine lv_iconst (v := 1) hx hb dL_law_733 (by decide) ?_
      refine va_forget (fun q hq => hS.2.2 q hq) ?_
      refine W.widen (k := 600000) (n := 7302250) (Nat.le_of_ble_eq_true rfl) (Nat.le_of_ble_eq_true rfl) ?_
      exact lw_ret hx hb hr hlocks dL_law_734
    · have h4 : i + 4 ≤ L := law_cmp hi hL c_9
      have fin : ∀ (ad' : Nat → Nat) (S' : KS) (M' : MS) (H' : Heap) (locs' : List Loc), Rel S' M' → va_P D vwCl (wK cI cZ cR ad' S' ++ wM cI cZ cB am M') H' → va_D (fun q : Nat => s.heap.size ≤ q) (wK cI cZ cR ad' S' ++ wM cI cZ cB am M') → va_S (fun q : Nat => s.heap.size ≤ q) s.heap H' locs' → lv_has ls 4 [(0, .ref b), (1, .ref (ad' 0)), (2, .ref (am 0)), (3, .int (nI i))] → W p l e room_1 s m #[Value.ref b] below meth c H' locs' 56 2068 (lw_Z below #[Value.ref b] s) (F0 m 727 ls []) := by
        intro ad' S' M' H' locs' hR hP hD hS hl
        refine lv_iinc (v := nI (i + 4)) (lv' := [(3, .int (nI (i + 4))), (0, .ref b), (1, .ref (ad' 0)), (2, .ref (am 0))]) hx hb dL_law_727 hl (k := 3) rfl (by rw [show Int32.ofInt 4 = nI 4 from by decide, nI_add]) (by decide) rfl (fun ls hl => ?_)
        refine lv_goto (tgt := 18) hx hb dL_law_730 (by decide) ?_
        exact ih (i + 4) h4 (by omega) ad' S' M' H' locs' hR hP hD hS ls (lv_sub hl [1, 2, 3, 0] rfl)
      refine lv_aload_n hx hb dL_law_26 rfl (lv_at hl 0 rfl) ?_
      refine lv_iload_n hx hb dL_law_27 rfl (lv_at hl 3 rfl) ?_
      refine va_sld hx hb hX hbl hbA hS (vp_in_nI (by omega) (by omega)) dL_law_28 ?_
      refine lv_bipush (v := nI 31) hx hb dL_law_29 (by decide) ?_
      refine lv_iand hx hb dL_law_31 ?_
      refine lv_topi (fun x9 _ => ?_)
      by_cases hout : x9.toInt < 0 ∨ 23 < x9.toInt
      · refine lv_tableOut (tgt := 727) hx hb dL_law_32 hout (by decide) ?_
        exact fin ad S M H locs hR hP hD hS hl
      · have hk : x9.toInt = 0 ∨ x9.toInt = 1 ∨ x9.toInt = 2 ∨ x9.toInt = 3 ∨ x9.toInt = 4 ∨ x9.toInt = 5 ∨ x9.toInt = 6 ∨ x9.toInt = 7 ∨ x9.toInt = 8 ∨ x9.toInt = 9 ∨ x9.toInt = 10 ∨ x9.toInt = 11 ∨ x9.toInt = 12 ∨ x9.toInt = 13 ∨ x9.toInt = 14 ∨ x9.toInt = 15 ∨ x9.toInt = 16 ∨ x9.toInt = 17 ∨ x9.toInt = 18 ∨ x9.toInt = 19 ∨ x9.toInt = 20 ∨ x9.toInt = 21 ∨ x9.toInt = 22 ∨ x9.toInt = 23 := by omega
        rcases hk with h9 | h9 | h9 | h9 | h9 | h9 | h9 | h9 | h9 | h9 | h9 | h9 | h9 | h9 | h9 | h9 | h9 | h9 | h9 | h9 | h9 | h9 | h9 | h9
        · refine lv_tableIn (off := 112) (tgt := 144) hx hb dL_law_32 (by omega) (by omega) (by rw [h9]; rfl) (by decide) ?_
          exact lawc_0 hC hX hbl hK hZ hL h4 (by decide) hR hP hD hS hl fin
        · refine lv_tableIn (off := 135) (tgt := 167) hx hb dL_law_32 (by omega) (by omega) (by rw [h9]; rfl) (by decide) ?_
          exact lawc_1 hC hX hbl hK hZ hL h4 (by decide) hR hP hD hS hl fin
        · refine lv_tableIn (off := 148) (tgt := 180) hx hb dL_law_32 (by omega) (by omega) (by rw [h9]; rfl) (by decide) ?_
          exact lawc_2 hC hX hbl hK hZ hL h4 (by decide) hR hP hD hS hl fin
        · refine lv_tableIn (off := 161) (tgt := 193) hx hb dL_law_32 (by omega) (by omega) (by rw [h9]; rfl) (by decide) ?_
          exact lawc_3 hC hX hbl hK hZ hL h4 (by decide) hR hP hD hS hl fin
        · refine lv_tableIn (off := 194) (tgt := 226) hx hb dL_law_32 (by omega) (by omega) (by rw [h9]; rfl) (by decide) ?_
          exact lawc_4 hC hX hbl hK hZ hL h4 (by decide) hR hP hD hS hl fin
        · refine lv_tableIn (off := 227) (tgt := 259) hx hb dL_law_32 (by omega) (by omega) (by rw [h9]; rfl) (by decide) ?_
          exact lawc_5 hC hX hbl hK hZ hL h4 (by decide) hR hP hD hS hl fin
        · refine lv_tableIn (off := 260) (tgt := 292) hx hb dL_law_32 (by omega) (by omega) (by rw [h9]; rfl) (by decide) ?_
          exact lawc_6 hC hX hbl hK hZ hL h4 (by decide) hR hP hD hS hl fin
        · refine lv_tableIn (off := 283) (tgt := 315) hx hb dL_law_32 (by omega) (by omega) (by rw [h9]; rfl) (by decide) ?_
          exact lawc_7 hC hX hbl hK hZ hL h4 (by decide) hR hP hD hS hl fin
        · refine lv_tableIn (off := 296) (tgt := 328) hx hb dL_law_32 (by omega) (by omega) (by rw [h9]; rfl) (by decide) ?_
          exact lawc_8 hC hX hbl hK hZ hL h4 (by decide) hR hP hD hS hl fin
        · refine lv_tableIn (off := 329) (tgt := 361) hx hb dL_law_32 (by omega) (by omega) (by rw [h9]; rfl) (by decide) ?_
          exact lawc_9 hC hX hbl hK hZ hL h4 (by decide) hR hP hD hS hl fin
        · refine lv_tableIn (off := 362) (tgt := 394) hx hb dL_law_32 (by omega) (by omega) (by rw [h9]; rfl) (by decide) ?_
          exact lawc_10 hC hX hbl hK hZ hL h4 (by decide) hR hP hD hS hl fin
        · refine lv_tableIn (off := 375) (tgt := 407) hx hb dL_law_32 (by omega) (by omega) (by rw [h9]; rfl) (by decide) ?_
          exact lawc_11 hC hX hbl hK hZ hL h4 (by decide) hR hP hD hS hl fin
        · refine lv_tableIn (off := 398) (tgt := 430) hx hb dL_law_32 (by omega) (by omega) (by rw [h9]; rfl) (by decide) ?_
          exact lawc_12 hC hX hbl hK hZ hL h4 (by decide) hR hP hD hS hl fin
        · refine lv_tableIn (off := 421) (tgt := 453) hx hb dL_law_32 (by omega) (by omega) (by rw [h9]; rfl) (by decide) ?_
          exact lawc_13 hC hX hbl hK hZ hL h4 (by decide) hR hP hD hS hl fin
        · refine lv_tableIn (off := 444) (tgt := 476) hx hb dL_law_32 (by omega) (by omega) (by rw [h9]; rfl) (by decide) ?_
          exact lawc_14 hC hX hbl hK hZ hL h4 (by decide) hR hP hD hS hl fin
        · refine lv_tableIn (off := 467) (tgt := 499) hx hb dL_law_32 (by omega) (by omega) (by rw [h9]; rfl) (by decide) ?_
          exact lawc_15 hC hX hbl hK hZ hL h4 (by decide) hR hP hD hS hl fin
        · refine lv_tableIn (off := 510) (tgt := 542) hx hb dL_law_32 (by omega) (by omega) (by rw [h9]; rfl) (by decide) ?_
          exact lawc_16 hC hX hbl hK hZ hL h4 (by decide) hR hP hD hS hl fin
        · refine lv_tableIn (off := 543) (tgt := 575) hx hb dL_law_32 (by omega) (by omega) (by rw [h9]; rfl) (by decide) ?_
          exact lawc_17 hC hX hbl hK hZ hL h4 (by decide) hR hP hD hS hl fin
        · refine lv_tableIn (off := 556) (tgt := 588) hx hb dL_law_32 (by omega) (by omega) (by rw [h9]; rfl) (by decide) ?_
          exact lawc_18 hC hX hbl hK hZ hL h4 (by decide) hR hP hD hS hl fin
        · refine lv_tableIn (off := 579) (tgt := 611) hx hb dL_law_32 (by omega) (by omega) (by rw [h9]; rfl) (by decide) ?_
          exact lawc_19 hC hX hbl hK hZ hL h4 (by decide) hR hP hD hS hl fin
        · refine lv_tableIn (off := 612) (tgt := 644) hx hb dL_law_32 (by omega) (by omega) (by rw [h9]; rfl) (by decide) ?_
          exact lawc_20 hC hX hbl hK hZ hL h4 (by decide) hR hP hD hS hl fin
        · refine lv_tableIn (off := 635) (tgt := 667) hx hb dL_law_32 (by omega) (by omega) (by rw [h9]; rfl) (by decide) ?_
          exact lawc_21 hC hX hbl hK hZ hL h4 (by decide) hR hP hD hS hl fin
        · refine lv_tableIn (off := 658) (tgt := 690) hx hb dL_law_32 (by omega) (by omega) (by rw [h9]; rfl) (by decide) ?_
          exact lawc_22 hC hX hbl hK hZ hL h4 (by decide) hR hP hD hS hl fin
        · refine lv_tableIn (off := 681) (tgt := 713) hx hb dL_law_32 (by omega) (by omega) (by rw [h9]; rfl) (by decide) ?_
          exact lawc_23 hC hX hbl hK hZ hL h4 (by decide) hR hP hD hS hl fin
set_option maxHeartbeats 4000000 in
set_option maxRecDepth 100000 in
/-- THE LAW, from its entry -/
theorem whole_start {p : Program} {e : Env} {s : State} {m : MethodId} {below : List Frame} {meth : Method} {c : Code} (l : Launch) (hflags : l.flags = flags0) {b L : Nat} {xs : Nat → Int32} (hL : L ≤ 2048) (C0 : lw_At p s m meth c b L xs) : W p l e room_1 s m #[Value.ref b] below meth c s.heap [] 0 0 (lw_Z below #[Value.ref b] s) (entryFrame m ([Value.ref b] : List Value).toArray 4) := by
  obtain ⟨hx, hb, hr, hml, hown, hts, hX, hbl, hlocks, hgv⟩ := id C0
  have hC : CallFix p m c cL_law 4 s #[Value.ref b] wsU RL := ⟨hx, hb, hml, hown, fun w hw => hts w (wsU_tbl w hw)⟩
  have hA : ∀ q : Nat, s.heap.size ≤ q → (fun q : Nat => s.heap.size ≤ q) q := fun _ h => h
  obtain ⟨D, cI, cZ, cB, cR, hK, hG⟩ := KK_0 hts
  obtain ⟨sa, hZ⟩ := ZZ_0 hts hgv
  have hS : va_S (fun q : Nat => s.heap.size ≤ q) s.heap s.heap [] := va_S.rf
  have hP : va_P D vwCl [] s.heap := fun k q h => by simp at h
  have hD : va_D (fun q : Nat => s.heap.size ≤ q) [] := ⟨fun i j p q h => by simp at h, fun k q h => by simp at h⟩
  have hl := lv_entry ([.ref b]) (n := 4) (Nat.le_of_ble_eq_true rfl)
  rw [lg_entry_eq]
  generalize (lg_sl ([.ref b]) ++ List.replicate (4 - (lg_sl ([.ref b])).length) Slot.unset).toArray = ls at hl ⊢
  have hl : lv_has ls 4 [(0, .ref b)] := hl
  refine z_new zcX3 hC nC_L_7 nN_X3 nZ_X3 hK hP hD hS hA nD_X3 (Nat.le_of_ble_eq_true rfl) (Nat.le_of_ble_eq_true rfl) dL_law_0 (fun q1 H hP hD hS => ?_)
  refine W.widen (k := 1) (n := 11) (Nat.le_of_ble_eq_true rfl) (Nat.le_of_ble_eq_true rfl) ?_
  refine lv_dup hx hb dL_law_3 rfl ?_
  refine zAI (X := []) (sz := H.size) rfl hC (c_X3_init (l := l) (b := q1)) nM_L_9 nI_X3 rfl (by decide) hG hK hP hD hS hA hl.1 rfl (Nat.le_of_ble_eq_true rfl) dL_law_4 ⟨Nat.le_of_ble_eq_true rfl, Nat.le_of_ble_eq_true rfl⟩ (fun w1 H1 locs1 hB1 hP1 hD1 hS1 => ?_)
  obtain ⟨ad, e1, rfl⟩ := hB1
  subst e1
  clear hP hD hS
  have hP : va_P D vwCl (wK cI cZ cR ad S0) H1 := hP1
  have hD : va_D (fun q : Nat => s.heap.size ≤ q) (wK cI cZ cR ad S0) := hD1
  refine W.widen (k := 42) (n := 1050) (Nat.le_of_ble_eq_true rfl) (Nat.le_of_ble_eq_true rfl) ?_
  refine lv_astore_n (lv' := [(1, .ref (ad 0)), (0, .ref b)]) hx hb dL_law_7 rfl hl (by decide) rfl (fun ls hl => ?_)
  refine z_new zcX4 hC nC_L_10 nN_X4 nZ_X4 hK hP hD hS1 hA nD_X4 (Nat.le_of_ble_eq_true rfl) (Nat.le_of_ble_eq_true rfl) dL_law_8 (fun q2 H hP hD hS => ?_)
  refine W.widen (k := 43) (n := 1071) (Nat.le_of_ble_eq_true rfl) (Nat.le_of_ble_eq_true rfl) ?_
  refine lv_dup hx hb dL_law_11 rfl ?_
  refine zAI (X := wK cI cZ cR ad S0) (sz := H.size) rfl hC (c_X4_init (l := l) (b := q2)) nM_L_12 nI_X4 rfl (by decide) hG hK hP hD hS hA hl.1 rfl (Nat.le_of_ble_eq_true rfl) dL_law_12 ⟨Nat.le_of_ble_eq_true rfl, Nat.le_of_ble_eq_true rfl⟩ (fun w2 H2 locs2 hB2 hP2 hD2 hS2 => ?_)
  obtain ⟨am, e2, rfl⟩ := hB2
  subst e2
  refine W.widen (k := 56) (n := 2068) (Nat.le_of_ble_eq_true rfl) (Nat.le_of_ble_eq_true rfl) ?_
  refine lv_astore_n (lv' := [(2, .ref (am 0)), (1, .ref (ad 0)), (0, .ref b)]) hx hb dL_law_15 rfl hl (by decide) rfl (fun ls hl => ?_)
  refine lv_iconst (v := nI 0) hx hb dL_law_16 (by decide) ?_
  refine lv_istore_n (lv' := [(3, .int (nI 0)), (2, .ref (am 0)), (1, .ref (ad 0)), (0, .ref b)]) hx hb dL_law_17 rfl hl (by decide) rfl (fun ls hl => ?_)
  exact law_loop hL C0 hK hZ am (L + 1) 0 (Nat.zero_le L) (by omega) ad S0 M0 H2 locs2 Rel_0 hP2 hD2 hS2 ls (lv_sub hl [3, 2, 1, 0] rfl)
