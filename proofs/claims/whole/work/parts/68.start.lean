/-! the law's start: what the tables and the Statement give; calls over one side of the world -/
theorem u0_n {k : Nat} : updN (fun _ => 0) k 0 = fun _ => 0 := by
  funext j; unfold updN; split <;> rfl
theorem u0_b {k : Nat} : updB (fun _ => false) k false = fun _ => false := by
  funext j; unfold updB; split <;> rfl
theorem u0_k {off i : Nat} : blk (fun _ => 0) off i (fun _ => 0) = fun _ => 0 := by
  funext j; unfold blk; split <;> rfl
theorem M0_eq : M0 = (0, 0, 0, 0, 0, 0, 0, 0, (fun _ => 0), (fun _ => 0), (fun _ => 0), (fun _ => 0), (fun _ => 0), (fun _ => 0), (fun _ => 0), (fun _ => 0), (fun _ => 0), (fun _ => false), (fun _ => 0), (fun _ => 0), (fun _ => 0)) := by
  unfold M0
  simp only [u0_n, u0_b, u0_k, tdN]
theorem PM_0 {la : Nat → Nat} : PM 0 la := ⟨fun _ => 0, fun i hi => absurd hi (Nat.not_lt_zero i), fun i hi => absurd hi (Nat.not_lt_zero i)⟩
theorem SN_0 : SN 0 (fun _ => 0) (fun _ => 0) (fun _ => 0) 0 0 0 0 (fun _ => 0) := ⟨fun d hd => absurd hd (Nat.not_lt_zero d), ⟨rfl, rfl, rfl, rfl⟩, fun d _ => ⟨Nat.zero_le _, Nat.zero_le _, (by decide : (0 : Nat) < 6)⟩, fun d _ => ⟨Nat.zero_le _, Nat.zero_le _, (by decide : (0 : Nat) < 6)⟩, PM_0, Nat.zero_le _, by decide⟩
theorem BOK_0 : BOK (0, (fun _ => 0), (fun _ => 0), (fun _ => 0), 0, (fun _ => 0), (fun _ _ => 0)) := ⟨fun _ => Nat.zero_le _, fun _ => Nat.zero_le _, fun _ => (by decide : (0 : Nat) < 6), fun _ => Nat.zero_le _, fun _ _ => Nat.zero_le _⟩
theorem Rel_0 : Rel S0 M0 := by
  rw [M0_eq]
  unfold S0
  refine ⟨⟨rfl, rfl, rfl, rfl, rfl⟩, ⟨Nat.zero_le _, fun i hi => absurd hi (Nat.not_lt_zero i), fun _ => (by decide : (0 : Nat) < 256)⟩, ⟨Nat.zero_le _, Nat.zero_le _⟩, ⟨fun d hd => absurd hd (Nat.not_lt_zero d), fun a ha => absurd ha (Nat.not_lt_zero a)⟩, BOK_0, BOK_0, ⟨fun _ _ => Nat.zero_le _, fun _ => Nat.zero_le _, fun _ _ => Nat.zero_le _⟩, ⟨SN_0, rfl, Nat.zero_le _, fun j hj => absurd hj (Nat.not_lt_zero j)⟩, ⟨fun _ => Nat.zero_le _, fun _ => Nat.zero_le _, fun _ => (by decide : (0 : Nat) < 6)⟩, ⟨by decide, by decide, by decide, fun h => absurd h (by decide), fun h => absurd h (by decide)⟩, ⟨Nat.zero_le _, fun k hk => absurd hk (Nat.not_lt_zero k), fun _ => (by decide : (0 : Nat) < 64), fun _ => (by decide : (0 : Nat) < 5), fun _ => (by decide : (0 : Nat) < 2)⟩⟩
theorem KK_0 {args : Array Value} {s : State} (hts : ∀ w ∈ lw_tbl, w.before args s = true) : ∃ (D : va_G) (cI cZ cB cR : ClassId), KK D cI cZ cB cR s ∧ gOv cR cI s := by
  have htu : ∀ w ∈ wsU, w.before args s = true := fun w h => hts w (wsU_tbl w h)
  obtain ⟨c0, i0, k0⟩ := u_known (C := RX0) (T := TX0) (N := 9) (n := 9) htu zcX0.2.1 (htu _ nN_X0)
  obtain ⟨c1, i1, k1⟩ := u_known (C := RX1) (T := TX1) (N := 7) (n := 7) htu zcX1.2.1 (htu _ nN_X1)
  obtain ⟨c2, i2, k2⟩ := u_known (C := RX2) (T := TX2) (N := 6) (n := 6) htu zcX2.2.1 (htu _ nN_X2)
  obtain ⟨c3, i3, k3⟩ := u_known (C := RX3) (T := TX3) (N := 11) (n := 11) htu zcX3.2.1 (htu _ nN_X3)
  obtain ⟨c4, i4, k4⟩ := u_known (C := RX4) (T := TX4) (N := 21) (n := 21) htu zcX4.2.1 (htu _ nN_X4)
  obtain ⟨cI, kI, pI, a1, a2, a3⟩ := Cond.arrayClass_spec (htu _ aW_int)
  obtain ⟨cZ, kZ, pZ, b1, b2, b3⟩ := Cond.arrayClass_spec (htu _ aW_bool)
  obtain ⟨cB, kB, pB, d1, d2, d3⟩ := Cond.arrayClass_spec (htu _ aW_byte)
  obtain ⟨cI2, cR, kR, e1, e2, e3, e4⟩ := gAO (t := .int) (hts (Cond.arrayOver (.array .int)) (List.mem_of_getElem? (i := 126) (by decide +kernel)))
  have hII : cI2 = cI := Option.some.inj (e1.symm.trans a1)
  subst hII
  refine ⟨((fun k => if k = 0 then c0 else if k = 1 then c1 else if k = 2 then c2 else if k = 3 then c3 else c4), (fun k => if k = 0 then i0 else if k = 1 then i1 else if k = 2 then i2 else if k = 3 then i3 else i4)), cI2, cZ, cB, cR, ⟨?_, ?_⟩, ⟨kR, e2, e3⟩⟩
  · intro k q hq
    match k, hq with
    | 0, hq => cases hq; exact k0
    | 1, hq => cases hq; exact k1
    | 2, hq => cases hq; exact k2
    | 3, hq => cases hq; exact k3
    | 4, hq => cases hq; exact k4
    | k + 5, hq => simp at hq
  · intro k q hq
    match k, hq with
    | 0, hq => cases hq; exact ⟨fun n z => ⟨fun k h => (by cases h), kI, a2, pI, a3⟩, a1⟩
    | 1, hq => cases hq; exact ⟨fun n z => ⟨fun k h => (by cases h), kZ, b2, pZ, b3⟩, b1⟩
    | 2, hq => cases hq; exact ⟨fun n z => ⟨fun k h => (by cases h), kB, d2, pB, d3⟩, d1⟩
    | 3, hq => cases hq; exact ⟨fun n z => ⟨fun k h => (by cases h), kR, e2, cI2, e3⟩, e4⟩
    | k + 4, hq => simp at hq
theorem lS_X3 : Cond.laysStatic "KingDrops" "NONE_OWN" "[I" ∈ lw_tbl := List.mem_of_getElem? (i := 504) (by decide +kernel)
theorem ZZ_0 {b : Nat} {s : State} (hts : ∀ w ∈ lw_tbl, w.before #[Value.ref b] s = true) (hgv : (Jvm.Cond.and given_1 narrow_1).before #[Value.ref b] s = true) : ∃ sa, ZZ sa s s.heap := by
  have hs := flat_of_before _ hgv
  have key : ∀ j : Nat, j < 7 → (Term.elem (.static "KingDrops" "NONE_OWN" "[I") (.int (Int32.ofNat j))).eval #[Value.ref b] s none [] s = some (.int (nI (noF j))) := by
    intro j hj
    match j, hj with
    | 0, _ => exact va_eqt (hs _ (by decide +kernel))
    | 1, _ => exact va_eqt (hs _ (by decide +kernel))
    | 2, _ => exact va_eqt (hs _ (by decide +kernel))
    | 3, _ => exact va_eqt (hs _ (by decide +kernel))
    | 4, _ => exact va_eqt (hs _ (by decide +kernel))
    | 5, _ => exact va_eqt (hs _ (by decide +kernel))
    | 6, _ => exact va_eqt (hs _ (by decide +kernel))
    | k + 7, h => exact absurd h (by omega)
  obtain ⟨t, h1, h2⟩ := va_Tof (tm := .static "KingDrops" "NONE_OWN" "[I") (ty := .int) (N := 7) (f := fun j => .int (nI (noF j))) (A := fun _ => False) (by decide) (hs _ (by decide +kernel)) (va_eqt (hs _ (by decide +kernel))) key (fun _ _ h => h)
  exact ⟨t, va_Zref (hts _ lS_X3) (hts _ (wsU_tbl _ nZ_X3)) h1 (fun _ _ h => h), h2⟩
theorem ZZ_kept {sa : Nat} {s : State} {H : Heap} {locs : List Loc} (hS : va_S (fun q : Nat => s.heap.size ≤ q) s.heap H locs) (h : ZZ sa s s.heap) : ZZ sa s H :=
  ⟨h.1.kept (fun a h1 _ => hS.2.1 a h1 (Nat.not_le.mpr h1)), h.2.kept (fun a h1 _ => hS.2.1 a h1 (Nat.not_le.mpr h1))⟩
theorem zA_mem {ws : va_W} {q : Nat} : zA ws q ↔ q ∈ ws.map Prod.fst := by
  constructor
  · rintro ⟨k, e, h⟩
    exact List.mem_map.mpr ⟨(q, e), List.mem_of_getElem? h, rfl⟩
  · intro h
    obtain ⟨⟨q', e⟩, h1, h2⟩ := List.mem_map.mp h
    cases h2
    obtain ⟨k, hk⟩ := List.getElem?_of_mem h1
    exact ⟨k, e, hk⟩
theorem va_Pswap {D : va_G} {cl : List vw_C} {X Y : va_W} {H : Heap} (h : va_P D cl (X ++ Y) H) : va_P D cl (Y ++ X) H :=
  va_P_mem.mpr (fun q hq => va_P_mem.mp h q (List.mem_append.mpr ((List.mem_append.mp hq).symm)))
theorem va_Dswap {A : Nat → Prop} {X Y : va_W} (h : va_D A (X ++ Y)) : va_D A (Y ++ X) :=
  va_D_perm (by rw [List.map_append, List.map_append]; exact List.perm_append_comm) h
theorem wK_0 {cI cZ cR : ClassId} {ad : Nat → Nat} {S : KS} : ∃ fs, (wK cI cZ cR ad S)[0]? = some (ad 0, .inr (3, fs)) := by
  obtain ⟨kept, td, tr, ⟨len, pl, tk, tA, va, by_⟩, ⟨n, bl, ai, bla, ac, wo, dr⟩, ⟨n2, bl2, ai2, bla2, ac2, wo2, dr2⟩, ⟨mo, dn, ea, bn, k, lv, te, la, st⟩, ⟨mo1, dn1, ea1, bn1, k1, lv1, te1, la1, st1⟩, ⟨mo2, dn2, ea2, bn2, k2, lv2, te2, la2, st2⟩, tnF, twF⟩ := S
  exact ⟨_, rfl⟩
theorem wM_0 {cI cZ cB : ClassId} {am : Nat → Nat} {M : MS} : ∃ fs, (wM cI cZ cB am M)[0]? = some (am 0, .inr (4, fs)) := by
  obtain ⟨trM, ty, tdM, at9, sta, sor, val, fau, tx, dc, dl, db, ar, acn, wm, nd, nw, kp, ta, tw, hg⟩ := M
  exact ⟨_, rfl⟩
theorem tyV_int {rv : Value} (h : tyV (some .int) rv) : ∃ z, rv = .int z := by
  cases rv with
  | int z => exact ⟨z, rfl⟩
  | _ => exact h.elim
theorem tyV_long {rv : Value} (h : tyV (some .long) rv) : ∃ z, rv = .long z := by
  cases rv with
  | long z => exact ⟨z, rfl⟩
  | _ => exact h.elim
section LAWROWS
variable {p : Program} {l : Launch} {e : Env} {R : Room} {s : State} {m : MethodId} {args : Array Value} {below : List Frame} {meth : Method} {c : Code} {H : Heap} {locs : List Loc} {cells slots : Nat} {Q : State → Prop}
variable {cc : ByteArray} {pc nL : Nat} {ls : Array Slot} {rest st0 : List Value} {own : String} {D : va_G} {cI cZ cB cR : ClassId} {A : Nat → Prop} {H0 : Heap} {sa : Nat}
variable {y : MethodName} {cy : ByteArray} {nLy index n : Nat} {rty : Option FieldType} {X X' Y : va_W} {As : List Value} {b : Nat} {v : Value}
theorem lw_lcmp (hexec : p.tables.exec = Jvm.exec) (hb : c.code = cc) {x : Int64} (hdg : decode cc pc = .ok (.lcmp, 1)) (k : W p l e R s m args below meth c H locs cells slots Q (F0 m (pc + 1) ls (.int 0 :: rest))) : W p l e R s m args below meth c H locs cells slots Q (F0 m pc ls (.long x :: .long x :: rest)) := by
  intro T hT X
  obtain ⟨t, a, b⟩ := k T hT X
  refine ⟨t, ?_, b⟩
  jvm_step X.here [X.here.top, hexec, hb, hdg, show ¬ (x > x) from Int64.lt_irrefl]
  exact a
theorem zGL {ci : Nat} {fs : List Value} {q : vw_C} (hC : CallFix p m c cc nL s args wsU own) (hM : mV l y cy nLy rty D cI cZ cB cR sa X X' (.ref b :: As) (some v)) (hl : zLk own index y cy nLy rty n) (hv : zVi y) (hR : 8 ≤ R.frames ∧ 8 + (nLy + 11) + 160 ≤ R.locals) (hK : KK D cI cZ cB cR s) (hZ : ZZ sa s H) (hP : va_P D vwCl (X ++ Y) H) (hD : va_D A (X ++ Y)) (hS : va_S A H0 H locs) (hp : (X'.map Prod.fst).Perm (X.map Prod.fst))
    (hr : X[0]? = some (b, .inr (ci, fs)) ∧ vwCl[ci]? = some q ∧ q.1 = y.cls) (hn : As.length = n) (hsz : ls.size = nL) (hst : st0 = As.reverse ++ .ref b :: rest) (hw : (rest.map fun v => v.category).sum ≤ 8) (hdg : decode cc pc = .ok (.invokevirtual index, 3)) (hcs : cells ≤ R.cells ∧ slots ≤ R.slots)
    (kk : ∀ (H1 : Heap) (locs1 : List Loc), va_P D vwCl (X' ++ Y) H1 → va_D A (X' ++ Y) → va_S A H0 H1 locs1 → W p l e R s m args below meth c H1 locs1 cells slots Q (F0 m (pc + 3) ls (v :: rest))) : W p l e R s m args below meth c H locs cells slots Q (F0 m pc ls st0) := by
  obtain ⟨fr, lo, h1, h2, h3⟩ := hM
  have hPc : va_P D vwCl X H := va_P_mem.mpr (fun q hq => va_P_mem.mp hP q (List.mem_append_left _ hq))
  have hd := va_D_nd.mp hD
  rw [List.map_append] at hd
  obtain ⟨d1, d2, d3⟩ := List.nodup_append.mp hd.1
  have hDc : va_D (fun _ => True) X := va_D_nd.mpr ⟨d1, fun _ _ => trivial⟩
  have hf : ∀ q, zA X q → A q := fun q h => hd.2 q (List.mem_append_left _ (zA_mem.mp h))
  refine z_backW (rv := some v) (va_runV (As := As) (rest := rest) (b := b) hC h3 ⟨z_cb hC hl ⟨by omega, by omega⟩, hC.2.2.2.2 _ hv.1, hC.2.2.2.2 _ hv.2⟩ ⟨fun a U g mk q => ?_, z_recv hK hPc hr, fun U hU hW => ⟨rfl, by rw [hU]; exact hPc, KK.moved hW.alike hK, hDc, by rw [hU]; exact ZZ.moved hW.alike hZ⟩⟩ rfl hn hsz hst (lv_room (pc := pc) (ls := ls) (rest := st0) hw) hdg hcs) hS hf ?_
  · obtain ⟨h1, h2, h3, h4, h5⟩ := q
    exact ⟨h1, h2, KK.moved (u := U) (U := U.calling g mk a) (Vm.Alike.refl U.vm) h3, h4, ZZ.moved (u := U) (U := U.calling g mk a) (Vm.Alike.refl U.vm) h5⟩
  · intro H1 locs1 hP1 hk hS1
    refine kk H1 locs1 (va_P_mem.mpr (fun q hq => ?_)) (va_D_perm (by rw [List.map_append, List.map_append]; exact hp.append_right _) hD) hS1
    rcases List.mem_append.mp hq with h | h
    · exact va_P_mem.mp hP1 q h
    · have h9 := va_P_mem.mp hP q (List.mem_append_right _ h)
      exact h9.kept (hk _ h9.lt (fun hz => d3 _ (zA_mem.mp hz) _ (List.mem_map.mpr ⟨q, h, rfl⟩) rfl))
/-- an argument out of the script -/
theorem zArg {L : Nat} {xs : Nat → Int32} {a1 a2 i k : Nat} {n9 : Int} (hx : p.tables.exec = Jvm.exec) (hb : c.code = cc) (hX : va_X b L xs s s.heap) (hbl : b < s.heap.size) (hbA : ¬ A b) (hS : va_S A s.heap H locs) (hl : lv_has ls 4 [(0, .ref b), (1, .ref a1), (2, .ref a2), (3, .int (nI i))]) (hk : i + k < L) (hL : L ≤ 2048)
    (d1 : decode cc pc = .ok (.aload_n 0, 1)) (d2 : decode cc (pc + 1) = .ok (.iload_n 3, 1)) (d3 : decode cc (pc + 2) = .ok (.iconst n9, 1)) (hn : Int32.ofInt n9 = nI k) (d4 : decode cc (pc + 3) = .ok (.iadd, 1)) (d5 : decode cc (pc + 4) = .ok (.iaload, 1))
    (kk : W p l e R s m args below meth c H locs cells slots Q (F0 m (pc + 5) ls (.int (xs (i + k)) :: rest))) : W p l e R s m args below meth c H locs cells slots Q (F0 m pc ls rest) := by
  refine lv_aload_n hx hb d1 rfl (lv_at hl 0 rfl) ?_
  refine lv_iload_n hx hb d2 rfl (lv_at hl 3 rfl) ?_
  refine lv_iconst hx hb d3 hn ?_
  refine lv_iadd hx hb d4 ?_
  rw [nI_add]
  refine va_sld hx hb hX hbl hbA hS (vp_in_nI hk (by omega)) d5 ?_
  rw [nI_clamp (by omega)]
  exact kk
end LAWROWS
theorem law_cmp {i L : Nat} (hi : i ≤ L) (hL : L ≤ 2048) (h : ¬ Int32.ofNat L - nI 4 < nI i) : i + 4 ≤ L := by
  rw [Int32.lt_iff_toInt_lt, show Int32.ofNat L = nI L from rfl, pk_sub_toInt (by omega) (by omega), nI_toInt (by omega)] at h
  omega
