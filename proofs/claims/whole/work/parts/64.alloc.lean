/-! constructors: rows of their own -/
theorem aW_int : Cond.arrayClass .int ∈ wsU := memU 118 (by decide +kernel)
theorem aW_bool : Cond.arrayClass .boolean ∈ wsU := memU 233 (by decide +kernel)
theorem aW_byte : Cond.arrayClass .byte ∈ wsU := memU 649 (by decide +kernel)
theorem aW_cl : Cond.classLink RX1 31 ("[" ++ (FieldType.array .int).toString) ∈ wsU := memU 125 (by decide +kernel)
theorem oW_i : Cond.instanceMethod Lib.objectInit ∈ wsU := memU 90 (by decide +kernel)
theorem oW_c : Cond.code Lib.objectInit ⟨#[0xb1]⟩ 1 none ∈ wsU := memU 91 (by decide +kernel)
theorem oW_X3 : Cond.methodLink RX3 1 Lib.objectInit ∈ wsU := memU 89 (by decide +kernel)
theorem oW_X2 : Cond.methodLink RX2 3 Lib.objectInit ∈ wsU := memU 97 (by decide +kernel)
theorem oW_X1 : Cond.methodLink RX1 3 Lib.objectInit ∈ wsU := memU 124 (by decide +kernel)
theorem oW_X0 : Cond.methodLink RX0 5 Lib.objectInit ∈ wsU := memU 162 (by decide +kernel)
theorem oW_X4 : Cond.methodLink RX4 1 Lib.objectInit ∈ wsU := memU 576 (by decide +kernel)
/-- a constructor: it makes cells -/
def mA (l : Launch) (y : MethodName) (cc : ByteArray) (nL fr lo mc ms : Nat) (D : va_G) (cI cZ cB cR : ClassId) (b sz : Nat) (c0 : va_E) (B : va_W → Prop) : Prop :=
  Met l y (mth y cc nL none) { frames := fr, cells := mc, slots := ms, locals := lo } (va_Pc [.ref b] (fun U => U.heap.size = sz ∧ va_P D vwCl [(b, c0)] U.heap ∧ KK D cI cZ cB cR U ∧ va_D (fun _ => True) [(b, c0)] ∧ gOv cR cI U)) (va_Qv B (fun w t => va_P D vwCl w t.heap ∧ va_D (va_A [(b, c0)] sz) w) (va_A [(b, c0)] sz)) mc ms (va_A [(b, c0)] sz)
theorem mA_of {l : Launch} {y : MethodName} {cc : ByteArray} {nL fr lo mc ms : Nat} {D : va_G} {cI cZ cB cR : ClassId} {b sz : Nat} {c0 : va_E} {B : va_W → Prop} (hy : plainName y.cls = true) (hlen : (lg_sl [Value.ref b]).length ≤ nL)
    (body : ∀ (p : Program) (e : Env) (s : State) (m : MethodId) (args : Array Value) (below : List Frame) (meth : Method) (c : Code), CallFix p m c cc nL s args wsU y.cls → meth.sig.returnType = none → meth.locks = false → meth.name = y.name → KK D cI cZ cB cR s → gOv cR cI s → sz = s.heap.size → ∀ A : Nat → Prop, A = va_A [(b, c0)] sz → (∀ q, s.heap.size ≤ q → A q) → va_D A [(b, c0)] → va_P D vwCl [(b, c0)] s.heap → va_S A s.heap s.heap [] → ∀ ls : Array Slot, lv_has ls nL (lv_args 0 [Value.ref b]) →
      W p l e { frames := fr, cells := mc, slots := ms, locals := lo } s m args below meth c s.heap [] 0 0 (MQ below (va_Qv B (fun w t => va_P D vwCl w t.heap ∧ va_D (va_A [(b, c0)] sz) w) (va_A [(b, c0)] sz)) args s mc ms (va_A [(b, c0)] sz)) (F0 m 0 ls [])) : mA l y cc nL fr lo mc ms D cI cZ cB cR b sz c0 B := by
  refine Met.ofW (cc := cc) (maxL := nL) (ret := none) hy rfl ?_
  intro p e s m args below meth c s₁ B0 hml hv
  obtain ⟨rfl, hsz, hP, hK, hD, hG⟩ := hv
  have hts := atoms_spec (ws := mth y cc nL none) B0.pre
  have hown : s.vm.findClass y.cls = some m.cls := findClass_of_methodNamed B0.named
  have hl := lv_entry [Value.ref b] (n := nL) hlen
  rw [lg_entry_eq]
  exact body p e s m _ below meth c ⟨B0.exec, B0.bytes, hml, hown, fun w hw => hts w (List.mem_cons_of_mem _ hw)⟩ B0.returns B0.notSynchronized (name_of_methodNamed B0.named B0.method).1 hK hG hsz.symm _ rfl (fun q h => Or.inr (by rw [hsz] at h; exact h)) hD.self hP va_S.rf _ hl
section ZALLOC
variable {p : Program} {l : Launch} {e : Env} {R : Room} {s : State} {m : MethodId} {args : Array Value} {below : List Frame} {meth : Method} {c : Code} {H : Heap} {locs : List Loc} {cells slots : Nat} {Q : State → Prop}
variable {cc : ByteArray} {pc nL : Nat} {ls : Array Slot} {rest st0 : List Value} {own : String} {D : va_G} {cI cZ cB cR : ClassId} {A : Nat → Prop} {ws : va_W} {H0 : Heap} {a : Nat}
theorem zA_v {b sz mc ms : Nat} {c0 : va_E} {B : va_W → Prop} {w : va_W} (hC : CallFix p m c cc nL s args wsU own) (hr : meth.sig.returnType = none) (hlk : meth.locks = false) (hA : A = va_A [(b, c0)] sz) (hP : va_P D vwCl w H) (hD : va_D A w) (hS : va_S A s.heap H locs) (hB : B w) (hdg : decode cc pc = .ok (.return_, 1)) :
    W p l e R s m args below meth c H locs mc ms (MQ below (va_Qv B (fun w t => va_P D vwCl w t.heap ∧ va_D (va_A [(b, c0)] sz) w) (va_A [(b, c0)] sz)) args s mc ms (va_A [(b, c0)] sz)) (F0 m pc ls []) := by
  subst hA
  exact W.vret hC.1 hC.2.1 hr (fun t ht _ => ⟨⟨w, rfl, hB, by rw [ht]; exact hP, hD⟩, hS.F ht⟩) hS.2.2 hdg hlk
theorem z_newI (hC : CallFix p m c cc nL s args wsU own) (hK : KK D cI cZ cB cR s) (hP : va_P D vwCl ws H) (hD : va_D A ws) (hS : va_S A H0 H locs) (hA : ∀ q, H0.size ≤ q → A q) {n : Nat} (hn : n < 1000) (hc : cells + 1 ≤ R.cells) (hs : slots + n ≤ R.slots) (hdg : decode cc pc = .ok (.newarray .int, 2))
    (kk : ∀ (q : Nat) (H1 : Heap), va_P D vwCl (ws ++ [aI cI q n (fun _ => 0)]) H1 → va_D A (ws ++ [aI cI q n (fun _ => 0)]) → va_S A H0 H1 locs → W p l e R s m args below meth c H1 locs (cells + 1) (slots + n) Q (F0 m (pc + 2) ls (.ref q :: rest))) : W p l e R s m args below meth c H locs cells slots Q (F0 m pc ls (.int (nI n) :: rest)) := by
  refine va_newa (atype := .int) (ty := .int) (a0 := (n, .inl (fun _ => nI 0))) hC.1 hC.2.1 (hC.2.2.2.2 _ aW_int) rfl hK hP hD hS hA (N' := n) (fun cA => rfl) (nI_pos (by omega)) (nI_clamp (by omega)) (by show n * 4 ≤ _; omega) hc hs hdg (fun q cA H1 hK1 hP1 hD1 hS1 => ?_)
  have e : cA = cI := Option.some.inj ((hK1.2 4 (cA, .int) rfl).2.symm.trans (hK.2 0 (cI, .int) rfl).2)
  subst e
  exact kk q H1 hP1 hD1 hS1
theorem z_newZ (hC : CallFix p m c cc nL s args wsU own) (hK : KK D cI cZ cB cR s) (hP : va_P D vwCl ws H) (hD : va_D A ws) (hS : va_S A H0 H locs) (hA : ∀ q, H0.size ≤ q → A q) {n : Nat} (hn : n < 1000) (hc : cells + 1 ≤ R.cells) (hs : slots + n ≤ R.slots) (hdg : decode cc pc = .ok (.newarray .boolean, 2))
    (kk : ∀ (q : Nat) (H1 : Heap), va_P D vwCl (ws ++ [aZ cZ q n (fun _ => false)]) H1 → va_D A (ws ++ [aZ cZ q n (fun _ => false)]) → va_S A H0 H1 locs → W p l e R s m args below meth c H1 locs (cells + 1) (slots + n) Q (F0 m (pc + 2) ls (.ref q :: rest))) : W p l e R s m args below meth c H locs cells slots Q (F0 m pc ls (.int (nI n) :: rest)) := by
  refine va_newa (atype := .boolean) (ty := .boolean) (a0 := (n, .inl (fun _ => bI false))) hC.1 hC.2.1 (hC.2.2.2.2 _ aW_bool) rfl hK hP hD hS hA (N' := n) (fun cA => rfl) (nI_pos (by omega)) (nI_clamp (by omega)) (by show n * 1 ≤ _; omega) hc hs hdg (fun q cA H1 hK1 hP1 hD1 hS1 => ?_)
  have e : cA = cZ := Option.some.inj ((hK1.2 4 (cA, .boolean) rfl).2.symm.trans (hK.2 1 (cZ, .boolean) rfl).2)
  subst e
  exact kk q H1 hP1 hD1 hS1
theorem z_newB (hC : CallFix p m c cc nL s args wsU own) (hK : KK D cI cZ cB cR s) (hP : va_P D vwCl ws H) (hD : va_D A ws) (hS : va_S A H0 H locs) (hA : ∀ q, H0.size ≤ q → A q) {n : Nat} (hn : n < 1000) (hc : cells + 1 ≤ R.cells) (hs : slots + n ≤ R.slots) (hdg : decode cc pc = .ok (.newarray .byte, 2))
    (kk : ∀ (q : Nat) (H1 : Heap), va_P D vwCl (ws ++ [aB cB q n (fun _ => 0)]) H1 → va_D A (ws ++ [aB cB q n (fun _ => 0)]) → va_S A H0 H1 locs → W p l e R s m args below meth c H1 locs (cells + 1) (slots + n) Q (F0 m (pc + 2) ls (.ref q :: rest))) : W p l e R s m args below meth c H locs cells slots Q (F0 m pc ls (.int (nI n) :: rest)) := by
  refine va_newa (atype := .byte) (ty := .byte) (a0 := (n, .inl (fun _ => 0))) hC.1 hC.2.1 (hC.2.2.2.2 _ aW_byte) rfl hK hP hD hS hA (N' := n) (fun cA => rfl) (nI_pos (by omega)) (nI_clamp (by omega)) (by show n * 1 ≤ _; omega) hc hs hdg (fun q cA H1 hK1 hP1 hD1 hS1 => ?_)
  have e : cA = cB := Option.some.inj ((hK1.2 4 (cA, .byte) rfl).2.symm.trans (hK.2 2 (cB, .byte) rfl).2)
  subst e
  exact kk q H1 hP1 hD1 hS1
theorem z_grid {index : Nat} (hG : gOv cR cI s) (hC : CallFix p m c cc nL s args wsU own) (hcl : Cond.classLink own index ("[" ++ (FieldType.array .int).toString) ∈ wsU) (hK : KK D cI cZ cB cR s) (hP : va_P D vwCl ws H) (hD : va_D A ws) (hS : va_S A s.heap H locs) (hA : ∀ q, s.heap.size ≤ q → A q) (hc : cells + 6 ≤ R.cells) (hs : slots + 35 ≤ R.slots) (hdg : decode cc pc = .ok (.multianewarray index 2, 4))
    (kk : ∀ (q : Nat) (H1 : Heap), va_P D vwCl (ws ++ [aR cR q 5 (fun i => q + 1 + i), aI cI (q + 1) 6 (fun _ => 0), aI cI (q + 2) 6 (fun _ => 0), aI cI (q + 3) 6 (fun _ => 0), aI cI (q + 4) 6 (fun _ => 0), aI cI (q + 5) 6 (fun _ => 0)]) H1 → va_D A (ws ++ [aR cR q 5 (fun i => q + 1 + i), aI cI (q + 1) 6 (fun _ => 0), aI cI (q + 2) 6 (fun _ => 0), aI cI (q + 3) 6 (fun _ => 0), aI cI (q + 4) 6 (fun _ => 0), aI cI (q + 5) 6 (fun _ => 0)]) → va_S A s.heap H1 locs → W p l e R s m args below meth c H1 locs (cells + 6) (slots + 35) Q (F0 m (pc + 4) ls (.ref q :: rest))) : W p l e R s m args below meth c H locs cells slots Q (F0 m pc ls (.int (nI 6) :: .int (nI 5) :: rest)) := by
  refine W.grid hC.1 hC.2.1 hC.2.2.2.1 (hC.2.2.2.2 _ hcl) hG (hC.2.2.2.2 _ aW_int) (cA := cR) (cI := cI) (hK.2 3 (cR, .array .int) rfl).2 (hK.2 0 (cI, .int) rfl).2 hdg hS.1 hc hs (fun H1 e1 e2 e3 e4 => ?_)
  have hlt : ∀ q, q ∈ ws → q.1 < H.size := fun q hq => (va_P_mem.mp hP q hq).lt
  have hz : arrV cI 6 (fun _ => Value.int 0) = gI cI := (arrV_new cI 6 (.int 0)).symm
  have hrow : ∀ j, j < 5 → va_at D vwCl (aI cI (H.size + 1 + j) 6 (fun _ => 0)) H1 := fun j hj => by
    show H1[H.size + 1 + j]? = some (arrV cI 6 (fun _ => Value.int (nI 0)))
    rw [e3 j hj, ← hz]
    rfl
  refine kk H.size H1 (va_P_mem.mpr (fun q hq => ?_)) ?_ ⟨Nat.le_trans hS.1 (by omega), fun q h1 h2 => by rw [e4 q (Nat.lt_of_lt_of_le h1 hS.1)]; exact hS.2.1 q h1 h2, hS.2.2⟩
  · rcases List.mem_append.mp hq with h | h
    · exact (va_P_mem.mp hP q h).kept (e4 _ (hlt q h))
    · rcases List.mem_cons.mp h with rfl | h
      · show H1[H.size]? = some (vp_cell cR _)
        rw [e2, gO_arr, vp_cell_q]
      · simp only [List.mem_cons, List.not_mem_nil, or_false] at h
        rcases h with rfl | rfl | rfl | rfl | rfl
        · exact hrow 0 (by decide)
        · exact hrow 1 (by decide)
        · exact hrow 2 (by decide)
        · exact hrow 3 (by decide)
        · exact hrow 4 (by decide)
  · rw [va_D_nd] at hD ⊢
    rw [List.map_append]
    refine ⟨List.nodup_append.mpr ⟨hD.1, ?_, fun x hx y hy => ?_⟩, fun x hx => ?_⟩
    · show [H.size, H.size + 1, H.size + 2, H.size + 3, H.size + 4, H.size + 5].Nodup
      simp only [List.nodup_cons, List.mem_cons, List.not_mem_nil, or_false, not_or]
      repeat' constructor
      all_goals (first | omega | exact List.nodup_nil | simp)
    · obtain ⟨q, hq, rfl⟩ := List.mem_map.mp hx
      have h1 := hlt q hq
      have h2 : y = H.size ∨ y = H.size + 1 ∨ y = H.size + 2 ∨ y = H.size + 3 ∨ y = H.size + 4 ∨ y = H.size + 5 := by simpa using hy
      omega
    · rcases List.mem_append.mp hx with h | h
      · exact hD.2 x h
      · have h2 : x = H.size ∨ x = H.size + 1 ∨ x = H.size + 2 ∨ x = H.size + 3 ∨ x = H.size + 4 ∨ x = H.size + 5 := by simpa using h
        have h3 := hS.1
        exact hA x (by omega)
theorem z_putF {ci index k N : Nat} {C : String} {T : u_T} {ty : Nat → FieldType} (hcl : zCl ci C T N ty) (hC : CallFix p m c cc nL s args wsU own) (hnm : meth.name = "<init>") (hK : KK D cI cZ cB cR s) (hP : va_P D vwCl ws H) (hD : va_D A ws) (hS : va_S A H0 H locs) (q0 : Nat) {fs : List Value} (he : ws[q0]? = some (a, .inr (ci, fs))) (hk : k < N) (hF : Cond.fieldLink own index (T k).1 (T k).2.1 (T k).2.2.1 ∈ wsU) (hfin : (T k).2.2.2 = true) (hdecl : (T k).1 = own) {v : Value} (hn : narrow (ty k) v = v) (hfit : fits (ty k) v = true) (hl : k < fs.length) (hdg : decode cc pc = .ok (.putfield index, 3))
    (kk : ∀ (H1 : Heap) (locs1 : List Loc), va_P D vwCl (ws.set q0 (a, .inr (ci, fs.set k v))) H1 → va_D A (ws.set q0 (a, .inr (ci, fs.set k v))) → va_S A H0 H1 locs1 → W p l e R s m args below meth c H1 locs1 cells slots Q (F0 m (pc + 3) ls rest)) : W p l e R s m args below meth c H locs cells slots Q (F0 m pc ls (v :: .ref a :: rest)) := by
  obtain ⟨hx, hb, -, hown, hts⟩ := hC
  exact va_putF hx hb hts hcl.2.1 ty hcl.2.2.1 hcl.2.2.2 hown hK hP hD hS q0 he hcl.1 k hk (hts _ hF) (fun _ h9 => h9) hfin hnm hdecl (hcl.2.2.1 k hk) hn hfit hl hdg kk
theorem z_new {ci index N : Nat} {C : String} {T : u_T} {ty : Nat → FieldType} (hcl : zCl ci C T N ty) (hC : CallFix p m c cc nL s args wsU own) (h1 : Cond.classLink own index C ∈ wsU) (h2 : Cond.instantiable C N ∈ wsU) (h3 : Cond.initialized C ∈ wsU) (hK : KK D cI cZ cB cR s) (hP : va_P D vwCl ws H) (hD : va_D A ws) (hS : va_S A H0 H locs) (hA : ∀ q, H0.size ≤ q → A q) {fs : List Value} (hfs : ∀ j, j < N → defaultValue (ty j) = vp_V fs j) (hc : cells + 1 ≤ R.cells) (hs : slots + N ≤ R.slots) (hdg : decode cc pc = .ok (.new index, 3))
    (kk : ∀ (q : Nat) (H1 : Heap), va_P D vwCl (ws ++ [(q, .inr (ci, fs))]) H1 → va_D A (ws ++ [(q, .inr (ci, fs))]) → va_S A H0 H1 locs → W p l e R s m args below meth c H1 locs (cells + 1) (slots + N) Q (F0 m (pc + 3) ls (.ref q :: rest))) : W p l e R s m args below meth c H locs cells slots Q (F0 m pc ls rest) := by
  obtain ⟨hx, hb, -, hown, hts⟩ := hC
  exact va_new hx hb hts hcl.2.1 ty hcl.2.2.1 hown (hts _ h1) (hts _ h2) (hts _ h3) hK hP hD hS hA hcl.1 hfs hc hs hdg kk
theorem z_rangeX {X : va_W} {x : Nat × va_E} : (List.range X.length).map (fun i => (X ++ [x])[i]?) = X.map some := by
  apply List.ext_getElem?
  intro i
  rw [List.getElem?_map, List.getElem?_map]
  by_cases h : i < X.length
  · rw [List.getElem?_range h]
    show some ((X ++ [x])[i]?) = _
    rw [List.getElem?_append_left h, List.getElem?_eq_getElem h]
    rfl
  · rw [List.getElem?_eq_none (by simpa using h), List.getElem?_eq_none (by omega)]
    rfl
theorem z_ndR : ∀ n, va_nd (List.range n) = true := by
  intro n
  have key : ∀ l : List Nat, l.Nodup → va_nd l = true := by
    intro l
    induction l with
    | nil => intro _; rfl
    | cons a t ih =>
      intro h
      have h2 := List.nodup_cons.mp h
      simp [va_nd, h2.1, ih h2.2]
  exact key _ List.nodup_range
/-- behind a constructor's call: its world beside the rest -/
theorem z_joinX {X w : va_W} {b : Nat} {c0 : va_E} {H1 : Heap} (hP : va_P D vwCl (X ++ [(b, c0)]) H) (hD : va_D A (X ++ [(b, c0)])) (hF : ∀ q, va_A [(b, c0)] H.size q → A q) (hk : ∀ q : Nat, q < H.size → ¬ va_A [(b, c0)] H.size q → H1[q]? = H[q]?) (hP1 : va_P D vwCl w H1) (hD1 : va_D (va_A [(b, c0)] H.size) w) : va_P D vwCl (X ++ w) H1 ∧ va_D A (X ++ w) :=
  va_join hP hD [X.length] (List.range X.length) (by simp) z_rangeX (z_ndR _) (fun i hi h => by have h1 := List.mem_range.mp hi; have h2 : i = X.length := (by simpa using h); omega) hk hF hP1 hD1
variable {y : MethodName} {cy : ByteArray} {nLy index fr lo mc ms b : Nat} {c0 : va_E} {B : va_W → Prop} {X : va_W}
theorem zAN {host : String} {sz : Nat} (hsz : H.size = sz) (hC : CallFix p m c cc nL s args wsU own) (hM : mA l y cy nLy fr lo mc ms D cI cZ cB cR b sz c0 B) (hl : zLkN own index y cy nLy none 0 host) (hi : Cond.instanceMethod y ∈ wsU) (hy1 : y.name = "<init>") (hR : fr + 1 ≤ R.frames ∧ 8 + (nLy + 11) + lo ≤ R.locals) (hG : gOv cR cI s) (hK : KK D cI cZ cB cR s) (hP : va_P D vwCl (X ++ [(b, c0)]) H) (hD : va_D A (X ++ [(b, c0)])) (hS : va_S A H0 H locs) (hA : ∀ q, H0.size ≤ q → A q)
    (hls : ls.size = nL) (hst : st0 = .ref b :: rest) (hw : (rest.map fun v => v.category).sum ≤ 8) (hdg : decode cc pc = .ok (.invokespecial index, 3)) (hcs : cells + mc ≤ R.cells ∧ slots + ms ≤ R.slots)
    (kk : ∀ (w : va_W) (H1 : Heap) (locs1 : List Loc), B w → va_P D vwCl (X ++ w) H1 → va_D A (X ++ w) → va_S A H0 H1 locs1 → W p l e R s m args below meth c H1 locs1 (cells + mc) (slots + ms) Q (F0 m (pc + 3) ls rest)) : W p l e R s m args below meth c H locs cells slots Q (F0 m pc ls st0) := by
  subst hsz
  have hb9 : ∀ q, va_A [(b, c0)] H.size q → A q := fun q h => by
    rcases h with ⟨k, e9, h⟩ | h
    · have hk0 : (b, c0) = (q, e9) := by
        cases k with
        | zero => simpa using h
        | succ k => simp at h
      cases hk0
      exact hD.2 X.length _ (by rw [List.getElem?_append_right (Nat.le_refl _), Nat.sub_self]; rfl)
    · exact hA q (Nat.le_trans hS.1 h)
  have hPc : va_P D vwCl [(b, c0)] H := va_P_mem.mpr (fun q hq => va_P_mem.mp hP q (List.mem_append_right _ hq))
  have hDc : va_D (fun _ => True) [(b, c0)] := ⟨fun i j p q hi hj _ => by have h1 := (List.getElem?_eq_some_iff.mp hi).1; have h2 := (List.getElem?_eq_some_iff.mp hj).1; simp at h1 h2; omega, fun _ _ _ => trivial⟩
  obtain ⟨-, -, -, -, hts⟩ := id hC
  obtain ⟨k1, k2, k3, k4, k5, k6⟩ := hl
  refine va_callv (va_runIN (As := []) (rest := rest) (b := b) hC hM ⟨⟨⟨rfl, rfl, hR.1, hR.2, z_mem hts k2, List.mem_cons_self⟩, hts _ k2, hts _ k3, ⟨k4, k5⟩, fun sig h => (by rw [h] at k6; exact (Option.some.inj k6).symm), hts _ k1⟩, hy1, hts _ hi⟩ ⟨fun a U g mk q => (by obtain ⟨q1, q2, q3, q4, q5, q6⟩ := q; exact ⟨q1, q2, q3, KK.moved (u := U) (U := U.calling g mk a) (Vm.Alike.refl U.vm) q4, q5, q6.moved (u := U) (U := U.calling g mk a) (Vm.Alike.refl U.vm)⟩), fun U hU hW => ⟨rfl, by rw [hU], by rw [hU]; exact hPc, KK.moved hW.alike hK, hDc, hG.moved hW.alike⟩⟩ rfl rfl hls hst (lv_room (pc := pc) (ls := ls) (rest := st0) hw) hdg hcs) hS (fun q _ h => hb9 q h) hb9 (fun w t H1 locs1 ht _ hBw hB hz1 hk1 hS1 => ?_)
  obtain ⟨hP1, hD1⟩ := hB
  rw [ht] at hP1
  obtain ⟨hP2, hD2⟩ := z_joinX hP hD hb9 hk1 hP1 hD1
  exact kk w H1 locs1 hBw hP2 hD2 hS1
theorem zAI {sz : Nat} (hsz : H.size = sz) (hC : CallFix p m c cc nL s args wsU own) (hM : mA l y cy nLy fr lo mc ms D cI cZ cB cR b sz c0 B) (hl : zLk own index y cy nLy none 0) (hi : Cond.instanceMethod y ∈ wsU) (hy1 : y.name = "<init>") (hR : fr + 1 ≤ R.frames ∧ 8 + (nLy + 11) + lo ≤ R.locals) (hG : gOv cR cI s) (hK : KK D cI cZ cB cR s) (hP : va_P D vwCl (X ++ [(b, c0)]) H) (hD : va_D A (X ++ [(b, c0)])) (hS : va_S A H0 H locs) (hA : ∀ q, H0.size ≤ q → A q)
    (hls : ls.size = nL) (hst : st0 = .ref b :: rest) (hw : (rest.map fun v => v.category).sum ≤ 8) (hdg : decode cc pc = .ok (.invokespecial index, 3)) (hcs : cells + mc ≤ R.cells ∧ slots + ms ≤ R.slots)
    (kk : ∀ (w : va_W) (H1 : Heap) (locs1 : List Loc), B w → va_P D vwCl (X ++ w) H1 → va_D A (X ++ w) → va_S A H0 H1 locs1 → W p l e R s m args below meth c H1 locs1 (cells + mc) (slots + ms) Q (F0 m (pc + 3) ls rest)) : W p l e R s m args below meth c H locs cells slots Q (F0 m pc ls st0) := by
  subst hsz
  have hb9 : ∀ q, va_A [(b, c0)] H.size q → A q := fun q h => by
    rcases h with ⟨k, e9, h⟩ | h
    · have hk0 : (b, c0) = (q, e9) := by
        cases k with
        | zero => simpa using h
        | succ k => simp at h
      cases hk0
      exact hD.2 X.length _ (by rw [List.getElem?_append_right (Nat.le_refl _), Nat.sub_self]; rfl)
    · exact hA q (Nat.le_trans hS.1 h)
  have hPc : va_P D vwCl [(b, c0)] H := va_P_mem.mpr (fun q hq => va_P_mem.mp hP q (List.mem_append_right _ hq))
  have hDc : va_D (fun _ => True) [(b, c0)] := ⟨fun i j p q hi hj _ => by have h1 := (List.getElem?_eq_some_iff.mp hi).1; have h2 := (List.getElem?_eq_some_iff.mp hj).1; simp at h1 h2; omega, fun _ _ _ => trivial⟩
  obtain ⟨-, -, -, -, hts⟩ := id hC
  obtain ⟨k1, k2, k3, k4, k5, k6⟩ := hl
  refine va_callv (va_runI (As := []) (rest := rest) (b := b) hC hM ⟨⟨rfl, rfl, hR.1, hR.2, z_mem hts k2, List.mem_cons_self, hts _ k2, hts _ k3, ⟨k4, k5⟩, fun sig h => (by rw [h] at k6; exact (Option.some.inj k6).symm), hts _ k1⟩, hy1, hts _ hi⟩ ⟨fun a U g mk q => (by obtain ⟨q1, q2, q3, q4, q5, q6⟩ := q; exact ⟨q1, q2, q3, KK.moved (u := U) (U := U.calling g mk a) (Vm.Alike.refl U.vm) q4, q5, q6.moved (u := U) (U := U.calling g mk a) (Vm.Alike.refl U.vm)⟩), fun U hU hW => ⟨rfl, by rw [hU], by rw [hU]; exact hPc, KK.moved hW.alike hK, hDc, hG.moved hW.alike⟩⟩ rfl rfl hls hst (lv_room (pc := pc) (ls := ls) (rest := st0) hw) hdg hcs) hS (fun q _ h => hb9 q h) hb9 (fun w t H1 locs1 ht _ hBw hB hz1 hk1 hS1 => ?_)
  obtain ⟨hP1, hD1⟩ := hB
  rw [ht] at hP1
  obtain ⟨hP2, hD2⟩ := z_joinX hP hD hb9 hk1 hP1 hD1
  exact kk w H1 locs1 hBw hP2 hD2 hS1
end ZALLOC
