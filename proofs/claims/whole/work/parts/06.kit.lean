/-! the walker's own kit: contracts of a fixed form, rows over numbers nI n and bits bI b -/
def bI (b : Bool) : Int32 := if b then 1 else 0
theorem bI_t : bI true = 1 := rfl
theorem bI_f : bI false = 0 := rfl
def KK (D : va_G) (cI cZ cB cR : ClassId) (U : State) : Prop := va_K D vwCl [(cI, .int), (cZ, .boolean), (cB, .byte), (cR, .array .int)] U
theorem KK.moved {D : va_G} {cI cZ cB cR : ClassId} {u U : State} (hvm : u.vm.Alike U.vm) (h : KK D cI cZ cB cR u) : KK D cI cZ cB cR U := va_K.moved hvm h
abbrev mth (y : MethodName) (cc : ByteArray) (nL : Nat) (ret : Option FieldType) : List Cond := Cond.code y cc nL ret :: wsU
def zA (ws : va_W) (q : Nat) : Prop := ∃ (k : Nat) (e : va_E), ws[k]? = some (q, e)
def qR (rv : Option Value) : Array Value → State → Outcome → State → Prop := fun _ st o t => o = .returned rv ∧ t.heap = st.heap
def qW (D : va_G) (ws ws' : va_W) (rv : Option Value) : Array Value → State → Outcome → State → Prop := fun _ st o t => o = .returned rv ∧ va_P D vwCl ws' t.heap ∧ va_F (zA ws) st t
/-- a method that reads alone -/
def mR (l : Launch) (y : MethodName) (cc : ByteArray) (nL : Nat) (ret : Option FieldType) (fr lo : Nat) (D : va_G) (cI cZ cB cR : ClassId) (ws : va_W) (av : List Value) (rv : Option Value) : Prop :=
  Met l y (mth y cc nL ret) { frames := fr, cells := 0, slots := 0, locals := lo } (va_Pc av (fun U => va_P D vwCl ws U.heap ∧ KK D cI cZ cB cR U)) (qR rv) 0 0 (fun _ => False)
/-- a method that writes in its world -/
def mW (l : Launch) (y : MethodName) (cc : ByteArray) (nL : Nat) (ret : Option FieldType) (fr lo : Nat) (D : va_G) (cI cZ cB cR : ClassId) (ws ws' : va_W) (av : List Value) (rv : Option Value) : Prop :=
  Met l y (mth y cc nL ret) { frames := fr, cells := 0, slots := 0, locals := lo } (va_Pc av (fun U => va_P D vwCl ws U.heap ∧ KK D cI cZ cB cR U ∧ va_D (fun _ => True) ws)) (qW D ws ws' rv) 0 0 (zA ws)
theorem mR_of {l : Launch} {y : MethodName} {cc : ByteArray} {nL : Nat} {ret : Option FieldType} {fr lo : Nat} {D : va_G} {cI cZ cB cR : ClassId} {ws : va_W} {av : List Value} {rv : Option Value} (hy : plainName y.cls = true) (hlen : (lg_sl av).length ≤ nL)
    (body : ∀ (p : Program) (e : Env) (s : State) (m : MethodId) (args : Array Value) (below : List Frame) (meth : Method) (c : Code), CallFix p m c cc nL s args wsU y.cls → meth.sig.returnType = ret → meth.locks = false → KK D cI cZ cB cR s → va_P D vwCl ws s.heap → ∀ ls : Array Slot, lv_has ls nL (lv_args 0 av) →
      W p l e { frames := fr, cells := 0, slots := 0, locals := lo } s m args below meth c s.heap [] 0 0 (MQ below (qR rv) args s 0 0 (fun _ => False)) (F0 m 0 ls [])) : mR l y cc nL ret fr lo D cI cZ cB cR ws av rv := by
  refine Met.ofW (cc := cc) (maxL := nL) (ret := ret) hy rfl ?_
  intro p e s m args below meth c s₁ B hml hv
  obtain ⟨rfl, hP, hK⟩ := hv
  have hts := atoms_spec (ws := mth y cc nL ret) B.pre
  have hown : s.vm.findClass y.cls = some m.cls := findClass_of_methodNamed B.named
  have hl := lv_entry av (n := nL) hlen
  rw [lg_entry_eq]
  exact body p e s m _ below meth c ⟨B.exec, B.bytes, hml, hown, fun w hw => hts w (List.mem_cons_of_mem _ hw)⟩ B.returns B.notSynchronized hK hP _ hl
theorem mW_of {l : Launch} {y : MethodName} {cc : ByteArray} {nL : Nat} {ret : Option FieldType} {fr lo : Nat} {D : va_G} {cI cZ cB cR : ClassId} {ws ws' : va_W} {av : List Value} {rv : Option Value} (hy : plainName y.cls = true) (hlen : (lg_sl av).length ≤ nL)
    (body : ∀ (p : Program) (e : Env) (s : State) (m : MethodId) (args : Array Value) (below : List Frame) (meth : Method) (c : Code), CallFix p m c cc nL s args wsU y.cls → meth.sig.returnType = ret → meth.locks = false → KK D cI cZ cB cR s → ∀ A : Nat → Prop, A = zA ws → va_D A ws → ∀ H0 : Heap, H0 = s.heap → va_P D vwCl ws H0 → va_S A H0 H0 [] → ∀ ls : Array Slot, lv_has ls nL (lv_args 0 av) →
      W p l e { frames := fr, cells := 0, slots := 0, locals := lo } s m args below meth c H0 [] 0 0 (MQ below (qW D ws ws' rv) args s 0 0 (zA ws)) (F0 m 0 ls [])) : mW l y cc nL ret fr lo D cI cZ cB cR ws ws' av rv := by
  refine Met.ofW (cc := cc) (maxL := nL) (ret := ret) hy rfl ?_
  intro p e s m args below meth c s₁ B hml hv
  obtain ⟨rfl, hP, hK, hD⟩ := hv
  have hts := atoms_spec (ws := mth y cc nL ret) B.pre
  have hown : s.vm.findClass y.cls = some m.cls := findClass_of_methodNamed B.named
  have hl := lv_entry av (n := nL) hlen
  rw [lg_entry_eq]
  exact body p e s m _ below meth c ⟨B.exec, B.bytes, hml, hown, fun w hw => hts w (List.mem_cons_of_mem _ hw)⟩ B.returns B.notSynchronized hK _ rfl ⟨hD.1, fun k q hk => ⟨k, q.2, hk⟩⟩ _ rfl hP va_S.rf _ hl
theorem za_addr {A : Nat → Prop} {ws ws1 : va_W} (hD : va_D A ws) (h : ws1.map Prod.fst = ws.map Prod.fst) : va_D A ws1 := by
  have key : ∀ (k : Nat) (q : Nat × va_E), ws1[k]? = some q → ∃ q', ws[k]? = some q' ∧ q'.1 = q.1 := by
    intro k q hk
    have h1 : (ws1.map Prod.fst)[k]? = some q.1 := by rw [List.getElem?_map, hk]; rfl
    rw [h, List.getElem?_map] at h1
    cases hw : ws[k]? with
    | none => rw [hw] at h1; cases h1
    | some q' => rw [hw] at h1; exact ⟨q', rfl, Option.some.inj h1⟩
  refine ⟨fun i j x y hi hj hxy => ?_, fun k q hk => ?_⟩
  · obtain ⟨x', h1, h2⟩ := key i x hi
    obtain ⟨y', h3, h4⟩ := key j y hj
    exact hD.1 i j x' y' h1 h3 (by rw [h2, h4, hxy])
  · obtain ⟨q', h1, h2⟩ := key k q hk
    rw [← h2]
    exact hD.2 k q' h1
/-- behind a call: the world in its old order, the callee's cells anew -/
theorem z_join {A : Nat → Prop} {D : va_G} {ws wc wc' ws1 : va_W} {H H1 : Heap} (hP : va_P D vwCl ws H) (hD : va_D A ws) (isC isR : List Nat) (hC : isC.map (fun i => ws[i]?) = wc.map some) (hC1 : isC.map (fun i => ws1[i]?) = wc'.map some) (hR : isR.map (fun i => ws1[i]?) = isR.map (fun i => ws[i]?))
    (hcov : (List.range ws1.length).all (fun k => isC.contains k || (isR.contains k && !(isC.contains k))) = true) (hk : ∀ q : Nat, q < H.size → ¬ zA wc q → H1[q]? = H[q]?) (hP1 : va_P D vwCl wc' H1) : va_P D vwCl ws1 H1 := by
  intro k q hq
  have hlt : k < ws1.length := (List.getElem?_eq_some_iff.mp hq).1
  have h1 := List.all_eq_true.mp hcov k (List.mem_range.mpr hlt)
  rw [Bool.or_eq_true] at h1
  by_cases hin : isC.contains k = true
  · have hm : k ∈ isC := by simpa using hin
    obtain ⟨j, hj⟩ := List.getElem?_of_mem hm
    have h2 : (isC.map (fun i => ws1[i]?))[j]? = some (some q) := by rw [List.getElem?_map, hj]; exact congrArg some hq
    rw [hC1, List.getElem?_map] at h2
    cases hw : wc'[j]? with
    | none => rw [hw] at h2; cases h2
    | some q' => rw [hw] at h2; exact (Option.some.inj (Option.some.inj h2)) ▸ hP1 j q' hw
  · rcases h1 with h1 | h1
    · exact absurd h1 hin
    rw [Bool.and_eq_true] at h1
    have hm : k ∈ isR := by simpa using h1.1
    obtain ⟨j, hj⟩ := List.getElem?_of_mem hm
    have h2 : (isR.map (fun i => ws1[i]?))[j]? = some (some q) := by rw [List.getElem?_map, hj]; exact congrArg some hq
    rw [hR, List.getElem?_map, hj] at h2
    have h3 : ws[k]? = some q := Option.some.inj h2
    have h4 := hP k q h3
    refine h4.kept (hk q.1 h4.lt fun hz => ?_)
    obtain ⟨k2, e2, hz⟩ := hz
    have h5 : (isC.map (fun i => ws[i]?))[k2]? = some (some (q.1, e2)) := by rw [hC, List.getElem?_map, hz]; rfl
    rw [List.getElem?_map] at h5
    cases hi : isC[k2]? with
    | none => rw [hi] at h5; cases h5
    | some i =>
      rw [hi] at h5
      have h6 : ws[i]? = some (q.1, e2) := Option.some.inj h5
      have h7 := hD.1 k i q (q.1, e2) h3 h6 rfl
      subst h7
      exact hin (by simpa using List.mem_of_getElem? hi)
/-- what a call of a method needs of the tables -/
def zLk (own : String) (index : Nat) (y : MethodName) (cc : ByteArray) (nL : Nat) (ret : Option FieldType) (n : Nat) : Prop :=
  Cond.methodLink own index y ∈ wsU ∧ Cond.code y cc nL ret ∈ wsU ∧ Cond.initialized y.cls ∈ wsU ∧ (y.cls ≠ "java/lang/invoke/MethodHandle" ∧ y.cls ≠ "java/lang/invoke/VarHandle" ∧ (parseMethodDescriptor y.desc).map (fun d => d.parameters.length) = some n)
def zLkN (own : String) (index : Nat) (y : MethodName) (cc : ByteArray) (nL : Nat) (ret : Option FieldType) (n : Nat) (host : String) : Prop :=
  Cond.methodLinkNest own index y host ∈ wsU ∧ Cond.code y cc nL ret ∈ wsU ∧ Cond.initialized y.cls ∈ wsU ∧ (y.cls ≠ "java/lang/invoke/MethodHandle" ∧ y.cls ≠ "java/lang/invoke/VarHandle" ∧ (parseMethodDescriptor y.desc).map (fun d => d.parameters.length) = some n)
def zVi (y : MethodName) : Prop := Cond.instanceMethod y ∈ wsU ∧ Cond.selects y.cls y y ∈ wsU
def zSt (y : MethodName) : Prop := Cond.static y ∈ wsU
section ZCALL
variable {p : Program} {l : Launch} {e : Env} {R : Room} {s : State} {m : MethodId} {args : Array Value} {below : List Frame} {meth : Method} {c : Code} {H : Heap} {locs : List Loc} {cells slots : Nat} {Q : State → Prop}
variable {cc : ByteArray} {pc nL : Nat} {ls : Array Slot} {rest st0 : List Value} {own : String} {D : va_G} {cI cZ cB cR : ClassId} {A : Nat → Prop} {ws : va_W} {H0 : Heap}
variable {y : MethodName} {cy : ByteArray} {nLy index n fr lo : Nat} {rty : Option FieldType} {wsC wsC' ws1 : va_W} {As : List Value} {b : Nat} {rv : Option Value}
theorem z_mem {y : MethodName} {cy : ByteArray} {nLy : Nat} {rty : Option FieldType} {args : Array Value} {s : State} (hts : ∀ w ∈ wsU, w.before args s = true) (hcode : Cond.code y cy nLy rty ∈ wsU) : ∀ w ∈ mth y cy nLy rty, ∀ (a' : Array Value) (U : State), s.WarmedH U.vm → w.before a' U = true := by
  intro w hw
  rcases List.mem_cons.mp hw with rfl | hw
  · exact payU hts _ hcode
  · exact payU hts w hw
theorem z_cb (hC : CallFix p m c cc nL s args wsU own) (hl : zLk own index y cy nLy rty n) (hR : fr + 1 ≤ R.frames ∧ 8 + (nLy + 11) + lo ≤ R.locals) : CallB R s args own index y cy nLy rty (mth y cy nLy rty) { frames := fr, cells := 0, slots := 0, locals := lo } 0 0 n := by
  obtain ⟨-, -, -, -, hts⟩ := hC
  obtain ⟨h1, h2, h3, h4, h5, h6⟩ := hl
  refine ⟨rfl, rfl, hR.1, hR.2, z_mem hts h2, List.mem_cons_self, hts _ h2, hts _ h3, ⟨h4, h5⟩, fun sig h => ?_, hts _ h1⟩
  rw [h] at h6
  exact (Option.some.inj h6).symm
theorem z_cn {host : String} (hC : CallFix p m c cc nL s args wsU own) (hl : zLkN own index y cy nLy rty n host) (hR : fr + 1 ≤ R.frames ∧ 8 + (nLy + 11) + lo ≤ R.locals) : va_CN R s args own index y host cy nLy rty (mth y cy nLy rty) { frames := fr, cells := 0, slots := 0, locals := lo } 0 0 n := by
  obtain ⟨-, -, -, -, hts⟩ := hC
  obtain ⟨h1, h2, h3, h4, h5, h6⟩ := hl
  refine ⟨⟨rfl, rfl, hR.1, hR.2, z_mem hts h2, List.mem_cons_self⟩, hts _ h2, hts _ h3, ⟨h4, h5⟩, fun sig h => ?_, hts _ h1⟩
  rw [h] at h6
  exact (Option.some.inj h6).symm
theorem z_blindR : FrameBlind (va_Pc As (fun U => va_P D vwCl ws U.heap ∧ KK D cI cZ cB cR U)) := fun a U g mk q => by
  obtain ⟨h1, h2, h3⟩ := q
  exact ⟨h1, h2, KK.moved (u := U) (U := U.calling g mk a) (Vm.Alike.refl U.vm) h3⟩
theorem z_blindW : FrameBlind (va_Pc As (fun U => va_P D vwCl ws U.heap ∧ KK D cI cZ cB cR U ∧ va_D (fun _ => True) ws)) := fun a U g mk q => by
  obtain ⟨h1, h2, h3, h4⟩ := q
  exact ⟨h1, h2, KK.moved (u := U) (U := U.calling g mk a) (Vm.Alike.refl U.vm) h3, h4⟩
/-- behind a call that only read -/
theorem z_backR (hr : va_Run p l e R s m args below meth c H locs cells slots 0 0 (F0 m pc ls st0) rest (qR rv #[]) (fun _ => False)) (kk : W p l e R s m args below meth c H locs cells slots Q (F0 m (pc + 3) ls (rv.toList ++ rest))) : W p l e R s m args below meth c H locs cells slots Q (F0 m pc ls st0) := by
  intro T hT X
  obtain ⟨v, st₀, t, T', L, h0, X', hL, e1, e2, ⟨hv, hh⟩, st⟩ := hr T hT X
  cases hv
  obtain ⟨t2, a1, b1⟩ := kk T' (by rw [e1, hh, h0]) (Stand.forget X' (fun q h => (hL q h).elim))
  exact ⟨t2, st t2 a1, b1⟩
theorem z_backW (hr : va_Run p l e R s m args below meth c H locs cells slots 0 0 (F0 m pc ls st0) rest (qW D wsC wsC' rv #[]) (zA wsC)) (hS : va_S A H0 H locs) (hf : ∀ q, zA wsC q → A q)
    (kk : ∀ (H1 : Heap) (locs1 : List Loc), va_P D vwCl wsC' H1 → (∀ q : Nat, q < H.size → ¬ zA wsC q → H1[q]? = H[q]?) → va_S A H0 H1 locs1 → W p l e R s m args below meth c H1 locs1 cells slots Q (F0 m (pc + 3) ls (rv.toList ++ rest))) : W p l e R s m args below meth c H locs cells slots Q (F0 m pc ls st0) := by
  intro T hT X
  obtain ⟨v, st₀, t, T', L, h0, X', hL, e1, e2, ⟨hv, hp, hz, hk⟩, st⟩ := hr T hT X
  cases hv
  rw [h0] at hz hk
  obtain ⟨t2, a1, b1⟩ := kk T'.heap (locs ++ L) (by rw [e1]; exact hp) (fun q h1 h2 => by rw [e1]; exact hk q h1 h2)
    ⟨Nat.le_trans hS.1 (by rw [e1]; exact hz), fun q h1 h2 => by rw [e1, hk q (Nat.lt_of_lt_of_le h1 hS.1) (fun z => h2 (hf q z))]; exact hS.2.1 q h1 h2, fun q hq => by
      rcases List.mem_append.mp hq with h | h
      · exact hS.2.2 q h
      · exact hf _ (hL q h)⟩ T' rfl X'
  exact ⟨t2, st t2 a1, b1⟩
theorem z_recv {ci : Nat} {fs : List Value} {q : vw_C} (hK : KK D cI cZ cB cR s) (hP : va_P D vwCl wsC H) (hr : wsC[0]? = some (b, .inr (ci, fs)) ∧ vwCl[ci]? = some q ∧ q.1 = y.cls) : ∃ cell : Cell, H[b]? = some cell ∧ cell.vm.isStatics = false ∧ s.vm.findClass y.cls = some cell.cls := by
  obtain ⟨h1, h2, h3⟩ := hr
  rw [← h3]
  exact va_recv hK hP h2 h1
theorem zRV {ci : Nat} {fs : List Value} {q : vw_C} (hC : CallFix p m c cc nL s args wsU own) (hM : mR l y cy nLy rty fr lo D cI cZ cB cR wsC (.ref b :: As) rv) (hl : zLk own index y cy nLy rty n) (hv : zVi y) (hR : fr + 1 ≤ R.frames ∧ 8 + (nLy + 11) + lo ≤ R.locals) (hK : KK D cI cZ cB cR s) (hP : va_P D vwCl ws H) (is : List Nat) (hs : is.filterMap (fun i => ws[i]?) = wsC)
    (hr : wsC[0]? = some (b, .inr (ci, fs)) ∧ vwCl[ci]? = some q ∧ q.1 = y.cls) (hn : As.length = n) (hsz : ls.size = nL) (hst : st0 = As.reverse ++ .ref b :: rest) (hw : (rest.map fun v => v.category).sum ≤ 8) (hdg : decode cc pc = .ok (.invokevirtual index, 3)) (hcs : cells ≤ R.cells ∧ slots ≤ R.slots)
    (kk : W p l e R s m args below meth c H locs cells slots Q (F0 m (pc + 3) ls (rv.toList ++ rest))) : W p l e R s m args below meth c H locs cells slots Q (F0 m pc ls st0) := by
  have hPc := hP.sub is hs
  exact z_backR (va_runV (As := As) (rest := rest) (b := b) hC hM ⟨z_cb hC hl hR, hC.2.2.2.2 _ hv.1, hC.2.2.2.2 _ hv.2⟩ ⟨z_blindR, z_recv hK hPc hr, fun U hU hW => ⟨rfl, by rw [hU]; exact hPc, KK.moved hW.alike hK⟩⟩ rfl hn hsz hst (lv_room (pc := pc) (ls := ls) (rest := st0) hw) hdg hcs) kk
theorem zRVN {host : String} {ci : Nat} {fs : List Value} {q : vw_C} (hC : CallFix p m c cc nL s args wsU own) (hM : mR l y cy nLy rty fr lo D cI cZ cB cR wsC (.ref b :: As) rv) (hl : zLkN own index y cy nLy rty n host) (hv : zVi y) (hR : fr + 1 ≤ R.frames ∧ 8 + (nLy + 11) + lo ≤ R.locals) (hK : KK D cI cZ cB cR s) (hP : va_P D vwCl ws H) (is : List Nat) (hs : is.filterMap (fun i => ws[i]?) = wsC)
    (hr : wsC[0]? = some (b, .inr (ci, fs)) ∧ vwCl[ci]? = some q ∧ q.1 = y.cls) (hn : As.length = n) (hsz : ls.size = nL) (hst : st0 = As.reverse ++ .ref b :: rest) (hw : (rest.map fun v => v.category).sum ≤ 8) (hdg : decode cc pc = .ok (.invokevirtual index, 3)) (hcs : cells ≤ R.cells ∧ slots ≤ R.slots)
    (kk : W p l e R s m args below meth c H locs cells slots Q (F0 m (pc + 3) ls (rv.toList ++ rest))) : W p l e R s m args below meth c H locs cells slots Q (F0 m pc ls st0) := by
  have hPc := hP.sub is hs
  exact z_backR (va_runVN (As := As) (rest := rest) (b := b) hC hM ⟨z_cn hC hl hR, hC.2.2.2.2 _ hv.1, hC.2.2.2.2 _ hv.2⟩ ⟨z_blindR, z_recv hK hPc hr, fun U hU hW => ⟨rfl, by rw [hU]; exact hPc, KK.moved hW.alike hK⟩⟩ rfl hn hsz hst (lv_room (pc := pc) (ls := ls) (rest := st0) hw) hdg hcs) kk
theorem zRS (hC : CallFix p m c cc nL s args wsU own) (hM : mR l y cy nLy rty fr lo D cI cZ cB cR [] As rv) (hl : zLk own index y cy nLy rty n) (hv : zSt y) (hR : fr + 1 ≤ R.frames ∧ 8 + (nLy + 11) + lo ≤ R.locals) (hK : KK D cI cZ cB cR s)
    (hn : As.length = n) (hsz : ls.size = nL) (hst : st0 = As.reverse ++ rest) (hw : (rest.map fun v => v.category).sum ≤ 8) (hdg : decode cc pc = .ok (.invokestatic index, 3)) (hcs : cells ≤ R.cells ∧ slots ≤ R.slots)
    (kk : W p l e R s m args below meth c H locs cells slots Q (F0 m (pc + 3) ls (rv.toList ++ rest))) : W p l e R s m args below meth c H locs cells slots Q (F0 m pc ls st0) := by
  have hPc : va_P D vwCl [] H := fun k q h => by simp at h
  exact z_backR (va_runS (As := As) (rest := rest) hC hM ⟨z_cb hC hl hR, hC.2.2.2.2 _ hv⟩ ⟨z_blindR, fun U hU hW => ⟨rfl, by rw [hU]; exact hPc, KK.moved hW.alike hK⟩⟩ rfl hn hsz hst (lv_room (pc := pc) (ls := ls) (rest := st0) hw) hdg hcs) kk
theorem zRSN {host : String} (hC : CallFix p m c cc nL s args wsU own) (hM : mR l y cy nLy rty fr lo D cI cZ cB cR [] As rv) (hl : zLkN own index y cy nLy rty n host) (hv : zSt y) (hR : fr + 1 ≤ R.frames ∧ 8 + (nLy + 11) + lo ≤ R.locals) (hK : KK D cI cZ cB cR s)
    (hn : As.length = n) (hsz : ls.size = nL) (hst : st0 = As.reverse ++ rest) (hw : (rest.map fun v => v.category).sum ≤ 8) (hdg : decode cc pc = .ok (.invokestatic index, 3)) (hcs : cells ≤ R.cells ∧ slots ≤ R.slots)
    (kk : W p l e R s m args below meth c H locs cells slots Q (F0 m (pc + 3) ls (rv.toList ++ rest))) : W p l e R s m args below meth c H locs cells slots Q (F0 m pc ls st0) := by
  have hPc : va_P D vwCl [] H := fun k q h => by simp at h
  exact z_backR (va_runSN (As := As) (rest := rest) hC hM ⟨z_cn hC hl hR, hC.2.2.2.2 _ hv, trivial⟩ ⟨z_blindR, fun U hU hW => ⟨rfl, by rw [hU]; exact hPc, KK.moved hW.alike hK⟩⟩ rfl hn hsz hst (lv_room (pc := pc) (ls := ls) (rest := st0) hw) hdg hcs) kk
theorem z_subA {is : List Nat} (hD : va_D A ws) (hs : is.map (fun i => ws[i]?) = wsC.map some) (hn : va_nd is = true) : va_D A wsC := hD.sub is hn hs
theorem z_fm {is : List Nat} (hs : is.map (fun i => ws[i]?) = wsC.map some) : is.filterMap (fun i => ws[i]?) = wsC := by
  have h : (is.map (fun i => ws[i]?)).filterMap id = (wsC.map some).filterMap id := by rw [hs]
  rw [List.filterMap_map, List.filterMap_map] at h
  have e1 : is.filterMap (id ∘ fun i => ws[i]?) = is.filterMap (fun i => ws[i]?) := rfl
  have e2 : wsC.filterMap (id ∘ some) = wsC := by
    have : (id ∘ some : Nat × va_E → Option (Nat × va_E)) = some := rfl
    rw [this, List.filterMap_some]
  rw [e1, e2] at h
  exact h
theorem zWV {ci : Nat} {fs : List Value} {q : vw_C} (hC : CallFix p m c cc nL s args wsU own) (hM : mW l y cy nLy rty fr lo D cI cZ cB cR wsC wsC' (.ref b :: As) rv) (hl : zLk own index y cy nLy rty n) (hv : zVi y) (hR : fr + 1 ≤ R.frames ∧ 8 + (nLy + 11) + lo ≤ R.locals) (hK : KK D cI cZ cB cR s) (hP : va_P D vwCl ws H) (hD : va_D A ws) (hS : va_S A H0 H locs)
    (isC isR : List Nat) (hs : isC.map (fun i => ws[i]?) = wsC.map some) (hnd : va_nd isC = true) (hs1 : isC.map (fun i => ws1[i]?) = wsC'.map some) (hR1 : isR.map (fun i => ws1[i]?) = isR.map (fun i => ws[i]?)) (hcov : (List.range ws1.length).all (fun k => isC.contains k || (isR.contains k && !(isC.contains k))) = true) (had : ws1.map Prod.fst = ws.map Prod.fst)
    (hr : wsC[0]? = some (b, .inr (ci, fs)) ∧ vwCl[ci]? = some q ∧ q.1 = y.cls) (hn : As.length = n) (hsz : ls.size = nL) (hst : st0 = As.reverse ++ .ref b :: rest) (hw : (rest.map fun v => v.category).sum ≤ 8) (hdg : decode cc pc = .ok (.invokevirtual index, 3)) (hcs : cells ≤ R.cells ∧ slots ≤ R.slots)
    (kk : ∀ (H1 : Heap) (locs1 : List Loc), va_P D vwCl ws1 H1 → va_D A ws1 → va_S A H0 H1 locs1 → W p l e R s m args below meth c H1 locs1 cells slots Q (F0 m (pc + 3) ls (rv.toList ++ rest))) : W p l e R s m args below meth c H locs cells slots Q (F0 m pc ls st0) := by
  have hPc := hP.sub isC (z_fm hs)
  have hDc := z_subA hD hs hnd
  have hf : ∀ q, zA wsC q → A q := fun q h => by
    obtain ⟨k, e9, h⟩ := h
    exact hDc.2 k (q, e9) h
  refine z_backW (va_runV (As := As) (rest := rest) (b := b) hC hM ⟨z_cb hC hl hR, hC.2.2.2.2 _ hv.1, hC.2.2.2.2 _ hv.2⟩ ⟨z_blindW, z_recv hK hPc hr, fun U hU hW => ⟨rfl, by rw [hU]; exact hPc, KK.moved hW.alike hK, hDc.weaken (fun _ _ _ _ => trivial)⟩⟩ rfl hn hsz hst (lv_room (pc := pc) (ls := ls) (rest := st0) hw) hdg hcs) hS hf ?_
  intro H1 locs1 h1 h2 h3
  exact kk H1 locs1 (z_join hP hD isC isR hs hs1 hR1 hcov h2 h1) (za_addr hD had) h3
theorem zWVN {host : String} {ci : Nat} {fs : List Value} {q : vw_C} (hC : CallFix p m c cc nL s args wsU own) (hM : mW l y cy nLy rty fr lo D cI cZ cB cR wsC wsC' (.ref b :: As) rv) (hl : zLkN own index y cy nLy rty n host) (hv : zVi y) (hR : fr + 1 ≤ R.frames ∧ 8 + (nLy + 11) + lo ≤ R.locals) (hK : KK D cI cZ cB cR s) (hP : va_P D vwCl ws H) (hD : va_D A ws) (hS : va_S A H0 H locs)
    (isC isR : List Nat) (hs : isC.map (fun i => ws[i]?) = wsC.map some) (hnd : va_nd isC = true) (hs1 : isC.map (fun i => ws1[i]?) = wsC'.map some) (hR1 : isR.map (fun i => ws1[i]?) = isR.map (fun i => ws[i]?)) (hcov : (List.range ws1.length).all (fun k => isC.contains k || (isR.contains k && !(isC.contains k))) = true) (had : ws1.map Prod.fst = ws.map Prod.fst)
    (hr : wsC[0]? = some (b, .inr (ci, fs)) ∧ vwCl[ci]? = some q ∧ q.1 = y.cls) (hn : As.length = n) (hsz : ls.size = nL) (hst : st0 = As.reverse ++ .ref b :: rest) (hw : (rest.map fun v => v.category).sum ≤ 8) (hdg : decode cc pc = .ok (.invokevirtual index, 3)) (hcs : cells ≤ R.cells ∧ slots ≤ R.slots)
    (kk : ∀ (H1 : Heap) (locs1 : List Loc), va_P D vwCl ws1 H1 → va_D A ws1 → va_S A H0 H1 locs1 → W p l e R s m args below meth c H1 locs1 cells slots Q (F0 m (pc + 3) ls (rv.toList ++ rest))) : W p l e R s m args below meth c H locs cells slots Q (F0 m pc ls st0) := by
  have hPc := hP.sub isC (z_fm hs)
  have hDc := z_subA hD hs hnd
  have hf : ∀ q, zA wsC q → A q := fun q h => by
    obtain ⟨k, e9, h⟩ := h
    exact hDc.2 k (q, e9) h
  refine z_backW (va_runVN (As := As) (rest := rest) (b := b) hC hM ⟨z_cn hC hl hR, hC.2.2.2.2 _ hv.1, hC.2.2.2.2 _ hv.2⟩ ⟨z_blindW, z_recv hK hPc hr, fun U hU hW => ⟨rfl, by rw [hU]; exact hPc, KK.moved hW.alike hK, hDc.weaken (fun _ _ _ _ => trivial)⟩⟩ rfl hn hsz hst (lv_room (pc := pc) (ls := ls) (rest := st0) hw) hdg hcs) hS hf ?_
  intro H1 locs1 h1 h2 h3
  exact kk H1 locs1 (z_join hP hD isC isR hs hs1 hR1 hcov h2 h1) (za_addr hD had) h3
end ZCALL
