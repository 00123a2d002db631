/-! new int[5][6]: the row of rows, then the rows, one by one -/
section GRID
def gI (cI : ClassId) : Cell := { cls := cI, slots := Array.replicate 6 (.int 0) }
def gO (cA : ClassId) (h : Nat) : Nat → Cell
  | 0 => { cls := cA, slots := Array.replicate 5 .null }
  | i + 1 => (gO cA h i).setSlot i (.ref (h + 1 + i))
def gF (s : State) (cA cI : ClassId) : Nat → State
  | 0 => s.pushCell (gO cA s.heap.size 0)
  | i + 1 => ((gF s cA cI i).pushCell (gI cI)).setCell s.heap.size (gO cA s.heap.size (i + 1))
theorem gO_f (cA : ClassId) (h : Nat) : ∀ i, (gO cA h i).cls = cA ∧ (gO cA h i).vm = .none ∧ (gO cA h i).slots.size = 5
  | 0 => ⟨rfl, rfl, by simp [gO]⟩
  | i + 1 => by
    obtain ⟨a, b, d⟩ := gO_f cA h i
    exact ⟨by simp [gO, Cell.setSlot, a], by simp [gO, Cell.setSlot, b], by simp [gO, Cell.setSlot, d]⟩
theorem gF_f (s : State) (cA cI : ClassId) : ∀ i, (gF s cA cI i).heap.size = s.heap.size + 1 + i ∧ (gF s cA cI i).heap[s.heap.size]? = some (gO cA s.heap.size i) ∧ (gF s cA cI i).vm = s.vm ∧ (gF s cA cI i).slotsUsed = s.slotsUsed + 5 + i * 6 ∧
    (∀ a, a < s.heap.size → (gF s cA cI i).heap[a]? = s.heap[a]?) ∧ ∀ j, j < i → (gF s cA cI i).heap[s.heap.size + 1 + j]? = some (gI cI)
  | 0 => ⟨by simp [gF], by simp [gF], rfl, by simp [gF, gO], fun a ha => State.heap_pushCell_of_lt _ _ ha, fun j hj => absurd hj (Nat.not_lt_zero j)⟩
  | i + 1 => by
    obtain ⟨a, b, d, u, o, w⟩ := gF_f s cA cI i
    have hlt : s.heap.size < (gF s cA cI i).heap.size := by omega
    have hb' : ((gF s cA cI i).pushCell (gI cI)).heap[s.heap.size]? = some (gO cA s.heap.size i) := by rw [State.heap_pushCell_of_lt (h := hlt)]; exact b
    refine ⟨?_, State.heap_setCell_self hb', by simp [gF, d], ?_, fun x hx => ?_, fun j hj => ?_⟩
    · simp [gF, State.setCell, a]; omega
    · simp [gF, u, gI, Nat.succ_mul]; omega
    · show (((gF s cA cI i).pushCell (gI cI)).setCell s.heap.size _).heap[x]? = _
      rw [State.heap_setCell_other (Nat.ne_of_gt hx), State.heap_pushCell_of_lt (h := show x < (gF s cA cI i).heap.size by rw [a]; omega)]
      exact o x hx
    · show (((gF s cA cI i).pushCell (gI cI)).setCell s.heap.size _).heap[s.heap.size + 1 + j]? = _
      rw [State.heap_setCell_other (show s.heap.size ≠ s.heap.size + 1 + j by omega)]
      by_cases e : j = i
      · subst e
        rw [← a]
        exact State.heap_pushCell_size _ _
      · rw [State.heap_pushCell_of_lt (h := show s.heap.size + 1 + j < (gF s cA cI i).heap.size by rw [a]; omega)]
        exact w j (by omega)
theorem gF_top (s : State) (f : JFrame) (cA cI : ClassId) : ∀ i, gF (s.setTop f) cA cI i = (gF s cA cI i).setTop f
  | 0 => rfl
  | i + 1 => by simp only [gF, gF_top s f cA cI i, State.heap_setTop, State.pushCell_setTop, State.setCell_setTop]
theorem gO_arr (cA : ClassId) (h : Nat) : ∀ i, gO cA h i = arrV cA 5 (fun j => va_rf (if j < i then some (h + 1 + j) else none))
  | 0 => by
    show ({ cls := cA, slots := Array.replicate 5 .null } : Cell) = _
    rw [show ({ cls := cA, slots := Array.replicate 5 .null } : Cell) = { cls := cA, slots := Array.replicate 5 .null, vm := .none } from rfl, arrV_new]
    refine congrArg (arrV cA 5) (funext fun j => ?_)
    simp [va_rf]
  | i + 1 => by
    show (gO cA h i).setSlot i (.ref (h + 1 + i)) = _
    rw [gO_arr cA h i, arrV_store]
    refine congrArg (arrV cA 5) (funext fun j => ?_)
    unfold updV
    by_cases e : j = i
    · subst e; simp [va_rf]
    · rw [if_neg e]
      dsimp only
      by_cases e2 : j < i
      · rw [if_pos e2, if_pos (by omega)]
      · rw [if_neg e2, if_neg (by omega)]
theorem gAO {args : Array Value} {s : State} {t : FieldType} (h : (Cond.arrayOver (.array t)).before args s = true) :
    ∃ comp c k, s.vm.findClass (FieldType.array t).toString = some comp ∧ s.vm.classes[c]? = some k ∧ k.kind = .array comp (.array t) ∧ s.vm.findClass ("[" ++ (FieldType.array t).toString) = some c := by
  simp only [Cond.before, Cond.holds, Cond.value, beq_iff_eq] at h
  cases hc : s.vm.findClass (FieldType.array t).toString with
  | none => simp [hc] at h
  | some comp =>
    simp only [hc, Option.bind_some, Option.bind_eq_some_iff, Option.map_eq_some_iff] at h
    obtain ⟨c, hi, k, hk, hb⟩ := h
    obtain ⟨hlt, hp, -⟩ := Array.findIdx?_eq_some_iff_getElem.mp hi
    have hkk : s.vm.classes[c] = k := (Array.getElem?_eq_some_iff.mp hk).2
    rw [hkk] at hp
    cases hkind : k.kind with
    | array component ty =>
      rw [hkind] at hb hp
      simp at hb hp
      exact ⟨comp, c, k, rfl, hk, by rw [hkind, hp, hb.1], hb.2⟩
    | _ => rw [hkind] at hb; simp at hb
/-- the class of rows of rows -/
def gOv (cA cI : ClassId) (s : State) : Prop := ∃ k : Class, s.vm.classes[cA]? = some k ∧ k.kind = .array cI (.array .int)
theorem gOv.moved {cA cI : ClassId} {u U : State} (hvm : u.vm.Alike U.vm) (h : gOv cA cI u) : gOv cA cI U := by
  obtain ⟨k, h1, h2⟩ := h
  obtain ⟨k', h3, h4⟩ := hvm.2.2 _ _ h1
  exact ⟨k', h3, by rw [h4]; exact h2⟩
section GWP
variable {E : CtlPost} {e : Env} {d : Bool} {acts : List Action} {s : State}
theorem g_neg : ¬ (6 : Int32) < 0 ∧ ¬ (5 : Int32) < 0 ∧ (6 : Int32).toNatClampNeg = 6 ∧ (5 : Int32).toNatClampNeg = 5 := by decide
theorem gMake1 {cI cc : ClassId} {kI : Class} (hkI : s.vm.classes[cI]? = some kI) (hkindI : kI.kind = .array cc .int) (hl : ¬ 6 > e.platform.arrayLengthLimit) (hh : ¬ 6 * componentBytes .int > e.platform.maxHeapBytes) (h1 : s.heap.size < e.platform.maxCells) (h2 : s.slotsUsed + 6 ≤ e.platform.maxSlots)
    {Q : Addr → Pre} (hq : ∀ acts', Q s.heap.size d acts' (s.pushCell (gI cI))) : wp (multianewarray.make cI [6]) Q E e d acts s := by
  rw [multianewarray.make]
  simp only [wp_bind', W.ite, g_neg.1, if_false, wp_pure', W.theClass, hkI, hkindI, Option.some.injEq, exists_eq_left', g_neg.2.2.1]
  exact W.newArray_of hkI hkindI hl hh h1 h2 rfl hq
theorem gMake {cA cI cc : ClassId} {kA kI : Class} (hkA : s.vm.classes[cA]? = some kA) (hkindA : kA.kind = .array cI (.array .int)) (hkI : s.vm.classes[cI]? = some kI) (hkindI : kI.kind = .array cc .int)
    (hl1 : ¬ 5 > e.platform.arrayLengthLimit) (hh1 : ¬ 5 * componentBytes (.array .int) > e.platform.maxHeapBytes) (hl2 : ¬ 6 > e.platform.arrayLengthLimit) (hh2 : ¬ 6 * componentBytes .int > e.platform.maxHeapBytes)
    (hc : s.heap.size + 6 ≤ e.platform.maxCells) (hs : s.slotsUsed + 35 ≤ e.platform.maxSlots) {Q : Addr → Pre} (hq : ∀ d' acts', Q s.heap.size d' acts' (gF s cA cI 5)) :
    wp (multianewarray.make cA [5, 6]) Q E e d acts s := by
  have hfind : ([6].find? (fun x : Int32 => decide (x < 0))) = none := by decide
  rw [multianewarray.make]
  simp only [wp_bind', W.ite, g_neg.2.1, if_false, wp_pure', W.theClass, hkA, hkindA, Option.some.injEq, exists_eq_left', g_neg.2.2.2]
  refine W.newArray_of hkA hkindA hl1 hh1 (by omega) (by omega) rfl (fun acts1 => ?_)
  simp only [hfind]
  rw [ite_self, wp_bind', Std.Legacy.Range.forIn_eq_forIn_range']
  have hsz : ([:5] : Std.Legacy.Range).size = 5 := by simp [Std.Legacy.Range.size]
  rw [hsz]
  show wp (forIn (List.range' 0 5 1) PUnit.unit _) _ E e d acts1 _
  refine wp_forIn_inv (fun rest s' => ∃ i, i ≤ 5 ∧ rest = List.range' i (5 - i) ∧ s' = gF s cA cI i) _ _ ⟨0, by decide, rfl, rfl⟩ ?_ ?_
  · rintro x rest s' d' acts' Q' ⟨i, hi, hl, rfl⟩ hnext
    have hlt : i < 5 := by
      rcases Nat.lt_or_ge i 5 with h | h
      · exact h
      · rw [show 5 - i = 0 by omega] at hl; simp at hl
    obtain ⟨rfl, hrest⟩ : x = i ∧ rest = List.range' (i + 1) (5 - (i + 1)) := by
      rw [show 5 - i = (5 - (i + 1)) + 1 by omega, List.range'_succ] at hl
      exact ⟨(List.cons.inj hl).1, (List.cons.inj hl).2⟩
    obtain ⟨f1, f2, f3, f4, -, -⟩ := gF_f s cA cI x
    obtain ⟨o1, o2, o3⟩ := gO_f cA s.heap.size x
    simp only [wp_bind']
    refine gMake1 (by rw [f3]; exact hkI) hkindI hl2 hh2 (by rw [f1]; omega) (by rw [f4]; omega) (fun acts2 => ?_)
    have hlt0 : s.heap.size < (gF s cA cI x).heap.size := by rw [f1]; omega
    simp only [wp_bind', W.writeLoc, wp_pure']
    refine ⟨gO cA s.heap.size x, by rw [State.heap_pushCell_of_lt (h := hlt0)]; exact f2, by rw [o2]; simp, by rw [o3]; exact hlt, ?_, hnext _ _ _ ⟨x + 1, hlt, hrest, ?_⟩⟩
    · rw [o1, o2]
      simp [State.fitsSlot, State.slotType?, f3, hkA, hkindA, fits]
    · rw [f1]; rfl
  · rintro s' d' acts' ⟨i, hi, hl, rfl⟩
    have hiN : i = 5 := by
      rcases Nat.lt_or_ge i 5 with h | h
      · rw [show 5 - i = (5 - (i + 1)) + 1 by omega, List.range'_succ] at hl; cases hl
      · omega
    subst hiN
    simp only [wp_pure']
    exact hq _ _
end GWP
section GST
variable {p : Program} {l : Launch} {e : Env} {R : Room} {s : State} {m : MethodId} {args : Array Value} {below : List Frame} {meth : Method} {c : Code} {T : State} {locs : List Loc} {cells slots : Nat}
theorem gStand (X : Stand p l e R s m args below meth c T locs cells slots) (cA cI : ClassId) : ∀ i, Stand p l e R s m args below meth c (gF T cA cI i) (locs ++ (List.range i).map fun j => ⟨T.heap.size, j⟩) (cells + 1 + i) (slots + 5 + i * 6)
  | 0 => by
    have h := X.pushed (gO cA T.heap.size 0)
    rw [(gO_f cA T.heap.size 0).2.2] at h
    simpa [gF] using h
  | i + 1 => by
    have Xi := gStand X cA cI i
    obtain ⟨f1, f2, f3, f4, -, -⟩ := gF_f T cA cI i
    have hlt0 : T.heap.size < (gF T cA cI i).heap.size := by rw [f1]; omega
    have hcell : ((gF T cA cI i).pushCell (gI cI)).heap[T.heap.size]? = some (gO cA T.heap.size i) := by rw [State.heap_pushCell_of_lt (h := hlt0)]; exact f2
    have h := (Xi.pushed (gI cI)).stored hcell i (.ref (T.heap.size + 1 + i))
    have e1 : (gI cI).slots.size = 6 := by simp [gI]
    rw [e1] at h
    have e2 : (locs ++ (List.range (i + 1)).map fun j => (⟨T.heap.size, j⟩ : Loc)) = (locs ++ (List.range i).map fun j => (⟨T.heap.size, j⟩ : Loc)) ++ [⟨T.heap.size, i⟩] := by simp [List.range_succ, List.append_assoc]
    have e3 : slots + 5 + (i + 1) * 6 = slots + 5 + i * 6 + 6 := by omega
    rw [e2, e3]
    exact h
theorem W.grid {H : Heap} {Q : State → Prop} {cc : ByteArray} {pc : Nat} {ls : Array Slot} {rest : List Value} (hexec : p.tables.exec = Jvm.exec) (hb : c.code = cc) {own : String} {index : Nat} {cA cI : ClassId} (hown : s.vm.findClass own = some m.cls) (hclink : (Cond.classLink own index ("[" ++ (FieldType.array .int).toString)).before args s = true)
    (hover : gOv cA cI s) (harr : (Cond.arrayClass .int).before args s = true) (hfA : s.vm.findClass ("[" ++ (FieldType.array .int).toString) = some cA) (hfI : s.vm.findClass (FieldType.array .int).toString = some cI)
    (hdg : decode cc pc = .ok (.multianewarray index 2, 4)) (hsz : s.heap.size ≤ H.size) (hcells : cells + 6 ≤ R.cells) (hslots : slots + 35 ≤ R.slots)
    (kk : ∀ H1 : Heap, H1.size = H.size + 6 → H1[H.size]? = some (gO cA H.size 5) → (∀ j, j < 5 → H1[H.size + 1 + j]? = some (gI cI)) → (∀ a, a < H.size → H1[a]? = H[a]?) → W p l e R s m args below meth c H1 locs (cells + 6) (slots + 35) Q (F0 m (pc + 4) ls (.ref H.size :: rest))) :
    W p l e R s m args below meth c H locs cells slots Q (F0 m pc ls (.int 6 :: .int 5 :: rest)) := by
  intro T hT X
  subst hT
  have hpl : e.platform.magicAccessors = ({} : Platform).magicAccessors := by rw [X.admits.platform]
  obtain ⟨kA, hkA, hkindA⟩ := hover
  obtain ⟨comp2, kC, cc2, hcomp2, hkC, hkindC⟩ := Cond.arrayClass_spec harr
  cases Option.some.inj (hcomp2.symm.trans hfI)
  obtain ⟨c0, hfc0, hcl⟩ := Cond.classLink_spec hown hclink e.platform hpl
  cases hfA.symm.trans hfc0
  obtain ⟨hg₁, hwarm₁, hready₁⟩ := State.classEntry (e := e) X.warmed hcl
  generalize T.vm.noted m.cls index (.cls cA) = vm₁ at hg₁ hwarm₁ hready₁
  have hal : s.vm.Alike vm₁ := hwarm₁.alike
  obtain ⟨kA₁, hkA₁, heA⟩ := hal.2.2 _ _ hkA
  obtain ⟨kC₁, hkC₁, heC⟩ := hal.2.2 _ _ hkC
  have hkindA₁ : kA₁.kind = .array cI (.array .int) := by rw [heA]; exact hkindA
  have hkindC₁ : kC₁.kind = .array cc2 .int := by rw [heC]; exact hkindC
  have X₁ := X.noted hwarm₁
  obtain ⟨hr1, hr2⟩ := X.roomAbove hcells hslots
  have hlim : ∀ n, n < 1000 → ¬ n > e.platform.arrayLengthLimit := fun n hn => by rw [Launch.admits_arrayLengthLimit X.admits]; omega
  have hheap : ∀ n, n < 1000 → ¬ n > e.platform.maxHeapBytes := fun n hn => by rw [Launch.admits_maxHeapBytes X.admits]; omega
  have XF := (gStand X₁ cA cI 5).forget (fun y hy => by
    obtain ⟨j, -, rfl⟩ := List.mem_map.mp hy
    exact hsz)
  obtain ⟨f1, f2, f3, f4, f5, f6⟩ := gF_f (T.setVm vm₁) cA cI 5
  obtain ⟨t2, a1, b1⟩ := kk (gF (T.setVm vm₁) cA cI 5).heap f1 f2 f6 f5 (gF (T.setVm vm₁) cA cI 5) rfl XF
  refine ⟨t2, ?_, b1⟩
  refine (?_ : ∀ target, Steps p.tables e below ((gF (T.setVm vm₁) cA cI 5).setTop (F0 m (pc + 4) ls (.ref T.heap.size :: rest))) target → Steps p.tables e below (T.setTop (F0 m pc ls (.int 6 :: .int 5 :: rest))) target) t2 a1
  intro target hrest
  jvm_step X.here [hexec, hb, hdg]
  simp only [multianewarray.sem, wp_bind', W.resolveClassAt_links (State.method?_setTop (F0 m pc ls (.int 6 :: .int 5 :: rest)) X.here.top) hg₁]
  rw [W.popN, if_neg (by decide)]
  refine ⟨F0 m pc ls (.int 6 :: .int 5 :: rest), State.topJava?_setTop' (s := T.setVm vm₁) _ X.here.top, [.int 5, .int 6], rest, rfl, rfl, ?_⟩
  simp only [List.mapM_cons, List.mapM_nil, wp_bind', wp_pure']
  refine gMake (kA := kA₁) (kI := kC₁) (cc := cc2) hkA₁ hkindA₁ hkC₁ hkindC₁ (hlim 5 (by decide)) (hheap _ (by decide)) (hlim 6 (by decide)) (hheap _ (by decide)) (by show T.heap.size + 6 ≤ _; omega) (by show T.slotsUsed + 35 ≤ _; omega) (fun d' acts' => ?_)
  have eS : ((T.setTop (F0 m pc ls (.int 6 :: .int 5 :: rest))).setVm vm₁).setTop { (F0 m pc ls (.int 6 :: .int 5 :: rest)) with stack := rest } = (T.setVm vm₁).setTop { (F0 m pc ls (.int 6 :: .int 5 :: rest)) with stack := rest } := by
    show ((T.setVm vm₁).setTop _).setTop _ = _
    rw [State.setTop_setTop]
  rw [eS, gF_top]
  simp only [wp_bind', W.mark, W.pushRef, State.topJava?_setTop' _ XF.here.top, Option.some.injEq, exists_eq_left', State.setTop_setTop, State.heap_setTop]
  intro acts
  simp [jvm, XF.here.top]
  exact hrest
end GST
end GRID
