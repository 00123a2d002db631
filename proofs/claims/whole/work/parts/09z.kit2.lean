/-! calls that write: the caller's world with the callee's cells put back in their places -/
def zspl : List Nat → va_W → va_W → va_W
  | i :: is, c :: cs, ws => zspl is cs (ws.set i c)
  | _, _, ws => ws
theorem zspl_len : ∀ (is : List Nat) (cs ws : va_W), (zspl is cs ws).length = ws.length
  | [], _, _ => rfl
  | _ :: _, [], _ => rfl
  | i :: is, c :: cs, ws => by
    show (zspl is cs (ws.set i c)).length = _
    rw [zspl_len is cs, List.length_set]
theorem zspl_out : ∀ (is : List Nat) (cs ws : va_W) (k : Nat), k ∉ is → (zspl is cs ws)[k]? = ws[k]?
  | [], _, _, _, _ => rfl
  | _ :: _, [], _, _, _ => rfl
  | i :: is, c :: cs, ws, k, h => by
    show (zspl is cs (ws.set i c))[k]? = _
    rw [zspl_out is cs _ k (fun q => h (List.mem_cons_of_mem _ q)), List.getElem?_set_ne (fun q => h (by rw [q]; exact List.mem_cons_self))]
theorem zspl_in : ∀ (is : List Nat) (cs ws : va_W), va_nd is = true → is.length = cs.length → (∀ i, i ∈ is → i < ws.length) → ∀ (j : Nat) (i : Nat), is[j]? = some i → (zspl is cs ws)[i]? = cs[j]?
  | [], _, _, _, _, _, j, i, h => by simp at h
  | _ :: _, [], _, _, h, _, _, _, _ => by simp at h
  | i0 :: is, c :: cs, ws, hn, hl, hb, j, i, h => by
    have hn2 : i0 ∉ is ∧ va_nd is = true := by simpa [va_nd] using hn
    show (zspl is cs (ws.set i0 c))[i]? = _
    cases j with
    | zero =>
      have e : i0 = i := by simpa using h
      subst e
      rw [zspl_out is cs _ _ hn2.1, List.getElem?_set_self (hb _ List.mem_cons_self)]
      rfl
    | succ j =>
      rw [List.getElem?_cons_succ]
      exact zspl_in is cs _ hn2.2 (by simpa using hl) (fun x hx => by rw [List.length_set]; exact hb x (List.mem_cons_of_mem _ hx)) j i (by simpa using h)
section ZC2
variable {p : Program} {l : Launch} {e : Env} {R : Room} {s : State} {m : MethodId} {args : Array Value} {below : List Frame} {meth : Method} {c : Code} {H : Heap} {locs : List Loc} {cells slots : Nat} {Q : State → Prop}
variable {cc : ByteArray} {pc nL : Nat} {ls : Array Slot} {rest st0 : List Value} {own : String} {D : va_G} {cI cZ cB cR : ClassId} {A : Nat → Prop} {ws : va_W} {H0 : Heap}
variable {y : MethodName} {cy : ByteArray} {nLy index n fr lo : Nat} {rty : Option FieldType} {wsC wsC' : va_W} {As : List Value} {b : Nat} {rv : Option Value}
theorem z_join2 {H1 : Heap} (hP : va_P D vwCl ws H) (hD : va_D A ws) (is : List Nat) (hs : is.map (fun i => ws[i]?) = wsC.map some) (hnd : va_nd is = true) (hll : wsC'.length = wsC.length) (hk : ∀ q : Nat, q < H.size → ¬ zA wsC q → H1[q]? = H[q]?) (hP1 : va_P D vwCl wsC' H1) : va_P D vwCl (zspl is wsC' ws) H1 := by
  have hil : is.length = wsC.length := by have := congrArg List.length hs; simpa using this
  have hin : ∀ i, i ∈ is → i < ws.length := by
    intro i hi
    obtain ⟨j, hj⟩ := List.getElem?_of_mem hi
    have h1 : (is.map (fun i => ws[i]?))[j]? = some (ws[i]?) := by rw [List.getElem?_map, hj]; rfl
    rw [hs, List.getElem?_map] at h1
    cases hw : wsC[j]? with
    | none => rw [hw] at h1; cases h1
    | some q => rw [hw] at h1; exact (List.getElem?_eq_some_iff.mp (Option.some.inj h1).symm).1
  intro k q hq
  by_cases hm : k ∈ is
  · obtain ⟨j, hj⟩ := List.getElem?_of_mem hm
    rw [zspl_in is wsC' ws hnd (by rw [hil, hll]) hin j k hj] at hq
    exact hP1 j q hq
  · rw [zspl_out is wsC' ws k hm] at hq
    have h4 := hP k q hq
    refine h4.kept (hk q.1 h4.lt fun hz => ?_)
    obtain ⟨k2, e2, hz⟩ := hz
    have h5 : (is.map (fun i => ws[i]?))[k2]? = some (some (q.1, e2)) := by rw [hs, List.getElem?_map, hz]; rfl
    rw [List.getElem?_map] at h5
    cases hi : is[k2]? with
    | none => rw [hi] at h5; cases h5
    | some i =>
      rw [hi] at h5
      have h6 : ws[i]? = some (q.1, e2) := Option.some.inj h5
      have h7 := hD.1 k i q (q.1, e2) hq h6 rfl
      subst h7
      exact hm (List.mem_of_getElem? hi)
theorem z_addr2 (hD : va_D A ws) (is : List Nat) (L : List Nat) (hs : is.map (fun i => ws[i]?) = wsC.map some) (hnd : va_nd is = true) (hL : wsC.map Prod.fst = L) (hL' : wsC'.map Prod.fst = L) : va_D A (zspl is wsC' ws) := by
  have hil : is.length = wsC.length := by have := congrArg List.length hs; simpa using this
  have hll : wsC'.length = wsC.length := by have h1 := congrArg List.length hL; have h2 := congrArg List.length hL'; simp at h1 h2; omega
  have hin : ∀ i, i ∈ is → i < ws.length := by
    intro i hi
    obtain ⟨j, hj⟩ := List.getElem?_of_mem hi
    have h1 : (is.map (fun i => ws[i]?))[j]? = some (ws[i]?) := by rw [List.getElem?_map, hj]; rfl
    rw [hs, List.getElem?_map] at h1
    cases hw : wsC[j]? with
    | none => rw [hw] at h1; cases h1
    | some q => rw [hw] at h1; exact (List.getElem?_eq_some_iff.mp (Option.some.inj h1).symm).1
  refine za_addr hD ?_
  apply List.ext_getElem?
  intro k
  rw [List.getElem?_map, List.getElem?_map]
  by_cases hm : k ∈ is
  · obtain ⟨j, hj⟩ := List.getElem?_of_mem hm
    rw [zspl_in is wsC' ws hnd (by rw [hil, hll]) hin j k hj]
    have h1 : (is.map (fun i => ws[i]?))[j]? = some (ws[k]?) := by rw [List.getElem?_map, hj]; rfl
    rw [hs, List.getElem?_map] at h1
    have h2 : (wsC'.map Prod.fst)[j]? = (wsC.map Prod.fst)[j]? := by rw [hL, hL']
    rw [List.getElem?_map, List.getElem?_map] at h2
    cases hw : wsC[j]? with
    | none => rw [hw] at h1; cases h1
    | some q =>
      rw [hw] at h1 h2
      have h3 : ws[k]? = some q := (Option.some.inj h1).symm
      rw [h2, h3]
  · rw [zspl_out is wsC' ws k hm]
theorem zXV {ci : Nat} {fs : List Value} {q : vw_C} (hC : CallFix p m c cc nL s args wsU own) (hM : mW l y cy nLy rty fr lo D cI cZ cB cR wsC wsC' (.ref b :: As) rv) (hl : zLk own index y cy nLy rty n) (hv : zVi y) (hR : fr + 1 ≤ R.frames ∧ 8 + (nLy + 11) + lo ≤ R.locals) (hK : KK D cI cZ cB cR s) (hP : va_P D vwCl ws H) (hD : va_D A ws) (hS : va_S A H0 H locs)
    (isC L : List Nat) (hs : isC.map (fun i => ws[i]?) = wsC.map some) (hnd : va_nd isC = true) (hL : wsC.map Prod.fst = L) (hL' : wsC'.map Prod.fst = L)
    (hr : wsC[0]? = some (b, .inr (ci, fs)) ∧ vwCl[ci]? = some q ∧ q.1 = y.cls) (hn : As.length = n) (hsz : ls.size = nL) (hst : st0 = As.reverse ++ .ref b :: rest) (hw : (rest.map fun v => v.category).sum ≤ 8) (hdg : decode cc pc = .ok (.invokevirtual index, 3)) (hcs : cells ≤ R.cells ∧ slots ≤ R.slots)
    (kk : ∀ (H1 : Heap) (locs1 : List Loc), va_P D vwCl (zspl isC wsC' ws) H1 → va_D A (zspl isC wsC' ws) → va_S A H0 H1 locs1 → W p l e R s m args below meth c H1 locs1 cells slots Q (F0 m (pc + 3) ls (rv.toList ++ rest))) : W p l e R s m args below meth c H locs cells slots Q (F0 m pc ls st0) := by
  have hPc := hP.sub isC (z_fm hs)
  have hDc := z_subA hD hs hnd
  have hf : ∀ q, zA wsC q → A q := fun q h => by
    obtain ⟨k, e9, h⟩ := h
    exact hDc.2 k (q, e9) h
  refine z_backW (va_runV (As := As) (rest := rest) (b := b) hC hM ⟨z_cb hC hl hR, hC.2.2.2.2 _ hv.1, hC.2.2.2.2 _ hv.2⟩ ⟨z_blindW, z_recv hK hPc hr, fun U hU hW => ⟨rfl, by rw [hU]; exact hPc, KK.moved hW.alike hK, hDc.weaken (fun _ _ _ _ => trivial)⟩⟩ rfl hn hsz hst (lv_room (pc := pc) (ls := ls) (rest := st0) hw) hdg hcs) hS hf ?_
  intro H1 locs1 h1 h2 h3
  exact kk H1 locs1 (z_join2 hP hD isC hs hnd (by have h1 := congrArg List.length hL; have h2 := congrArg List.length hL'; simp at h1 h2; omega) h2 h1) (z_addr2 hD isC L hs hnd hL hL') h3
theorem zXVN {host : String} {ci : Nat} {fs : List Value} {q : vw_C} (hC : CallFix p m c cc nL s args wsU own) (hM : mW l y cy nLy rty fr lo D cI cZ cB cR wsC wsC' (.ref b :: As) rv) (hl : zLkN own index y cy nLy rty n host) (hv : zVi y) (hR : fr + 1 ≤ R.frames ∧ 8 + (nLy + 11) + lo ≤ R.locals) (hK : KK D cI cZ cB cR s) (hP : va_P D vwCl ws H) (hD : va_D A ws) (hS : va_S A H0 H locs)
    (isC L : List Nat) (hs : isC.map (fun i => ws[i]?) = wsC.map some) (hnd : va_nd isC = true) (hL : wsC.map Prod.fst = L) (hL' : wsC'.map Prod.fst = L)
    (hr : wsC[0]? = some (b, .inr (ci, fs)) ∧ vwCl[ci]? = some q ∧ q.1 = y.cls) (hn : As.length = n) (hsz : ls.size = nL) (hst : st0 = As.reverse ++ .ref b :: rest) (hw : (rest.map fun v => v.category).sum ≤ 8) (hdg : decode cc pc = .ok (.invokevirtual index, 3)) (hcs : cells ≤ R.cells ∧ slots ≤ R.slots)
    (kk : ∀ (H1 : Heap) (locs1 : List Loc), va_P D vwCl (zspl isC wsC' ws) H1 → va_D A (zspl isC wsC' ws) → va_S A H0 H1 locs1 → W p l e R s m args below meth c H1 locs1 cells slots Q (F0 m (pc + 3) ls (rv.toList ++ rest))) : W p l e R s m args below meth c H locs cells slots Q (F0 m pc ls st0) := by
  have hPc := hP.sub isC (z_fm hs)
  have hDc := z_subA hD hs hnd
  have hf : ∀ q, zA wsC q → A q := fun q h => by
    obtain ⟨k, e9, h⟩ := h
    exact hDc.2 k (q, e9) h
  refine z_backW (va_runVN (As := As) (rest := rest) (b := b) hC hM ⟨z_cn hC hl hR, hC.2.2.2.2 _ hv.1, hC.2.2.2.2 _ hv.2⟩ ⟨z_blindW, z_recv hK hPc hr, fun U hU hW => ⟨rfl, by rw [hU]; exact hPc, KK.moved hW.alike hK, hDc.weaken (fun _ _ _ _ => trivial)⟩⟩ rfl hn hsz hst (lv_room (pc := pc) (ls := ls) (rest := st0) hw) hdg hcs) hS hf ?_
  intro H1 locs1 h1 h2 h3
  exact kk H1 locs1 (z_join2 hP hD isC hs hnd (by have h1 := congrArg List.length hL; have h2 := congrArg List.length hL'; simp at h1 h2; omega) h2 h1) (z_addr2 hD isC L hs hnd hL hL') h3
end ZC2
