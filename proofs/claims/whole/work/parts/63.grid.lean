/-! new int[5][6]: the row of rows, then the rows, one by one -/
section GRID
def gI (cI : ClassId) : Cell := { cls := cI, slots := Array.replicate 6 (.int 0) }
def gO (cA : ClassId) (h : Nat) : Nat → Cell
  | 0 => { cls := cA, slots := Array.replicate 5 .null }
  | i + 1 => (gO cA h i).setSlot i (.ref (h + 1 + i))
def gF (s : State) (cA cI : ClassId) : Nat → State
  | 0 => s.pushCell (gO cA s.heap.size 0)
  | i + 1 => ((gF s cA cI i).pushCell (gI cI)).setCell s.heap.size (gO cA s.heap.size (i + 1))
theorem gO_f (cA : ClassId) (h : Nat) : ∀ i, (gO cA h i).cls = cA ∧ (gO cA h i).vm = .none ∧ (gO cA h i).slots.size = 5
  | 0 => ⟨rfl, rfl, by simp [gO]⟩
  | i + 1 => by
    obtain ⟨a, b, d⟩ := gO_f cA h i
    exact ⟨by simp [gO, Cell.setSlot, a], by simp [gO, Cell.setSlot, b], by simp [gO, Cell.setSlot, d]⟩
theorem gF_f (s : State) (cA cI : ClassId) : ∀ i, (gF s cA cI i).heap.size = s.heap.size + 1 + i ∧ (gF s cA cI i).heap[s.heap.size]? = some (gO cA s.heap.size i) ∧ (gF s cA cI i).vm = s.vm ∧ (gF s cA cI i).slotsUsed = s.slotsUsed + 5 + i * 6 ∧
    (∀ a, a < s.heap.size → (gF s cA cI i).heap[a]? = s.heap[a]?) ∧ ∀ j, j < i → (gF s cA cI i).heap[s.heap.size + 1 + j]? = some (gI cI)
  | 0 => ⟨by simp [gF], by simp [gF], rfl, by simp [gF, gO], fun a ha => State.heap_pushCell_of_lt _ _ ha, fun j hj => absurd hj (Nat.not_lt_zero j)⟩
  | i + 1 => by
    obtain ⟨a, b, d, u, o, w⟩ := gF_f s cA cI i
    have hlt : s.heap.size < (gF s cA cI i).heap.size := by omega
    have hb' : ((gF s cA cI i).pushCell (gI cI)).heap[s.heap.size]? = some (gO cA s.heap.size i) := by rw [State.heap_pushCell_of_lt (h := hlt)]; exact b
    refine ⟨?_, State.heap_setCell_self hb', by simp [gF, d], ?_, fun x hx => ?_, fun j hj => ?_⟩
    · simp [gF, State.setCell, a]; omega
    · simp [gF, u, gI, Nat.succ_mul]; omega
    · show (((gF s cA cI i).pushCell (gI cI)).setCell s.heap.size _).heap[x]? = _
      rw [State.heap_setCell_other (Nat.ne_of_gt hx), State.heap_pushCell_of_lt (h := by omega)]
      exact o x hx
    · show (((gF s cA cI i).pushCell (gI cI)).setCell s.heap.size _).heap[s.heap.size + 1 + j]? = _
      rw [State.heap_setCell_other (show s.heap.size ≠ s.heap.size + 1 + j by omega)]
      by_cases e : j = i
      · subst e
        rw [← a]
        exact State.heap_pushCell_size _ _
      · rw [State.heap_pushCell_of_lt (h := by omega)]
        exact w j (by omega)
theorem gF_top (s : State) (f : JFrame) (cA cI : ClassId) : ∀ i, gF (s.setTop f) cA cI i = (gF s cA cI i).setTop f
  | 0 => rfl
  | i + 1 => by simp only [gF, gF_top s f cA cI i, State.heap_setTop, State.pushCell_setTop, State.setCell_setTop]
theorem gO_arr (cA : ClassId) (h : Nat) : ∀ i, gO cA h i = arrV cA 5 (fun j => va_rf (if j < i then some (h + 1 + j) else none))
  | 0 => by
    show ({ cls := cA, slots := Array.replicate 5 .null } : Cell) = _
    rw [show ({ cls := cA, slots := Array.replicate 5 .null } : Cell) = { cls := cA, slots := Array.replicate 5 .null, vm := .none } from rfl, arrV_new]
    refine congrArg (arrV cA 5) (funext fun j => ?_)
    simp [va_rf]
  | i + 1 => by
    show (gO cA h i).setSlot i (.ref (h + 1 + i)) = _
    rw [gO_arr cA h i, arrV_store]
    refine congrArg (arrV cA 5) (funext fun j => ?_)
    by_cases e : j = i
    · subst e; simp [va_rf]
    · rw [if_neg e]
      by_cases e2 : j < i
      · rw [if_pos e2, if_pos (by omega)]
      · rw [if_neg e2, if_neg (by omega)]
end GRID
