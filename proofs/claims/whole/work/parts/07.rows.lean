/-! rows over numbers nI n and bits bI b -/
theorem z_inc (i k : Nat) : nI i + Int32.ofInt (k : Int) = nI (i + k) := by
  rw [← nI_add]
  congr 1
theorem z_inc1 (i : Nat) : nI i + Int32.ofInt 1 = nI (i + 1) := z_inc i 1
theorem z_dec1 {i : Nat} (h : 0 < i) : nI i + Int32.ofInt (-1) = nI (i - 1) := by
  obtain ⟨j, rfl⟩ : ∃ j, i = j + 1 := ⟨i - 1, by omega⟩
  exact pk_m1 j
theorem z_sl : ∀ n, n < 32 → ((nI n &&& 31).toBitVec.smod 32).toNat = n := by decide
theorem z_shl1 : ∀ d, d < 31 → (1 : Int32) <<< (nI d &&& 31) = nI (2 ^ d) := by decide
theorem z_shr {a d : Nat} (ha : a < 2 ^ 31) (hd : d < 32) : nI a >>> (nI d &&& 31) = nI (a / 2 ^ d) := pk_shrN ha _ d (z_sl d hd)
theorem z_andN (a b : Nat) : nI a &&& nI b = nI (a &&& b) := by
  unfold nI
  apply Int32.toBitVec_inj.mp
  simp only [Int32.toBitVec_and, Int32.toBitVec_ofNat]
  exact (BitVec.ofNat_and ..).symm
theorem z_orN (a b : Nat) : nI a ||| nI b = nI (a ||| b) := by
  unfold nI
  apply Int32.toBitVec_inj.mp
  simp only [Int32.toBitVec_or, Int32.toBitVec_ofNat]
  exact (BitVec.ofNat_or ..).symm
theorem z_bI0 {b : Bool} : bI b = 0 ↔ b = false := by cases b <;> decide
def updN (g : Nat → Nat) (i v : Nat) : Nat → Nat := fun j => if j = i then v else g j
def updB (g : Nat → Bool) (i : Nat) (v : Bool) : Nat → Bool := fun j => if j = i then v else g j
def cpyN (f g : Nat → Nat) (sp dp n : Nat) : Nat → Nat := fun k => if dp ≤ k ∧ k < dp + n then f (sp + (k - dp)) else g k
theorem updN_s {g : Nat → Nat} {i v : Nat} : updN g i v i = v := if_pos rfl
theorem updN_n {g : Nat → Nat} {i v j : Nat} (h : j ≠ i) : updN g i v j = g j := if_neg h
theorem updB_s {g : Nat → Bool} {i : Nat} {v : Bool} : updB g i v i = v := if_pos rfl
theorem updB_n {g : Nat → Bool} {i j : Nat} {v : Bool} (h : j ≠ i) : updB g i v j = g j := if_neg h
theorem upd_nI (g : Nat → Nat) (i v : Nat) : upd (fun j => nI (g j)) i (nI v) = fun j => nI (updN g i v j) := by
  funext j
  unfold upd updN
  by_cases h : j = i
  · rw [if_pos h, if_pos h]
  · rw [if_neg h, if_neg h]
theorem upd_bI (g : Nat → Bool) (i : Nat) (v : Bool) : upd (fun j => bI (g j)) i (bI v) = fun j => bI (updB g i v j) := by
  funext j
  unfold upd updB
  by_cases h : j = i
  · rw [if_pos h, if_pos h]
  · rw [if_neg h, if_neg h]
theorem cpy_nI (f g : Nat → Nat) (sp dp n : Nat) : va_cpy (fun j => nI (f j)) (fun j => nI (g j)) sp dp n = fun j => nI (cpyN f g sp dp n j) := by
  funext j
  unfold va_cpy cpyN
  by_cases h : dp ≤ j ∧ j < dp + n
  · rw [if_pos h, if_pos h]
  · rw [if_neg h, if_neg h]
/-- cells -/
abbrev aI (cI : ClassId) (a n : Nat) (g : Nat → Nat) : Nat × va_E := (a, .inl (cI, n, .inl (fun j => nI (g j))))
abbrev aZ (cZ : ClassId) (a n : Nat) (g : Nat → Bool) : Nat × va_E := (a, .inl (cZ, n, .inl (fun j => bI (g j))))
abbrev aB (cB : ClassId) (a n : Nat) (f : Nat → Int32) : Nat × va_E := (a, .inl (cB, n, .inl f))
abbrev aR (cR : ClassId) (a n : Nat) (r : Nat → Nat) : Nat × va_E := (a, .inl (cR, n, .inr (.inr (.inr (.inr (fun i => if i < n then some (r i) else none))))))
/-- a class of the world, as the rows want it -/
def zCl (ci : Nat) (C : String) (T : u_T) (N : Nat) (ty : Nat → FieldType) : Prop := vwCl[ci]? = some (C, T, N) ∧ (∀ w ∈ u_ws C T N, w ∈ wsU) ∧ (∀ k, k < N → parseFieldDescriptor (T k).2.2.1 = some (ty k)) ∧ (∀ a, a < N → ∀ b, b < N → a ≠ b → (T a).2.1 ≠ (T b).2.1)
/-- a field's link: of the own class, or of a nest mate -/
def zFl (own : String) (index : Nat) (C nm ds : String) : Prop := Cond.fieldLink own index C nm ds ∈ wsU ∨ ∃ host, Cond.fieldLinkNest own index C nm ds host ∈ wsU
section ZROW
variable {p : Program} {l : Launch} {e : Env} {R : Room} {s : State} {m : MethodId} {args : Array Value} {below : List Frame} {meth : Method} {c : Code} {H : Heap} {locs : List Loc} {cells slots : Nat} {Q : State → Prop}
variable {cc : ByteArray} {pc nL : Nat} {ls : Array Slot} {rest : List Value} {own : String} {D : va_G} {cI cZ cB cR : ClassId} {A : Nat → Prop} {ws : va_W} {H0 : Heap} {a : Nat}
theorem z_top {x y : Int32} (h : x = y) (k : W p l e R s m args below meth c H locs cells slots Q (F0 m pc ls (.int y :: rest))) : W p l e R s m args below meth c H locs cells slots Q (F0 m pc ls (.int x :: rest)) := h ▸ k
theorem z_topl {x y : Int64} (h : x = y) (k : W p l e R s m args below meth c H locs cells slots Q (F0 m pc ls (.long y :: rest))) : W p l e R s m args below meth c H locs cells slots Q (F0 m pc ls (.long x :: rest)) := h ▸ k
theorem zi_add (hC : CallFix p m c cc nL s args wsU own) {x y : Nat} (hdg : decode cc pc = .ok (.iadd, 1)) (k : W p l e R s m args below meth c H locs cells slots Q (F0 m (pc + 1) ls (.int (nI (x + y)) :: rest))) : W p l e R s m args below meth c H locs cells slots Q (F0 m pc ls (.int (nI y) :: .int (nI x) :: rest)) := lv_iadd hC.1 hC.2.1 hdg (by rw [nI_add]; exact k)
theorem zi_sub (hC : CallFix p m c cc nL s args wsU own) {x y : Nat} (hdg : decode cc pc = .ok (.isub, 1)) (h : y ≤ x) (k : W p l e R s m args below meth c H locs cells slots Q (F0 m (pc + 1) ls (.int (nI (x - y)) :: rest))) : W p l e R s m args below meth c H locs cells slots Q (F0 m pc ls (.int (nI y) :: .int (nI x) :: rest)) := lv_isub hC.1 hC.2.1 hdg (by rw [pk_sub h]; exact k)
theorem zi_mul (hC : CallFix p m c cc nL s args wsU own) {x y : Nat} (hdg : decode cc pc = .ok (.imul, 1)) (k : W p l e R s m args below meth c H locs cells slots Q (F0 m (pc + 1) ls (.int (nI (x * y)) :: rest))) : W p l e R s m args below meth c H locs cells slots Q (F0 m pc ls (.int (nI y) :: .int (nI x) :: rest)) := lv_imul hC.1 hC.2.1 hdg (by rw [pk_mul]; exact k)
theorem zi_div (hC : CallFix p m c cc nL s args wsU own) {x y : Nat} (hdg : decode cc pc = .ok (.idiv, 1)) (hx : x < 2 ^ 31) (h0 : 0 < y) (hy : y < 2 ^ 31) (k : W p l e R s m args below meth c H locs cells slots Q (F0 m (pc + 1) ls (.int (nI (x / y)) :: rest))) : W p l e R s m args below meth c H locs cells slots Q (F0 m pc ls (.int (nI y) :: .int (nI x) :: rest)) := lv_idiv hC.1 hC.2.1 hdg (nI_ne0 h0 hy) (by rw [pk_div hx h0 hy]; exact k)
theorem zi_rem (hC : CallFix p m c cc nL s args wsU own) {x y : Nat} (hdg : decode cc pc = .ok (.irem, 1)) (hx : x < 2 ^ 31) (h0 : 0 < y) (hy : y < 2 ^ 31) (k : W p l e R s m args below meth c H locs cells slots Q (F0 m (pc + 1) ls (.int (nI (x % y)) :: rest))) : W p l e R s m args below meth c H locs cells slots Q (F0 m pc ls (.int (nI y) :: .int (nI x) :: rest)) := lv_irem hC.1 hC.2.1 hdg (nI_ne0 h0 hy) (by rw [pk_rem hx h0 hy]; exact k)
theorem zi_and (hC : CallFix p m c cc nL s args wsU own) {x y : Nat} (hdg : decode cc pc = .ok (.iand, 1)) (k : W p l e R s m args below meth c H locs cells slots Q (F0 m (pc + 1) ls (.int (nI (x &&& y)) :: rest))) : W p l e R s m args below meth c H locs cells slots Q (F0 m pc ls (.int (nI y) :: .int (nI x) :: rest)) := lv_iand hC.1 hC.2.1 hdg (by rw [z_andN]; exact k)
theorem zi_or (hC : CallFix p m c cc nL s args wsU own) {x y : Nat} (hdg : decode cc pc = .ok (.ior, 1)) (k : W p l e R s m args below meth c H locs cells slots Q (F0 m (pc + 1) ls (.int (nI (x ||| y)) :: rest))) : W p l e R s m args below meth c H locs cells slots Q (F0 m pc ls (.int (nI y) :: .int (nI x) :: rest)) := lv_ior hC.1 hC.2.1 hdg (by rw [z_orN]; exact k)
theorem zi_shl1 (hC : CallFix p m c cc nL s args wsU own) {d : Nat} (hdg : decode cc pc = .ok (.ishl, 1)) (h : d < 31) (k : W p l e R s m args below meth c H locs cells slots Q (F0 m (pc + 1) ls (.int (nI (2 ^ d)) :: rest))) : W p l e R s m args below meth c H locs cells slots Q (F0 m pc ls (.int (nI d) :: .int (nI 1) :: rest)) := lv_ishl hC.1 hC.2.1 hdg (by rw [show nI 1 = (1 : Int32) from rfl, z_shl1 d h]; exact k)
theorem zi_shr (hC : CallFix p m c cc nL s args wsU own) {x d : Nat} (hdg : decode cc pc = .ok (.ishr, 1)) (hx : x < 2 ^ 31) (h : d < 32) (k : W p l e R s m args below meth c H locs cells slots Q (F0 m (pc + 1) ls (.int (nI (x / 2 ^ d)) :: rest))) : W p l e R s m args below meth c H locs cells slots Q (F0 m pc ls (.int (nI d) :: .int (nI x) :: rest)) := lv_ishr hC.1 hC.2.1 hdg (by rw [z_shr hx h]; exact k)
theorem zc_lt (hC : CallFix p m c cc nL s args wsU own) {x y : Nat} {off : Int} {tgt : Nat} (hdg : decode cc pc = .ok (.if_icmp .lt off, 3)) (ht : (pc : Int) + off = (tgt : Int)) (hx : x < 2 ^ 31) (hy : y < 2 ^ 31) (kt : x < y → W p l e R s m args below meth c H locs cells slots Q (F0 m tgt ls rest)) (kf : y ≤ x → W p l e R s m args below meth c H locs cells slots Q (F0 m (pc + 3) ls rest)) : W p l e R s m args below meth c H locs cells slots Q (F0 m pc ls (.int (nI y) :: .int (nI x) :: rest)) := lv_icmp_lt hC.1 hC.2.1 hdg ht (fun h => kt ((nI_ltI hx hy).mp h)) (fun h => kf (Nat.le_of_not_lt fun q => h ((nI_ltI hx hy).mpr q)))
theorem zc_ge (hC : CallFix p m c cc nL s args wsU own) {x y : Nat} {off : Int} {tgt : Nat} (hdg : decode cc pc = .ok (.if_icmp .ge off, 3)) (ht : (pc : Int) + off = (tgt : Int)) (hx : x < 2 ^ 31) (hy : y < 2 ^ 31) (kt : y ≤ x → W p l e R s m args below meth c H locs cells slots Q (F0 m tgt ls rest)) (kf : x < y → W p l e R s m args below meth c H locs cells slots Q (F0 m (pc + 3) ls rest)) : W p l e R s m args below meth c H locs cells slots Q (F0 m pc ls (.int (nI y) :: .int (nI x) :: rest)) := lv_icmp_ge hC.1 hC.2.1 hdg ht (fun h => kt ((nI_leI hy hx).mp h)) (fun h => kf (Nat.lt_of_not_le fun q => h ((nI_leI hy hx).mpr q)))
theorem zc_gt (hC : CallFix p m c cc nL s args wsU own) {x y : Nat} {off : Int} {tgt : Nat} (hdg : decode cc pc = .ok (.if_icmp .gt off, 3)) (ht : (pc : Int) + off = (tgt : Int)) (hx : x < 2 ^ 31) (hy : y < 2 ^ 31) (kt : y < x → W p l e R s m args below meth c H locs cells slots Q (F0 m tgt ls rest)) (kf : x ≤ y → W p l e R s m args below meth c H locs cells slots Q (F0 m (pc + 3) ls rest)) : W p l e R s m args below meth c H locs cells slots Q (F0 m pc ls (.int (nI y) :: .int (nI x) :: rest)) := lv_icmp_gt hC.1 hC.2.1 hdg ht (fun h => kt ((nI_ltI hy hx).mp h)) (fun h => kf (Nat.le_of_not_lt fun q => h ((nI_ltI hy hx).mpr q)))
theorem zc_le (hC : CallFix p m c cc nL s args wsU own) {x y : Nat} {off : Int} {tgt : Nat} (hdg : decode cc pc = .ok (.if_icmp .le off, 3)) (ht : (pc : Int) + off = (tgt : Int)) (hx : x < 2 ^ 31) (hy : y < 2 ^ 31) (kt : x ≤ y → W p l e R s m args below meth c H locs cells slots Q (F0 m tgt ls rest)) (kf : y < x → W p l e R s m args below meth c H locs cells slots Q (F0 m (pc + 3) ls rest)) : W p l e R s m args below meth c H locs cells slots Q (F0 m pc ls (.int (nI y) :: .int (nI x) :: rest)) := lv_icmp_le hC.1 hC.2.1 hdg ht (fun h => kt ((nI_leI hx hy).mp h)) (fun h => kf (Nat.lt_of_not_le fun q => h ((nI_leI hx hy).mpr q)))
theorem zc_eq (hC : CallFix p m c cc nL s args wsU own) {x y : Nat} {off : Int} {tgt : Nat} (hdg : decode cc pc = .ok (.if_icmp .eq off, 3)) (ht : (pc : Int) + off = (tgt : Int)) (hx : x < 2 ^ 31) (hy : y < 2 ^ 31) (kt : x = y → W p l e R s m args below meth c H locs cells slots Q (F0 m tgt ls rest)) (kf : x ≠ y → W p l e R s m args below meth c H locs cells slots Q (F0 m (pc + 3) ls rest)) : W p l e R s m args below meth c H locs cells slots Q (F0 m pc ls (.int (nI y) :: .int (nI x) :: rest)) := lv_icmp_eq hC.1 hC.2.1 hdg ht (fun h => kt ((nI_eq hx hy).mp h)) (fun h => kf (fun q => h ((nI_eq hx hy).mpr q)))
theorem zc_ne (hC : CallFix p m c cc nL s args wsU own) {x y : Nat} {off : Int} {tgt : Nat} (hdg : decode cc pc = .ok (.if_icmp .ne off, 3)) (ht : (pc : Int) + off = (tgt : Int)) (hx : x < 2 ^ 31) (hy : y < 2 ^ 31) (kt : x ≠ y → W p l e R s m args below meth c H locs cells slots Q (F0 m tgt ls rest)) (kf : x = y → W p l e R s m args below meth c H locs cells slots Q (F0 m (pc + 3) ls rest)) : W p l e R s m args below meth c H locs cells slots Q (F0 m pc ls (.int (nI y) :: .int (nI x) :: rest)) := lv_icmp_ne hC.1 hC.2.1 hdg ht (fun h => kt (fun q => h ((nI_eq hx hy).mpr q))) (fun h => kf (by first | exact (nI_eq hx hy).mp (Decidable.not_not.mp h) | exact (nI_eq hx hy).mp h))
theorem z0_eq (hC : CallFix p m c cc nL s args wsU own) {x : Nat} {off : Int} {tgt : Nat} (hdg : decode cc pc = .ok (.ifCond .eq off, 3)) (ht : (pc : Int) + off = (tgt : Int)) (hx : x < 2 ^ 31) (kt : x = 0 → W p l e R s m args below meth c H locs cells slots Q (F0 m tgt ls rest)) (kf : 0 < x → W p l e R s m args below meth c H locs cells slots Q (F0 m (pc + 3) ls rest)) : W p l e R s m args below meth c H locs cells slots Q (F0 m pc ls (.int (nI x) :: rest)) := lv_if_eq hC.1 hC.2.1 hdg ht (fun h => kt ((nI_eq (b := 0) hx (by decide)).mp h)) (fun h => kf (Nat.pos_of_ne_zero fun q => h (by rw [q]; rfl)))
theorem z0_ne (hC : CallFix p m c cc nL s args wsU own) {x : Nat} {off : Int} {tgt : Nat} (hdg : decode cc pc = .ok (.ifCond .ne off, 3)) (ht : (pc : Int) + off = (tgt : Int)) (hx : x < 2 ^ 31) (kt : 0 < x → W p l e R s m args below meth c H locs cells slots Q (F0 m tgt ls rest)) (kf : x = 0 → W p l e R s m args below meth c H locs cells slots Q (F0 m (pc + 3) ls rest)) : W p l e R s m args below meth c H locs cells slots Q (F0 m pc ls (.int (nI x) :: rest)) := lv_if_ne hC.1 hC.2.1 hdg ht (fun h => kt (Nat.pos_of_ne_zero fun q => h (by rw [q]; rfl))) (fun h => kf ((nI_eq (b := 0) hx (by decide)).mp (by first | exact Decidable.not_not.mp h | exact h)))
theorem z0_le (hC : CallFix p m c cc nL s args wsU own) {x : Nat} {off : Int} {tgt : Nat} (hdg : decode cc pc = .ok (.ifCond .le off, 3)) (ht : (pc : Int) + off = (tgt : Int)) (hx : x < 2 ^ 31) (kt : x = 0 → W p l e R s m args below meth c H locs cells slots Q (F0 m tgt ls rest)) (kf : 0 < x → W p l e R s m args below meth c H locs cells slots Q (F0 m (pc + 3) ls rest)) : W p l e R s m args below meth c H locs cells slots Q (F0 m pc ls (.int (nI x) :: rest)) := lv_if_le hC.1 hC.2.1 hdg ht (fun h => kt (Nat.le_zero.mp ((nI_leI (b := 0) hx (by decide)).mp h))) (fun h => kf (Nat.pos_of_ne_zero fun q => h (by rw [q]; decide)))
theorem z0_gt (hC : CallFix p m c cc nL s args wsU own) {x : Nat} {off : Int} {tgt : Nat} (hdg : decode cc pc = .ok (.ifCond .gt off, 3)) (ht : (pc : Int) + off = (tgt : Int)) (hx : x < 2 ^ 31) (kt : 0 < x → W p l e R s m args below meth c H locs cells slots Q (F0 m tgt ls rest)) (kf : x = 0 → W p l e R s m args below meth c H locs cells slots Q (F0 m (pc + 3) ls rest)) : W p l e R s m args below meth c H locs cells slots Q (F0 m pc ls (.int (nI x) :: rest)) := lv_if_gt hC.1 hC.2.1 hdg ht (fun h => kt ((nI_ltI (a := 0) (by decide) hx).mp h)) (fun h => kf (Nat.eq_zero_of_not_pos fun q => h ((nI_ltI (a := 0) (by decide) hx).mpr q)))
theorem z0_lt (hC : CallFix p m c cc nL s args wsU own) {x : Nat} {off : Int} {tgt : Nat} (hdg : decode cc pc = .ok (.ifCond .lt off, 3)) (ht : (pc : Int) + off = (tgt : Int)) (hx : x < 2 ^ 31) (kf : W p l e R s m args below meth c H locs cells slots Q (F0 m (pc + 3) ls rest)) : W p l e R s m args below meth c H locs cells slots Q (F0 m pc ls (.int (nI x) :: rest)) := lv_if_lt hC.1 hC.2.1 hdg ht (fun h => absurd h (nI_pos hx)) (fun _ => kf)
theorem z0_ge (hC : CallFix p m c cc nL s args wsU own) {x : Nat} {off : Int} {tgt : Nat} (hdg : decode cc pc = .ok (.ifCond .ge off, 3)) (ht : (pc : Int) + off = (tgt : Int)) (hx : x < 2 ^ 31) (kt : W p l e R s m args below meth c H locs cells slots Q (F0 m tgt ls rest)) : W p l e R s m args below meth c H locs cells slots Q (F0 m pc ls (.int (nI x) :: rest)) := lv_if_ge hC.1 hC.2.1 hdg ht (fun _ => kt) (fun h => absurd (nI_pos' hx) h)
theorem zb_eq (hC : CallFix p m c cc nL s args wsU own) {b : Bool} {off : Int} {tgt : Nat} (hdg : decode cc pc = .ok (.ifCond .eq off, 3)) (ht : (pc : Int) + off = (tgt : Int)) (kt : b = false → W p l e R s m args below meth c H locs cells slots Q (F0 m tgt ls rest)) (kf : b = true → W p l e R s m args below meth c H locs cells slots Q (F0 m (pc + 3) ls rest)) : W p l e R s m args below meth c H locs cells slots Q (F0 m pc ls (.int (bI b) :: rest)) := lv_if_eq hC.1 hC.2.1 hdg ht (fun h => kt (z_bI0.mp h)) (fun h => kf (by cases b; exact absurd rfl h; rfl))
theorem zb_ne (hC : CallFix p m c cc nL s args wsU own) {b : Bool} {off : Int} {tgt : Nat} (hdg : decode cc pc = .ok (.ifCond .ne off, 3)) (ht : (pc : Int) + off = (tgt : Int)) (kt : b = true → W p l e R s m args below meth c H locs cells slots Q (F0 m tgt ls rest)) (kf : b = false → W p l e R s m args below meth c H locs cells slots Q (F0 m (pc + 3) ls rest)) : W p l e R s m args below meth c H locs cells slots Q (F0 m pc ls (.int (bI b) :: rest)) := lv_if_ne hC.1 hC.2.1 hdg ht (fun h => kt (by cases b; exact absurd rfl h; rfl)) (fun h => kf (z_bI0.mp (by first | exact Decidable.not_not.mp h | exact h)))
theorem z_get {ci index k N : Nat} {C : String} {T : u_T} {ty : Nat → FieldType} (hcl : zCl ci C T N ty) (hC : CallFix p m c cc nL s args wsU own) (hK : KK D cI cZ cB cR s) (hP : va_P D vwCl ws H) (q0 : Nat) {fs : List Value} (he : ws[q0]? = some (a, .inr (ci, fs))) (hk : k < N) (hF : zFl own index (T k).1 (T k).2.1 (T k).2.2.1) {v : Value} (hv : fs[k]? = some v) (hdg : decode cc pc = .ok (.getfield index, 3)) (kk : W p l e R s m args below meth c H locs cells slots Q (F0 m (pc + 3) ls (v :: rest))) : W p l e R s m args below meth c H locs cells slots Q (F0 m pc ls (.ref a :: rest)) := by
  obtain ⟨hx, hb, -, hown, hts⟩ := hC
  rcases hF with h | ⟨host, h⟩
  · exact va_get hx hb hts hcl.2.1 hown hK hP q0 he hcl.1 k hk (hts _ h) (fun _ h9 => h9) hv hdg kk
  · exact va_getN hx hb hts hcl.2.1 hown hK hP q0 he hcl.1 k hk (hts _ h) (fun _ h9 => h9) hv hdg kk
theorem z_put {ci index k N : Nat} {C : String} {T : u_T} {ty : Nat → FieldType} (hcl : zCl ci C T N ty) (hC : CallFix p m c cc nL s args wsU own) (hK : KK D cI cZ cB cR s) (hP : va_P D vwCl ws H) (hD : va_D A ws) (hS : va_S A H0 H locs) (q0 : Nat) {fs : List Value} (he : ws[q0]? = some (a, .inr (ci, fs))) (hk : k < N) (hF : zFl own index (T k).1 (T k).2.1 (T k).2.2.1) (hfin : (T k).2.2.2 = false) {v : Value} (hn : narrow (ty k) v = v) (hfit : fits (ty k) v = true) (hl : k < fs.length) (hdg : decode cc pc = .ok (.putfield index, 3))
    (kk : ∀ (H1 : Heap) (locs1 : List Loc), va_P D vwCl (ws.set q0 (a, .inr (ci, fs.set k v))) H1 → va_D A (ws.set q0 (a, .inr (ci, fs.set k v))) → va_S A H0 H1 locs1 → W p l e R s m args below meth c H1 locs1 cells slots Q (F0 m (pc + 3) ls rest)) : W p l e R s m args below meth c H locs cells slots Q (F0 m pc ls (v :: .ref a :: rest)) := by
  obtain ⟨hx, hb, -, hown, hts⟩ := hC
  rcases hF with h | ⟨host, h⟩
  · exact va_put hx hb hts hcl.2.1 ty hcl.2.2.1 hcl.2.2.2 hown hK hP hD hS q0 he hcl.1 k hk (hts _ h) (fun _ h9 => h9) hfin (hcl.2.2.1 k hk) hn hfit hl hdg kk
  · exact va_putN hx hb hts hcl.2.1 ty hcl.2.2.1 hcl.2.2.2 hown hK hP hD hS q0 he hcl.1 k hk (hts _ h) (fun _ h9 => h9) hfin (hcl.2.2.1 k hk) hn hfit hl hdg kk
theorem z_ald (hC : CallFix p m c cc nL s args wsU own) (hK : KK D cI cZ cB cR s) (hP : va_P D vwCl ws H) (q0 : Nat) {n : Nat} {g : Nat → Nat} (ha : ws[q0]? = some (aI cI a n g)) {d : Nat} (hd : d < n) (hn : n < 2 ^ 31) (hdg : decode cc pc = .ok (.iaload, 1)) (kk : W p l e R s m args below meth c H locs cells slots Q (F0 m (pc + 1) ls (.int (nI (g d)) :: rest))) : W p l e R s m args below meth c H locs cells slots Q (F0 m pc ls (.int (nI d) :: .ref a :: rest)) := by
  refine va_iald hC.1 hC.2.1 hK hP q0 0 ha rfl (vp_in_nI hd hn) hdg ?_
  rw [nI_clamp (Nat.lt_trans hd hn)]
  exact kk
theorem z_ast (hC : CallFix p m c cc nL s args wsU own) (hK : KK D cI cZ cB cR s) (hP : va_P D vwCl ws H) (hD : va_D A ws) (hS : va_S A H0 H locs) (q0 : Nat) {n : Nat} {g : Nat → Nat} (ha : ws[q0]? = some (aI cI a n g)) {d v : Nat} (hd : d < n) (hn : n < 2 ^ 31) (hdg : decode cc pc = .ok (.iastore, 1)) (kk : ∀ (H1 : Heap) (locs1 : List Loc), va_P D vwCl (ws.set q0 (aI cI a n (updN g d v))) H1 → va_D A (ws.set q0 (aI cI a n (updN g d v))) → va_S A H0 H1 locs1 → W p l e R s m args below meth c H1 locs1 cells slots Q (F0 m (pc + 1) ls rest)) : W p l e R s m args below meth c H locs cells slots Q (F0 m pc ls (.int (nI v) :: .int (nI d) :: .ref a :: rest)) := by
  refine va_iast hC.1 hC.2.1 hK hP hD hS q0 0 ha rfl (vp_in_nI hd hn) hdg ?_
  rw [nI_clamp (Nat.lt_trans hd hn), upd_nI]
  exact kk
theorem z_zld (hC : CallFix p m c cc nL s args wsU own) (hK : KK D cI cZ cB cR s) (hP : va_P D vwCl ws H) (q0 : Nat) {n : Nat} {g : Nat → Bool} (ha : ws[q0]? = some (aZ cZ a n g)) {d : Nat} (hd : d < n) (hn : n < 2 ^ 31) (hdg : decode cc pc = .ok (.baload, 1)) (kk : W p l e R s m args below meth c H locs cells slots Q (F0 m (pc + 1) ls (.int (bI (g d)) :: rest))) : W p l e R s m args below meth c H locs cells slots Q (F0 m pc ls (.int (nI d) :: .ref a :: rest)) := by
  refine va_zald hC.1 hC.2.1 hK hP q0 1 ha rfl (vp_in_nI hd hn) hdg ?_
  rw [nI_clamp (Nat.lt_trans hd hn)]
  exact kk
theorem z_zst (hC : CallFix p m c cc nL s args wsU own) (hK : KK D cI cZ cB cR s) (hP : va_P D vwCl ws H) (hD : va_D A ws) (hS : va_S A H0 H locs) (q0 : Nat) {n : Nat} {g : Nat → Bool} (ha : ws[q0]? = some (aZ cZ a n g)) {d : Nat} {v : Bool} (hd : d < n) (hn : n < 2 ^ 31) (hdg : decode cc pc = .ok (.bastore, 1)) (kk : ∀ (H1 : Heap) (locs1 : List Loc), va_P D vwCl (ws.set q0 (aZ cZ a n (updB g d v))) H1 → va_D A (ws.set q0 (aZ cZ a n (updB g d v))) → va_S A H0 H1 locs1 → W p l e R s m args below meth c H1 locs1 cells slots Q (F0 m (pc + 1) ls rest)) : W p l e R s m args below meth c H locs cells slots Q (F0 m pc ls (.int (bI v) :: .int (nI d) :: .ref a :: rest)) := by
  refine va_zast hC.1 hC.2.1 hK hP hD hS q0 1 ha rfl (vp_in_nI hd hn) hdg ?_
  rw [nI_clamp (Nat.lt_trans hd hn), show vp_nar .boolean (bI v) = bI v by cases v <;> rfl, upd_bI]
  exact kk
theorem z_bld (hC : CallFix p m c cc nL s args wsU own) (hK : KK D cI cZ cB cR s) (hP : va_P D vwCl ws H) (q0 : Nat) {n : Nat} {f : Nat → Int32} (ha : ws[q0]? = some (aB cB a n f)) {d : Nat} (hd : d < n) (hn : n < 2 ^ 31) (hdg : decode cc pc = .ok (.baload, 1)) (kk : W p l e R s m args below meth c H locs cells slots Q (F0 m (pc + 1) ls (.int (f d) :: rest))) : W p l e R s m args below meth c H locs cells slots Q (F0 m pc ls (.int (nI d) :: .ref a :: rest)) := by
  refine va_bald hC.1 hC.2.1 hK hP q0 2 ha rfl (vp_in_nI hd hn) hdg ?_
  rw [nI_clamp (Nat.lt_trans hd hn)]
  exact kk
theorem z_bst (hC : CallFix p m c cc nL s args wsU own) (hK : KK D cI cZ cB cR s) (hP : va_P D vwCl ws H) (hD : va_D A ws) (hS : va_S A H0 H locs) (q0 : Nat) {n : Nat} {f : Nat → Int32} (ha : ws[q0]? = some (aB cB a n f)) {d : Nat} {x : Int32} (hd : d < n) (hn : n < 2 ^ 31) (hdg : decode cc pc = .ok (.bastore, 1)) (kk : ∀ (H1 : Heap) (locs1 : List Loc), va_P D vwCl (ws.set q0 (aB cB a n (upd f d x.toInt8.toInt32))) H1 → va_D A (ws.set q0 (aB cB a n (upd f d x.toInt8.toInt32))) → va_S A H0 H1 locs1 → W p l e R s m args below meth c H1 locs1 cells slots Q (F0 m (pc + 1) ls rest)) : W p l e R s m args below meth c H locs cells slots Q (F0 m pc ls (.int x :: .int (nI d) :: .ref a :: rest)) := by
  refine va_bast hC.1 hC.2.1 hK hP hD hS q0 2 ha rfl (vp_in_nI hd hn) hdg ?_
  rw [nI_clamp (Nat.lt_trans hd hn), vp_nar_byte]
  exact kk
theorem z_rld (hC : CallFix p m c cc nL s args wsU own) (hK : KK D cI cZ cB cR s) (hP : va_P D vwCl ws H) (q0 : Nat) {n : Nat} {r : Nat → Nat} (ha : ws[q0]? = some (aR cR a n r)) {d : Nat} (hd : d < n) (hn : n < 2 ^ 31) (hdg : decode cc pc = .ok (.aaload, 1)) (kk : W p l e R s m args below meth c H locs cells slots Q (F0 m (pc + 1) ls (.ref (r d) :: rest))) : W p l e R s m args below meth c H locs cells slots Q (F0 m pc ls (.int (nI d) :: .ref a :: rest)) := by
  have hlt : (nI d).toNatClampNeg < n := by rw [nI_clamp (Nat.lt_trans hd hn)]; exact hd
  refine W.aald (v := .ref (r d)) (ty := .array .int) hC.1 hC.2.1 (hP q0 _ ha) ((hK.2 3 _ rfl).1 n (fun j => va_rf (if j < n then some (r j) else none))) rfl (fun q => by cases q) (by show ¬ (nI d < 0 ∨ (arrV _ _ _).slots.size ≤ _); rw [arrV_size]; exact vp_in_nI hd hn) (by show (arrV _ _ _).slots[_]? = _; rw [arrV_read _ _ hlt, nI_clamp (Nat.lt_trans hd hn)]; show some (va_rf (if d < n then some (r d) else none)) = _; rw [if_pos hd]; rfl) rfl rfl hdg kk
/-- ends -/
theorem zr_i (hC : CallFix p m c cc nL s args wsU own) (hr : meth.sig.returnType = some .int) (hlk : meth.locks = false) {v r : Int32} (hv : v = r) (hdg : decode cc pc = .ok (.ireturn, 1)) : W p l e R s m args below meth c s.heap [] 0 0 (MQ below (qR (some (.int r))) args s 0 0 (fun _ => False)) (F0 m pc ls [.int v]) := by
  subst hv
  exact W.iret hC.1 hC.2.1 hr (fun t ht _ => ⟨rfl, ht⟩) (fun _ h => by cases h) hdg hlk
theorem zr_z (hC : CallFix p m c cc nL s args wsU own) (hr : meth.sig.returnType = some .boolean) (hlk : meth.locks = false) {v b : Bool} (hv : v = b) (hdg : decode cc pc = .ok (.ireturn, 1)) : W p l e R s m args below meth c s.heap [] 0 0 (MQ below (qR (some (.int (bI b)))) args s 0 0 (fun _ => False)) (F0 m pc ls [.int (bI v)]) := by
  subst hv
  exact W.zret (ty := .boolean) hC.1 hC.2.1 hr (by cases v <;> rfl) (fun t ht _ => ⟨rfl, ht⟩) (fun _ h => by cases h) hdg hlk
theorem zr_l (hC : CallFix p m c cc nL s args wsU own) (hr : meth.sig.returnType = some .long) (hlk : meth.locks = false) {v r : Int64} (hv : v = r) (hdg : decode cc pc = .ok (.lreturn, 1)) : W p l e R s m args below meth c s.heap [] 0 0 (MQ below (qR (some (.long r))) args s 0 0 (fun _ => False)) (F0 m pc ls [.long v]) := by
  subst hv
  exact W.lret hC.1 hC.2.1 hr (fun t ht _ => ⟨rfl, ht⟩) (fun _ h => by cases h) hdg hlk
theorem zr_a {n : String} (hC : CallFix p m c cc nL s args wsU own) (hr : meth.sig.returnType = some (.object n)) (hlk : meth.locks = false) {v r : Nat} (hv : v = r) (hdg : decode cc pc = .ok (.areturn, 1)) : W p l e R s m args below meth c s.heap [] 0 0 (MQ below (qR (some (.ref r))) args s 0 0 (fun _ => False)) (F0 m pc ls [.ref v]) := by
  subst hv
  exact W.aret hC.1 hC.2.1 hr (Or.inl ⟨n, rfl⟩) (Or.inr ⟨v, rfl⟩) (fun t ht _ => ⟨rfl, ht⟩) (fun _ h => by cases h) hdg hlk
variable {ws0 ws' : va_W}
theorem zw_i (hC : CallFix p m c cc nL s args wsU own) (hr : meth.sig.returnType = some .int) (hlk : meth.locks = false) (hA : A = zA ws0) (h0 : H0 = s.heap) (hP : va_P D vwCl ws' H) (hS : va_S A H0 H locs) {v r : Int32} (hv : v = r) (hdg : decode cc pc = .ok (.ireturn, 1)) : W p l e R s m args below meth c H locs 0 0 (MQ below (qW D ws0 ws' (some (.int r))) args s 0 0 (zA ws0)) (F0 m pc ls [.int v]) := by
  subst hv hA h0
  exact W.iret hC.1 hC.2.1 hr (fun t ht _ => ⟨rfl, by rw [ht]; exact hP, hS.F ht⟩) hS.2.2 hdg hlk
theorem zw_z (hC : CallFix p m c cc nL s args wsU own) (hr : meth.sig.returnType = some .boolean) (hlk : meth.locks = false) (hA : A = zA ws0) (h0 : H0 = s.heap) (hP : va_P D vwCl ws' H) (hS : va_S A H0 H locs) {v b : Bool} (hv : v = b) (hdg : decode cc pc = .ok (.ireturn, 1)) : W p l e R s m args below meth c H locs 0 0 (MQ below (qW D ws0 ws' (some (.int (bI b)))) args s 0 0 (zA ws0)) (F0 m pc ls [.int (bI v)]) := by
  subst hv hA h0
  exact W.zret (ty := .boolean) hC.1 hC.2.1 hr (by cases v <;> rfl) (fun t ht _ => ⟨rfl, by rw [ht]; exact hP, hS.F ht⟩) hS.2.2 hdg hlk
theorem zw_v (hC : CallFix p m c cc nL s args wsU own) (hr : meth.sig.returnType = none) (hlk : meth.locks = false) (hA : A = zA ws0) (h0 : H0 = s.heap) (hP : va_P D vwCl ws' H) (hS : va_S A H0 H locs) (hdg : decode cc pc = .ok (.return_, 1)) : W p l e R s m args below meth c H locs 0 0 (MQ below (qW D ws0 ws' none) args s 0 0 (zA ws0)) (F0 m pc ls []) := by
  subst hA h0
  exact W.vret hC.1 hC.2.1 hr (fun t ht _ => ⟨rfl, by rw [ht]; exact hP, hS.F ht⟩) hS.2.2 hdg hlk
end ZROW
