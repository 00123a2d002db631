/-! pictures of the objects; rows for two bits, for copies -/
abbrev oP (p lvA teA laA : Nat) (mo dn ea bn : Nat) (stA k : Nat) : Nat × va_E := (p, .inr (0, [.ref lvA, .ref teA, .ref laA, .int (nI mo), .int (nI dn), .int (nI ea), .int (nI bn), .ref stA, .int (nI k)]))
abbrev oB (b n lvA aiA laA ac woA drA : Nat) : Nat × va_E := (b, .inr (1, [.int (nI n), .ref lvA, .ref aiA, .ref laA, .int (nI ac), .ref woA, .ref drA]))
abbrev oT (t byA len pl tk ta : Nat) (va : Int32) : Nat × va_E := (t, .inr (2, [.ref byA, .int (nI len), .int (nI pl), .int (nI tk), .int (nI ta), .int va]))
abbrev oK (q t b b2 p i1 i2 kept tn tw td : Nat) (tr : Int64) : Nat × va_E := (q, .inr (3, [.ref t, .ref b, .ref b2, .ref p, .ref i1, .ref i2, .int (nI kept), .ref tn, .ref tw, .int (nI td), .long tr]))
abbrev oM (q : Nat) (tr : Int64) (tx ty dec dlv dla air acts wo nd at9 sta sor val : Nat) (fau : Int32) (now kep tac twe td hg : Nat) : Nat × va_E := (q, .inr (4, [.long tr, .ref tx, .int (nI ty), .ref dec, .ref dlv, .ref dla, .ref air, .ref acts, .ref wo, .ref nd, .int (nI at9), .int (nI sta), .int (nI sor), .int (nI val), .int fau, .ref now, .ref kep, .ref tac, .ref twe, .int (nI td), .ref hg]))
theorem row5 {X : va_W} {cI : ClassId} {r : Nat → Nat} {dr : Nat → Nat → Nat} {i : Nat} (h : i < 5) : (X ++ [aI cI (r 0) 6 (dr 0), aI cI (r 1) 6 (dr 1), aI cI (r 2) 6 (dr 2), aI cI (r 3) 6 (dr 3), aI cI (r 4) 6 (dr 4)])[X.length + i]? = some (aI cI (r i) 6 (dr i)) := by
  rw [List.getElem?_append_right (Nat.le_add_right _ _), Nat.add_sub_cancel_left]
  match i, h with
  | 0, _ => rfl
  | 1, _ => rfl
  | 2, _ => rfl
  | 3, _ => rfl
  | 4, _ => rfl
theorem z_bit (b i : Nat) : nI (b / 2 ^ i &&& 1) = nI (b.testBit i).toNat := by
  congr 1
  rw [Nat.and_one_is_mod, Nat.toNat_testBit]
theorem z_bt1 {b : Bool} : b.toNat = 1 ↔ b = true := by cases b <;> decide
theorem z_bt0 {b : Bool} : b.toNat = 0 ↔ b = false := by cases b <;> decide
section ZST
variable {p : Program} {l : Launch} {e : Env} {R : Room} {s : State} {m : MethodId} {args : Array Value} {below : List Frame} {meth : Method} {c : Code} {H : Heap} {locs : List Loc} {cells slots : Nat} {Q : State → Prop}
variable {cc : ByteArray} {pc nL : Nat} {ls : Array Slot} {rest : List Value} {own : String} {D : va_G} {cI cZ cB cR : ClassId} {A : Nat → Prop} {ws : va_W} {H0 : Heap} {a : Nat}
theorem zbb_eq (hC : CallFix p m c cc nL s args wsU own) {x y : Bool} {off : Int} {tgt : Nat} (hdg : decode cc pc = .ok (.if_icmp .eq off, 3)) (ht : (pc : Int) + off = (tgt : Int)) (kt : x = y → W p l e R s m args below meth c H locs cells slots Q (F0 m tgt ls rest)) (kf : x ≠ y → W p l e R s m args below meth c H locs cells slots Q (F0 m (pc + 3) ls rest)) : W p l e R s m args below meth c H locs cells slots Q (F0 m pc ls (.int (bI y) :: .int (bI x) :: rest)) := lv_icmp_eq hC.1 hC.2.1 hdg ht (fun h => kt (by cases x <;> cases y <;> first | rfl | exact absurd h (by decide))) (fun h => kf (fun q => h (by rw [q])))
theorem zbb_ne (hC : CallFix p m c cc nL s args wsU own) {x y : Bool} {off : Int} {tgt : Nat} (hdg : decode cc pc = .ok (.if_icmp .ne off, 3)) (ht : (pc : Int) + off = (tgt : Int)) (kt : x ≠ y → W p l e R s m args below meth c H locs cells slots Q (F0 m tgt ls rest)) (kf : x = y → W p l e R s m args below meth c H locs cells slots Q (F0 m (pc + 3) ls rest)) : W p l e R s m args below meth c H locs cells slots Q (F0 m pc ls (.int (bI y) :: .int (bI x) :: rest)) := lv_icmp_ne hC.1 hC.2.1 hdg ht (fun h => kt (fun q => h (by rw [q]))) (fun h => kf (by cases x <;> cases y <;> first | rfl | exact absurd h (by decide) | exact absurd (by decide) h))
theorem z_copy (hC : CallFix p m c cc nL s args wsU own) (hK : KK D cI cZ cB cR s) (hP : va_P D vwCl ws H) (hD : va_D A ws) (hS : va_S A H0 H locs) (q0 q1 : Nat) {a0 n0 n1 : Nat} {f g : Nat → Nat} (ha0 : ws[q0]? = some (aI cI a0 n0 f)) (ha1 : ws[q1]? = some (aI cI a n1 g)) {sp dp n : Nat} (h4 : sp + n ≤ n0) (h5 : dp + n ≤ n1) (hb0 : n0 < 2 ^ 31) (hb1 : n1 < 2 ^ 31) (hframes : 1 ≤ R.frames) (hlocals : (rest.map fun v => v.category).sum + (nativeFrameWords "java/lang/System" "arraycopy" 5 + 11) ≤ R.locals) {index : Nat} (hlk : Cond.methodLink own index arraycopyName ∈ wsU) (hsz : ls.size = nL) (hdg : decode cc pc = .ok (.invokestatic index, 3))
    (kk : ∀ (H1 : Heap) (locs1 : List Loc), va_P D vwCl (ws.set q1 (aI cI a n1 (cpyN f g sp dp n))) H1 → va_D A (ws.set q1 (aI cI a n1 (cpyN f g sp dp n))) → va_S A H0 H1 locs1 → W p l e R s m args below meth c H1 locs1 cells slots Q (F0 m (pc + 3) ls rest)) : W p l e R s m args below meth c H locs cells slots Q (F0 m pc ls (.int (nI n) :: .int (nI dp) :: .ref a :: .int (nI sp) :: .ref a0 :: rest)) := by
  obtain ⟨hx, hb, hml, hown, hts⟩ := hC
  have e1 : (nI sp).toNatClampNeg = sp := nI_clamp (by omega)
  have e2 : (nI dp).toNatClampNeg = dp := nI_clamp (by omega)
  have e3 : (nI n).toNatClampNeg = n := nI_clamp (by omega)
  refine va_copyi hx hb (hml.trans hsz.symm) hown (hts _ hlk) (hts _ nX_copy) (hts _ sX_copy) (hts _ iX_System) hK hP hD hS q0 q1 0 0 ha0 ha1 rfl rfl rfl (nI_pos (by omega)) (nI_pos (by omega)) (nI_pos (by omega)) (by rw [e1, e3]; exact h4) (by rw [e2, e3]; exact h5) (fun _ _ => rfl) hframes hlocals hdg ?_
  rw [e1, e2, e3, cpy_nI]
  exact kk
end ZST
