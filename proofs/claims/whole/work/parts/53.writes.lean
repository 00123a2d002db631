/-! calls that write, on both sides -/
theorem PR.img {n : Nat} {lv te la st : Nat → Nat} {mo dn ea bn k c : Nat} {nw nw' : Nat → Nat} {b : Bool} (hn : n ≤ 6) (h : b = true → PR n lv te la mo dn ea bn st k (fun x => nw (c + x))) (hx : ∀ x, 243 ≤ x → nw' x = nw x) (hc : 243 ≤ c) : b = true → PR n lv te la mo dn ea bn st k (fun x => nw' (c + x)) :=
  fun q => (h q).cong hn (fun _ _ => ⟨rfl, rfl, rfl⟩) (fun _ _ => rfl) (fun x _ => (hx _ (by omega)).symm)
theorem cpyI {f g : Nat → Nat} {d : Nat} (h : d < 6) : f d = cpyN f g 0 0 6 d := by
  rw [cpyN_in (by omega), Nat.zero_add, Nat.sub_zero]
theorem cpyJ {f g : Nat → Nat} {d : Nat} (h : d < 220) : f d = cpyN f g 0 0 220 d := by
  rw [cpyN_in (by omega), Nat.zero_add, Nat.sub_zero]
theorem cpy_le {f g : Nat → Nat} {sp c : Nat} (hf : ∀ i, i < 6 → f (sp + i) ≤ c) (hg : ∀ i, g i ≤ c) (i : Nat) : cpyN f g sp 0 6 i ≤ c := by
  unfold cpyN
  split
  · exact hf (i - 0) (by omega)
  · exact hg i
theorem cpy_lt {f g : Nat → Nat} {sp c : Nat} (hf : ∀ i, i < 6 → f (sp + i) < c) (hg : ∀ i, g i < c) (i : Nat) : cpyN f g sp 0 6 i < c := by
  unfold cpyN
  split
  · exact hf (i - 0) (by omega)
  · exact hg i
theorem puS_out {base W9 f : Nat → Nat} {x : Nat} : ∀ k, (∀ j, j < k → W9 j ≠ x) → puS base W9 f k x = base x
  | 0, _ => rfl
  | k + 1, h => by
    show updN (puS base W9 f k) (W9 k) (base (W9 k) - f k) x = _
    rw [updN_n (fun q => h k (by omega) q.symm), puS_out k (fun j hj => h j (by omega))]
theorem i64_add (x a b c : Int64) (h : a + b = c) : x + c = x + a + b := by rw [Int64.add_assoc, h]
theorem i64_add3 (x a b d c : Int64) (h : a + b + d = c) : x + c = x + a + b + d := by rw [Int64.add_assoc, Int64.add_assoc, ← Int64.add_assoc a, h]
theorem i64_add4 (x a b d : Int64) (c : Int64) (h : a + b + d = c) : x + c = x + a + b + d := i64_add3 x a b d c h
set_option maxHeartbeats 4000000 in
set_option maxRecDepth 100000 in
theorem L_type {l : Launch} {D : va_G} {cI cZ cB cR : ClassId} {sa : Nat} {ad am : Nat → Nat} {S : KS} {M : MS} (hR : Rel S M) (c0 : Int32) : LG l D cI cZ cB cR sa yX3_type cX3_type 2 yX4_type cX4_type 2 (some .int) ad am S M [.int c0] := by
  have hR0 := hR
  obtain ⟨kept, td, tr, ⟨len, pl, tk, tA, va, by_⟩, ⟨n, bl, ai, bla, ac, wo, dr⟩, ⟨n2, bl2, ai2, bla2, ac2, wo2, dr2⟩, ⟨mo, dn, ea, bn, k, lv, te, la, st⟩, ⟨mo1, dn1, ea1, bn1, k1, lv1, te1, la1, st1⟩, ⟨mo2, dn2, ea2, bn2, k2, lv2, te2, la2, st2⟩, tnF, twF⟩ := S
  obtain ⟨trM, ty, tdM, at9, sta, sor, val, fau, tx, dc, dl, db, ar, acn, wm, nd, nw, kp, ta, tw, hg⟩ := M
  obtain ⟨⟨e1, e2, e3, e4, e5⟩, ⟨t1, t2, t3⟩, ⟨hn, hac⟩, ⟨hb1, hb2⟩, hB, hB2, ⟨har, hnd, hwm⟩, hP, ⟨hlv, hte, hla6⟩, ⟨i1, i2, i3, i4, i5⟩, ⟨f1, f2, f3, f4, f5⟩⟩ := id hR
  subst e1 e2 e3 e4 e5
  rcases rng9 (w := c0) 0 255 (by decide) (by decide) with ⟨c9, -, hc, rfl⟩ | ⟨h1, h2⟩
  · by_cases hl9 : ty < 150
    · exact LG.mk (S' := (kept, tdM, trM, ((ty + 1), pl, tk, tA, va, (updN by_ ty c9)), ((dc 0), bl, ai, bla, (acn 0), wo, dr), (n2, bl2, ai2, bla2, ac2, wo2, dr2), (mo, dn, ea, bn, k, lv, te, la, st), (mo1, dn1, ea1, bn1, k1, lv1, te1, la1, st1), (mo2, dn2, ea2, bn2, k2, lv2, te2, la2, st2), tnF, twF)) (M' := (trM, (ty + 1), tdM, at9, sta, sor, val, fau, (upd tx ty (nI c9).toInt8.toInt32), dc, dl, db, ar, acn, wm, nd, nw, kp, ta, tw, hg)) (by
          refine ⟨⟨rfl, rfl, rfl, rfl, rfl⟩, ⟨by omega, fun i hi => ?_, updN_lt t3 (by omega)⟩, ⟨hn, hac⟩, ⟨hb1, hb2⟩, hB, hB2, ⟨har, hnd, hwm⟩, hP, ⟨hlv, hte, hla6⟩, ⟨i1, i2, i3, i4, i5⟩, ⟨f1, f2, f3, f4, f5⟩⟩
          show (if i = ty then (nI c9).toInt8.toInt32 else tx i) &&& nI 255 = nI (if i = ty then c9 else by_ i)
          by_cases e : i = ty
          · rw [if_pos e, if_pos e]; exact b_byte c9 (by omega)
          · rw [if_neg e, if_neg e]; exact t2 i (by omega)) (mV_W (c_X3_type (show c9 < 256 by omega) hl9) ⟨by decide, by decide⟩ [0, 1, 2] [ad 0, ad 1, ad 2] rfl (by decide) rfl rfl rfl) (mV_W (c_X4_type (show c9 < 256 by omega) hl9) ⟨by decide, by decide⟩ [0, 1] [am 0, am 1] rfl (by decide) rfl rfl rfl)
    · obtain rfl : ty = 150 := by omega
      exact LG.mk hR0 (mV_R (c_X3_type_full (show c9 < 256 by omega)) ⟨by decide, by decide⟩ [0, 1] rfl) (mV_R (c_X4_type_full (show c9 < 256 by omega)) ⟨by decide, by decide⟩ [0] rfl)
  · exact LG.mk hR0 (mV_R (c_X3_type_bad h1) ⟨by decide, by decide⟩ [0] rfl) (mV_R (c_X4_type_bad h2) ⟨by decide, by decide⟩ [0] rfl)
set_option maxHeartbeats 4000000 in
set_option maxRecDepth 100000 in
theorem L_clear {l : Launch} {D : va_G} {cI cZ cB cR : ClassId} {sa : Nat} {ad am : Nat → Nat} {S : KS} {M : MS} (hR : Rel S M) : LG l D cI cZ cB cR sa yX3_clear cX3_clear 2 yX4_clear cX4_clear 2 (some .int) ad am S M [] := by
  have hR0 := hR
  obtain ⟨kept, td, tr, ⟨len, pl, tk, tA, va, by_⟩, ⟨n, bl, ai, bla, ac, wo, dr⟩, ⟨n2, bl2, ai2, bla2, ac2, wo2, dr2⟩, ⟨mo, dn, ea, bn, k, lv, te, la, st⟩, ⟨mo1, dn1, ea1, bn1, k1, lv1, te1, la1, st1⟩, ⟨mo2, dn2, ea2, bn2, k2, lv2, te2, la2, st2⟩, tnF, twF⟩ := S
  obtain ⟨trM, ty, tdM, at9, sta, sor, val, fau, tx, dc, dl, db, ar, acn, wm, nd, nw, kp, ta, tw, hg⟩ := M
  obtain ⟨⟨e1, e2, e3, e4, e5⟩, ⟨t1, t2, t3⟩, ⟨hn, hac⟩, ⟨hb1, hb2⟩, hB, hB2, ⟨har, hnd, hwm⟩, hP, ⟨hlv, hte, hla6⟩, ⟨i1, i2, i3, i4, i5⟩, ⟨f1, f2, f3, f4, f5⟩⟩ := id hR
  subst e1 e2 e3 e4 e5
  exact LG.mk (S' := (kept, tdM, trM, (0, pl, tk, tA, va, by_), ((dc 0), bl, ai, bla, (acn 0), wo, dr), (n2, bl2, ai2, bla2, ac2, wo2, dr2), (mo, dn, ea, bn, k, lv, te, la, st), (mo1, dn1, ea1, bn1, k1, lv1, te1, la1, st1), (mo2, dn2, ea2, bn2, k2, lv2, te2, la2, st2), tnF, twF)) (M' := (trM, 0, tdM, at9, sta, sor, val, fau, tx, dc, dl, db, ar, acn, wm, nd, nw, kp, ta, tw, hg)) (by
          exact ⟨⟨rfl, rfl, rfl, rfl, rfl⟩, ⟨Nat.zero_le _, fun i hi => absurd hi (Nat.not_lt_zero i), t3⟩, ⟨hn, hac⟩, ⟨hb1, hb2⟩, hB, hB2, ⟨har, hnd, hwm⟩, hP, ⟨hlv, hte, hla6⟩, ⟨i1, i2, i3, i4, i5⟩, ⟨f1, f2, f3, f4, f5⟩⟩) (mV_W (c_X3_clear ) ⟨by decide, by decide⟩ [0, 1] [ad 0, ad 1] rfl (by decide) rfl rfl rfl) (mV_W (c_X4_clear ) ⟨by decide, by decide⟩ [0] [am 0] rfl (by decide) rfl rfl rfl)
set_option maxHeartbeats 4000000 in
set_option maxRecDepth 100000 in
theorem L_forget {l : Launch} {D : va_G} {cI cZ cB cR : ClassId} {sa : Nat} {ad am : Nat → Nat} {S : KS} {M : MS} (hR : Rel S M) : LG l D cI cZ cB cR sa yX3_forget cX3_forget 2 yX4_forget cX4_forget 2 (some .int) ad am S M [] := by
  have hR0 := hR
  obtain ⟨kept, td, tr, ⟨len, pl, tk, tA, va, by_⟩, ⟨n, bl, ai, bla, ac, wo, dr⟩, ⟨n2, bl2, ai2, bla2, ac2, wo2, dr2⟩, ⟨mo, dn, ea, bn, k, lv, te, la, st⟩, ⟨mo1, dn1, ea1, bn1, k1, lv1, te1, la1, st1⟩, ⟨mo2, dn2, ea2, bn2, k2, lv2, te2, la2, st2⟩, tnF, twF⟩ := S
  obtain ⟨trM, ty, tdM, at9, sta, sor, val, fau, tx, dc, dl, db, ar, acn, wm, nd, nw, kp, ta, tw, hg⟩ := M
  obtain ⟨⟨e1, e2, e3, e4, e5⟩, ⟨t1, t2, t3⟩, ⟨hn, hac⟩, ⟨hb1, hb2⟩, hB, hB2, ⟨har, hnd, hwm⟩, hP, ⟨hlv, hte, hla6⟩, ⟨i1, i2, i3, i4, i5⟩, ⟨f1, f2, f3, f4, f5⟩⟩ := id hR
  subst e1 e2 e3 e4 e5
  exact LG.mk (S' := (kept, 0, trM, (ty, pl, tk, tA, va, by_), ((dc 0), bl, ai, bla, (acn 0), wo, dr), (n2, bl2, ai2, bla2, ac2, wo2, dr2), (mo, dn, ea, bn, k, lv, te, la, st), (mo1, dn1, ea1, bn1, k1, lv1, te1, la1, st1), (mo2, dn2, ea2, bn2, k2, lv2, te2, la2, st2), tnF, twF)) (M' := (trM, ty, 0, at9, sta, sor, val, fau, tx, dc, dl, db, ar, acn, wm, nd, nw, kp, ta, tw, hg)) (by
          exact ⟨⟨rfl, rfl, rfl, rfl, rfl⟩, ⟨t1, t2, t3⟩, ⟨hn, hac⟩, ⟨hb1, hb2⟩, hB, hB2, ⟨har, hnd, hwm⟩, hP, ⟨hlv, hte, hla6⟩, ⟨i1, i2, i3, i4, i5⟩, ⟨Nat.zero_le _, fun i hi => absurd hi (Nat.not_lt_zero i), f3, f4, f5⟩⟩) (mV_W (c_X3_forget ) ⟨by decide, by decide⟩ [0] [ad 0] rfl (by decide) rfl rfl rfl) (mV_W (c_X4_forget ) ⟨by decide, by decide⟩ [0] [am 0] rfl (by decide) rfl rfl rfl)
set_option maxHeartbeats 4000000 in
set_option maxRecDepth 100000 in
theorem L_tells {l : Launch} {D : va_G} {cI cZ cB cR : ClassId} {sa : Nat} {ad am : Nat → Nat} {S : KS} {M : MS} (hR : Rel S M) (a9 : Int32) (w9 : Int32) : LG l D cI cZ cB cR sa yX3_tells cX3_tells 3 yX4_tells cX4_tells 3 (some .int) ad am S M [.int a9, .int w9] := by
  have hR0 := hR
  obtain ⟨kept, td, tr, ⟨len, pl, tk, tA, va, by_⟩, ⟨n, bl, ai, bla, ac, wo, dr⟩, ⟨n2, bl2, ai2, bla2, ac2, wo2, dr2⟩, ⟨mo, dn, ea, bn, k, lv, te, la, st⟩, ⟨mo1, dn1, ea1, bn1, k1, lv1, te1, la1, st1⟩, ⟨mo2, dn2, ea2, bn2, k2, lv2, te2, la2, st2⟩, tnF, twF⟩ := S
  obtain ⟨trM, ty, tdM, at9, sta, sor, val, fau, tx, dc, dl, db, ar, acn, wm, nd, nw, kp, ta, tw, hg⟩ := M
  obtain ⟨⟨e1, e2, e3, e4, e5⟩, ⟨t1, t2, t3⟩, ⟨hn, hac⟩, ⟨hb1, hb2⟩, hB, hB2, ⟨har, hnd, hwm⟩, hP, ⟨hlv, hte, hla6⟩, ⟨i1, i2, i3, i4, i5⟩, ⟨f1, f2, f3, f4, f5⟩⟩ := id hR
  subst e1 e2 e3 e4 e5
  obtain ⟨⟨q1, ⟨m1, m2, m3, m4⟩, q3, q4, q5, q6, q7⟩, x1, x2, x3⟩ := id hP
  subst m1 m2 m3 m4 x1
  obtain ⟨W9, w1, w2⟩ := id q5
  obtain ⟨g1, g2, g3, g4, g5⟩ := id hB
  dsimp only at g1 g2 g3 g4 g5
  have hla : ∀ i, i < dc 0 → la i < dc 0 := fun i hi => (w1 i hi).1
  have hlvM : ∀ j, j < 6 → nw j ≤ 40 := fun j hj => (q4 j hj).1
  have hteM : ∀ j, j < 6 → nw (6 + j) ≤ 40 := fun j hj => (q4 j hj).2.1
  have hlbM : ∀ j, j < 6 → nw (12 + j) < 6 := fun j hj => (q4 j hj).2.2
  have hW := hP.1.W w1 w2
  have hl : ∀ d, d < dc 0 → lv d = nw d := fun d hd => (q1 d hd).1
  by_cases hx : vp_in a9 (acn 0)
  · obtain ⟨a, ha, rfl⟩ := vp_in_of hx (by omega)
    rcases n019 (x := w9) with rfl | rfl | ⟨h1, h2⟩
    · by_cases ht : tdM < 6
      · exact LG.mk (S' := (kept, (tdM + 1), trM, (ty, pl, tk, tA, va, by_), ((dc 0), bl, ai, bla, (acn 0), wo, dr), (n2, bl2, ai2, bla2, ac2, wo2, dr2), ((nw 18), (nw 19), (nw 20), (nw 21), (nw 22), lv, te, la, st), (mo1, dn1, ea1, bn1, k1, lv1, te1, la1, st1), (mo2, dn2, ea2, bn2, k2, lv2, te2, la2, st2), (updN tnF tdM (orr (fun i => decide (0 < dr a i)) (dc 0))), (updB twF tdM false))) (M' := (trM, ty, (tdM + 1), at9, sta, sor, val, fau, tx, dc, dl, db, ar, acn, wm, nd, nw, kp, (updN ta tdM a), (updN tw tdM 0), hg)) (by
          refine ⟨⟨rfl, rfl, rfl, rfl, rfl⟩, ⟨t1, t2, t3⟩, ⟨hn, hac⟩, ⟨hb1, hb2⟩, hB, hB2, ⟨har, hnd, hwm⟩, hP, ⟨hlv, hte, hla6⟩, ⟨i1, i2, i3, i4, i5⟩, ⟨by omega, fun k hk => ?_, updN_lt f3 (Nat.lt_of_lt_of_le (orr_lt _ _) (z_powL6 hn)), updN_lt f4 (by omega), updN_lt f5 (by decide)⟩⟩
          by_cases e : k = tdM
          · subst e
            rw [updN_s, updN_s, updN_s, updB_s]
            exact ⟨ha, orr_cong (fun i hi => by rw [(hb2 a ha).2 i hi]), rfl⟩
          · rw [updN_n e, updN_n e, updN_n e, updB_n e]
            exact f2 k (by omega)) (mV_W (c_X3_tells_0 hn hac g5 ha ht) ⟨by decide, by decide⟩ [0, 3, 8, 9, 10, 11, 12, 13, 40, 41] [ad 0, ad 3, ad 8, ad 9, ad 10, ad 11, ad 12, ad 13, ad 40, ad 41] rfl (by decide) rfl rfl rfl) (mV_W (c_X4_tells (w9 := 0) hac ha (by decide) ht) ⟨by decide, by decide⟩ [0, 6, 11, 12] [am 0, am 6, am 11, am 12] rfl (by decide) rfl rfl rfl)
      · obtain rfl : tdM = 6 := by omega
        exact LG.mk hR0 (mV_R (c_X3_tells_full0 hac ha) ⟨by decide, by decide⟩ [0, 3] rfl) (mV_R (c_X4_tells_full (w9 := 0) hac ha (by decide)) ⟨by decide, by decide⟩ [0, 6] rfl)
    · by_cases ht : tdM < 6
      · exact LG.mk (S' := (kept, (tdM + 1), trM, (ty, pl, tk, tA, va, by_), ((dc 0), bl, ai, bla, (acn 0), wo, dr), (n2, bl2, ai2, bla2, ac2, wo2, dr2), ((nw 18), (nw 19), (nw 20), (nw 21), (nw 22), lv, te, la, st), (mo1, dn1, ea1, bn1, k1, lv1, te1, la1, st1), (mo2, dn2, ea2, bn2, k2, lv2, te2, la2, st2), (updN tnF tdM (orr (fun i => decide (0 < dr a i)) (dc 0))), (updB twF tdM true))) (M' := (trM, ty, (tdM + 1), at9, sta, sor, val, fau, tx, dc, dl, db, ar, acn, wm, nd, nw, kp, (updN ta tdM a), (updN tw tdM 1), hg)) (by
          refine ⟨⟨rfl, rfl, rfl, rfl, rfl⟩, ⟨t1, t2, t3⟩, ⟨hn, hac⟩, ⟨hb1, hb2⟩, hB, hB2, ⟨har, hnd, hwm⟩, hP, ⟨hlv, hte, hla6⟩, ⟨i1, i2, i3, i4, i5⟩, ⟨by omega, fun k hk => ?_, updN_lt f3 (Nat.lt_of_lt_of_le (orr_lt _ _) (z_powL6 hn)), updN_lt f4 (by omega), updN_lt f5 (by decide)⟩⟩
          by_cases e : k = tdM
          · subst e
            rw [updN_s, updN_s, updN_s, updB_s]
            exact ⟨ha, orr_cong (fun i hi => by rw [(hb2 a ha).2 i hi]), rfl⟩
          · rw [updN_n e, updN_n e, updN_n e, updB_n e]
            exact f2 k (by omega)) (mV_W (c_X3_tells_1 hn hac g5 ha ht) ⟨by decide, by decide⟩ [0, 3, 8, 9, 10, 11, 12, 13, 40, 41] [ad 0, ad 3, ad 8, ad 9, ad 10, ad 11, ad 12, ad 13, ad 40, ad 41] rfl (by decide) rfl rfl rfl) (mV_W (c_X4_tells (w9 := 1) hac ha (by decide) ht) ⟨by decide, by decide⟩ [0, 6, 11, 12] [am 0, am 6, am 11, am 12] rfl (by decide) rfl rfl rfl)
      · obtain rfl : tdM = 6 := by omega
        exact LG.mk hR0 (mV_R (c_X3_tells_full1 hac ha) ⟨by decide, by decide⟩ [0, 3] rfl) (mV_R (c_X4_tells_full (w9 := 1) hac ha (by decide)) ⟨by decide, by decide⟩ [0, 6] rfl)
    · exact LG.mk hR0 (mV_R (c_X3_tells_badW hac ha h1) ⟨by decide, by decide⟩ [0, 3] rfl) (mV_R (c_X4_tells_badW hac ha h2) ⟨by decide, by decide⟩ [0, 6] rfl)
  · exact LG.mk hR0 (mV_R (c_X3_tells_badA hac hx) ⟨by decide, by decide⟩ [0, 3] rfl) (mV_R (c_X4_tells_badA hac hx) ⟨by decide, by decide⟩ [0, 6] rfl)
