set_option maxHeartbeats 4000000 in
set_option maxRecDepth 100000 in
theorem L_keep {l : Launch} {D : va_G} {cI cZ cB cR : ClassId} {sa : Nat} {ad am : Nat → Nat} {S : KS} {M : MS} (hR : Rel S M) (w9 : Int32) : LG l D cI cZ cB cR sa yX3_keep cX3_keep 2 yX4_keep cX4_keep 3 (some .int) ad am S M [.int w9] := by
  have hR0 := hR
  obtain ⟨kept, td, tr, ⟨len, pl, tk, tA, va, by_⟩, ⟨n, bl, ai, bla, ac, wo, dr⟩, ⟨n2, bl2, ai2, bla2, ac2, wo2, dr2⟩, ⟨mo, dn, ea, bn, k, lv, te, la, st⟩, ⟨mo1, dn1, ea1, bn1, k1, lv1, te1, la1, st1⟩, ⟨mo2, dn2, ea2, bn2, k2, lv2, te2, la2, st2⟩, tnF, twF⟩ := S
  obtain ⟨trM, ty, tdM, at9, sta, sor, val, fau, tx, dc, dl, db, ar, acn, wm, nd, nw, kp, ta, tw, hg⟩ := M
  obtain ⟨⟨e1, e2, e3, e4, e5⟩, ⟨t1, t2, t3⟩, ⟨hn, hac⟩, ⟨hb1, hb2⟩, hB, hB2, ⟨har, hnd, hwm⟩, hP, ⟨hlv, hte, hla6⟩, ⟨i1, i2, i3, i4, i5⟩, ⟨f1, f2, f3, f4, f5⟩⟩ := id hR
  subst e1 e2 e3 e4 e5
  obtain ⟨⟨q1, ⟨m1, m2, m3, m4⟩, q3, q4, q5, q6, q7⟩, x1, x2, x3⟩ := id hP
  subst m1 m2 m3 m4 x1
  obtain ⟨W9, w1, w2⟩ := id q5
  obtain ⟨g1, g2, g3, g4, g5⟩ := id hB
  dsimp only at g1 g2 g3 g4 g5
  have hla : ∀ i, i < dc 0 → la i < dc 0 := fun i hi => (w1 i hi).1
  have hlvM : ∀ j, j < 6 → nw j ≤ 40 := fun j hj => (q4 j hj).1
  have hteM : ∀ j, j < 6 → nw (6 + j) ≤ 40 := fun j hj => (q4 j hj).2.1
  have hlbM : ∀ j, j < 6 → nw (12 + j) < 6 := fun j hj => (q4 j hj).2.2
  have hW := hP.1.W w1 w2
  have hl : ∀ d, d < dc 0 → lv d = nw d := fun d hd => (q1 d hd).1
  rcases n019 (x := w9) with rfl | rfl | ⟨h1, h2⟩
  · exact LG.mk (S' := ((kept ||| 2 ^ 0), tdM, trM, (ty, pl, tk, tA, va, by_), ((dc 0), bl, ai, bla, (acn 0), wo, dr), (n2, bl2, ai2, bla2, ac2, wo2, dr2), ((nw 18), (nw 19), (nw 20), (nw 21), (nw 22), lv, te, la, st), ((nw 18), (nw 19), (nw 20), (nw 21), (nw 22), (cpyN lv lv1 0 0 6), (cpyN te te1 0 0 6), (cpyN la la1 0 0 6), (cpyN st st1 0 0 220)), (mo2, dn2, ea2, bn2, k2, lv2, te2, la2, st2), tnF, twF)) (M' := (trM, ty, tdM, at9, sta, sor, val, fau, tx, dc, dl, db, ar, acn, wm, nd, (blk nw (243 * (1 + 0)) 243 nw), (updB kp 0 true), ta, tw, hg)) (by
          exact ⟨⟨rfl, rfl, rfl, rfl, rfl⟩, ⟨t1, t2, t3⟩, ⟨hn, hac⟩, ⟨hb1, hb2⟩, hB, hB2, ⟨har, hnd, hwm⟩, hP.cong hn (fun _ _ => ⟨rfl, rfl, rfl⟩) (fun _ _ => rfl) (fun x hx => (blk_lo (by omega)).symm), ⟨hlv, hte, hla6⟩, ⟨by rw [show (4 : Nat) = 2 ^ 2 from rfl]; exact Nat.or_lt_two_pow i1 (by decide), by rw [Nat.testBit_or, z_pow_bit, updB_s]; simp, by rw [Nat.testBit_or, z_pow_bit, updB_n (by decide)]; simp [i3], (fun _ => hP.cong hn (fun d hd => ⟨cpyI hd, cpyI hd, cpyI hd⟩) (fun x hx => cpyJ hx) (fun x hx => (blk_in hx).symm)), (fun h => (i5 (by rw [← h]; exact (updB_n (by decide)).symm)).cong hn (fun _ _ => ⟨rfl, rfl, rfl⟩) (fun _ _ => rfl) (fun x hx => by exact (blk_hi (by omega)).symm))⟩, ⟨f1, f2, f3, f4, f5⟩⟩) (mV_W (c_X3_keep_0 ) ⟨by decide, by decide⟩ [0, 25, 26, 27, 28, 29, 30, 31, 32, 33, 34] [ad 0, ad 25, ad 26, ad 27, ad 28, ad 29, ad 30, ad 31, ad 32, ad 33, ad 34] rfl (by decide) rfl rfl rfl) (mV_W (c_X4_keep (im := 0) (by decide)) ⟨by decide, by decide⟩ [0, 9, 10] [am 0, am 9, am 10] rfl (by decide) rfl rfl rfl)
  · exact LG.mk (S' := ((kept ||| 2 ^ 1), tdM, trM, (ty, pl, tk, tA, va, by_), ((dc 0), bl, ai, bla, (acn 0), wo, dr), (n2, bl2, ai2, bla2, ac2, wo2, dr2), ((nw 18), (nw 19), (nw 20), (nw 21), (nw 22), lv, te, la, st), (mo1, dn1, ea1, bn1, k1, lv1, te1, la1, st1), ((nw 18), (nw 19), (nw 20), (nw 21), (nw 22), (cpyN lv lv2 0 0 6), (cpyN te te2 0 0 6), (cpyN la la2 0 0 6), (cpyN st st2 0 0 220)), tnF, twF)) (M' := (trM, ty, tdM, at9, sta, sor, val, fau, tx, dc, dl, db, ar, acn, wm, nd, (blk nw (243 * (1 + 1)) 243 nw), (updB kp 1 true), ta, tw, hg)) (by
          exact ⟨⟨rfl, rfl, rfl, rfl, rfl⟩, ⟨t1, t2, t3⟩, ⟨hn, hac⟩, ⟨hb1, hb2⟩, hB, hB2, ⟨har, hnd, hwm⟩, hP.cong hn (fun _ _ => ⟨rfl, rfl, rfl⟩) (fun _ _ => rfl) (fun x hx => (blk_lo (by omega)).symm), ⟨hlv, hte, hla6⟩, ⟨by rw [show (4 : Nat) = 2 ^ 2 from rfl]; exact Nat.or_lt_two_pow i1 (by decide), by rw [Nat.testBit_or, z_pow_bit, updB_n (by decide)]; simp [i2], by rw [Nat.testBit_or, z_pow_bit, updB_s]; simp, (fun h => (i4 (by rw [← h]; exact (updB_n (by decide)).symm)).cong hn (fun _ _ => ⟨rfl, rfl, rfl⟩) (fun _ _ => rfl) (fun x hx => by exact (blk_lo (by omega)).symm)), (fun _ => hP.cong hn (fun d hd => ⟨cpyI hd, cpyI hd, cpyI hd⟩) (fun x hx => cpyJ hx) (fun x hx => (blk_in hx).symm))⟩, ⟨f1, f2, f3, f4, f5⟩⟩) (mV_W (c_X3_keep_1 ) ⟨by decide, by decide⟩ [0, 25, 26, 27, 28, 29, 35, 36, 37, 38, 39] [ad 0, ad 25, ad 26, ad 27, ad 28, ad 29, ad 35, ad 36, ad 37, ad 38, ad 39] rfl (by decide) rfl rfl rfl) (mV_W (c_X4_keep (im := 1) (by decide)) ⟨by decide, by decide⟩ [0, 9, 10] [am 0, am 9, am 10] rfl (by decide) rfl rfl rfl)
  · exact LG.mk hR0 (mV_R (c_X3_keep_bad h1) ⟨by decide, by decide⟩ [0] rfl) (mV_R (c_X4_keep_bad h2) ⟨by decide, by decide⟩ [0] rfl)
set_option maxHeartbeats 4000000 in
set_option maxRecDepth 100000 in
theorem L_back {l : Launch} {D : va_G} {cI cZ cB cR : ClassId} {sa : Nat} {ad am : Nat → Nat} {S : KS} {M : MS} (hR : Rel S M) (w9 : Int32) : LG l D cI cZ cB cR sa yX3_back cX3_back 2 yX4_back cX4_back 3 (some .int) ad am S M [.int w9] := by
  have hR0 := hR
  obtain ⟨kept, td, tr, ⟨len, pl, tk, tA, va, by_⟩, ⟨n, bl, ai, bla, ac, wo, dr⟩, ⟨n2, bl2, ai2, bla2, ac2, wo2, dr2⟩, ⟨mo, dn, ea, bn, k, lv, te, la, st⟩, ⟨mo1, dn1, ea1, bn1, k1, lv1, te1, la1, st1⟩, ⟨mo2, dn2, ea2, bn2, k2, lv2, te2, la2, st2⟩, tnF, twF⟩ := S
  obtain ⟨trM, ty, tdM, at9, sta, sor, val, fau, tx, dc, dl, db, ar, acn, wm, nd, nw, kp, ta, tw, hg⟩ := M
  obtain ⟨⟨e1, e2, e3, e4, e5⟩, ⟨t1, t2, t3⟩, ⟨hn, hac⟩, ⟨hb1, hb2⟩, hB, hB2, ⟨har, hnd, hwm⟩, hP, ⟨hlv, hte, hla6⟩, ⟨i1, i2, i3, i4, i5⟩, ⟨f1, f2, f3, f4, f5⟩⟩ := id hR
  subst e1 e2 e3 e4 e5
  obtain ⟨⟨q1, ⟨m1, m2, m3, m4⟩, q3, q4, q5, q6, q7⟩, x1, x2, x3⟩ := id hP
  subst m1 m2 m3 m4 x1
  obtain ⟨W9, w1, w2⟩ := id q5
  obtain ⟨g1, g2, g3, g4, g5⟩ := id hB
  dsimp only at g1 g2 g3 g4 g5
  have hla : ∀ i, i < dc 0 → la i < dc 0 := fun i hi => (w1 i hi).1
  have hlvM : ∀ j, j < 6 → nw j ≤ 40 := fun j hj => (q4 j hj).1
  have hteM : ∀ j, j < 6 → nw (6 + j) ≤ 40 := fun j hj => (q4 j hj).2.1
  have hlbM : ∀ j, j < 6 → nw (12 + j) < 6 := fun j hj => (q4 j hj).2.2
  have hW := hP.1.W w1 w2
  have hl : ∀ d, d < dc 0 → lv d = nw d := fun d hd => (q1 d hd).1
  rcases n019 (x := w9) with rfl | rfl | ⟨h1, h2⟩
  · cases hkp : kp 0 with
    | false => exact LG.mk hR0 (mV_R (c_X3_back_state0 i1 (i2.trans hkp)) ⟨by decide, by decide⟩ [0] rfl) (mV_R (c_X4_back_state (im := 0) (by decide) hkp) ⟨by decide, by decide⟩ [0, 10] rfl)
    | true =>
      have hJ := i4 hkp
      have hx : ∀ x, 243 ≤ x → (blk nw 0 243 (fun m => nw (243 * (1 + 0) + m))) x = nw x := fun x hx => blk_hi (by omega)
      have hlo : ∀ x, x < 243 → (fun x => nw (243 + x)) x = (blk nw 0 243 (fun m => nw (243 * (1 + 0) + m))) x := fun x hx => by
        have h1 := blk_in (base := nw) (off := 0) (i := 243) (val := fun m => nw (243 * (1 + 0) + m)) hx
        rw [Nat.zero_add] at h1
        exact h1.symm
      exact LG.mk (S' := (kept, tdM, trM, (ty, pl, tk, tA, va, by_), ((dc 0), bl, ai, bla, (acn 0), wo, dr), (n2, bl2, ai2, bla2, ac2, wo2, dr2), (mo1, dn1, ea1, bn1, k1, (cpyN lv1 lv 0 0 6), (cpyN te1 te 0 0 6), (cpyN la1 la 0 0 6), (cpyN st1 st 0 0 220)), (mo1, dn1, ea1, bn1, k1, lv1, te1, la1, st1), (mo2, dn2, ea2, bn2, k2, lv2, te2, la2, st2), tnF, twF)) (M' := (trM, ty, tdM, at9, sta, sor, val, fau, tx, dc, dl, db, ar, acn, wm, nd, (blk nw 0 243 (fun m => nw (243 * (1 + 0) + m))), kp, ta, tw, hg)) (by
          exact ⟨⟨rfl, rfl, rfl, rfl, rfl⟩, ⟨t1, t2, t3⟩, ⟨hn, hac⟩, ⟨hb1, hb2⟩, hB, hB2, ⟨har, hnd, hwm⟩, hJ.cong hn (fun d hd => ⟨cpyI hd, cpyI hd, cpyI hd⟩) (fun x hx => cpyJ hx) hlo, ⟨cpy_le (fun i hi => by rw [Nat.zero_add]; exact (hJ.1.2.2.1 i hi).1) hlv, cpy_le (fun i hi => by rw [Nat.zero_add]; exact (hJ.1.2.2.1 i hi).2.1) hte, cpy_lt (fun i hi => by rw [Nat.zero_add]; exact (hJ.1.2.2.1 i hi).2.2) hla6⟩, ⟨i1, i2, i3, PR.img hn i4 hx (by decide), PR.img hn i5 hx (by decide)⟩, ⟨f1, f2, f3, f4, f5⟩⟩) (mV_W (c_X3_back_0 i1 (i2.trans hkp)) ⟨by decide, by decide⟩ [0, 25, 26, 27, 28, 29, 30, 31, 32, 33, 34] [ad 0, ad 25, ad 26, ad 27, ad 28, ad 29, ad 30, ad 31, ad 32, ad 33, ad 34] rfl (by decide) rfl rfl rfl) (mV_cast (mV_W (c_X4_back (im := 0) (by decide) hkp) ⟨by decide, by decide⟩ [0, 9, 10] [am 0, am 9, am 10] rfl (by decide) rfl rfl rfl) (by rw [show mo1 = nw (243 * (1 + 0) + 18) from hJ.1.2.1.1]))
  · cases hkp : kp 1 with
    | false => exact LG.mk hR0 (mV_R (c_X3_back_state1 i1 (i3.trans hkp)) ⟨by decide, by decide⟩ [0] rfl) (mV_R (c_X4_back_state (im := 1) (by decide) hkp) ⟨by decide, by decide⟩ [0, 10] rfl)
    | true =>
      have hJ := i5 hkp
      have hx : ∀ x, 243 ≤ x → (blk nw 0 243 (fun m => nw (243 * (1 + 1) + m))) x = nw x := fun x hx => blk_hi (by omega)
      have hlo : ∀ x, x < 243 → (fun x => nw (486 + x)) x = (blk nw 0 243 (fun m => nw (243 * (1 + 1) + m))) x := fun x hx => by
        have h1 := blk_in (base := nw) (off := 0) (i := 243) (val := fun m => nw (243 * (1 + 1) + m)) hx
        rw [Nat.zero_add] at h1
        exact h1.symm
      exact LG.mk (S' := (kept, tdM, trM, (ty, pl, tk, tA, va, by_), ((dc 0), bl, ai, bla, (acn 0), wo, dr), (n2, bl2, ai2, bla2, ac2, wo2, dr2), (mo2, dn2, ea2, bn2, k2, (cpyN lv2 lv 0 0 6), (cpyN te2 te 0 0 6), (cpyN la2 la 0 0 6), (cpyN st2 st 0 0 220)), (mo1, dn1, ea1, bn1, k1, lv1, te1, la1, st1), (mo2, dn2, ea2, bn2, k2, lv2, te2, la2, st2), tnF, twF)) (M' := (trM, ty, tdM, at9, sta, sor, val, fau, tx, dc, dl, db, ar, acn, wm, nd, (blk nw 0 243 (fun m => nw (243 * (1 + 1) + m))), kp, ta, tw, hg)) (by
          exact ⟨⟨rfl, rfl, rfl, rfl, rfl⟩, ⟨t1, t2, t3⟩, ⟨hn, hac⟩, ⟨hb1, hb2⟩, hB, hB2, ⟨har, hnd, hwm⟩, hJ.cong hn (fun d hd => ⟨cpyI hd, cpyI hd, cpyI hd⟩) (fun x hx => cpyJ hx) hlo, ⟨cpy_le (fun i hi => by rw [Nat.zero_add]; exact (hJ.1.2.2.1 i hi).1) hlv, cpy_le (fun i hi => by rw [Nat.zero_add]; exact (hJ.1.2.2.1 i hi).2.1) hte, cpy_lt (fun i hi => by rw [Nat.zero_add]; exact (hJ.1.2.2.1 i hi).2.2) hla6⟩, ⟨i1, i2, i3, PR.img hn i4 hx (by decide), PR.img hn i5 hx (by decide)⟩, ⟨f1, f2, f3, f4, f5⟩⟩) (mV_W (c_X3_back_1 i1 (i3.trans hkp)) ⟨by decide, by decide⟩ [0, 25, 26, 27, 28, 29, 35, 36, 37, 38, 39] [ad 0, ad 25, ad 26, ad 27, ad 28, ad 29, ad 35, ad 36, ad 37, ad 38, ad 39] rfl (by decide) rfl rfl rfl) (mV_cast (mV_W (c_X4_back (im := 1) (by decide) hkp) ⟨by decide, by decide⟩ [0, 9, 10] [am 0, am 9, am 10] rfl (by decide) rfl rfl rfl) (by rw [show mo2 = nw (243 * (1 + 1) + 18) from hJ.1.2.1.1]))
  · exact LG.mk hR0 (mV_R (c_X3_back_bad h1) ⟨by decide, by decide⟩ [0] rfl) (mV_R (c_X4_back_bad h2) ⟨by decide, by decide⟩ [0] rfl)
