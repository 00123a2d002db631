set_option maxHeartbeats 4000000 in
set_option maxRecDepth 100000 in
theorem L_pours {l : Launch} {D : va_G} {cI cZ cB cR : ClassId} {sa : Nat} {ad am : Nat → Nat} {S : KS} {M : MS} (hR : Rel S M) (a9 : Int32) : LG l D cI cZ cB cR sa yX3_pours cX3_pours 4 yX4_pours cX4_pours 5 (some .int) ad am S M [.int a9] := by
  have hR0 := hR
  obtain ⟨kept, td, tr, ⟨len, pl, tk, tA, va, by_⟩, ⟨n, bl, ai, bla, ac, wo, dr⟩, ⟨n2, bl2, ai2, bla2, ac2, wo2, dr2⟩, ⟨mo, dn, ea, bn, k, lv, te, la, st⟩, ⟨mo1, dn1, ea1, bn1, k1, lv1, te1, la1, st1⟩, ⟨mo2, dn2, ea2, bn2, k2, lv2, te2, la2, st2⟩, tnF, twF⟩ := S
  obtain ⟨trM, ty, tdM, at9, sta, sor, val, fau, tx, dc, dl, db, ar, acn, wm, nd, nw, kp, ta, tw, hg⟩ := M
  obtain ⟨⟨e1, e2, e3, e4, e5⟩, ⟨t1, t2, t3⟩, ⟨hn, hac⟩, ⟨hb1, hb2⟩, hB, hB2, ⟨har, hnd, hwm⟩, hP, ⟨hlv, hte, hla6⟩, ⟨i1, i2, i3, i4, i5⟩, ⟨f1, f2, f3, f4, f5⟩⟩ := id hR
  subst e1 e2 e3 e4 e5
  obtain ⟨⟨q1, ⟨m1, m2, m3, m4⟩, q3, q4, q5, q6, q7⟩, x1, x2, x3⟩ := id hP
  subst m1 m2 m3 m4 x1
  obtain ⟨W9, w1, w2⟩ := id q5
  obtain ⟨g1, g2, g3, g4, g5⟩ := id hB
  dsimp only at g1 g2 g3 g4 g5
  have hla : ∀ i, i < dc 0 → la i < dc 0 := fun i hi => (w1 i hi).1
  have hlvM : ∀ j, j < 6 → nw j ≤ 40 := fun j hj => (q4 j hj).1
  have hteM : ∀ j, j < 6 → nw (6 + j) ≤ 40 := fun j hj => (q4 j hj).2.1
  have hlbM : ∀ j, j < 6 → nw (12 + j) < 6 := fun j hj => (q4 j hj).2.2
  have hW := hP.1.W w1 w2
  have hl : ∀ d, d < dc 0 → lv d = nw d := fun d hd => (q1 d hd).1
  by_cases hx9 : vp_in a9 (acn 0)
  · obtain ⟨a, ha, rfl⟩ := vp_in_of hx9 (by omega)
    by_cases hst : Nat.testBit (nw 19) a = true ∨ canB (dc 0) (fun d => dr a (la d)) lv ai 0 = false
    · exact LG.mk hR0 (mV_R (c_X3_pours_state (E := fun a => canB (dc 0) (fun d => dr a (la d)) lv ai 0) hn hac hla g5 hlv (fun a _ => canB_0) q7 ha hst) ⟨by decide, by decide⟩ [0, 3, 8, 9, 10, 11, 12, 13, 25, 28, 26] rfl) (mV_R (c_X4_pours_state (W9 := W9) (C9 := canB (dc 0) (fun d => dr a (la d)) lv ai 0) hn hac hlvM hlbM har hnd hW ha q7 (canB_m (la := la) (da := dr a) w1 w2 hl hb1 (hb2 a ha).2) hst) ⟨by decide, by decide⟩ [0, 6, 2, 9, 5, 8] rfl)
    · have h1 : Nat.testBit (nw 19) a = false := by
        cases q : Nat.testBit (nw 19) a with
        | false => rfl
        | true => exact absurd (Or.inl q) hst
      have h2 : canB (dc 0) (fun d => dr a (la d)) lv ai 0 = true := by
        cases q : canB (dc 0) (fun d => dr a (la d)) lv ai 0 with
        | true => rfl
        | false => exact absurd (Or.inr q) hst
      obtain ⟨hS, hx⟩ := pours_SN (W9 := W9) (nd := nd) (f := dr a) (wx := wm a) (b9 := wellB (dc 0) (dr a) la te) (g' := (updN (updN (updN (blk (puS (knF nw) W9 (fun i => nd (6 * a + i)) (dc 0)) 6 (dc 0) (fun m => min ((puS (knF nw) W9 (fun i => nd (6 * a + i)) (dc 0)) (6 + m)) ((puS (knF nw) W9 (fun i => nd (6 * a + i)) (dc 0)) m))) 19 (nw 19 ||| 2 ^ a)) 20 (nw 20 + (if wellB (dc 0) (dr a) la te = true then wm a else 0))) 21 (nw 21 + (if wellB (dc 0) (dr a) la te = true then 0 else 1)))) hn hP w1 w2 (show a < 5 by omega) (hb2 a ha).2 rfl
      have hhi := now_hi x2 hx
      exact LG.mk (S' := (kept, tdM, trM, (ty, pl, tk, tA, va, by_), ((dc 0), bl, ai, bla, (acn 0), wo, dr), (n2, bl2, ai2, bla2, ac2, wo2, dr2), ((nw 18), (nw 19 ||| 2 ^ a), (if wellB (dc 0) (dr a) la te = true then nw 20 + wo a else nw 20), (if wellB (dc 0) (dr a) la te = true then nw 21 else nw 21 + 1), (remK (nw 22)), (lsL lv (fun i => dr a (la i)) (dc 0)), (lsT te lv (fun i => dr a (la i)) (dc 0)), la, (remS lv te la (nw 18) (nw 19) (nw 20) (nw 21) st (nw 22))), (mo1, dn1, ea1, bn1, k1, lv1, te1, la1, st1), (mo2, dn2, ea2, bn2, k2, lv2, te2, la2, st2), tnF, twF)) (M' := (trM, ty, tdM, at9, sta, sor, val, fau, tx, dc, dl, db, ar, acn, wm, nd, (updN (updN (updN (blk (puS (knF nw) W9 (fun i => nd (6 * a + i)) (dc 0)) 6 (dc 0) (fun m => min ((puS (knF nw) W9 (fun i => nd (6 * a + i)) (dc 0)) (6 + m)) ((puS (knF nw) W9 (fun i => nd (6 * a + i)) (dc 0)) m))) 19 (nw 19 ||| 2 ^ a)) 20 (nw 20 + (if wellB (dc 0) (dr a) la te = true then wm a else 0))) 21 (nw 21 + (if wellB (dc 0) (dr a) la te = true then 0 else 1))), kp, ta, tw, hg)) (by
          exact ⟨⟨rfl, rfl, rfl, rfl, rfl⟩, ⟨t1, t2, t3⟩, ⟨hn, hac⟩, ⟨hb1, hb2⟩, hB, hB2, ⟨har, hnd, hwm⟩, now_PR hn hP hx (by rw [(hb2 a ha).1]; exact hS), ⟨lsL_le hlv, lsT_le hte, hla6⟩, ⟨i1, i2, i3, PR.img hn i4 hhi (by decide), PR.img hn i5 hhi (by decide)⟩, ⟨f1, f2, f3, f4, f5⟩⟩) (mV_W (c_X3_pours (g := wellB (dc 0) (dr a) la te) (E := fun a => canB (dc 0) (fun d => dr a (la d)) lv ai 0) hn hac hla g5 hlv hte (fun a _ => canB_0) q7 ha x2 h1 h2 decide_eq_true_iff) ⟨by decide, by decide⟩ [0, 3, 8, 9, 10, 11, 12, 13, 25, 26, 27, 28, 29, 7] [ad 0, ad 3, ad 8, ad 9, ad 10, ad 11, ad 12, ad 13, ad 25, ad 26, ad 27, ad 28, ad 29, ad 7] rfl (by decide) rfl rfl rfl) (mV_W (c_X4_pours (g9 := wellB (dc 0) (dr a) la te) (W9 := W9) (C9 := canB (dc 0) (fun d => dr a (la d)) lv ai 0) hn hac hlvM hlbM har hnd hW ha q7 (canB_m (la := la) (da := dr a) w1 w2 hl hb1 (hb2 a ha).2) hteM x2 h1 h2 (wellB_m w1 w2 (fun d hd => (q1 d hd).2.1) (hb2 a ha).2)) ⟨by decide, by decide⟩ [0, 6, 2, 9, 5, 8, 7] [am 0, am 6, am 2, am 9, am 5, am 8, am 7] rfl (by decide) rfl rfl rfl)
  · exact LG.mk hR0 (mV_R (c_X3_pours_bad hac hx9) ⟨by decide, by decide⟩ [0, 3] rfl) (mV_R (c_X4_pours_bad hac hx9) ⟨by decide, by decide⟩ [0, 6] rfl)
set_option maxHeartbeats 4000000 in
set_option maxRecDepth 100000 in
theorem L_undo {l : Launch} {D : va_G} {cI cZ cB cR : ClassId} {sa : Nat} {ad am : Nat → Nat} {S : KS} {M : MS} (hR : Rel S M) : LG l D cI cZ cB cR sa yX3_undo cX3_undo 1 yX4_undo cX4_undo 2 (some .int) ad am S M [] := by
  have hR0 := hR
  obtain ⟨kept, td, tr, ⟨len, pl, tk, tA, va, by_⟩, ⟨n, bl, ai, bla, ac, wo, dr⟩, ⟨n2, bl2, ai2, bla2, ac2, wo2, dr2⟩, ⟨mo, dn, ea, bn, k, lv, te, la, st⟩, ⟨mo1, dn1, ea1, bn1, k1, lv1, te1, la1, st1⟩, ⟨mo2, dn2, ea2, bn2, k2, lv2, te2, la2, st2⟩, tnF, twF⟩ := S
  obtain ⟨trM, ty, tdM, at9, sta, sor, val, fau, tx, dc, dl, db, ar, acn, wm, nd, nw, kp, ta, tw, hg⟩ := M
  obtain ⟨⟨e1, e2, e3, e4, e5⟩, ⟨t1, t2, t3⟩, ⟨hn, hac⟩, ⟨hb1, hb2⟩, hB, hB2, ⟨har, hnd, hwm⟩, hP, ⟨hlv, hte, hla6⟩, ⟨i1, i2, i3, i4, i5⟩, ⟨f1, f2, f3, f4, f5⟩⟩ := id hR
  subst e1 e2 e3 e4 e5
  have hk1 : k = nw 22 := hP.2.1
  have hk2 : k ≤ 10 := hP.2.2.1
  by_cases hk : k = 0
  · subst hk
    exact LG.mk hR0 (mV_R (c_X3_undo_state ) ⟨by decide, by decide⟩ [0, 25] rfl) (mV_R (c_X4_undo_state hk1.symm) ⟨by decide, by decide⟩ [0, 9] rfl)
  · have hk0 : 0 < k := by omega
    have hu := hP.undo hn hk0
    have hq := hu.1.2.2.1
    have hj := (hP.2.2.2 (k - 1) (by omega)).2.2.1
    have hhi : ∀ x, 243 ≤ x → (blk (updN nw 22 (nw 22 - 1)) 0 22 (fun m => nw (23 + 22 * (nw 22 - 1) + m))) x = nw x := fun x hx => by rw [blk_hi (by omega), updN_n (by omega)]
    exact LG.mk (S' := (kept, tdM, trM, (ty, pl, tk, tA, va, by_), ((dc 0), bl, ai, bla, (acn 0), wo, dr), (n2, bl2, ai2, bla2, ac2, wo2, dr2), ((st ((k - 1) * 22 + 18)), (st ((k - 1) * 22 + 18 + 1)), (st ((k - 1) * 22 + 18 + 2)), (st ((k - 1) * 22 + 18 + 3)), (k - 1), (cpyN st lv ((k - 1) * 22) 0 6), (cpyN st te ((k - 1) * 22 + 6) 0 6), (cpyN st la ((k - 1) * 22 + 12) 0 6), st), (mo1, dn1, ea1, bn1, k1, lv1, te1, la1, st1), (mo2, dn2, ea2, bn2, k2, lv2, te2, la2, st2), tnF, twF)) (M' := (trM, ty, tdM, at9, sta, sor, val, fau, tx, dc, dl, db, ar, acn, wm, nd, (blk (updN nw 22 (nw 22 - 1)) 0 22 (fun m => nw (23 + 22 * (nw 22 - 1) + m))), kp, ta, tw, hg)) (by
          exact ⟨⟨rfl, rfl, rfl, rfl, rfl⟩, ⟨t1, t2, t3⟩, ⟨hn, hac⟩, ⟨hb1, hb2⟩, hB, hB2, ⟨har, hnd, hwm⟩, hu, ⟨cpy_le (fun i hi => (hj i hi).1) hlv, cpy_le (fun i hi => (hj i hi).2.1) hte, cpy_lt (fun i hi => (hj i hi).2.2) hla6⟩, ⟨i1, i2, i3, PR.img hn i4 hhi (by decide), PR.img hn i5 hhi (by decide)⟩, ⟨f1, f2, f3, f4, f5⟩⟩) (mV_W (c_X3_undo hk0 hk2) ⟨by decide, by decide⟩ [0, 25, 26, 27, 28, 29] [ad 0, ad 25, ad 26, ad 27, ad 28, ad 29] rfl (by decide) rfl rfl rfl) (mV_cast (mV_W (c_X4_undo (show 0 < nw 22 by omega) (show nw 22 ≤ 10 by omega)) ⟨by decide, by decide⟩ [0, 9] [am 0, am 9] rfl (by decide) rfl rfl rfl) (by rw [← hk1]))
