set_option maxHeartbeats 4000000 in
set_option maxRecDepth 100000 in
theorem L_month {l : Launch} {D : va_G} {cI cZ cB cR : ClassId} {sa : Nat} {ad am : Nat → Nat} {S : KS} {M : MS} (hR : Rel S M) : LG l D cI cZ cB cR sa yX3_month cX3_month 2 yX4_month cX4_month 2 (some .int) ad am S M [] := by
  have hR0 := hR
  obtain ⟨kept, td, tr, ⟨len, pl, tk, tA, va, by_⟩, ⟨n, bl, ai, bla, ac, wo, dr⟩, ⟨n2, bl2, ai2, bla2, ac2, wo2, dr2⟩, ⟨mo, dn, ea, bn, k, lv, te, la, st⟩, ⟨mo1, dn1, ea1, bn1, k1, lv1, te1, la1, st1⟩, ⟨mo2, dn2, ea2, bn2, k2, lv2, te2, la2, st2⟩, tnF, twF⟩ := S
  obtain ⟨trM, ty, tdM, at9, sta, sor, val, fau, tx, dc, dl, db, ar, acn, wm, nd, nw, kp, ta, tw, hg⟩ := M
  obtain ⟨⟨e1, e2, e3, e4, e5⟩, ⟨t1, t2, t3⟩, ⟨hn, hac⟩, ⟨hb1, hb2⟩, hB, hB2, ⟨har, hnd, hwm⟩, hP, ⟨hlv, hte, hla6⟩, ⟨i1, i2, i3, i4, i5⟩, ⟨f1, f2, f3, f4, f5⟩⟩ := id hR
  subst e1 e2 e3 e4 e5
  obtain ⟨⟨q1, ⟨m1, m2, m3, m4⟩, q3, q4, q5, q6, q7⟩, x1, x2, x3⟩ := id hP
  subst m1 m2 m3 m4 x1
  obtain ⟨W9, w1, w2⟩ := id q5
  obtain ⟨g1, g2, g3, g4, g5⟩ := id hB
  dsimp only at g1 g2 g3 g4 g5
  have hla : ∀ i, i < dc 0 → la i < dc 0 := fun i hi => (w1 i hi).1
  have hlvM : ∀ j, j < 6 → nw j ≤ 40 := fun j hj => (q4 j hj).1
  have hteM : ∀ j, j < 6 → nw (6 + j) ≤ 40 := fun j hj => (q4 j hj).2.1
  have hlbM : ∀ j, j < 6 → nw (12 + j) < 6 := fun j hj => (q4 j hj).2.2
  have hW := hP.1.W w1 w2
  have hl : ∀ d, d < dc 0 → lv d = nw d := fun d hd => (q1 d hd).1
  by_cases hmo : nw 18 < 999
  · obtain ⟨hS, hx⟩ := month_SN (ai := ai) (ar := ar) (g' := (updN (blk (blk (knF nw) 0 (dc 0) (fun m => nw m - 1 * ar m)) 6 (dc 0) (fun m => min ((blk (knF nw) 0 (dc 0) (fun m => nw m - 1 * ar m)) (6 + m)) ((blk (knF nw) 0 (dc 0) (fun m => nw m - 1 * ar m)) m))) 18 (nw 18 + 1))) hn hP hmo hb1 rfl
    have hhi := now_hi x2 hx
    exact LG.mk (S' := (kept, tdM, trM, (ty, pl, tk, tA, va, by_), ((dc 0), bl, ai, bla, (acn 0), wo, dr), (n2, bl2, ai2, bla2, ac2, wo2, dr2), ((nw 18 + 1), (nw 19), (nw 20), (nw 21), (remK (nw 22)), (lsL lv ai (dc 0)), (lsT te lv ai (dc 0)), la, (remS lv te la (nw 18) (nw 19) (nw 20) (nw 21) st (nw 22))), (mo1, dn1, ea1, bn1, k1, lv1, te1, la1, st1), (mo2, dn2, ea2, bn2, k2, lv2, te2, la2, st2), tnF, twF)) (M' := (trM, ty, tdM, at9, sta, sor, val, fau, tx, dc, dl, db, ar, acn, wm, nd, (updN (blk (blk (knF nw) 0 (dc 0) (fun m => nw m - 1 * ar m)) 6 (dc 0) (fun m => min ((blk (knF nw) 0 (dc 0) (fun m => nw m - 1 * ar m)) (6 + m)) ((blk (knF nw) 0 (dc 0) (fun m => nw m - 1 * ar m)) m))) 18 (nw 18 + 1)), kp, ta, tw, hg)) (by
          exact ⟨⟨rfl, rfl, rfl, rfl, rfl⟩, ⟨t1, t2, t3⟩, ⟨hn, hac⟩, ⟨hb1, hb2⟩, hB, hB2, ⟨har, hnd, hwm⟩, now_PR hn hP hx hS, ⟨lsL_le hlv, lsT_le hte, hla6⟩, ⟨i1, i2, i3, PR.img hn i4 hhi (by decide), PR.img hn i5 hhi (by decide)⟩, ⟨f1, f2, f3, f4, f5⟩⟩) (mV_W (c_X3_month hn hmo hlv hte g2 x2) ⟨by decide, by decide⟩ [0, 3, 25, 26, 27, 28, 29, 5] [ad 0, ad 3, ad 25, ad 26, ad 27, ad 28, ad 29, ad 5] rfl (by decide) rfl rfl rfl) (mV_W (c_X4_month hn hlvM har hteM x2 hmo) ⟨by decide, by decide⟩ [0, 2, 9, 5] [am 0, am 2, am 9, am 5] rfl (by decide) rfl rfl rfl)
  · exact LG.mk hR0 (mV_R (c_X3_month_state (show 999 ≤ nw 18 by omega) (show nw 18 < 100000 by omega)) ⟨by decide, by decide⟩ [0, 25] rfl) (mV_R (c_X4_month_state (show nw 18 = 999 by omega)) ⟨by decide, by decide⟩ [0, 9] rfl)
set_option maxHeartbeats 4000000 in
set_option maxRecDepth 100000 in
theorem L_tops {l : Launch} {D : va_G} {cI cZ cB cR : ClassId} {sa : Nat} {ad am : Nat → Nat} {S : KS} {M : MS} (hR : Rel S M) (d9 : Int32) (n9 : Int32) : LG l D cI cZ cB cR sa yX3_tops cX3_tops 3 yX4_tops cX4_tops 3 (some .int) ad am S M [.int d9, .int n9] := by
  have hR0 := hR
  obtain ⟨kept, td, tr, ⟨len, pl, tk, tA, va, by_⟩, ⟨n, bl, ai, bla, ac, wo, dr⟩, ⟨n2, bl2, ai2, bla2, ac2, wo2, dr2⟩, ⟨mo, dn, ea, bn, k, lv, te, la, st⟩, ⟨mo1, dn1, ea1, bn1, k1, lv1, te1, la1, st1⟩, ⟨mo2, dn2, ea2, bn2, k2, lv2, te2, la2, st2⟩, tnF, twF⟩ := S
  obtain ⟨trM, ty, tdM, at9, sta, sor, val, fau, tx, dc, dl, db, ar, acn, wm, nd, nw, kp, ta, tw, hg⟩ := M
  obtain ⟨⟨e1, e2, e3, e4, e5⟩, ⟨t1, t2, t3⟩, ⟨hn, hac⟩, ⟨hb1, hb2⟩, hB, hB2, ⟨har, hnd, hwm⟩, hP, ⟨hlv, hte, hla6⟩, ⟨i1, i2, i3, i4, i5⟩, ⟨f1, f2, f3, f4, f5⟩⟩ := id hR
  subst e1 e2 e3 e4 e5
  obtain ⟨⟨q1, ⟨m1, m2, m3, m4⟩, q3, q4, q5, q6, q7⟩, x1, x2, x3⟩ := id hP
  subst m1 m2 m3 m4 x1
  obtain ⟨W9, w1, w2⟩ := id q5
  obtain ⟨g1, g2, g3, g4, g5⟩ := id hB
  dsimp only at g1 g2 g3 g4 g5
  have hla : ∀ i, i < dc 0 → la i < dc 0 := fun i hi => (w1 i hi).1
  have hlvM : ∀ j, j < 6 → nw j ≤ 40 := fun j hj => (q4 j hj).1
  have hteM : ∀ j, j < 6 → nw (6 + j) ≤ 40 := fun j hj => (q4 j hj).2.1
  have hlbM : ∀ j, j < 6 → nw (12 + j) < 6 := fun j hj => (q4 j hj).2.2
  have hW := hP.1.W w1 w2
  have hl : ∀ d, d < dc 0 → lv d = nw d := fun d hd => (q1 d hd).1
  by_cases hx9 : vp_in d9 (dc 0)
  · obtain ⟨d, hd, rfl⟩ := vp_in_of hx9 (by omega)
    rcases rng9 (w := n9) 1 40 (by decide) (by decide) with ⟨m9, h1, h2, rfl⟩ | ⟨h1, -⟩
    · have hld := hl d hd
      by_cases hs : lv d + m9 ≤ 40
      · obtain ⟨hS, hx⟩ := tops_SN (g' := (updN (updN (knF nw) d (nw d + m9)) (6 + d) (nw (6 + d) + m9))) hn hP hd hs rfl
        have hhi := now_hi x2 hx
        have hbt : te d + m9 ≤ 40 := by have := (q1 d hd).2.2.2; omega
        exact LG.mk (S' := (kept, tdM, trM, (ty, pl, tk, tA, va, by_), ((dc 0), bl, ai, bla, (acn 0), wo, dr), (n2, bl2, ai2, bla2, ac2, wo2, dr2), ((nw 18), (nw 19), (nw 20), (nw 21), (remK (nw 22)), (updN lv d (lv d + m9)), (updN te d (te d + m9)), la, (remS lv te la (nw 18) (nw 19) (nw 20) (nw 21) st (nw 22))), (mo1, dn1, ea1, bn1, k1, lv1, te1, la1, st1), (mo2, dn2, ea2, bn2, k2, lv2, te2, la2, st2), tnF, twF)) (M' := (trM, ty, tdM, at9, sta, sor, val, fau, tx, dc, dl, db, ar, acn, wm, nd, (updN (updN (knF nw) d (nw d + m9)) (6 + d) (nw (6 + d) + m9)), kp, ta, tw, hg)) (by
          exact ⟨⟨rfl, rfl, rfl, rfl, rfl⟩, ⟨t1, t2, t3⟩, ⟨hn, hac⟩, ⟨hb1, hb2⟩, hB, hB2, ⟨har, hnd, hwm⟩, now_PR hn hP hx hS, ⟨updN_le hlv hs, updN_le hte hbt, hla6⟩, ⟨i1, i2, i3, PR.img hn i4 hhi (by decide), PR.img hn i5 hhi (by decide)⟩, ⟨f1, f2, f3, f4, f5⟩⟩) (mV_W (c_X3_tops hn hd hlv ⟨h1, h2⟩ hs x2) ⟨by decide, by decide⟩ [0, 3, 25, 26, 27, 28, 29] [ad 0, ad 3, ad 25, ad 26, ad 27, ad 28, ad 29] rfl (by decide) rfl rfl rfl) (mV_cast (mV_W (c_X4_tops hn hd hlvM ⟨h1, h2⟩ (show nw d + m9 ≤ 40 by omega) x2) ⟨by decide, by decide⟩ [0, 2, 9] [am 0, am 2, am 9] rfl (by decide) rfl rfl rfl) (by rw [hld]))
      · exact LG.mk hR0 (mV_R (c_X3_tops_state hn hd hlv ⟨h1, h2⟩ (show 40 < lv d + m9 by omega)) ⟨by decide, by decide⟩ [0, 3, 25, 26] rfl) (mV_R (c_X4_tops_state hn hd hlvM ⟨h1, h2⟩ (show 40 < nw d + m9 by omega)) ⟨by decide, by decide⟩ [0, 2, 9] rfl)
    · exact LG.mk hR0 (mV_R (c_X3_tops_badN hn hd h1) ⟨by decide, by decide⟩ [0, 3] rfl) (mV_R (c_X4_tops_badN hn hd h1) ⟨by decide, by decide⟩ [0, 2] rfl)
  · exact LG.mk hR0 (mV_R (c_X3_tops_badD hn hx9) ⟨by decide, by decide⟩ [0, 3] rfl) (mV_R (c_X4_tops_badD hn hx9) ⟨by decide, by decide⟩ [0, 2] rfl)
set_option maxHeartbeats 4000000 in
set_option maxRecDepth 100000 in
theorem L_labels {l : Launch} {D : va_G} {cI cZ cB cR : ClassId} {sa : Nat} {ad am : Nat → Nat} {S : KS} {M : MS} (hR : Rel S M) (d9 : Int32) (f9 : Int32) : LG l D cI cZ cB cR sa yX3_labels cX3_labels 6 yX4_labels cX4_labels 4 (some .int) ad am S M [.int d9, .int f9] := by
  have hR0 := hR
  obtain ⟨kept, td, tr, ⟨len, pl, tk, tA, va, by_⟩, ⟨n, bl, ai, bla, ac, wo, dr⟩, ⟨n2, bl2, ai2, bla2, ac2, wo2, dr2⟩, ⟨mo, dn, ea, bn, k, lv, te, la, st⟩, ⟨mo1, dn1, ea1, bn1, k1, lv1, te1, la1, st1⟩, ⟨mo2, dn2, ea2, bn2, k2, lv2, te2, la2, st2⟩, tnF, twF⟩ := S
  obtain ⟨trM, ty, tdM, at9, sta, sor, val, fau, tx, dc, dl, db, ar, acn, wm, nd, nw, kp, ta, tw, hg⟩ := M
  obtain ⟨⟨e1, e2, e3, e4, e5⟩, ⟨t1, t2, t3⟩, ⟨hn, hac⟩, ⟨hb1, hb2⟩, hB, hB2, ⟨har, hnd, hwm⟩, hP, ⟨hlv, hte, hla6⟩, ⟨i1, i2, i3, i4, i5⟩, ⟨f1, f2, f3, f4, f5⟩⟩ := id hR
  subst e1 e2 e3 e4 e5
  obtain ⟨⟨q1, ⟨m1, m2, m3, m4⟩, q3, q4, q5, q6, q7⟩, x1, x2, x3⟩ := id hP
  subst m1 m2 m3 m4 x1
  obtain ⟨W9, w1, w2⟩ := id q5
  obtain ⟨g1, g2, g3, g4, g5⟩ := id hB
  dsimp only at g1 g2 g3 g4 g5
  have hla : ∀ i, i < dc 0 → la i < dc 0 := fun i hi => (w1 i hi).1
  have hlvM : ∀ j, j < 6 → nw j ≤ 40 := fun j hj => (q4 j hj).1
  have hteM : ∀ j, j < 6 → nw (6 + j) ≤ 40 := fun j hj => (q4 j hj).2.1
  have hlbM : ∀ j, j < 6 → nw (12 + j) < 6 := fun j hj => (q4 j hj).2.2
  have hW := hP.1.W w1 w2
  have hl : ∀ d, d < dc 0 → lv d = nw d := fun d hd => (q1 d hd).1
  by_cases hx9 : vp_in d9 (dc 0)
  · obtain ⟨d, hd, rfl⟩ := vp_in_of hx9 (by omega)
    by_cases hy9 : vp_in f9 (dc 0)
    · obtain ⟨e9, he, rfl⟩ := vp_in_of hy9 (by omega)
      by_cases hde : d = e9
      · subst hde
        exact LG.mk hR0 (mV_R (c_X3_labels_same hn hd) ⟨by decide, by decide⟩ [0, 3] rfl) (mV_R (c_X4_labels_same hn hd) ⟨by decide, by decide⟩ [0, 2] rfl)
      · obtain ⟨hS, hx, hq⟩ := labels_SN (g' := (updN (updN (knF nw) (12 + d) (nw (12 + e9))) (12 + e9) (nw (12 + d)))) hn hP hd he hde rfl
        have hhi := now_hi x2 hx
        exact LG.mk (S' := (kept, tdM, trM, (ty, pl, tk, tA, va, by_), ((dc 0), bl, ai, bla, (acn 0), wo, dr), (n2, bl2, ai2, bla2, ac2, wo2, dr2), ((nw 18), (nw 19), (nw 20), (nw 21), (remK (nw 22)), lv, te, (updN (updN la d (la e9)) e9 (la d)), (remS lv te la (nw 18) (nw 19) (nw 20) (nw 21) st (nw 22))), (mo1, dn1, ea1, bn1, k1, lv1, te1, la1, st1), (mo2, dn2, ea2, bn2, k2, lv2, te2, la2, st2), tnF, twF)) (M' := (trM, ty, tdM, at9, sta, sor, val, fau, tx, dc, dl, db, ar, acn, wm, nd, (updN (updN (knF nw) (12 + d) (nw (12 + e9))) (12 + e9) (nw (12 + d))), kp, ta, tw, hg)) (by
          exact ⟨⟨rfl, rfl, rfl, rfl, rfl⟩, ⟨t1, t2, t3⟩, ⟨hn, hac⟩, ⟨hb1, hb2⟩, hB, hB2, ⟨har, hnd, hwm⟩, now_PR hn hP hx hS, ⟨hlv, hte, updN_lt (updN_lt hla6 (hla6 _)) (hla6 _)⟩, ⟨i1, i2, i3, PR.img hn i4 hhi (by decide), PR.img hn i5 hhi (by decide)⟩, ⟨f1, f2, f3, f4, f5⟩⟩) (mV_W (c_X3_labels hn hd he hde x2 hla6) ⟨by decide, by decide⟩ [0, 3, 25, 26, 27, 28, 29] [ad 0, ad 3, ad 25, ad 26, ad 27, ad 28, ad 29] rfl (by decide) rfl rfl rfl) (mV_cast (mV_W (c_X4_labels hn hd he hde x2 hlbM) ⟨by decide, by decide⟩ [0, 2, 9] [am 0, am 2, am 9] rfl (by decide) rfl rfl rfl) (by exact nI_congr (sm_cong (fun i hi => by rw [hq i hi]))))
    · exact LG.mk hR0 (mV_R (c_X3_labels_badE hn hd hy9) ⟨by decide, by decide⟩ [0, 3] rfl) (mV_R (c_X4_labels_badE hn hd hy9) ⟨by decide, by decide⟩ [0, 2] rfl)
  · exact LG.mk hR0 (mV_R (c_X3_labels_badD hn hx9) ⟨by decide, by decide⟩ [0, 3] rfl) (mV_R (c_X4_labels_badD hn hx9) ⟨by decide, by decide⟩ [0, 2] rfl)
