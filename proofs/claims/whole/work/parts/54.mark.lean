set_option maxHeartbeats 4000000 in
set_option maxRecDepth 100000 in
theorem L_mark {l : Launch} {D : va_G} {cI cZ cB cR : ClassId} {sa : Nat} {ad am : Nat → Nat} {S : KS} {M : MS} (hR : Rel S M) (k0 : Int32) (a9 : Int32) : LG l D cI cZ cB cR sa yX3_mark cX3_mark 3 yX4_mark cX4_mark 6 (some .int) ad am S M [.int k0, .int a9] := by
  have hR0 := hR
  obtain ⟨kept, td, tr, ⟨len, pl, tk, tA, va, by_⟩, ⟨n, bl, ai, bla, ac, wo, dr⟩, ⟨n2, bl2, ai2, bla2, ac2, wo2, dr2⟩, ⟨mo, dn, ea, bn, k, lv, te, la, st⟩, ⟨mo1, dn1, ea1, bn1, k1, lv1, te1, la1, st1⟩, ⟨mo2, dn2, ea2, bn2, k2, lv2, te2, la2, st2⟩, tnF, twF⟩ := S
  obtain ⟨trM, ty, tdM, at9, sta, sor, val, fau, tx, dc, dl, db, ar, acn, wm, nd, nw, kp, ta, tw, hg⟩ := M
  obtain ⟨⟨e1, e2, e3, e4, e5⟩, ⟨t1, t2, t3⟩, ⟨hn, hac⟩, ⟨hb1, hb2⟩, hB, hB2, ⟨har, hnd, hwm⟩, hP, ⟨hlv, hte, hla6⟩, ⟨i1, i2, i3, i4, i5⟩, ⟨f1, f2, f3, f4, f5⟩⟩ := id hR
  subst e1 e2 e3 e4 e5
  obtain ⟨⟨q1, ⟨m1, m2, m3, m4⟩, q3, q4, q5, q6, q7⟩, x1, x2, x3⟩ := id hP
  subst m1 m2 m3 m4 x1
  obtain ⟨W9, w1, w2⟩ := id q5
  obtain ⟨g1, g2, g3, g4, g5⟩ := id hB
  dsimp only at g1 g2 g3 g4 g5
  have hla : ∀ i, i < dc 0 → la i < dc 0 := fun i hi => (w1 i hi).1
  have hlvM : ∀ j, j < 6 → nw j ≤ 40 := fun j hj => (q4 j hj).1
  have hteM : ∀ j, j < 6 → nw (6 + j) ≤ 40 := fun j hj => (q4 j hj).2.1
  have hlbM : ∀ j, j < 6 → nw (12 + j) < 6 := fun j hj => (q4 j hj).2.2
  have hW := hP.1.W w1 w2
  have hl : ∀ d, d < dc 0 → lv d = nw d := fun d hd => (q1 d hd).1
  by_cases hx : vp_in a9 (acn 0)
  · obtain ⟨a, ha, rfl⟩ := vp_in_of hx (by omega)
    have hwo : wo a = wm a := (hb2 a ha).1
    have ho : orr (fun i => decide (0 < dr a i)) (dc 0) = orr (fun i => decide (0 < nd (6 * a + i))) (dc 0) := orr_cong (fun i hi => by rw [(hb2 a ha).2 i hi])
    have hsm : sm (fun i => dr a i) (dc 0) = sm (fun i => nd (6 * a + i)) (dc 0) := sm_cong (fun i hi => (hb2 a ha).2 i hi)
    rcases rng9 (w := k0) 0 5 (by decide) (by decide) with ⟨k9, -, hk, rfl⟩ | ⟨-, h2⟩
    rcases (show k9 = 0 ∨ k9 = 1 ∨ k9 = 2 ∨ k9 = 3 ∨ k9 = 4 ∨ k9 = 5 by omega) with rfl | rfl | rfl | rfl | rfl | rfl
    · exact LG.mk (S' := (kept, tdM, (trM + 1), (ty, pl, tk, tA, va, by_), ((dc 0), bl, ai, bla, (acn 0), wo, dr), (n2, bl2, ai2, bla2, ac2, wo2, dr2), ((nw 18), (nw 19), (nw 20), (nw 21), (nw 22), lv, te, la, st), (mo1, dn1, ea1, bn1, k1, lv1, te1, la1, st1), (mo2, dn2, ea2, bn2, k2, lv2, te2, la2, st2), tnF, twF)) (M' := ((trM + 1), ty, tdM, at9, sta, sor, val, fau, tx, dc, dl, db, ar, acn, wm, nd, nw, kp, ta, tw, hg)) (by
          exact ⟨⟨rfl, rfl, rfl, rfl, rfl⟩, ⟨t1, t2, t3⟩, ⟨hn, hac⟩, ⟨hb1, hb2⟩, hB, hB2, ⟨har, hnd, hwm⟩, hP, ⟨hlv, hte, hla6⟩, ⟨i1, i2, i3, i4, i5⟩, ⟨f1, f2, f3, f4, f5⟩⟩) (mV_W (c_X3_mark_0 hn hac g5 ha) ⟨by decide, by decide⟩ [0, 3, 7, 8, 9, 10, 11, 12, 13, 25] [ad 0, ad 3, ad 7, ad 8, ad 9, ad 10, ad 11, ad 12, ad 13, ad 25] rfl (by decide) rfl rfl rfl) (mV_cast (mV_W (c_X4_mark_0  hac ha hn hnd) ⟨by decide, by decide⟩ [0, 6, 2, 8, 7, 9] [am 0, am 6, am 2, am 8, am 7, am 9] rfl (by decide) rfl rfl rfl) (by rw [hwo]))
    · exact LG.mk (S' := (kept, tdM, (trM + 10 + 1), (ty, pl, tk, tA, va, by_), ((dc 0), bl, ai, bla, (acn 0), wo, dr), (n2, bl2, ai2, bla2, ac2, wo2, dr2), ((nw 18), (nw 19), (nw 20), (nw 21), (nw 22), lv, te, la, st), (mo1, dn1, ea1, bn1, k1, lv1, te1, la1, st1), (mo2, dn2, ea2, bn2, k2, lv2, te2, la2, st2), tnF, twF)) (M' := ((trM + 11), ty, tdM, at9, sta, sor, val, fau, tx, dc, dl, db, ar, acn, wm, nd, nw, kp, ta, tw, hg)) (by
          exact ⟨⟨i64_add _ _ _ _ (by decide), rfl, rfl, rfl, rfl⟩, ⟨t1, t2, t3⟩, ⟨hn, hac⟩, ⟨hb1, hb2⟩, hB, hB2, ⟨har, hnd, hwm⟩, hP, ⟨hlv, hte, hla6⟩, ⟨i1, i2, i3, i4, i5⟩, ⟨f1, f2, f3, f4, f5⟩⟩) (mV_W (c_X3_mark_1 hn hac g5 ha) ⟨by decide, by decide⟩ [0, 3, 7, 8, 9, 10, 11, 12, 13, 25] [ad 0, ad 3, ad 7, ad 8, ad 9, ad 10, ad 11, ad 12, ad 13, ad 25] rfl (by decide) rfl rfl rfl) (mV_cast (mV_W (c_X4_mark_1 (k9 := 11) hac ha hn hnd rfl) ⟨by decide, by decide⟩ [0, 6, 2, 8, 7, 9] [am 0, am 6, am 2, am 8, am 7, am 9] rfl (by decide) rfl rfl rfl) (by rw [hwo, ho]))
    · exact LG.mk (S' := (kept, tdM, (trM + 100 + 1), (ty, pl, tk, tA, va, by_), ((dc 0), bl, ai, bla, (acn 0), wo, dr), (n2, bl2, ai2, bla2, ac2, wo2, dr2), ((nw 18), (nw 19), (nw 20), (nw 21), (nw 22), lv, te, la, st), (mo1, dn1, ea1, bn1, k1, lv1, te1, la1, st1), (mo2, dn2, ea2, bn2, k2, lv2, te2, la2, st2), tnF, twF)) (M' := ((trM + 101), ty, tdM, at9, sta, sor, val, fau, tx, dc, dl, db, ar, acn, wm, nd, nw, kp, ta, tw, hg)) (by
          exact ⟨⟨i64_add _ _ _ _ (by decide), rfl, rfl, rfl, rfl⟩, ⟨t1, t2, t3⟩, ⟨hn, hac⟩, ⟨hb1, hb2⟩, hB, hB2, ⟨har, hnd, hwm⟩, hP, ⟨hlv, hte, hla6⟩, ⟨i1, i2, i3, i4, i5⟩, ⟨f1, f2, f3, f4, f5⟩⟩) (mV_W (c_X3_mark_2 hn hac g5 ha) ⟨by decide, by decide⟩ [0, 3, 7, 8, 9, 10, 11, 12, 13, 25] [ad 0, ad 3, ad 7, ad 8, ad 9, ad 10, ad 11, ad 12, ad 13, ad 25] rfl (by decide) rfl rfl rfl) (mV_cast (mV_W (c_X4_mark_2 (k9 := 101) hac ha hn hnd rfl) ⟨by decide, by decide⟩ [0, 6, 2, 8, 7, 9] [am 0, am 6, am 2, am 8, am 7, am 9] rfl (by decide) rfl rfl rfl) (by rw [hwo, hsm]))
    · exact LG.mk (S' := (kept, tdM, (trM + 1000 + 10 + 1), (ty, pl, tk, tA, va, by_), ((dc 0), bl, ai, bla, (acn 0), wo, dr), (n2, bl2, ai2, bla2, ac2, wo2, dr2), ((nw 18), (nw 19), (nw 20), (nw 21), (nw 22), lv, te, la, st), (mo1, dn1, ea1, bn1, k1, lv1, te1, la1, st1), (mo2, dn2, ea2, bn2, k2, lv2, te2, la2, st2), tnF, twF)) (M' := ((trM + 1011), ty, tdM, at9, sta, sor, val, fau, tx, dc, dl, db, ar, acn, wm, nd, nw, kp, ta, tw, hg)) (by
          exact ⟨⟨i64_add3 _ _ _ _ _ (by decide), rfl, rfl, rfl, rfl⟩, ⟨t1, t2, t3⟩, ⟨hn, hac⟩, ⟨hb1, hb2⟩, hB, hB2, ⟨har, hnd, hwm⟩, hP, ⟨hlv, hte, hla6⟩, ⟨i1, i2, i3, i4, i5⟩, ⟨f1, f2, f3, f4, f5⟩⟩) (mV_W (c_X3_mark_3 hn hac g5 ha) ⟨by decide, by decide⟩ [0, 3, 7, 8, 9, 10, 11, 12, 13, 25] [ad 0, ad 3, ad 7, ad 8, ad 9, ad 10, ad 11, ad 12, ad 13, ad 25] rfl (by decide) rfl rfl rfl) (mV_cast (mV_W (c_X4_mark_3 (k9 := 1011) hac ha hn hnd rfl) ⟨by decide, by decide⟩ [0, 6, 2, 8, 7, 9] [am 0, am 6, am 2, am 8, am 7, am 9] rfl (by decide) rfl rfl rfl) (by rw [hwo, ho, Nat.mul_comm]))
    · exact LG.mk (S' := (kept, tdM, (trM + 10000 + 100 + 1), (ty, pl, tk, tA, va, by_), ((dc 0), bl, ai, bla, (acn 0), wo, dr), (n2, bl2, ai2, bla2, ac2, wo2, dr2), ((nw 18), (nw 19), (nw 20), (nw 21), (nw 22), lv, te, la, st), (mo1, dn1, ea1, bn1, k1, lv1, te1, la1, st1), (mo2, dn2, ea2, bn2, k2, lv2, te2, la2, st2), tnF, twF)) (M' := ((trM + 10101), ty, tdM, at9, sta, sor, val, fau, tx, dc, dl, db, ar, acn, wm, nd, nw, kp, ta, tw, hg)) (by
          exact ⟨⟨i64_add3 _ _ _ _ _ (by decide), rfl, rfl, rfl, rfl⟩, ⟨t1, t2, t3⟩, ⟨hn, hac⟩, ⟨hb1, hb2⟩, hB, hB2, ⟨har, hnd, hwm⟩, hP, ⟨hlv, hte, hla6⟩, ⟨i1, i2, i3, i4, i5⟩, ⟨f1, f2, f3, f4, f5⟩⟩) (mV_W (c_X3_mark_4 (k9 := 10000) hn hac g5 ha rfl) ⟨by decide, by decide⟩ [0, 3, 7, 8, 9, 10, 11, 12, 13, 25] [ad 0, ad 3, ad 7, ad 8, ad 9, ad 10, ad 11, ad 12, ad 13, ad 25] rfl (by decide) rfl rfl rfl) (mV_cast (mV_W (c_X4_mark_4 (k9 := 10101) hac ha hn hnd rfl) ⟨by decide, by decide⟩ [0, 6, 2, 8, 7, 9] [am 0, am 6, am 2, am 8, am 7, am 9] rfl (by decide) rfl rfl rfl) (by rw [hwo, hsm]))
    · exact LG.mk (S' := (kept, tdM, (trM + 100000 + 1), (ty, pl, tk, tA, va, by_), ((dc 0), bl, ai, bla, (acn 0), wo, dr), (n2, bl2, ai2, bla2, ac2, wo2, dr2), ((nw 18), (nw 19), (nw 20), (nw 21), (nw 22), lv, te, la, st), (mo1, dn1, ea1, bn1, k1, lv1, te1, la1, st1), (mo2, dn2, ea2, bn2, k2, lv2, te2, la2, st2), tnF, twF)) (M' := ((trM + 100001), ty, tdM, at9, sta, sor, val, fau, tx, dc, dl, db, ar, acn, wm, nd, nw, kp, ta, tw, hg)) (by
          exact ⟨⟨i64_add _ _ _ _ (by decide), rfl, rfl, rfl, rfl⟩, ⟨t1, t2, t3⟩, ⟨hn, hac⟩, ⟨hb1, hb2⟩, hB, hB2, ⟨har, hnd, hwm⟩, hP, ⟨hlv, hte, hla6⟩, ⟨i1, i2, i3, i4, i5⟩, ⟨f1, f2, f3, f4, f5⟩⟩) (mV_W (c_X3_mark_5 (k9 := 100000) hn hac g5 ha rfl) ⟨by decide, by decide⟩ [0, 3, 7, 8, 9, 10, 11, 12, 13, 25] [ad 0, ad 3, ad 7, ad 8, ad 9, ad 10, ad 11, ad 12, ad 13, ad 25] rfl (by decide) rfl rfl rfl) (mV_cast (mV_W (c_X4_mark_5 (k9 := 100001) hac ha hn hnd rfl) ⟨by decide, by decide⟩ [0, 6, 2, 8, 7, 9] [am 0, am 6, am 2, am 8, am 7, am 9] rfl (by decide) rfl rfl rfl) (by rw [hwo]))
    · have h3 : k0.toInt < 0 ∨ 5 < k0.toInt := by
        rcases swi9 (w := k0) 5 (by decide) with ⟨k9, hk, rfl⟩ | h
        · exact absurd ⟨(nI_leI (by decide) (by omega)).mpr (Nat.zero_le _), (nI_leI (by omega) (by decide)).mpr hk⟩ h2
        · exact h
      exact LG.mk hR0 (mV_R (c_X3_mark_out hac ha h3) ⟨by decide, by decide⟩ [0, 3] rfl) (mV_R (c_X4_mark_out h2) ⟨by decide, by decide⟩ [0] rfl)
  · rcases rng9 (w := k0) 0 5 (by decide) (by decide) with ⟨k9, -, hk, rfl⟩ | ⟨-, h2⟩
    · exact LG.mk hR0 (mV_R (c_X3_mark_badA hac hx) ⟨by decide, by decide⟩ [0, 3] rfl) (mV_R (c_X4_mark_badA (show k9 < 6 by omega) hac hx) ⟨by decide, by decide⟩ [0, 6] rfl)
    · exact LG.mk hR0 (mV_R (c_X3_mark_badA hac hx) ⟨by decide, by decide⟩ [0, 3] rfl) (mV_R (c_X4_mark_out h2) ⟨by decide, by decide⟩ [0] rfl)
