/-! calls that read, on both sides -/
theorem act3_eq {t b : Bool} {x y : Nat} (h : b = true → x = y) : (some (Value.int (if t || !b then -9 else nI x)) : Option Value) = some (Value.int (if t || !b then -9 else nI y)) := by
  cases b with
  | false => cases t <;> rfl
  | true => rw [h rfl]
set_option maxHeartbeats 4000000 in
set_option maxRecDepth 100000 in
theorem L_decanter {l : Launch} {D : va_G} {cI cZ cB cR : ClassId} {sa : Nat} {ad am : Nat → Nat} {S : KS} {M : MS} (hR : Rel S M) (d9 : Int32) (w9 : Int32) : LG l D cI cZ cB cR sa yX3_decanter cX3_decanter 3 yX4_decanter cX4_decanter 3 (some .int) ad am S M [.int d9, .int w9] := by
  have hR0 := hR
  obtain ⟨kept, td, tr, ⟨len, pl, tk, tA, va, by_⟩, ⟨n, bl, ai, bla, ac, wo, dr⟩, ⟨n2, bl2, ai2, bla2, ac2, wo2, dr2⟩, ⟨mo, dn, ea, bn, k, lv, te, la, st⟩, ⟨mo1, dn1, ea1, bn1, k1, lv1, te1, la1, st1⟩, ⟨mo2, dn2, ea2, bn2, k2, lv2, te2, la2, st2⟩, tnF, twF⟩ := S
  obtain ⟨trM, ty, tdM, at9, sta, sor, val, fau, tx, dc, dl, db, ar, acn, wm, nd, nw, kp, ta, tw, hg⟩ := M
  obtain ⟨⟨e1, e2, e3, e4, e5⟩, ⟨t1, t2, t3⟩, ⟨hn, hac⟩, ⟨hb1, hb2⟩, hB, hB2, ⟨har, hnd, hwm⟩, hP, ⟨hlv, hte, hla6⟩, ⟨i1, i2, i3, i4, i5⟩, ⟨f1, f2, f3, f4, f5⟩⟩ := id hR
  subst e1 e2 e3 e4 e5
  obtain ⟨⟨q1, ⟨m1, m2, m3, m4⟩, q3, q4, q5, q6, q7⟩, x1, x2, x3⟩ := id hP
  subst m1 m2 m3 m4 x1
  obtain ⟨W9, w1, w2⟩ := id q5
  obtain ⟨g1, g2, g3, g4, g5⟩ := id hB
  dsimp only at g1 g2 g3 g4 g5
  have hla : ∀ i, i < dc 0 → la i < dc 0 := fun i hi => (w1 i hi).1
  have hlvM : ∀ j, j < 6 → nw j ≤ 40 := fun j hj => (q4 j hj).1
  have hteM : ∀ j, j < 6 → nw (6 + j) ≤ 40 := fun j hj => (q4 j hj).2.1
  have hlbM : ∀ j, j < 6 → nw (12 + j) < 6 := fun j hj => (q4 j hj).2.2
  have hW := hP.1.W w1 w2
  have hl : ∀ d, d < dc 0 → lv d = nw d := fun d hd => (q1 d hd).1
  by_cases hx : vp_in d9 (dc 0)
  · obtain ⟨d, hd, rfl⟩ := vp_in_of hx (by omega)
    rcases swi9 (w := w9) 4 (by decide) with ⟨k9, hk, rfl⟩ | hwo
    · rcases (show k9 = 0 ∨ k9 = 1 ∨ k9 = 2 ∨ k9 = 3 ∨ k9 = 4 by omega) with rfl | rfl | rfl | rfl | rfl
      · exact LG.mk hR0 (mV_R (c_X3_decanter_0 hn hd) ⟨by decide, by decide⟩ [0, 3, 25, 26] rfl) (mV_cast (mV_R (c_X4_decanter_0 hn hd) ⟨by decide, by decide⟩ [0, 2, 9] rfl) (by rw [(q1 d hd).1]))
      · exact LG.mk hR0 (mV_R (c_X3_decanter_1 hn hd) ⟨by decide, by decide⟩ [0, 3, 5] rfl) (mV_cast (mV_R (c_X4_decanter_1 hn hd) ⟨by decide, by decide⟩ [0, 2, 5] rfl) (by rw [hb1 d hd]))
      · exact LG.mk hR0 (mV_R (c_X3_decanter_2 hn hd) ⟨by decide, by decide⟩ [0, 3, 25, 27] rfl) (mV_cast (mV_R (c_X4_decanter_2 hn hd) ⟨by decide, by decide⟩ [0, 2, 9] rfl) (by rw [(q1 d hd).2.1]))
      · exact LG.mk hR0 (mV_R (c_X3_decanter_3 hn hd) ⟨by decide, by decide⟩ [0, 3, 25, 28] rfl) (mV_cast (mV_R (c_X4_decanter_3 hn hd) ⟨by decide, by decide⟩ [0, 2, 9] rfl) (by rw [(q1 d hd).2.2.1]))
      · exact LG.mk hR0 (mV_R (c_X3_decanter_4 hn hd hlv g2) ⟨by decide, by decide⟩ [0, 3, 5, 25, 26] rfl) (mV_cast (mV_R (c_X4_decanter_4 hn hd hlvM har) ⟨by decide, by decide⟩ [0, 2, 9, 5] rfl) (by rw [(q1 d hd).1, hb1 d hd]))
    · exact LG.mk hR0 (mV_R (c_X3_decanter_out hn hd hwo) ⟨by decide, by decide⟩ [0, 3] rfl) (mV_R (c_X4_decanter_out hn hd hwo) ⟨by decide, by decide⟩ [0, 2] rfl)
  · exact LG.mk hR0 (mV_R (c_X3_decanter_bad hn hx) ⟨by decide, by decide⟩ [0, 3] rfl) (mV_R (c_X4_decanter_bad hn hx) ⟨by decide, by decide⟩ [0, 2] rfl)
set_option maxHeartbeats 4000000 in
set_option maxRecDepth 100000 in
theorem L_act {l : Launch} {D : va_G} {cI cZ cB cR : ClassId} {sa : Nat} {ad am : Nat → Nat} {S : KS} {M : MS} (hR : Rel S M) (a9 : Int32) (w9 : Int32) : LG l D cI cZ cB cR sa yX3_act cX3_act 3 yX4_act cX4_act 3 (some .int) ad am S M [.int a9, .int w9] := by
  have hR0 := hR
  obtain ⟨kept, td, tr, ⟨len, pl, tk, tA, va, by_⟩, ⟨n, bl, ai, bla, ac, wo, dr⟩, ⟨n2, bl2, ai2, bla2, ac2, wo2, dr2⟩, ⟨mo, dn, ea, bn, k, lv, te, la, st⟩, ⟨mo1, dn1, ea1, bn1, k1, lv1, te1, la1, st1⟩, ⟨mo2, dn2, ea2, bn2, k2, lv2, te2, la2, st2⟩, tnF, twF⟩ := S
  obtain ⟨trM, ty, tdM, at9, sta, sor, val, fau, tx, dc, dl, db, ar, acn, wm, nd, nw, kp, ta, tw, hg⟩ := M
  obtain ⟨⟨e1, e2, e3, e4, e5⟩, ⟨t1, t2, t3⟩, ⟨hn, hac⟩, ⟨hb1, hb2⟩, hB, hB2, ⟨har, hnd, hwm⟩, hP, ⟨hlv, hte, hla6⟩, ⟨i1, i2, i3, i4, i5⟩, ⟨f1, f2, f3, f4, f5⟩⟩ := id hR
  subst e1 e2 e3 e4 e5
  obtain ⟨⟨q1, ⟨m1, m2, m3, m4⟩, q3, q4, q5, q6, q7⟩, x1, x2, x3⟩ := id hP
  subst m1 m2 m3 m4 x1
  obtain ⟨W9, w1, w2⟩ := id q5
  obtain ⟨g1, g2, g3, g4, g5⟩ := id hB
  dsimp only at g1 g2 g3 g4 g5
  have hla : ∀ i, i < dc 0 → la i < dc 0 := fun i hi => (w1 i hi).1
  have hlvM : ∀ j, j < 6 → nw j ≤ 40 := fun j hj => (q4 j hj).1
  have hteM : ∀ j, j < 6 → nw (6 + j) ≤ 40 := fun j hj => (q4 j hj).2.1
  have hlbM : ∀ j, j < 6 → nw (12 + j) < 6 := fun j hj => (q4 j hj).2.2
  have hW := hP.1.W w1 w2
  have hl : ∀ d, d < dc 0 → lv d = nw d := fun d hd => (q1 d hd).1
  by_cases hx : vp_in a9 (acn 0)
  · obtain ⟨a, ha, rfl⟩ := vp_in_of hx (by omega)
    rcases swi9 (w := w9) 3 (by decide) with ⟨k9, hk, rfl⟩ | hwo
    · rcases (show k9 = 0 ∨ k9 = 1 ∨ k9 = 2 ∨ k9 = 3 by omega) with rfl | rfl | rfl | rfl
      · exact LG.mk hR0 (mV_R (c_X3_act_0 hac ha) ⟨by decide, by decide⟩ [0, 3, 7] rfl) (mV_cast (mV_R (c_X4_act_0 hac ha) ⟨by decide, by decide⟩ [0, 6, 7] rfl) (by rw [(hb2 a ha).1]))
      · exact LG.mk hR0 (mV_R (c_X3_act_1 hn hac g5 ha) ⟨by decide, by decide⟩ [0, 3, 8, 9, 10, 11, 12, 13] rfl) (mV_cast (mV_R (c_X4_act_1 hac ha hn hnd) ⟨by decide, by decide⟩ [0, 6, 2, 8] rfl) (by rw [orr_cong (P := fun i => decide (0 < dr a i)) (fun i hi => by rw [(hb2 a ha).2 i hi])]))
      · exact LG.mk hR0 (mV_R (c_X3_act_2 hac ha q7) ⟨by decide, by decide⟩ [0, 3, 25] rfl) (mV_R (c_X4_act_2 hac ha q7) ⟨by decide, by decide⟩ [0, 6, 9] rfl)
      · have hlast : canB (dc 0) (fun d => dr a (la d)) lv ai 0 = true → lsc (canB (dc 0) (fun d => dr a (la d)) lv ai) 60 0 = lmin lv ai (fun d => dr a (la d)) (dc 0) := fun h0 => last_eq (fun m _ => decide_eq_true_iff) h0
        exact LG.mk hR0 (mV_R (c_X3_act_3 (E := fun a => canB (dc 0) (fun d => dr a (la d)) lv ai 0) hn hac hla g5 hlv g2 ha (fun a _ => canB_0) q7) ⟨by decide, by decide⟩ [0, 3, 8, 9, 10, 11, 12, 13, 25, 28, 26, 5] rfl) (mV_cast (mV_R (c_X4_act_3 (W9 := W9) (C9 := canB (dc 0) (fun d => dr a (la d)) lv ai) hac ha hn hlvM hlbM har hnd hW (fun m _ => (canB_m (la := la) (da := dr a) w1 w2 hl hb1 (hb2 a ha).2)) q7) ⟨by decide, by decide⟩ [0, 6, 2, 9, 5, 8] rfl) (by exact act3_eq hlast))
    · exact LG.mk hR0 (mV_R (c_X3_act_out hac ha hwo) ⟨by decide, by decide⟩ [0, 3] rfl) (mV_R (c_X4_act_out hac ha hwo) ⟨by decide, by decide⟩ [0, 6] rfl)
  · exact LG.mk hR0 (mV_R (c_X3_act_bad hac hx) ⟨by decide, by decide⟩ [0, 3] rfl) (mV_R (c_X4_act_bad hac hx) ⟨by decide, by decide⟩ [0, 6] rfl)
set_option maxHeartbeats 4000000 in
set_option maxRecDepth 100000 in
theorem L_needs {l : Launch} {D : va_G} {cI cZ cB cR : ClassId} {sa : Nat} {ad am : Nat → Nat} {S : KS} {M : MS} (hR : Rel S M) (a9 : Int32) (d9 : Int32) : LG l D cI cZ cB cR sa yX3_needs cX3_needs 3 yX4_needs cX4_needs 3 (some .int) ad am S M [.int a9, .int d9] := by
  have hR0 := hR
  obtain ⟨kept, td, tr, ⟨len, pl, tk, tA, va, by_⟩, ⟨n, bl, ai, bla, ac, wo, dr⟩, ⟨n2, bl2, ai2, bla2, ac2, wo2, dr2⟩, ⟨mo, dn, ea, bn, k, lv, te, la, st⟩, ⟨mo1, dn1, ea1, bn1, k1, lv1, te1, la1, st1⟩, ⟨mo2, dn2, ea2, bn2, k2, lv2, te2, la2, st2⟩, tnF, twF⟩ := S
  obtain ⟨trM, ty, tdM, at9, sta, sor, val, fau, tx, dc, dl, db, ar, acn, wm, nd, nw, kp, ta, tw, hg⟩ := M
  obtain ⟨⟨e1, e2, e3, e4, e5⟩, ⟨t1, t2, t3⟩, ⟨hn, hac⟩, ⟨hb1, hb2⟩, hB, hB2, ⟨har, hnd, hwm⟩, hP, ⟨hlv, hte, hla6⟩, ⟨i1, i2, i3, i4, i5⟩, ⟨f1, f2, f3, f4, f5⟩⟩ := id hR
  subst e1 e2 e3 e4 e5
  obtain ⟨⟨q1, ⟨m1, m2, m3, m4⟩, q3, q4, q5, q6, q7⟩, x1, x2, x3⟩ := id hP
  subst m1 m2 m3 m4 x1
  obtain ⟨W9, w1, w2⟩ := id q5
  obtain ⟨g1, g2, g3, g4, g5⟩ := id hB
  dsimp only at g1 g2 g3 g4 g5
  have hla : ∀ i, i < dc 0 → la i < dc 0 := fun i hi => (w1 i hi).1
  have hlvM : ∀ j, j < 6 → nw j ≤ 40 := fun j hj => (q4 j hj).1
  have hteM : ∀ j, j < 6 → nw (6 + j) ≤ 40 := fun j hj => (q4 j hj).2.1
  have hlbM : ∀ j, j < 6 → nw (12 + j) < 6 := fun j hj => (q4 j hj).2.2
  have hW := hP.1.W w1 w2
  have hl : ∀ d, d < dc 0 → lv d = nw d := fun d hd => (q1 d hd).1
  by_cases hx : vp_in a9 (acn 0)
  · obtain ⟨a, ha, rfl⟩ := vp_in_of hx (by omega)
    by_cases hy : vp_in d9 (dc 0)
    · obtain ⟨d, hd, rfl⟩ := vp_in_of hy (by omega)
      exact LG.mk hR0 (mV_R (c_X3_needs hn hac ha hd) ⟨by decide, by decide⟩ [0, 3, 8, 9, 10, 11, 12, 13] rfl) (mV_cast (mV_R (c_X4_needs hac ha hn hd) ⟨by decide, by decide⟩ [0, 6, 2, 8] rfl) (by rw [(hb2 a ha).2 d hd]))
    · exact LG.mk hR0 (mV_R (c_X3_needs_badD hn hac ha hy) ⟨by decide, by decide⟩ [0, 3] rfl) (mV_R (c_X4_needs_badD hac ha hn hy) ⟨by decide, by decide⟩ [0, 6, 2] rfl)
  · exact LG.mk hR0 (mV_R (c_X3_needs_badA hac hx) ⟨by decide, by decide⟩ [0, 3] rfl) (mV_R (c_X4_needs_badA hac hx) ⟨by decide, by decide⟩ [0, 6] rfl)
set_option maxHeartbeats 4000000 in
set_option maxRecDepth 100000 in
theorem L_now {l : Launch} {D : va_G} {cI cZ cB cR : ClassId} {sa : Nat} {ad am : Nat → Nat} {S : KS} {M : MS} (hR : Rel S M) (w9 : Int32) : LG l D cI cZ cB cR sa yX3_now cX3_now 2 yX4_now cX4_now 4 (some .int) ad am S M [.int w9] := by
  have hR0 := hR
  obtain ⟨kept, td, tr, ⟨len, pl, tk, tA, va, by_⟩, ⟨n, bl, ai, bla, ac, wo, dr⟩, ⟨n2, bl2, ai2, bla2, ac2, wo2, dr2⟩, ⟨mo, dn, ea, bn, k, lv, te, la, st⟩, ⟨mo1, dn1, ea1, bn1, k1, lv1, te1, la1, st1⟩, ⟨mo2, dn2, ea2, bn2, k2, lv2, te2, la2, st2⟩, tnF, twF⟩ := S
  obtain ⟨trM, ty, tdM, at9, sta, sor, val, fau, tx, dc, dl, db, ar, acn, wm, nd, nw, kp, ta, tw, hg⟩ := M
  obtain ⟨⟨e1, e2, e3, e4, e5⟩, ⟨t1, t2, t3⟩, ⟨hn, hac⟩, ⟨hb1, hb2⟩, hB, hB2, ⟨har, hnd, hwm⟩, hP, ⟨hlv, hte, hla6⟩, ⟨i1, i2, i3, i4, i5⟩, ⟨f1, f2, f3, f4, f5⟩⟩ := id hR
  subst e1 e2 e3 e4 e5
  obtain ⟨⟨q1, ⟨m1, m2, m3, m4⟩, q3, q4, q5, q6, q7⟩, x1, x2, x3⟩ := id hP
  subst m1 m2 m3 m4 x1
  obtain ⟨W9, w1, w2⟩ := id q5
  obtain ⟨g1, g2, g3, g4, g5⟩ := id hB
  dsimp only at g1 g2 g3 g4 g5
  have hla : ∀ i, i < dc 0 → la i < dc 0 := fun i hi => (w1 i hi).1
  have hlvM : ∀ j, j < 6 → nw j ≤ 40 := fun j hj => (q4 j hj).1
  have hteM : ∀ j, j < 6 → nw (6 + j) ≤ 40 := fun j hj => (q4 j hj).2.1
  have hlbM : ∀ j, j < 6 → nw (12 + j) < 6 := fun j hj => (q4 j hj).2.2
  have hW := hP.1.W w1 w2
  have hl : ∀ d, d < dc 0 → lv d = nw d := fun d hd => (q1 d hd).1
  rcases swi9 (w := w9) 5 (by decide) with ⟨k9, hk, rfl⟩ | hwo
  · rcases (show k9 = 0 ∨ k9 = 1 ∨ k9 = 2 ∨ k9 = 3 ∨ k9 = 4 ∨ k9 = 5 by omega) with rfl | rfl | rfl | rfl | rfl | rfl
    · exact LG.mk hR0 (mV_R (c_X3_now_0 ) ⟨by decide, by decide⟩ [0, 25] rfl) (mV_R (c_X4_now_0 ) ⟨by decide, by decide⟩ [0, 9] rfl)
    · exact LG.mk hR0 (mV_R (c_X3_now_1 ) ⟨by decide, by decide⟩ [0, 25] rfl) (mV_R (c_X4_now_1 ) ⟨by decide, by decide⟩ [0, 9] rfl)
    · exact LG.mk hR0 (mV_R (c_X3_now_2 ) ⟨by decide, by decide⟩ [0, 25] rfl) (mV_R (c_X4_now_2 ) ⟨by decide, by decide⟩ [0, 9] rfl)
    · exact LG.mk hR0 (mV_R (c_X3_now_3 ) ⟨by decide, by decide⟩ [0, 25] rfl) (mV_R (c_X4_now_3 ) ⟨by decide, by decide⟩ [0, 9] rfl)
    · exact LG.mk hR0 (mV_R (c_X3_now_4 (E := fun a => canB (dc 0) (fun d => dr a (la d)) lv ai 0) hn hac hla g5 hlv (fun a _ => canB_0) q7) ⟨by decide, by decide⟩ [0, 3, 8, 9, 10, 11, 12, 13, 25, 28, 26] rfl) (mV_R (c_X4_now_4 (W9 := W9) (E := fun a => canB (dc 0) (fun d => dr a (la d)) lv ai 0) hn hac hlvM hlbM har hnd hW q7 (fun a ha => (canB_m (la := la) (da := dr a) w1 w2 hl hb1 (hb2 a ha).2))) ⟨by decide, by decide⟩ [0, 6, 2, 9, 5, 8] rfl)
    · exact LG.mk hR0 (mV_R (c_X3_now_5 hn) ⟨by decide, by decide⟩ [0, 3, 25, 26] rfl) (mV_cast (mV_R (c_X4_now_5 hn) ⟨by decide, by decide⟩ [0, 2, 9] rfl) (by rw [sm_cong (fun i hi => hl i hi)]))
  · exact LG.mk hR0 (mV_R (c_X3_now_out hwo) ⟨by decide, by decide⟩ [0] rfl) (mV_R (c_X4_now_out hwo) ⟨by decide, by decide⟩ [0] rfl)
set_option maxHeartbeats 4000000 in
set_option maxRecDepth 100000 in
theorem L_tray {l : Launch} {D : va_G} {cI cZ cB cR : ClassId} {sa : Nat} {ad am : Nat → Nat} {S : KS} {M : MS} (hR : Rel S M) (w9 : Int32) : LG l D cI cZ cB cR sa yX3_tray cX3_tray 4 yX4_tray cX4_tray 6 (some .int) ad am S M [.int w9] := by
  have hR0 := hR
  obtain ⟨kept, td, tr, ⟨len, pl, tk, tA, va, by_⟩, ⟨n, bl, ai, bla, ac, wo, dr⟩, ⟨n2, bl2, ai2, bla2, ac2, wo2, dr2⟩, ⟨mo, dn, ea, bn, k, lv, te, la, st⟩, ⟨mo1, dn1, ea1, bn1, k1, lv1, te1, la1, st1⟩, ⟨mo2, dn2, ea2, bn2, k2, lv2, te2, la2, st2⟩, tnF, twF⟩ := S
  obtain ⟨trM, ty, tdM, at9, sta, sor, val, fau, tx, dc, dl, db, ar, acn, wm, nd, nw, kp, ta, tw, hg⟩ := M
  obtain ⟨⟨e1, e2, e3, e4, e5⟩, ⟨t1, t2, t3⟩, ⟨hn, hac⟩, ⟨hb1, hb2⟩, hB, hB2, ⟨har, hnd, hwm⟩, hP, ⟨hlv, hte, hla6⟩, ⟨i1, i2, i3, i4, i5⟩, ⟨f1, f2, f3, f4, f5⟩⟩ := id hR
  subst e1 e2 e3 e4 e5
  obtain ⟨⟨q1, ⟨m1, m2, m3, m4⟩, q3, q4, q5, q6, q7⟩, x1, x2, x3⟩ := id hP
  subst m1 m2 m3 m4 x1
  obtain ⟨W9, w1, w2⟩ := id q5
  obtain ⟨g1, g2, g3, g4, g5⟩ := id hB
  dsimp only at g1 g2 g3 g4 g5
  have hla : ∀ i, i < dc 0 → la i < dc 0 := fun i hi => (w1 i hi).1
  have hlvM : ∀ j, j < 6 → nw j ≤ 40 := fun j hj => (q4 j hj).1
  have hteM : ∀ j, j < 6 → nw (6 + j) ≤ 40 := fun j hj => (q4 j hj).2.1
  have hlbM : ∀ j, j < 6 → nw (12 + j) < 6 := fun j hj => (q4 j hj).2.2
  have hW := hP.1.W w1 w2
  have hl : ∀ d, d < dc 0 → lv d = nw d := fun d hd => (q1 d hd).1
  have hw : (fun s9 => sm (fun i => if Nat.testBit s9 i then wo i else 0) (acn 0)) = (fun s9 => sm (fun i => if Nat.testBit s9 i then wm i else 0) (acn 0)) := funext (fun s9 => sm_cong (fun i hi => by rw [(hb2 i hi).1]))
  rcases n019 (x := w9) with rfl | rfl | ⟨h1, h2⟩
  · exact LG.mk hR0 (mV_R (c_X3_tray_0 (E9 := setB (dc 0) (acn 0) dr la lv) hn hac hla g5 hlv (fun s9 _ => setB_c) q7 g4) ⟨by decide, by decide⟩ [0, 3, 8, 9, 10, 11, 12, 13, 25, 28, 26, 7] rfl) (mV_cast (mV_R (c_X4_tray_0 (W9 := W9) (E9 := setB (dc 0) (acn 0) dr la lv) hn hac hlvM hlbM hnd hW q7 (fun s9 _ => setB_m w1 w2 hl (fun a ha => (hb2 a ha).2)) hwm) ⟨by decide, by decide⟩ [0, 6, 2, 9, 8, 7] rfl) (by rw [hw]))
  · exact LG.mk hR0 (mV_R (c_X3_tray_1 (E9 := setB (dc 0) (acn 0) dr la lv) hn hac hla g5 hlv (fun s9 _ => setB_c) q7 g4) ⟨by decide, by decide⟩ [0, 3, 8, 9, 10, 11, 12, 13, 25, 28, 26, 7] rfl) (mV_cast (mV_R (c_X4_tray_1 (W9 := W9) (E9 := setB (dc 0) (acn 0) dr la lv) hn hac hlvM hlbM hnd hW q7 (fun s9 _ => setB_m w1 w2 hl (fun a ha => (hb2 a ha).2)) hwm) ⟨by decide, by decide⟩ [0, 6, 2, 9, 8, 7] rfl) (by rw [hw]; exact nI_congr (congrFun hw _).symm))
  · exact LG.mk hR0 (mV_R (c_X3_tray_bad h1) ⟨by decide, by decide⟩ [0] rfl) (mV_R (c_X4_tray_bad h2) ⟨by decide, by decide⟩ [0] rfl)
set_option maxHeartbeats 4000000 in
set_option maxRecDepth 100000 in
theorem L_right {l : Launch} {D : va_G} {cI cZ cB cR : ClassId} {sa : Nat} {ad am : Nat → Nat} {S : KS} {M : MS} (hR : Rel S M) (w9 : Int32) : LG l D cI cZ cB cR sa yX3_right cX3_right 2 yX4_right cX4_right 7 (some .int) ad am S M [.int w9] := by
  have hR0 := hR
  obtain ⟨kept, td, tr, ⟨len, pl, tk, tA, va, by_⟩, ⟨n, bl, ai, bla, ac, wo, dr⟩, ⟨n2, bl2, ai2, bla2, ac2, wo2, dr2⟩, ⟨mo, dn, ea, bn, k, lv, te, la, st⟩, ⟨mo1, dn1, ea1, bn1, k1, lv1, te1, la1, st1⟩, ⟨mo2, dn2, ea2, bn2, k2, lv2, te2, la2, st2⟩, tnF, twF⟩ := S
  obtain ⟨trM, ty, tdM, at9, sta, sor, val, fau, tx, dc, dl, db, ar, acn, wm, nd, nw, kp, ta, tw, hg⟩ := M
  obtain ⟨⟨e1, e2, e3, e4, e5⟩, ⟨t1, t2, t3⟩, ⟨hn, hac⟩, ⟨hb1, hb2⟩, hB, hB2, ⟨har, hnd, hwm⟩, hP, ⟨hlv, hte, hla6⟩, ⟨i1, i2, i3, i4, i5⟩, ⟨f1, f2, f3, f4, f5⟩⟩ := id hR
  subst e1 e2 e3 e4 e5
  obtain ⟨⟨q1, ⟨m1, m2, m3, m4⟩, q3, q4, q5, q6, q7⟩, x1, x2, x3⟩ := id hP
  subst m1 m2 m3 m4 x1
  obtain ⟨W9, w1, w2⟩ := id q5
  obtain ⟨g1, g2, g3, g4, g5⟩ := id hB
  dsimp only at g1 g2 g3 g4 g5
  have hla : ∀ i, i < dc 0 → la i < dc 0 := fun i hi => (w1 i hi).1
  have hlvM : ∀ j, j < 6 → nw j ≤ 40 := fun j hj => (q4 j hj).1
  have hteM : ∀ j, j < 6 → nw (6 + j) ≤ 40 := fun j hj => (q4 j hj).2.1
  have hlbM : ∀ j, j < 6 → nw (12 + j) < 6 := fun j hj => (q4 j hj).2.2
  have hW := hP.1.W w1 w2
  have hl : ∀ d, d < dc 0 → lv d = nw d := fun d hd => (q1 d hd).1
  have hlb : ∀ i, i < dc 0 → la i = (fun i => nw (12 + i)) i := fun i hi => (q1 i hi).2.2.1
  rcases n019 (x := w9) with rfl | rfl | ⟨h1, h2⟩
  · exact LG.mk hR0 (mV_R (c_X3_right_0 hn hla (fun d hd => rg_lt hn hla _ _ _ hd (by decide))) ⟨by decide, by decide⟩ [0, 3, 25, 28] rfl) (mV_cast (mV_R (c_X4_right_0 hn hlbM) ⟨by decide, by decide⟩ [0, 2, 9] rfl) (by rw [rings_eq hn q5 hlb]))
  · exact LG.mk hR0 (mV_R (c_X3_right_1 hn hla) ⟨by decide, by decide⟩ [0, 3, 25, 28] rfl) (mV_cast (mV_R (c_X4_right_1 hn hlbM) ⟨by decide, by decide⟩ [0, 2, 9] rfl) (by rw [first_eq hlb]))
  · exact LG.mk hR0 (mV_R (c_X3_right_bad h1) ⟨by decide, by decide⟩ [0] rfl) (mV_R (c_X4_right_bad h2) ⟨by decide, by decide⟩ [0] rfl)
set_option maxHeartbeats 4000000 in
set_option maxRecDepth 100000 in
theorem L_share {l : Launch} {D : va_G} {cI cZ cB cR : ClassId} {sa : Nat} {ad am : Nat → Nat} {S : KS} {M : MS} (hR : Rel S M) (w9 : Int32) : LG l D cI cZ cB cR sa yX3_share cX3_share 4 yX4_share cX4_share 7 (some .int) ad am S M [.int w9] := by
  have hR0 := hR
  obtain ⟨kept, td, tr, ⟨len, pl, tk, tA, va, by_⟩, ⟨n, bl, ai, bla, ac, wo, dr⟩, ⟨n2, bl2, ai2, bla2, ac2, wo2, dr2⟩, ⟨mo, dn, ea, bn, k, lv, te, la, st⟩, ⟨mo1, dn1, ea1, bn1, k1, lv1, te1, la1, st1⟩, ⟨mo2, dn2, ea2, bn2, k2, lv2, te2, la2, st2⟩, tnF, twF⟩ := S
  obtain ⟨trM, ty, tdM, at9, sta, sor, val, fau, tx, dc, dl, db, ar, acn, wm, nd, nw, kp, ta, tw, hg⟩ := M
  obtain ⟨⟨e1, e2, e3, e4, e5⟩, ⟨t1, t2, t3⟩, ⟨hn, hac⟩, ⟨hb1, hb2⟩, hB, hB2, ⟨har, hnd, hwm⟩, hP, ⟨hlv, hte, hla6⟩, ⟨i1, i2, i3, i4, i5⟩, ⟨f1, f2, f3, f4, f5⟩⟩ := id hR
  subst e1 e2 e3 e4 e5
  obtain ⟨⟨q1, ⟨m1, m2, m3, m4⟩, q3, q4, q5, q6, q7⟩, x1, x2, x3⟩ := id hP
  subst m1 m2 m3 m4 x1
  obtain ⟨W9, w1, w2⟩ := id q5
  obtain ⟨g1, g2, g3, g4, g5⟩ := id hB
  dsimp only at g1 g2 g3 g4 g5
  have hla : ∀ i, i < dc 0 → la i < dc 0 := fun i hi => (w1 i hi).1
  have hlvM : ∀ j, j < 6 → nw j ≤ 40 := fun j hj => (q4 j hj).1
  have hteM : ∀ j, j < 6 → nw (6 + j) ≤ 40 := fun j hj => (q4 j hj).2.1
  have hlbM : ∀ j, j < 6 → nw (12 + j) < 6 := fun j hj => (q4 j hj).2.2
  have hW := hP.1.W w1 w2
  have hl : ∀ d, d < dc 0 → lv d = nw d := fun d hd => (q1 d hd).1
  have hsh := share_eq (n := dc 0) hl
  rcases n019 (x := w9) with rfl | rfl | ⟨h1, h2⟩
  · exact LG.mk hR0 (mV_R (c_X3_share_0 hn hlv) ⟨by decide, by decide⟩ [0, 3, 25, 26] rfl) (mV_cast (mV_R (c_X4_share_0 hn hlvM) ⟨by decide, by decide⟩ [0, 2, 9] rfl) (by rw [hsh]; rfl))
  · exact LG.mk hR0 (mV_R (c_X3_share_1 hn hlv) ⟨by decide, by decide⟩ [0, 3, 25, 26] rfl) (mV_cast (mV_R (c_X4_share_1 hn hlvM) ⟨by decide, by decide⟩ [0, 2, 9] rfl) (by rw [hsh, dabs_cong hl]; rfl))
  · exact LG.mk hR0 (mV_R (c_X3_share_bad h1) ⟨by decide, by decide⟩ [0] rfl) (mV_R (c_X4_share_bad h2) ⟨by decide, by decide⟩ [0] rfl)
set_option maxHeartbeats 4000000 in
set_option maxRecDepth 100000 in
theorem L_odds {l : Launch} {D : va_G} {cI cZ cB cR : ClassId} {sa : Nat} {ad am : Nat → Nat} {S : KS} {M : MS} (hR : Rel S M) (a9 : Int32) (x9 : Int32) (w9 : Int32) : LG l D cI cZ cB cR sa yX3_odds cX3_odds 7 yX4_odds cX4_odds 9 (some .int) ad am S M [.int a9, .int x9, .int w9] := by
  have hR0 := hR
  obtain ⟨kept, td, tr, ⟨len, pl, tk, tA, va, by_⟩, ⟨n, bl, ai, bla, ac, wo, dr⟩, ⟨n2, bl2, ai2, bla2, ac2, wo2, dr2⟩, ⟨mo, dn, ea, bn, k, lv, te, la, st⟩, ⟨mo1, dn1, ea1, bn1, k1, lv1, te1, la1, st1⟩, ⟨mo2, dn2, ea2, bn2, k2, lv2, te2, la2, st2⟩, tnF, twF⟩ := S
  obtain ⟨trM, ty, tdM, at9, sta, sor, val, fau, tx, dc, dl, db, ar, acn, wm, nd, nw, kp, ta, tw, hg⟩ := M
  obtain ⟨⟨e1, e2, e3, e4, e5⟩, ⟨t1, t2, t3⟩, ⟨hn, hac⟩, ⟨hb1, hb2⟩, hB, hB2, ⟨har, hnd, hwm⟩, hP, ⟨hlv, hte, hla6⟩, ⟨i1, i2, i3, i4, i5⟩, ⟨f1, f2, f3, f4, f5⟩⟩ := id hR
  subst e1 e2 e3 e4 e5
  obtain ⟨⟨q1, ⟨m1, m2, m3, m4⟩, q3, q4, q5, q6, q7⟩, x1, x2, x3⟩ := id hP
  subst m1 m2 m3 m4 x1
  obtain ⟨W9, w1, w2⟩ := id q5
  obtain ⟨g1, g2, g3, g4, g5⟩ := id hB
  dsimp only at g1 g2 g3 g4 g5
  have hla : ∀ i, i < dc 0 → la i < dc 0 := fun i hi => (w1 i hi).1
  have hlvM : ∀ j, j < 6 → nw j ≤ 40 := fun j hj => (q4 j hj).1
  have hteM : ∀ j, j < 6 → nw (6 + j) ≤ 40 := fun j hj => (q4 j hj).2.1
  have hlbM : ∀ j, j < 6 → nw (12 + j) < 6 := fun j hj => (q4 j hj).2.2
  have hW := hP.1.W w1 w2
  have hl : ∀ d, d < dc 0 → lv d = nw d := fun d hd => (q1 d hd).1
  by_cases hx : vp_in a9 (acn 0)
  · obtain ⟨a, ha, rfl⟩ := vp_in_of hx (by omega)
    rcases rng9 (w := x9) 0 10 (by decide) (by decide) with ⟨k9, -, hk, rfl⟩ | ⟨h1, h2⟩
    · rcases n019 (x := w9) with rfl | rfl | ⟨h1, h2⟩
      · cases he : canB (dc 0) (fun d => dr a (la d)) lv ai 0 with
        | false => exact LG.mk hR0 (mV_R (c_X3_odds_no0 (E := fun a => canB (dc 0) (fun d => dr a (la d)) lv ai 0) hn hac hla g5 hlv (fun a _ => canB_0) q7 ha hk he) ⟨by decide, by decide⟩ [0, 3, 8, 9, 10, 11, 12, 13, 25, 28, 26] rfl) (mV_R (c_X4_odds_no0 (W9 := W9) (C9 := canB (dc 0) (fun d => dr a (la d)) lv ai 0) hn hac hlvM hlbM har hnd hW ha hk (canB_m (la := la) (da := dr a) w1 w2 hl hb1 (hb2 a ha).2) he) ⟨by decide, by decide⟩ [0, 6, 2, 9, 5, 8] rfl)
        | true => exact LG.mk hR0 (mV_R (c_X3_odds_yes0 (E := fun a => canB (dc 0) (fun d => dr a (la d)) lv ai 0) hn hac hla g5 hlv (fun a _ => canB_0) q7 ha hk he) ⟨by decide, by decide⟩ [0, 3, 8, 9, 10, 11, 12, 13, 25, 28, 26] rfl) (mV_cast (mV_R (c_X4_odds_yes0 (W9 := W9) (C9 := canB (dc 0) (fun d => dr a (la d)) lv ai 0) hn hac hlvM hlbM har hnd hW ha hk (canB_m (la := la) (da := dr a) w1 w2 hl hb1 (hb2 a ha).2) he) ⟨by decide, by decide⟩ [0, 6, 2, 9, 5, 8] rfl) (by have h7 := odds_eq (f := fun i => nd (6 * a + i)) hn hk; rw [orr_cong (P := fun i => decide (0 < dr a i)) (Q := fun i => decide (0 < nd (6 * a + i))) (fun i hi => by rw [(hb2 a ha).2 i hi])]; exact nI_congr h7.1.symm))
      · cases he : canB (dc 0) (fun d => dr a (la d)) lv ai 0 with
        | false => exact LG.mk hR0 (mV_R (c_X3_odds_no1 (E := fun a => canB (dc 0) (fun d => dr a (la d)) lv ai 0) hn hac hla g5 hlv (fun a _ => canB_0) q7 ha hk he) ⟨by decide, by decide⟩ [0, 3, 8, 9, 10, 11, 12, 13, 25, 28, 26] rfl) (mV_R (c_X4_odds_no1 (W9 := W9) (C9 := canB (dc 0) (fun d => dr a (la d)) lv ai 0) hn hac hlvM hlbM har hnd hW ha hk (canB_m (la := la) (da := dr a) w1 w2 hl hb1 (hb2 a ha).2) he) ⟨by decide, by decide⟩ [0, 6, 2, 9, 5, 8] rfl)
        | true => exact LG.mk hR0 (mV_R (c_X3_odds_yes1 (E := fun a => canB (dc 0) (fun d => dr a (la d)) lv ai 0) hn hac hla g5 hlv (fun a _ => canB_0) q7 ha hk he) ⟨by decide, by decide⟩ [0, 3, 8, 9, 10, 11, 12, 13, 25, 28, 26] rfl) (mV_cast (mV_R (c_X4_odds_yes1 (W9 := W9) (C9 := canB (dc 0) (fun d => dr a (la d)) lv ai 0) hn hac hlvM hlbM har hnd hW ha hk (canB_m (la := la) (da := dr a) w1 w2 hl hb1 (hb2 a ha).2) he) ⟨by decide, by decide⟩ [0, 6, 2, 9, 5, 8] rfl) (by have h7 := odds_eq (f := fun i => nd (6 * a + i)) hn hk; rw [orr_cong (P := fun i => decide (0 < dr a i)) (Q := fun i => decide (0 < nd (6 * a + i))) (fun i hi => by rw [(hb2 a ha).2 i hi])]; exact nI_congr h7.2.symm))
      · exact LG.mk hR0 (mV_R (c_X3_odds_badW hac ha hk h1) ⟨by decide, by decide⟩ [0, 3] rfl) (mV_R (c_X4_odds_badW hac ha hk h2) ⟨by decide, by decide⟩ [0, 6] rfl)
    · exact LG.mk hR0 (mV_R (c_X3_odds_badX hac ha h1) ⟨by decide, by decide⟩ [0, 3] rfl) (mV_R (c_X4_odds_badX hac ha h2) ⟨by decide, by decide⟩ [0, 6] rfl)
  · exact LG.mk hR0 (mV_R (c_X3_odds_badA hac hx) ⟨by decide, by decide⟩ [0, 3] rfl) (mV_R (c_X4_odds_badA hac hx) ⟨by decide, by decide⟩ [0, 6] rfl)
set_option maxHeartbeats 4000000 in
set_option maxRecDepth 100000 in
theorem L_count {l : Launch} {D : va_G} {cI cZ cB cR : ClassId} {sa : Nat} {ad am : Nat → Nat} {S : KS} {M : MS} (hR : Rel S M) (w9 : Int32) : LG l D cI cZ cB cR sa yX3_count cX3_count 2 yX4_count cX4_count 2 (some .int) ad am S M [.int w9] := by
  have hR0 := hR
  obtain ⟨kept, td, tr, ⟨len, pl, tk, tA, va, by_⟩, ⟨n, bl, ai, bla, ac, wo, dr⟩, ⟨n2, bl2, ai2, bla2, ac2, wo2, dr2⟩, ⟨mo, dn, ea, bn, k, lv, te, la, st⟩, ⟨mo1, dn1, ea1, bn1, k1, lv1, te1, la1, st1⟩, ⟨mo2, dn2, ea2, bn2, k2, lv2, te2, la2, st2⟩, tnF, twF⟩ := S
  obtain ⟨trM, ty, tdM, at9, sta, sor, val, fau, tx, dc, dl, db, ar, acn, wm, nd, nw, kp, ta, tw, hg⟩ := M
  obtain ⟨⟨e1, e2, e3, e4, e5⟩, ⟨t1, t2, t3⟩, ⟨hn, hac⟩, ⟨hb1, hb2⟩, hB, hB2, ⟨har, hnd, hwm⟩, hP, ⟨hlv, hte, hla6⟩, ⟨i1, i2, i3, i4, i5⟩, ⟨f1, f2, f3, f4, f5⟩⟩ := id hR
  subst e1 e2 e3 e4 e5
  obtain ⟨⟨q1, ⟨m1, m2, m3, m4⟩, q3, q4, q5, q6, q7⟩, x1, x2, x3⟩ := id hP
  subst m1 m2 m3 m4 x1
  obtain ⟨W9, w1, w2⟩ := id q5
  obtain ⟨g1, g2, g3, g4, g5⟩ := id hB
  dsimp only at g1 g2 g3 g4 g5
  have hla : ∀ i, i < dc 0 → la i < dc 0 := fun i hi => (w1 i hi).1
  have hlvM : ∀ j, j < 6 → nw j ≤ 40 := fun j hj => (q4 j hj).1
  have hteM : ∀ j, j < 6 → nw (6 + j) ≤ 40 := fun j hj => (q4 j hj).2.1
  have hlbM : ∀ j, j < 6 → nw (12 + j) < 6 := fun j hj => (q4 j hj).2.2
  have hW := hP.1.W w1 w2
  have hl : ∀ d, d < dc 0 → lv d = nw d := fun d hd => (q1 d hd).1
  rcases swi9 (w := w9) 4 (by decide) with ⟨k9, hk, rfl⟩ | hwo
  · rcases (show k9 = 0 ∨ k9 = 1 ∨ k9 = 2 ∨ k9 = 3 ∨ k9 = 4 by omega) with rfl | rfl | rfl | rfl | rfl
    · exact LG.mk hR0 (mV_R (c_X3_count_0 ) ⟨by decide, by decide⟩ [0, 3] rfl) (mV_R (c_X4_count_0 ) ⟨by decide, by decide⟩ [0, 2] rfl)
    · exact LG.mk hR0 (mV_R (c_X3_count_1 ) ⟨by decide, by decide⟩ [0, 3] rfl) (mV_R (c_X4_count_1 ) ⟨by decide, by decide⟩ [0, 6] rfl)
    · exact LG.mk hR0 (mV_R (c_X3_count_2 ) ⟨by decide, by decide⟩ [0] rfl) (mV_R (c_X4_count_2 ) ⟨by decide, by decide⟩ [0] rfl)
    · exact LG.mk hR0 (mV_R (c_X3_count_3 ) ⟨by decide, by decide⟩ [0, 25] rfl) (mV_R (c_X4_count_3 ) ⟨by decide, by decide⟩ [0, 9] rfl)
    · exact LG.mk hR0 (mV_R (c_X3_count_4 ) ⟨by decide, by decide⟩ [0, 1] rfl) (mV_R (c_X4_count_4 ) ⟨by decide, by decide⟩ [0] rfl)
  · exact LG.mk hR0 (mV_R (c_X3_count_out hwo) ⟨by decide, by decide⟩ [0] rfl) (mV_R (c_X4_count_out hwo) ⟨by decide, by decide⟩ [0] rfl)
set_option maxHeartbeats 4000000 in
set_option maxRecDepth 100000 in
theorem L_trace {l : Launch} {D : va_G} {cI cZ cB cR : ClassId} {sa : Nat} {ad am : Nat → Nat} {S : KS} {M : MS} (hR : Rel S M) : LG l D cI cZ cB cR sa yX3_trace cX3_trace 1 yX4_trace cX4_trace 1 (some .long) ad am S M [] := by
  have hR0 := hR
  obtain ⟨kept, td, tr, ⟨len, pl, tk, tA, va, by_⟩, ⟨n, bl, ai, bla, ac, wo, dr⟩, ⟨n2, bl2, ai2, bla2, ac2, wo2, dr2⟩, ⟨mo, dn, ea, bn, k, lv, te, la, st⟩, ⟨mo1, dn1, ea1, bn1, k1, lv1, te1, la1, st1⟩, ⟨mo2, dn2, ea2, bn2, k2, lv2, te2, la2, st2⟩, tnF, twF⟩ := S
  obtain ⟨trM, ty, tdM, at9, sta, sor, val, fau, tx, dc, dl, db, ar, acn, wm, nd, nw, kp, ta, tw, hg⟩ := M
  obtain ⟨⟨e1, e2, e3, e4, e5⟩, ⟨t1, t2, t3⟩, ⟨hn, hac⟩, ⟨hb1, hb2⟩, hB, hB2, ⟨har, hnd, hwm⟩, hP, ⟨hlv, hte, hla6⟩, ⟨i1, i2, i3, i4, i5⟩, ⟨f1, f2, f3, f4, f5⟩⟩ := id hR
  subst e1 e2 e3 e4 e5
  obtain ⟨⟨q1, ⟨m1, m2, m3, m4⟩, q3, q4, q5, q6, q7⟩, x1, x2, x3⟩ := id hP
  subst m1 m2 m3 m4 x1
  obtain ⟨W9, w1, w2⟩ := id q5
  obtain ⟨g1, g2, g3, g4, g5⟩ := id hB
  dsimp only at g1 g2 g3 g4 g5
  have hla : ∀ i, i < dc 0 → la i < dc 0 := fun i hi => (w1 i hi).1
  have hlvM : ∀ j, j < 6 → nw j ≤ 40 := fun j hj => (q4 j hj).1
  have hteM : ∀ j, j < 6 → nw (6 + j) ≤ 40 := fun j hj => (q4 j hj).2.1
  have hlbM : ∀ j, j < 6 → nw (12 + j) < 6 := fun j hj => (q4 j hj).2.2
  have hW := hP.1.W w1 w2
  have hl : ∀ d, d < dc 0 → lv d = nw d := fun d hd => (q1 d hd).1
  exact LG.mk hR0 (mV_R (c_X3_trace ) ⟨by decide, by decide⟩ [0] rfl) (mV_R (c_X4_trace ) ⟨by decide, by decide⟩ [0] rfl)
