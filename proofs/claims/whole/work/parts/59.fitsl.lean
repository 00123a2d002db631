/-! what fits: on both sides -/
def sqL (n : Nat) (g : Nat → Nat) : Nat → Nat → Nat
  | 0 => blk g 0 6 (fun k => k)
  | i + 1 => nxP n (sqL n g i)
theorem p_first : ∀ n, n < 7 → all6 (fun q => lC ((pSn n).getD 0 0) q == q) = true ∧ (pSn n).length ≤ 720 := by decide +kernel
theorem ways_seq {n : Nat} (hn : n ≤ 6) (g : Nat → Nat) : (1 ≤ (pSn n).length ∧ (pSn n).length ≤ 720) ∧ (∀ i, i < (pSn n).length → ∀ q, q < 6 → sqL n g i q = lC ((pSn n).getD i 0) q) ∧ (∀ i, i + 1 < (pSn n).length → ∃ i0 j0, pvO n (sqL n g i) i0 j0 ∧ sqL n g (i + 1) = nxt n (sqL n g i) i0 j0) ∧
    (n = 0 ∨ (1 ≤ n ∧ ∀ i, i + 1 < n → sqL n g ((pSn n).length - 1) (i + 1) < sqL n g ((pSn n).length - 1) i)) := by
  obtain ⟨t1, t2, t3, t4⟩ := tab9 n hn
  obtain ⟨p1, p2⟩ := p_first n (by omega)
  obtain ⟨c1, c2, c3, c4⟩ := chn_spec hn (pSn n) (sqL n g) t1 (fun q hq => by
    have h1 := blk_in (base := g) (off := 0) (i := 6) (val := fun k => k) hq
    rw [Nat.zero_add] at h1
    show blk g 0 6 (fun k => k) q = _
    rw [h1]
    have h2 := all6_s p1 q hq
    exact (by simpa using h2 : lC ((pSn n).getD 0 0) q = q).symm) (fun _ => rfl)
  refine ⟨⟨c1, p2⟩, c2, fun i hi => ⟨_, _, pvO_of (c3 i hi), rfl⟩, ?_⟩
  by_cases h0 : n = 0
  · exact Or.inl h0
  · refine Or.inr ⟨by omega, fun i hi => ?_⟩
    have h5 := (pvt_spec (h := sqL n g ((pSn n).length - 1)) (n - 1)).1
    rw [c4] at h5
    exact h5 i (Nat.zero_le _) (by omega)
theorem sub_bits {x o9 n : Nat} {P Q : Nat → Bool} (hx : x = orr P n) (ho : o9 = orr Q n) : decide (x ^^^ (x &&& o9) = 0) = decide (∀ d, d < n → P d = true → Q d = true) := by
  apply decide_eq_decide.mpr
  have hb : ∀ d, (x ^^^ (x &&& o9)).testBit d = (decide (d < n) && (P d && !Q d)) := fun d => by
    rw [Nat.testBit_xor, Nat.testBit_and, hx, ho, orr_bit, orr_bit]
    cases decide (d < n) <;> cases P d <;> cases Q d <;> rfl
  constructor
  · intro h d hd hp
    have h1 := hb d
    rw [h, Nat.zero_testBit, decide_eq_true hd, hp] at h1
    cases q : Q d with
    | true => rfl
    | false => rw [q] at h1; cases h1
  · intro h
    apply Nat.eq_of_testBit_eq
    intro d
    rw [hb d, Nat.zero_testBit]
    by_cases hd : d < n
    · rw [decide_eq_true hd, Bool.true_and]
      cases p : P d with
      | false => rfl
      | true => rw [h d hd p]; rfl
    · rw [decide_eq_false hd]; rfl
def tolB (td : Nat) (tnF : Nat → Nat) (twF : Nat → Bool) (ow : Nat) : Bool := decide (∀ i, i < td → decide (tnF i ^^^ (tnF i &&& ow) = 0) = twF i)
def agrB (n off : Nat) (nd h : Nat → Nat) : Bool := decide (∀ d, d < n → nd (off + d) = 0 ∨ h d = d)
def allB (n td : Nat) (nd ta tw h : Nat → Nat) : Bool := decide (∀ k, k < td → agrB n (6 * ta k) nd h = decide (tw k = 1))
theorem agr_own {n off x : Nat} {nd h h2 : Nat → Nat} (hh : ∀ q, q < n → h q = h2 q) (hx : x = orr (fun q => decide (0 < nd (off + q))) n) : decide (x ^^^ (x &&& ownm n h2) = 0) = agrB n off nd h := by
  rw [sub_bits hx (show ownm n h2 = orr (fun q => decide (h2 q = q)) n from rfl)]
  unfold agrB
  apply decide_eq_decide.mpr
  constructor
  · intro a d hd
    by_cases q : nd (off + d) = 0
    · exact Or.inl q
    · refine Or.inr ?_
      rw [hh d hd]
      exact of_decide_eq_true (a d hd (decide_eq_true (by omega)))
  · intro a d hd hp
    have hp := of_decide_eq_true hp
    rcases a d hd with q | q
    · omega
    · rw [hh d hd] at q
      exact decide_eq_true q
theorem all_own {n td : Nat} {nd ta tw h h2 tnF : Nat → Nat} {twF : Nat → Bool} (hh : ∀ q, q < n → h q = h2 q) (hf : ∀ k, k < td → tnF k = orr (fun q => decide (0 < nd (6 * ta k + q))) n ∧ twF k = decide (tw k = 1)) : allB n td nd ta tw h = tolB td tnF twF (ownm n h2) := by
  unfold allB tolB
  apply decide_eq_decide.mpr
  constructor
  · intro a k hk
    rw [agr_own hh (hf k hk).1, (hf k hk).2]
    exact a k hk
  · intro a k hk
    have := a k hk
    rw [agr_own hh (hf k hk).1, (hf k hk).2] at this
    exact this
set_option maxHeartbeats 4000000 in
set_option maxRecDepth 100000 in
theorem L_fits {l : Launch} {D : va_G} {cI cZ cB cR : ClassId} {sa : Nat} {ad am : Nat → Nat} {S : KS} {M : MS} (hR : Rel S M) (d9 : Int32) : LG l D cI cZ cB cR sa yX3_fits cX3_fits 2 yX4_fits cX4_fits 7 (some .int) ad am S M [.int d9] := by
  have hR0 := hR
  obtain ⟨kept, td, tr, ⟨len, pl, tk, tA, va, by_⟩, ⟨n, bl, ai, bla, ac, wo, dr⟩, ⟨n2, bl2, ai2, bla2, ac2, wo2, dr2⟩, ⟨mo, dn, ea, bn, k, lv, te, la, st⟩, ⟨mo1, dn1, ea1, bn1, k1, lv1, te1, la1, st1⟩, ⟨mo2, dn2, ea2, bn2, k2, lv2, te2, la2, st2⟩, tnF, twF⟩ := S
  obtain ⟨trM, ty, tdM, at9, sta, sor, val, fau, tx, dc, dl, db, ar, acn, wm, nd, nw, kp, ta, tw, hg⟩ := M
  obtain ⟨⟨e1, e2, e3, e4, e5⟩, ⟨t1, t2, t3⟩, ⟨hn, hac⟩, ⟨hb1, hb2⟩, hB, hB2, ⟨har, hnd, hwm⟩, hP, ⟨hlv, hte, hla6⟩, ⟨i1, i2, i3, i4, i5⟩, ⟨f1, f2, f3, f4, f5⟩⟩ := id hR
  subst e1 e2 e3 e4 e5
  obtain ⟨s1, s2, s3, s4⟩ := ways_seq (n := dc 0) hn hg
  obtain ⟨t9, u9⟩ := tb_own_s _ _ (tab9 (dc 0) hn).2.1
  have s5 : ∀ i, i < (pSn (dc 0)).length → ∀ j, j < 6 → sqL (dc 0) hg i j < 6 := fun i hi j hj => by rw [s2 i hi j hj]; exact (u9 i hi).2.1 j hj
  have hU : ∀ i, i < (pSn (dc 0)).length → (fun i => allB (dc 0) tdM nd ta tw (sqL (dc 0) hg i)) i = tolB tdM tnF twF ((pMn (dc 0)).getD i 0) := fun i hi => by
    rw [← (u9 i hi).1]
    exact all_own (fun q hq => s2 i hi q (by omega)) (fun k hk => (f2 k hk).2)
  by_cases hm1 : d9 = -1
  · subst hm1
    have hw := ways_all (lab := fun _ => 0) hn hU
    exact LG.mk (S' := (kept, tdM, trM, (ty, pl, tk, tA, va, by_), ((dc 0), bl, ai, bla, (acn 0), wo, dr), (n2, bl2, ai2, bla2, ac2, wo2, dr2), (mo, dn, ea, bn, k, lv, te, la, st), (mo1, dn1, ea1, bn1, k1, lv1, te1, la1, st1), (mo2, dn2, ea2, bn2, k2, lv2, te2, la2, st2), tnF, twF)) (M' := (trM, ty, tdM, at9, sta, sor, val, fau, tx, dc, dl, db, ar, acn, wm, nd, nw, kp, ta, tw, (sqL (dc 0) hg ((pSn (dc 0)).length - 1)))) (by
          exact ⟨⟨rfl, rfl, rfl, rfl, rfl⟩, ⟨t1, t2, t3⟩, ⟨hn, hac⟩, ⟨hb1, hb2⟩, hB, hB2, ⟨har, hnd, hwm⟩, hP, ⟨hlv, hte, hla6⟩, ⟨i1, i2, i3, i4, i5⟩, ⟨f1, f2, f3, f4, f5⟩⟩) (mV_Z (c_X3_fits_all (G := tolB tdM tnF twF) f1 f3 (fun ow _ => decide_eq_true_iff) hn (popc_n (dc 0) (by omega))) ⟨by decide, by decide⟩ [0, 3, 40, 41] rfl) (mV_cast (mV_W (c_X4_fits_all (N9 := (pSn (dc 0)).length) (L9 := sqL (dc 0) hg) (T9 := fun i k => agrB (dc 0) (6 * ta k) nd (sqL (dc 0) hg i)) (U9 := fun i => allB (dc 0) tdM nd ta tw (sqL (dc 0) hg i)) hn hnd f1 f4 f5 s1 rfl s5 s3 s4 (fun i k _ _ => decide_eq_true_iff) (fun i _ => decide_eq_true_iff)) ⟨by decide, by decide⟩ [0, 2, 8, 11, 12, 13] [am 0, am 2, am 8, am 11, am 12, am 13] rfl (by decide) rfl rfl rfl) (by exact nI_congr hw))
  · by_cases hx9 : vp_in d9 (dc 0)
    · obtain ⟨d, hd, rfl⟩ := vp_in_of hx9 (by omega)
      have hw := ways_d (d := d) (lab := fun i => sqL (dc 0) hg i d) hn hd hU (fun i hi => s2 i hi d (by omega))
      exact LG.mk (S' := (kept, tdM, trM, (ty, pl, tk, tA, va, by_), ((dc 0), bl, ai, bla, (acn 0), wo, dr), (n2, bl2, ai2, bla2, ac2, wo2, dr2), (mo, dn, ea, bn, k, lv, te, la, st), (mo1, dn1, ea1, bn1, k1, lv1, te1, la1, st1), (mo2, dn2, ea2, bn2, k2, lv2, te2, la2, st2), tnF, twF)) (M' := (trM, ty, tdM, at9, sta, sor, val, fau, tx, dc, dl, db, ar, acn, wm, nd, nw, kp, ta, tw, (sqL (dc 0) hg ((pSn (dc 0)).length - 1)))) (by
          exact ⟨⟨rfl, rfl, rfl, rfl, rfl⟩, ⟨t1, t2, t3⟩, ⟨hn, hac⟩, ⟨hb1, hb2⟩, hB, hB2, ⟨har, hnd, hwm⟩, hP, ⟨hlv, hte, hla6⟩, ⟨i1, i2, i3, i4, i5⟩, ⟨f1, f2, f3, f4, f5⟩⟩) (mV_Z (c_X3_fits_d (G := tolB tdM tnF twF) f1 f3 (fun ow _ => decide_eq_true_iff) hn (popc_n (dc 0) (by omega)) hd (fun ow => by show (if tolB tdM tnF twF ow = true then noF (dc 0 - popc ow) else 0) ≤ 265; have := noF_le (dc 0 - popc ow); split <;> omega)) ⟨by decide, by decide⟩ [0, 3, 40, 41] rfl) (mV_cast (mV_W (c_X4_fits_d (N9 := (pSn (dc 0)).length) (L9 := sqL (dc 0) hg) (T9 := fun i k => agrB (dc 0) (6 * ta k) nd (sqL (dc 0) hg i)) (U9 := fun i => allB (dc 0) tdM nd ta tw (sqL (dc 0) hg i)) hn hnd f1 f4 f5 s1 rfl s5 s3 s4 (fun i k _ _ => decide_eq_true_iff) (fun i _ => decide_eq_true_iff) hd) ⟨by decide, by decide⟩ [0, 2, 8, 11, 12, 13] [am 0, am 2, am 8, am 11, am 12, am 13] rfl (by decide) rfl rfl rfl) (by exact iv_congr hw))
    · exact LG.mk hR0 (mV_R (c_X3_fits_bad hn hm1 hx9) ⟨by decide, by decide⟩ [0, 3] rfl) (mV_R (c_X4_fits_bad hn hm1 hx9) ⟨by decide, by decide⟩ [0, 2] rfl)
