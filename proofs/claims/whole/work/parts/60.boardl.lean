/-! a text becomes a sideboard, on both sides -/
theorem frm_rel {dc acn dl db ar wm nd : Nat → Nat} {X : Xd} (h : FRM (updN dc 1 0, updN acn 1 0, dl, db, ar, wm, nd) X) : X.1 0 = dc 0 ∧ X.2.1 0 = acn 0 ∧ (∀ i, i < 6 → X.2.2.2.2.1 i = ar i) ∧ (∀ i, i < 5 → X.2.2.2.2.2.1 i = wm i) ∧ (∀ i, i < 30 → X.2.2.2.2.2.2 i = nd i) ∧ ∀ i, X.2.2.2.2.2.2 i ≤ 9 := by
  obtain ⟨h1, h2, h3, h4, h5, h6⟩ := h
  refine ⟨h1.trans ?_, h2.trans ?_, h3, h4, h5, h6⟩
  · show updN dc 1 0 0 = dc 0
    exact updN_n (by decide)
  · show updN acn 1 0 0 = acn 0
    exact updN_n (by decide)
theorem tdN_at {base dl db : Nat → Nat} : ∀ n, n ≤ 6 → (∀ d, d < n → tdN base dl db n d = dl d ∧ tdN base dl db n (12 + d) = db d) ∧ ∀ x, ¬ x < n → ¬ (12 ≤ x ∧ x < 12 + n) → tdN base dl db n x = base x
  | 0, _ => ⟨fun d hd => absurd hd (Nat.not_lt_zero d), fun _ _ _ => rfl⟩
  | n + 1, hn => by
    obtain ⟨a, b⟩ := tdN_at (base := base) (dl := dl) (db := db) n (by omega)
    refine ⟨fun d hd => ?_, fun x h1 h2 => ?_⟩
    · rw [tdN_s]
      by_cases e : d = n
      · subst e
        rw [updN_n (show d ≠ 12 + d by omega), updN_s, updN_s]
        exact ⟨rfl, rfl⟩
      · rw [updN_n (show d ≠ 12 + n by omega), updN_n e, updN_n (show 12 + d ≠ 12 + n by omega), updN_n (show 12 + d ≠ n by omega)]
        exact a d (by omega)
    · rw [tdN_s, updN_n (by omega), updN_n (by omega)]
      exact b x (by omega) (by omega)
theorem good_rel {D : Bds} {X : Xd} {lv te la st nw : Nat → Nat} (h : DRX D X) (hB : BOK D) (har : ∀ i, i < 6 → X.2.2.2.2.1 i ≤ 5) (hnd : ∀ i, X.2.2.2.2.2.2 i ≤ 9) :
    (∀ d, d < D.1 → D.2.2.1 d = blk X.2.2.2.2.1 0 (X.1 1) (fun m => X.2.2.2.2.1 (6 + m)) d) ∧ (∀ a, a < D.2.2.2.2.1 → D.2.2.2.2.2.1 a = blk X.2.2.2.2.2.1 0 (X.2.1 1) (fun m => X.2.2.2.2.2.1 (5 + m)) a ∧ ∀ q, q < D.1 → D.2.2.2.2.2.2 a q = blk X.2.2.2.2.2.2 0 (6 * X.2.1 1) (fun m => X.2.2.2.2.2.2 (30 + m)) (6 * a + q)) ∧
    (∀ i, i < 6 → blk X.2.2.2.2.1 0 (X.1 1) (fun m => X.2.2.2.2.1 (6 + m)) i ≤ 5) ∧ (∀ i, blk X.2.2.2.2.2.2 0 (6 * X.2.1 1) (fun m => X.2.2.2.2.2.2 (30 + m)) i ≤ 9) ∧ (∀ i, i < D.2.2.2.2.1 → blk X.2.2.2.2.2.1 0 (X.2.1 1) (fun m => X.2.2.2.2.2.1 (5 + m)) i ≤ 99) ∧
    PR D.1 (cpyN D.2.1 lv 0 0 6) (cpyN (fun _ => 0) te 0 0 6) (cpyN D.2.2.2.1 la 0 0 6) 0 0 0 0 st 0 (updN (tdN (blk nw 0 22 (fun _ => 0)) X.2.2.1 X.2.2.2.1 (X.1 1)) 22 0) := by
  obtain ⟨d1, d2, d3, d4, d5, d6, d7⟩ := h
  obtain ⟨b1, b2, b3, b4, b5⟩ := hB
  rw [d1, d2]
  have hin : ∀ (f g : Nat → Nat) (k x : Nat), x < k → blk f 0 k g x = g x := fun f g k x hx => by
    have h1 := blk_in (base := f) (off := 0) (val := g) hx
    rw [Nat.zero_add] at h1
    exact h1
  have e1 : ∀ d, d < D.1 → D.2.2.1 d = blk X.2.2.2.2.1 0 D.1 (fun m => X.2.2.2.2.1 (6 + m)) d := fun d hd => by rw [hin _ _ _ _ hd]; exact (d5 d hd).2.2.symm
  have e2 : ∀ a, a < D.2.2.2.2.1 → D.2.2.2.2.2.1 a = blk X.2.2.2.2.2.1 0 D.2.2.2.2.1 (fun m => X.2.2.2.2.2.1 (5 + m)) a := fun a ha => by rw [hin _ _ _ _ ha]; exact (d6 a ha).1.symm
  obtain ⟨t1, t2⟩ := tdN_at (base := blk nw 0 22 (fun _ => 0)) (dl := X.2.2.1) (db := X.2.2.2.1) D.1 d3
  have hz : ∀ x, x < 22 → ¬ x < D.1 → ¬ (12 ≤ x ∧ x < 12 + D.1) → updN (tdN (blk nw 0 22 (fun _ => 0)) X.2.2.1 X.2.2.2.1 D.1) 22 0 x = 0 := fun x hx h1 h2 => by rw [updN_n (by omega), t2 x h1 h2, hin _ _ _ _ hx]
  have hd1 : ∀ d, d < D.1 → updN (tdN (blk nw 0 22 (fun _ => 0)) X.2.2.1 X.2.2.2.1 D.1) 22 0 d = D.2.1 d := fun d hd => by rw [updN_n (by omega), (t1 d hd).1]; exact (d5 d hd).1
  have hd2 : ∀ d, d < D.1 → updN (tdN (blk nw 0 22 (fun _ => 0)) X.2.2.1 X.2.2.2.1 D.1) 22 0 (12 + d) = D.2.2.2.1 d := fun d hd => by rw [updN_n (by omega), (t1 d hd).2]; exact (d5 d hd).2.1
  refine ⟨e1, fun a ha => ⟨e2 a ha, fun q hq => ?_⟩, fun i hi => ?_, fun i => ?_, fun i hi => ?_, ⟨⟨fun d hd => ?_, ⟨?_, ?_, ?_, ?_⟩, fun d hd => ?_, fun d hd => ?_, ?_, by decide, by decide⟩, ?_, by decide, fun j hj => absurd hj (Nat.not_lt_zero j)⟩⟩
  · rw [hin _ _ _ _ (by omega), ← (d6 a ha).2 q (by omega), show 30 + (6 * a + q) = 6 * (5 + a) + q by omega]
  · by_cases q : i < D.1
    · rw [← e1 i q]; exact b2 i
    · rw [blk_hi (by omega)]; exact har i hi
  · by_cases q : i < 6 * D.2.2.2.2.1
    · rw [hin _ _ _ _ q]; exact hnd _
    · rw [blk_hi (by omega)]; exact hnd _
  · rw [← e2 i hi]; exact b4 i
  · rw [hd1 d hd, hd2 d hd, hz _ (by omega) (by omega) (by omega), ← cpyI (show d < 6 by omega), ← cpyI (show d < 6 by omega), ← cpyI (show d < 6 by omega)]
    exact ⟨rfl, rfl, rfl, Nat.zero_le _⟩
  · exact (hz _ (by decide) (by omega) (by omega)).symm
  · exact (hz _ (by decide) (by omega) (by omega)).symm
  · exact (hz _ (by decide) (by omega) (by omega)).symm
  · exact (hz _ (by decide) (by omega) (by omega)).symm
  · rw [← cpyI hd, ← cpyI hd, ← cpyI hd]
    exact ⟨b1 d, Nat.zero_le _, b3 d⟩
  · refine ⟨?_, by rw [hz _ (by omega) (by omega) (by omega)]; omega, ?_⟩
    · by_cases q : d < D.1
      · rw [hd1 d q]; exact b1 d
      · rw [hz _ (by omega) q (by omega)]; omega
    · by_cases q : d < D.1
      · rw [hd2 d q]; exact b3 d
      · rw [hz _ (by omega) (by omega) (by omega)]; omega
  · exact d7.cong (fun i hi => cpyI (by omega))
  · exact updN_s.symm
def swK (k : Nat) : Nat := if k < 3 then k else if k < 14 then k + 11 else if k < 25 then k - 11 else k
theorem aR_cong {cR : ClassId} {a : Nat} {r r2 : Nat → Nat} (h : ∀ i, i < 5 → r i = r2 i) : aR cR a 5 r = aR cR a 5 r2 := by
  have e : (fun i => if i < 5 then some (r i) else none) = fun i => if i < 5 then some (r2 i) else none := by
    funext i
    by_cases q : i < 5
    · rw [if_pos q, if_pos q, h i q]
    · rw [if_neg q, if_neg q]
  show (a, _) = (a, _)
  rw [e]
theorem swK_a {ad : Nat → Nat} : ∀ i, i < 5 → ad (swK (9 + i)) = ad (20 + i) := fun i hi => by
  congr 1
  unfold swK
  rw [if_neg (by omega), if_pos (by omega)]
  omega
theorem swK_b {ad : Nat → Nat} : ∀ i, i < 5 → ad (swK (20 + i)) = ad (9 + i) := fun i hi => by
  congr 1
  unfold swK
  rw [if_neg (by omega), if_neg (by omega), if_pos (by omega)]
  omega
theorem perm4 {α : Type} (A B C D : List α) : (A ++ (C ++ (B ++ D))).Perm (A ++ (B ++ (C ++ D))) := by
  refine List.Perm.append_left A ?_
  rw [← List.append_assoc, ← List.append_assoc]
  exact List.Perm.append_right D List.perm_append_comm
set_option maxRecDepth 100000 in
theorem c_X3_sideboard_fV {l : Launch} {D : va_G} {cI cZ cB cR : ClassId} {q t b b2 pp i1 i2 kept tn tw td : Nat} {tr : Int64} {byA len pq tk ta : Nat} {va : Int32} {by_ : Nat → Nat} {n2 lvA2 aiA2 laA2 ac2 woA2 drA2 : Nat} {r2 : Nat → Nat} {bl2 ai2 bla2 wo2 : Nat → Nat} {dr2 : Nat → Nat → Nat} {pl pt pa mo dn ea bn stA k : Nat} {lv : Nat → Nat} {te : Nat → Nat} {la : Nat → Nat}  {c9 : Bool × Nat × Cu × Bds} (hlen : len ≤ 150) (hby : ∀ i, by_ i < 256) (hc9 : (inL by_ len 150 0 (adv by_ len (0, tk, ta, va)) (0, bl2, ai2, bla2, 0, wo2, dr2)) = c9) (hok : c9.1 = false) (hf9 : c9.2.1 ≤ 150) : mW l yX3_sideboard cX3_sideboard 3 (some .int) 6 133 D cI cZ cB cR [oK q t b b2 pp i1 i2 kept tn tw td tr, oT t byA len pq tk ta va, aI cI byA 150 by_, oB b2 n2 lvA2 aiA2 laA2 ac2 woA2 drA2, aI cI lvA2 6 bl2, aI cI aiA2 6 ai2, aI cI laA2 6 bla2, aI cI woA2 5 wo2, aR cR drA2 5 r2, aI cI (r2 0) 6 (dr2 0), aI cI (r2 1) 6 (dr2 1), aI cI (r2 2) 6 (dr2 2), aI cI (r2 3) 6 (dr2 3), aI cI (r2 4) 6 (dr2 4), oP pp pl pt pa mo dn ea bn stA k, aI cI pl 6 lv, aI cI pt 6 te, aI cI pa 6 la] [oK q t b b2 pp i1 i2 kept tn tw td tr, oT t byA len ((c9.2.2.1).1) ((c9.2.2.1).2.1) ((c9.2.2.1).2.2.1) ((c9.2.2.1).2.2.2), aI cI byA 150 by_, oB b2 (c9.2.2.2.1) lvA2 aiA2 laA2 (c9.2.2.2.2.2.2.2.1) woA2 drA2, aI cI lvA2 6 (c9.2.2.2.2.1), aI cI aiA2 6 (c9.2.2.2.2.2.1), aI cI laA2 6 (c9.2.2.2.2.2.2.1), aI cI woA2 5 (c9.2.2.2.2.2.2.2.2.1), aR cR drA2 5 r2, aI cI (r2 0) 6 (c9.2.2.2.2.2.2.2.2.2 0), aI cI (r2 1) 6 (c9.2.2.2.2.2.2.2.2.2 1), aI cI (r2 2) 6 (c9.2.2.2.2.2.2.2.2.2 2), aI cI (r2 3) 6 (c9.2.2.2.2.2.2.2.2.2 3), aI cI (r2 4) 6 (c9.2.2.2.2.2.2.2.2.2 4), oP pp pl pt pa mo dn ea bn stA k, aI cI pl 6 lv, aI cI pt 6 te, aI cI pa 6 la] [.ref q] (some (.int (-10 - nI c9.2.1))) := by
  subst hc9
  exact c_X3_sideboard_f2 hlen hby hok hf9
set_option maxRecDepth 100000 in
theorem c_X3_sideboard_tV {l : Launch} {D : va_G} {cI cZ cB cR : ClassId} {q t b b2 pp i1 i2 kept tn tw td : Nat} {tr : Int64} {byA len pq tk ta : Nat} {va : Int32} {by_ : Nat → Nat} {n2 lvA2 aiA2 laA2 ac2 woA2 drA2 : Nat} {r2 : Nat → Nat} {bl2 ai2 bla2 wo2 : Nat → Nat} {dr2 : Nat → Nat → Nat} {pl pt pa mo dn ea bn stA k : Nat} {lv : Nat → Nat} {te : Nat → Nat} {la : Nat → Nat}  {c9 : Bool × Nat × Cu × Bds} (hlen : len ≤ 150) (hby : ∀ i, by_ i < 256) (hc9 : (inL by_ len 150 0 (adv by_ len (0, tk, ta, va)) (0, bl2, ai2, bla2, 0, wo2, dr2)) = c9) (hok : c9.1 = true) (hf9 : c9.2.1 ≤ 150) : mW l yX3_sideboard cX3_sideboard 3 (some .int) 6 133 D cI cZ cB cR [oK q t b b2 pp i1 i2 kept tn tw td tr, oT t byA len pq tk ta va, aI cI byA 150 by_, oB b2 n2 lvA2 aiA2 laA2 ac2 woA2 drA2, aI cI lvA2 6 bl2, aI cI aiA2 6 ai2, aI cI laA2 6 bla2, aI cI woA2 5 wo2, aR cR drA2 5 r2, aI cI (r2 0) 6 (dr2 0), aI cI (r2 1) 6 (dr2 1), aI cI (r2 2) 6 (dr2 2), aI cI (r2 3) 6 (dr2 3), aI cI (r2 4) 6 (dr2 4), oP pp pl pt pa mo dn ea bn stA k, aI cI pl 6 lv, aI cI pt 6 te, aI cI pa 6 la] [oK q t b2 b pp i1 i2 0 tn tw 0 tr, oT t byA 0 ((c9.2.2.1).1) ((c9.2.2.1).2.1) ((c9.2.2.1).2.2.1) ((c9.2.2.1).2.2.2), aI cI byA 150 by_, oB b2 (c9.2.2.2.1) lvA2 aiA2 laA2 (c9.2.2.2.2.2.2.2.1) woA2 drA2, aI cI lvA2 6 (c9.2.2.2.2.1), aI cI aiA2 6 (c9.2.2.2.2.2.1), aI cI laA2 6 (c9.2.2.2.2.2.2.1), aI cI woA2 5 (c9.2.2.2.2.2.2.2.2.1), aR cR drA2 5 r2, aI cI (r2 0) 6 (c9.2.2.2.2.2.2.2.2.2 0), aI cI (r2 1) 6 (c9.2.2.2.2.2.2.2.2.2 1), aI cI (r2 2) 6 (c9.2.2.2.2.2.2.2.2.2 2), aI cI (r2 3) 6 (c9.2.2.2.2.2.2.2.2.2 3), aI cI (r2 4) 6 (c9.2.2.2.2.2.2.2.2.2 4), oP pp pl pt pa 0 0 0 0 stA 0, aI cI pl 6 (cpyN c9.2.2.2.2.1 lv 0 0 6), aI cI pt 6 (cpyN (fun _ => 0) te 0 0 6), aI cI pa 6 (cpyN c9.2.2.2.2.2.2.1 la 0 0 6)] [.ref q] (some (.int (nI c9.2.1))) := by
  subst hc9
  exact c_X3_sideboard_t2 hlen hby hok hf9
