/-! the law's level: all cells of one side at once -/
theorem va_P_mem {D : va_G} {cl : List vw_C} {ws : va_W} {H : Heap} : va_P D cl ws H ↔ ∀ q, q ∈ ws → va_at D cl q H := by
  constructor
  · intro h q hq
    obtain ⟨k, hk⟩ := List.getElem?_of_mem hq
    exact h k q hk
  · intro h k q hk
    exact h q (List.mem_of_getElem? hk)
theorem va_D_nd {A : Nat → Prop} {ws : va_W} : va_D A ws ↔ (ws.map Prod.fst).Nodup ∧ ∀ a, a ∈ ws.map Prod.fst → A a := by
  constructor
  · intro h
    refine ⟨?_, fun a ha => ?_⟩
    · rw [List.nodup_iff_pairwise_ne, List.pairwise_iff_getElem]
      intro i j hi hj hij e
      rw [List.getElem_map, List.getElem_map] at e
      have := h.1 i j _ _ (List.getElem?_eq_getElem (by simpa using hi)) (List.getElem?_eq_getElem (by simpa using hj)) e
      omega
    · obtain ⟨q, hq, rfl⟩ := List.mem_map.mp ha
      obtain ⟨k, hk⟩ := List.getElem?_of_mem hq
      exact h.2 k q hk
  · rintro ⟨h1, h2⟩
    refine ⟨fun i j p q hi hj e => ?_, fun k q hk => h2 _ (List.mem_map.mpr ⟨q, List.mem_of_getElem? hk, rfl⟩)⟩
    have e1 : (ws.map Prod.fst)[i]? = (ws.map Prod.fst)[j]? := by
      rw [List.getElem?_map, List.getElem?_map, hi, hj]
      exact congrArg some e
    refine (List.getElem?_inj (by have := (List.getElem?_eq_some_iff.mp hi).1; simpa using this) h1).mp e1
theorem va_D_perm {A : Nat → Prop} {ws ws' : va_W} (h : (ws'.map Prod.fst).Perm (ws.map Prod.fst)) (hD : va_D A ws) : va_D A ws' := by
  rw [va_D_nd] at hD ⊢
  exact ⟨h.nodup_iff.mpr hD.1, fun a ha => hD.2 a (h.mem_iff.mp ha)⟩
/-- a public call over one side's world -/
def mV (l : Launch) (y : MethodName) (cc : ByteArray) (nL : Nat) (ret : Option FieldType) (D : va_G) (cI cZ cB cR : ClassId) (sa : Nat) (ws ws' : va_W) (av : List Value) (rv : Option Value) : Prop :=
  ∃ fr lo : Nat, fr ≤ 7 ∧ lo ≤ 160 ∧ Met l y (mth y cc nL ret) { frames := fr, cells := 0, slots := 0, locals := lo } (va_Pc av (fun U => va_P D vwCl ws U.heap ∧ KK D cI cZ cB cR U ∧ va_D (fun _ => True) ws ∧ ZZ sa U U.heap)) (qW D ws ws' rv) 0 0 (zA ws)
section MV
variable {l : Launch} {y : MethodName} {cc : ByteArray} {nL : Nat} {ret : Option FieldType} {fr lo : Nat} {D : va_G} {cI cZ cB cR : ClassId} {sa : Nat} {ws wsC wsC' ws' ws2 : va_W} {av : List Value} {rv rv' : Option Value}
theorem mV_W (h : mW l y cc nL ret fr lo D cI cZ cB cR wsC wsC' av rv) (hr : fr ≤ 7 ∧ lo ≤ 160) (is L : List Nat) (hs : is.map (fun i => ws[i]?) = wsC.map some) (hnd : va_nd is = true) (hL : wsC.map Prod.fst = L) (hL' : wsC'.map Prod.fst = L) (hz : zspl is wsC' ws = ws') : mV l y cc nL ret D cI cZ cB cR sa ws ws' av rv := by
  subst hz
  have h2 := mW_wide h is L hs hnd hL hL'
  refine ⟨fr, lo, hr.1, hr.2, ?_⟩
  unfold mW Met at h2
  unfold Met
  exact MetFree.mono h2 (fun a s hp => ⟨hp.1, hp.2.1, hp.2.2.1, hp.2.2.2.1⟩) (fun _ _ _ _ _ q => q) (fun a s o t _ hq => hq)
theorem mV_rd {Pc : Array Value → State → Prop} (hr : fr ≤ 7 ∧ lo ≤ 160) (h : Met l y (mth y cc nL ret) { frames := fr, cells := 0, slots := 0, locals := lo } Pc (qR rv) 0 0 (fun _ => False)) (hp : ∀ a s, va_Pc av (fun U => va_P D vwCl ws U.heap ∧ KK D cI cZ cB cR U ∧ va_D (fun _ => True) ws ∧ ZZ sa U U.heap) a s → Pc a s) : mV l y cc nL ret D cI cZ cB cR sa ws ws av rv := by
  refine ⟨fr, lo, hr.1, hr.2, ?_⟩
  unfold Met at h ⊢
  refine MetFree.mono h hp (fun _ _ _ _ _ q => q) (fun a s o t hp hq => ?_)
  obtain ⟨⟨ho, hh⟩, L9, hF, hb⟩ := hq
  exact ⟨⟨ho, by rw [hh]; exact hp.2.1, by rw [hh]; exact Nat.le_refl _, fun q _ _ => by rw [hh]⟩, L9, hF, fun q hq => (hb q hq).elim⟩
theorem mV_R (h : mR l y cc nL ret fr lo D cI cZ cB cR wsC av rv) (hr : fr ≤ 7 ∧ lo ≤ 160) (is : List Nat) (hs : is.map (fun i => ws[i]?) = wsC.map some) : mV l y cc nL ret D cI cZ cB cR sa ws ws av rv :=
  mV_rd hr h (fun a s hp => ⟨hp.1, hp.2.1.sub is (z_fm hs), hp.2.2.1⟩)
theorem mV_Z (h : mZ l y cc nL ret fr lo D cI cZ cB cR sa wsC av rv) (hr : fr ≤ 7 ∧ lo ≤ 160) (is : List Nat) (hs : is.map (fun i => ws[i]?) = wsC.map some) : mV l y cc nL ret D cI cZ cB cR sa ws ws av rv :=
  mV_rd hr h (fun a s hp => ⟨hp.1, hp.2.1.sub is (z_fm hs), hp.2.2.1, hp.2.2.2.2⟩)
theorem mV_cast (h : mV l y cc nL ret D cI cZ cB cR sa ws ws' av rv) (e : rv = rv') : mV l y cc nL ret D cI cZ cB cR sa ws ws' av rv' := e ▸ h
theorem mV_post (h : mV l y cc nL ret D cI cZ cB cR sa ws ws' av rv) (hs : ∀ q, q ∈ ws2 → q ∈ ws') : mV l y cc nL ret D cI cZ cB cR sa ws ws2 av rv := by
  obtain ⟨fr, lo, h1, h2, h3⟩ := h
  refine ⟨fr, lo, h1, h2, ?_⟩
  unfold Met at h3 ⊢
  refine MetFree.mono h3 (fun a s hp => hp) (fun _ _ _ _ _ q => q) (fun a s o t hp hq => ?_)
  obtain ⟨⟨ho, hP, hF⟩, hL⟩ := hq
  exact ⟨⟨ho, va_P_mem.mpr (fun q hq => va_P_mem.mp hP q (hs q hq)), hF⟩, hL⟩
end MV
abbrev TxT : Type := Nat × Nat × Nat × Nat × Int32 × (Nat → Nat)
abbrev PrT : Type := Nat × Nat × Nat × Nat × Nat × (Nat → Nat) × (Nat → Nat) × (Nat → Nat) × (Nat → Nat)
/-- the class: images kept, told, traced, text, board, draft, present, two images, what was told -/
abbrev KS : Type := Nat × Nat × Int64 × TxT × Bds × Bds × PrT × PrT × PrT × (Nat → Nat) × (Nat → Bool)
abbrev MS : Type := Int64 × Nat × Nat × Nat × Nat × Nat × Nat × Int32 × (Nat → Int32) × (Nat → Nat) × (Nat → Nat) × (Nat → Nat) × (Nat → Nat) × (Nat → Nat) × (Nat → Nat) × (Nat → Nat) × (Nat → Nat) × (Nat → Bool) × (Nat → Nat) × (Nat → Nat) × (Nat → Nat)
def wK (cI cZ cR : ClassId) (ad : Nat → Nat) : KS → va_W
  | (kept, td, tr, (len, pl, tk, tA, va, by_), (n, bl, ai, bla, ac, wo, dr), (n2, bl2, ai2, bla2, ac2, wo2, dr2), (mo, dn, ea, bn, k, lv, te, la, st), (mo1, dn1, ea1, bn1, k1, lv1, te1, la1, st1), (mo2, dn2, ea2, bn2, k2, lv2, te2, la2, st2), tnF, twF) => [oK (ad 0) (ad 1) (ad 3) (ad 14) (ad 25) (ad 30) (ad 35) kept (ad 40) (ad 41) td tr, oT (ad 1) (ad 2) len pl tk tA va, aI cI (ad 2) 150 by_, oB (ad 3) n (ad 4) (ad 5) (ad 6) ac (ad 7) (ad 8), aI cI (ad 4) 6 bl, aI cI (ad 5) 6 ai, aI cI (ad 6) 6 bla, aI cI (ad 7) 5 wo, aR cR (ad 8) 5 (fun i => ad (9 + i)), aI cI (ad 9) 6 (dr 0), aI cI (ad 10) 6 (dr 1), aI cI (ad 11) 6 (dr 2), aI cI (ad 12) 6 (dr 3), aI cI (ad 13) 6 (dr 4), oB (ad 14) n2 (ad 15) (ad 16) (ad 17) ac2 (ad 18) (ad 19), aI cI (ad 15) 6 bl2, aI cI (ad 16) 6 ai2, aI cI (ad 17) 6 bla2, aI cI (ad 18) 5 wo2, aR cR (ad 19) 5 (fun i => ad (20 + i)), aI cI (ad 20) 6 (dr2 0), aI cI (ad 21) 6 (dr2 1), aI cI (ad 22) 6 (dr2 2), aI cI (ad 23) 6 (dr2 3), aI cI (ad 24) 6 (dr2 4), oP (ad 25) (ad 26) (ad 27) (ad 28) mo dn ea bn (ad 29) k, aI cI (ad 26) 6 lv, aI cI (ad 27) 6 te, aI cI (ad 28) 6 la, aI cI (ad 29) 220 st, oP (ad 30) (ad 31) (ad 32) (ad 33) mo1 dn1 ea1 bn1 (ad 34) k1, aI cI (ad 31) 6 lv1, aI cI (ad 32) 6 te1, aI cI (ad 33) 6 la1, aI cI (ad 34) 220 st1, oP (ad 35) (ad 36) (ad 37) (ad 38) mo2 dn2 ea2 bn2 (ad 39) k2, aI cI (ad 36) 6 lv2, aI cI (ad 37) 6 te2, aI cI (ad 38) 6 la2, aI cI (ad 39) 220 st2, aI cI (ad 40) 6 tnF, aZ cZ (ad 41) 6 twF]
def wM (cI cZ cB : ClassId) (am : Nat → Nat) : MS → va_W
  | (trM, ty, tdM, at9, sta, sor, val, fau, tx, dc, dl, db, ar, acn, wm, nd, nw, kp, ta, tw, hg) => [oM (am 0) trM (am 1) ty (am 2) (am 3) (am 4) (am 5) (am 6) (am 7) (am 8) at9 sta sor val fau (am 9) (am 10) (am 11) (am 12) tdM (am 13), aB cB (am 1) 150 tx, aI cI (am 2) 2 dc, aI cI (am 3) 6 dl, aI cI (am 4) 6 db, aI cI (am 5) 12 ar, aI cI (am 6) 2 acn, aI cI (am 7) 10 wm, aI cI (am 8) 60 nd, aI cI (am 9) 729 nw, aZ cZ (am 10) 2 kp, aI cI (am 11) 6 ta, aI cI (am 12) 6 tw, aI cI (am 13) 6 hg]
def Rel : KS → MS → Prop
  | (kept, td, tr, (len, pl, tk, tA, va, by_), (n, bl, ai, bla, ac, wo, dr), (n2, bl2, ai2, bla2, ac2, wo2, dr2), (mo, dn, ea, bn, k, lv, te, la, st), (mo1, dn1, ea1, bn1, k1, lv1, te1, la1, st1), (mo2, dn2, ea2, bn2, k2, lv2, te2, la2, st2), tnF, twF), (trM, ty, tdM, at9, sta, sor, val, fau, tx, dc, dl, db, ar, acn, wm, nd, nw, kp, ta, tw, hg) =>
    (trM = tr ∧ ty = len ∧ tdM = td ∧ n = dc 0 ∧ ac = acn 0) ∧ (len ≤ 150 ∧ (∀ i, i < len → tx i &&& nI 255 = nI (by_ i)) ∧ ∀ i, by_ i < 256) ∧ (n ≤ 6 ∧ ac ≤ 5) ∧
    ((∀ d, d < n → ai d = ar d) ∧ ∀ a, a < ac → wo a = wm a ∧ ∀ q, q < n → dr a q = nd (6 * a + q)) ∧ BOK (n, bl, ai, bla, ac, wo, dr) ∧ BOK (n2, bl2, ai2, bla2, ac2, wo2, dr2) ∧ ((∀ i, i < 6 → ar i ≤ 5) ∧ (∀ i, nd i ≤ 9) ∧ ∀ i, i < acn 0 → wm i ≤ 99) ∧
    PR n lv te la mo dn ea bn st k nw ∧ ((∀ i, lv i ≤ 40) ∧ (∀ i, te i ≤ 40) ∧ ∀ i, la i < 6) ∧
    (kept < 4 ∧ kept.testBit 0 = kp 0 ∧ kept.testBit 1 = kp 1 ∧ (kp 0 = true → PR n lv1 te1 la1 mo1 dn1 ea1 bn1 st1 k1 (fun x => nw (243 + x))) ∧ (kp 1 = true → PR n lv2 te2 la2 mo2 dn2 ea2 bn2 st2 k2 (fun x => nw (486 + x)))) ∧
    (td ≤ 6 ∧ (∀ k, k < td → ta k < acn 0 ∧ tnF k = orr (fun q => decide (0 < nd (6 * ta k + q))) n ∧ twF k = decide (tw k = 1)) ∧ (∀ i, tnF i < 64) ∧ (∀ i, ta i < 5) ∧ ∀ i, tw i < 2)
theorem wK_fst {cI cZ cR : ClassId} {ad : Nat → Nat} (S : KS) : (wK cI cZ cR ad S).map Prod.fst = (List.range 42).map ad := by
  obtain ⟨kept, td, tr, ⟨len, pl, tk, tA, va, by_⟩, ⟨n, bl, ai, bla, ac, wo, dr⟩, ⟨n2, bl2, ai2, bla2, ac2, wo2, dr2⟩, ⟨mo, dn, ea, bn, k, lv, te, la, st⟩, ⟨mo1, dn1, ea1, bn1, k1, lv1, te1, la1, st1⟩, ⟨mo2, dn2, ea2, bn2, k2, lv2, te2, la2, st2⟩, tnF, twF⟩ := S
  rfl
theorem wM_fst {cI cZ cB : ClassId} {am : Nat → Nat} (S : MS) : (wM cI cZ cB am S).map Prod.fst = (List.range 14).map am := by
  obtain ⟨trM, ty, tdM, at9, sta, sor, val, fau, tx, dc, dl, db, ar, acn, wm, nd, nw, kp, ta, tw, hg⟩ := S
  rfl
def tyV : Option FieldType → Value → Prop
  | some .int, .int _ => True
  | some .long, .long _ => True
  | _, _ => False
/-- both sides answer a call alike, and stay related -/
def LG (l : Launch) (D : va_G) (cI cZ cB cR : ClassId) (sa : Nat) (yX : MethodName) (cX : ByteArray) (nX : Nat) (yM : MethodName) (cM : ByteArray) (nM : Nat) (ret : Option FieldType) (ad am : Nat → Nat) (S : KS) (M : MS) (av : List Value) : Prop :=
  ∃ (ad' : Nat → Nat) (S' : KS) (M' : MS) (rv : Value), Rel S' M' ∧ ad' 0 = ad 0 ∧ ((wK cI cZ cR ad' S').map Prod.fst).Perm ((wK cI cZ cR ad S).map Prod.fst) ∧ mV l yX cX nX ret D cI cZ cB cR sa (wK cI cZ cR ad S) (wK cI cZ cR ad' S') (.ref (ad 0) :: av) (some rv) ∧ mV l yM cM nM ret D cI cZ cB cR sa (wM cI cZ cB am M) (wM cI cZ cB am M') (.ref (am 0) :: av) (some rv) ∧ tyV ret rv
section LGS
variable {l : Launch} {D : va_G} {cI cZ cB cR : ClassId} {sa : Nat} {yX yM : MethodName} {cX cM : ByteArray} {nX nM : Nat} {ret : Option FieldType} {ad am : Nat → Nat} {S S' : KS} {M M' : MS} {av : List Value} {rv : Value}
theorem LG.mk (hR : Rel S' M') (hx : mV l yX cX nX ret D cI cZ cB cR sa (wK cI cZ cR ad S) (wK cI cZ cR ad S') (.ref (ad 0) :: av) (some rv)) (hm : mV l yM cM nM ret D cI cZ cB cR sa (wM cI cZ cB am M) (wM cI cZ cB am M') (.ref (am 0) :: av) (some rv)) (ht : tyV ret rv := by exact True.intro) : LG l D cI cZ cB cR sa yX cX nX yM cM nM ret ad am S M av :=
  ⟨ad, S', M', rv, hR, rfl, by rw [wK_fst, wK_fst], hx, hm, ht⟩
end LGS
