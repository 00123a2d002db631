/-! the law's cases: both sides are asked alike, and answer alike -/
theorem lawc_0 {p : Program} {l : Launch} {e : Env} {s : State} {m : MethodId} {args : Array Value} {below : List Frame} {meth : Method} {c : Code} {H : Heap} {locs : List Loc} {cells slots : Nat} {Q : State → Prop} {ls : Array Slot} {D : va_G} {cI cZ cB cR : ClassId} {sa b L i : Nat} {xs : Nat → Int32} {ad am : Nat → Nat} {S : KS} {M : MS}
    (hC : CallFix p m c cL_law 4 s args wsU RL) (hX : va_X b L xs s s.heap) (hbl : b < s.heap.size) (hK : KK D cI cZ cB cR s) (hZ : ZZ sa s s.heap) (hL : L ≤ 2048) (hi : i + 4 ≤ L) (hcs : cells ≤ room_1.cells ∧ slots ≤ room_1.slots)
    (hR : Rel S M) (hP : va_P D vwCl (wK cI cZ cR ad S ++ wM cI cZ cB am M) H) (hD : va_D (fun q : Nat => s.heap.size ≤ q) (wK cI cZ cR ad S ++ wM cI cZ cB am M)) (hS : va_S (fun q : Nat => s.heap.size ≤ q) s.heap H locs) (hl : lv_has ls 4 [(0, .ref b), (1, .ref (ad 0)), (2, .ref (am 0)), (3, .int (nI i))])
    (kk : ∀ (ad' : Nat → Nat) (S' : KS) (M' : MS) (H' : Heap) (locs' : List Loc), Rel S' M' → va_P D vwCl (wK cI cZ cR ad' S' ++ wM cI cZ cB am M') H' → va_D (fun q : Nat => s.heap.size ≤ q) (wK cI cZ cR ad' S' ++ wM cI cZ cB am M') → va_S (fun q : Nat => s.heap.size ≤ q) s.heap H' locs' → lv_has ls 4 [(0, .ref b), (1, .ref (ad' 0)), (2, .ref (am 0)), (3, .int (nI i))] → W p l e room_1 s m args below meth c H' locs' cells slots Q (F0 m 727 ls [])) :
    W p l e room_1 s m args below meth c H locs cells slots Q (F0 m 144 ls []) := by
  obtain ⟨hx, hb, hml, hown, hts⟩ := id hC
  have hbA : ¬ (fun q : Nat => s.heap.size ≤ q) b := Nat.not_le.mpr hbl
  obtain ⟨fk, hf0⟩ := wK_0 (cI := cI) (cZ := cZ) (cR := cR) (ad := ad) (S := S)
  obtain ⟨fm, hm0⟩ := wM_0 (cI := cI) (cZ := cZ) (cB := cB) (am := am) (M := M)
  obtain ⟨ad', S', M', rv, hR', e0, hp, h1, h2, hty⟩ := L_type (l := l) (D := D) (cI := cI) (cZ := cZ) (cB := cB) (cR := cR) (sa := sa) (ad := ad) (am := am) hR (xs (i + 1))
  obtain ⟨z, rfl⟩ := tyV_int hty
  refine lv_aload_n hx hb dL_law_144 rfl (lv_at hl 1 rfl) ?_
  refine zArg (k := 1) hx hb hX hbl hbA hS hl (by omega) hL dL_law_145 dL_law_146 dL_law_147 (by decide) dL_law_148 dL_law_149 ?_
  refine zGL (X := wK cI cZ cR ad S) (X' := wK cI cZ cR ad' S') (Y := wM cI cZ cB am M) (As := [.int (xs (i + 1))]) (b := ad 0) (rest := []) hC h1 lM_L_13 vM_X3_type (by decide) hK (ZZ_kept hS hZ) hP hD hS hp ⟨hf0, rfl, rfl⟩ rfl hl.1 rfl (by decide) dL_law_150 hcs (fun H locs hP hD hS => ?_)
  refine lv_aload_n hx hb dL_law_153 rfl (lv_at hl 2 rfl) ?_
  refine zArg (k := 1) hx hb hX hbl hbA hS hl (by omega) hL dL_law_154 dL_law_155 dL_law_156 (by decide) dL_law_157 dL_law_158 ?_
  refine zGL (X := wM cI cZ cB am M) (X' := wM cI cZ cB am M') (Y := wK cI cZ cR ad' S') (As := [.int (xs (i + 1))]) (b := am 0) (rest := [.int z]) hC h2 lM_L_17 vM_X4_type (by decide) hK (ZZ_kept hS hZ) (va_Pswap hP) (va_Dswap hD) hS (by rw [wM_fst, wM_fst]) ⟨hm0, rfl, rfl⟩ rfl hl.1 rfl (by simp [Value.category]) dL_law_159 hcs (fun H locs hP hD hS => ?_)
  refine lv_icmp_eq (tgt := 727) hx hb dL_law_162 (by decide) (fun _ => ?_) (fun h => absurd rfl h)
  exact kk ad' S' M' H locs hR' (va_Pswap hP) (va_Dswap hD) hS (by rw [e0]; exact hl)
theorem lawc_1 {p : Program} {l : Launch} {e : Env} {s : State} {m : MethodId} {args : Array Value} {below : List Frame} {meth : Method} {c : Code} {H : Heap} {locs : List Loc} {cells slots : Nat} {Q : State → Prop} {ls : Array Slot} {D : va_G} {cI cZ cB cR : ClassId} {sa b L i : Nat} {xs : Nat → Int32} {ad am : Nat → Nat} {S : KS} {M : MS}
    (hC : CallFix p m c cL_law 4 s args wsU RL) (hX : va_X b L xs s s.heap) (hbl : b < s.heap.size) (hK : KK D cI cZ cB cR s) (hZ : ZZ sa s s.heap) (hL : L ≤ 2048) (hi : i + 4 ≤ L) (hcs : cells ≤ room_1.cells ∧ slots ≤ room_1.slots)
    (hR : Rel S M) (hP : va_P D vwCl (wK cI cZ cR ad S ++ wM cI cZ cB am M) H) (hD : va_D (fun q : Nat => s.heap.size ≤ q) (wK cI cZ cR ad S ++ wM cI cZ cB am M)) (hS : va_S (fun q : Nat => s.heap.size ≤ q) s.heap H locs) (hl : lv_has ls 4 [(0, .ref b), (1, .ref (ad 0)), (2, .ref (am 0)), (3, .int (nI i))])
    (kk : ∀ (ad' : Nat → Nat) (S' : KS) (M' : MS) (H' : Heap) (locs' : List Loc), Rel S' M' → va_P D vwCl (wK cI cZ cR ad' S' ++ wM cI cZ cB am M') H' → va_D (fun q : Nat => s.heap.size ≤ q) (wK cI cZ cR ad' S' ++ wM cI cZ cB am M') → va_S (fun q : Nat => s.heap.size ≤ q) s.heap H' locs' → lv_has ls 4 [(0, .ref b), (1, .ref (ad' 0)), (2, .ref (am 0)), (3, .int (nI i))] → W p l e room_1 s m args below meth c H' locs' cells slots Q (F0 m 727 ls [])) :
    W p l e room_1 s m args below meth c H locs cells slots Q (F0 m 167 ls []) := by
  obtain ⟨hx, hb, hml, hown, hts⟩ := id hC
  have hbA : ¬ (fun q : Nat => s.heap.size ≤ q) b := Nat.not_le.mpr hbl
  obtain ⟨fk, hf0⟩ := wK_0 (cI := cI) (cZ := cZ) (cR := cR) (ad := ad) (S := S)
  obtain ⟨fm, hm0⟩ := wM_0 (cI := cI) (cZ := cZ) (cB := cB) (am := am) (M := M)
  obtain ⟨ad', S', M', rv, hR', e0, hp, h1, h2, hty⟩ := L_clear (l := l) (D := D) (cI := cI) (cZ := cZ) (cB := cB) (cR := cR) (sa := sa) (ad := ad) (am := am) hR
  obtain ⟨z, rfl⟩ := tyV_int hty
  refine lv_aload_n hx hb dL_law_167 rfl (lv_at hl 1 rfl) ?_
  refine zGL (X := wK cI cZ cR ad S) (X' := wK cI cZ cR ad' S') (Y := wM cI cZ cB am M) (As := []) (b := ad 0) (rest := []) hC h1 lM_L_18 vM_X3_clear (by decide) hK (ZZ_kept hS hZ) hP hD hS hp ⟨hf0, rfl, rfl⟩ rfl hl.1 rfl (by decide) dL_law_168 hcs (fun H locs hP hD hS => ?_)
  refine lv_aload_n hx hb dL_law_171 rfl (lv_at hl 2 rfl) ?_
  refine zGL (X := wM cI cZ cB am M) (X' := wM cI cZ cB am M') (Y := wK cI cZ cR ad' S') (As := []) (b := am 0) (rest := [.int z]) hC h2 lM_L_22 vM_X4_clear (by decide) hK (ZZ_kept hS hZ) (va_Pswap hP) (va_Dswap hD) hS (by rw [wM_fst, wM_fst]) ⟨hm0, rfl, rfl⟩ rfl hl.1 rfl (by simp [Value.category]) dL_law_172 hcs (fun H locs hP hD hS => ?_)
  refine lv_icmp_eq (tgt := 727) hx hb dL_law_175 (by decide) (fun _ => ?_) (fun h => absurd rfl h)
  exact kk ad' S' M' H locs hR' (va_Pswap hP) (va_Dswap hD) hS (by rw [e0]; exact hl)
theorem lawc_2 {p : Program} {l : Launch} {e : Env} {s : State} {m : MethodId} {args : Array Value} {below : List Frame} {meth : Method} {c : Code} {H : Heap} {locs : List Loc} {cells slots : Nat} {Q : State → Prop} {ls : Array Slot} {D : va_G} {cI cZ cB cR : ClassId} {sa b L i : Nat} {xs : Nat → Int32} {ad am : Nat → Nat} {S : KS} {M : MS}
    (hC : CallFix p m c cL_law 4 s args wsU RL) (hX : va_X b L xs s s.heap) (hbl : b < s.heap.size) (hK : KK D cI cZ cB cR s) (hZ : ZZ sa s s.heap) (hL : L ≤ 2048) (hi : i + 4 ≤ L) (hcs : cells ≤ room_1.cells ∧ slots ≤ room_1.slots)
    (hR : Rel S M) (hP : va_P D vwCl (wK cI cZ cR ad S ++ wM cI cZ cB am M) H) (hD : va_D (fun q : Nat => s.heap.size ≤ q) (wK cI cZ cR ad S ++ wM cI cZ cB am M)) (hS : va_S (fun q : Nat => s.heap.size ≤ q) s.heap H locs) (hl : lv_has ls 4 [(0, .ref b), (1, .ref (ad 0)), (2, .ref (am 0)), (3, .int (nI i))])
    (kk : ∀ (ad' : Nat → Nat) (S' : KS) (M' : MS) (H' : Heap) (locs' : List Loc), Rel S' M' → va_P D vwCl (wK cI cZ cR ad' S' ++ wM cI cZ cB am M') H' → va_D (fun q : Nat => s.heap.size ≤ q) (wK cI cZ cR ad' S' ++ wM cI cZ cB am M') → va_S (fun q : Nat => s.heap.size ≤ q) s.heap H' locs' → lv_has ls 4 [(0, .ref b), (1, .ref (ad' 0)), (2, .ref (am 0)), (3, .int (nI i))] → W p l e room_1 s m args below meth c H' locs' cells slots Q (F0 m 727 ls [])) :
    W p l e room_1 s m args below meth c H locs cells slots Q (F0 m 180 ls []) := by
  obtain ⟨hx, hb, hml, hown, hts⟩ := id hC
  have hbA : ¬ (fun q : Nat => s.heap.size ≤ q) b := Nat.not_le.mpr hbl
  obtain ⟨fk, hf0⟩ := wK_0 (cI := cI) (cZ := cZ) (cR := cR) (ad := ad) (S := S)
  obtain ⟨fm, hm0⟩ := wM_0 (cI := cI) (cZ := cZ) (cB := cB) (am := am) (M := M)
  obtain ⟨ad', S', M', rv, hR', e0, hp, h1, h2, hty⟩ := L_sideboard (l := l) (D := D) (cI := cI) (cZ := cZ) (cB := cB) (cR := cR) (sa := sa) (ad := ad) (am := am) hR
  obtain ⟨z, rfl⟩ := tyV_int hty
  refine lv_aload_n hx hb dL_law_180 rfl (lv_at hl 1 rfl) ?_
  refine zGL (X := wK cI cZ cR ad S) (X' := wK cI cZ cR ad' S') (Y := wM cI cZ cB am M) (As := []) (b := ad 0) (rest := []) hC h1 lM_L_23 vM_X3_sideboard (by decide) hK (ZZ_kept hS hZ) hP hD hS hp ⟨hf0, rfl, rfl⟩ rfl hl.1 rfl (by decide) dL_law_181 hcs (fun H locs hP hD hS => ?_)
  refine lv_aload_n hx hb dL_law_184 rfl (lv_at hl 2 rfl) ?_
  refine zGL (X := wM cI cZ cB am M) (X' := wM cI cZ cB am M') (Y := wK cI cZ cR ad' S') (As := []) (b := am 0) (rest := [.int z]) hC h2 lM_L_26 vM_X4_sideboard (by decide) hK (ZZ_kept hS hZ) (va_Pswap hP) (va_Dswap hD) hS (by rw [wM_fst, wM_fst]) ⟨hm0, rfl, rfl⟩ rfl hl.1 rfl (by simp [Value.category]) dL_law_185 hcs (fun H locs hP hD hS => ?_)
  refine lv_icmp_eq (tgt := 727) hx hb dL_law_188 (by decide) (fun _ => ?_) (fun h => absurd rfl h)
  exact kk ad' S' M' H locs hR' (va_Pswap hP) (va_Dswap hD) hS (by rw [e0]; exact hl)
theorem lawc_3 {p : Program} {l : Launch} {e : Env} {s : State} {m : MethodId} {args : Array Value} {below : List Frame} {meth : Method} {c : Code} {H : Heap} {locs : List Loc} {cells slots : Nat} {Q : State → Prop} {ls : Array Slot} {D : va_G} {cI cZ cB cR : ClassId} {sa b L i : Nat} {xs : Nat → Int32} {ad am : Nat → Nat} {S : KS} {M : MS}
    (hC : CallFix p m c cL_law 4 s args wsU RL) (hX : va_X b L xs s s.heap) (hbl : b < s.heap.size) (hK : KK D cI cZ cB cR s) (hZ : ZZ sa s s.heap) (hL : L ≤ 2048) (hi : i + 4 ≤ L) (hcs : cells ≤ room_1.cells ∧ slots ≤ room_1.slots)
    (hR : Rel S M) (hP : va_P D vwCl (wK cI cZ cR ad S ++ wM cI cZ cB am M) H) (hD : va_D (fun q : Nat => s.heap.size ≤ q) (wK cI cZ cR ad S ++ wM cI cZ cB am M)) (hS : va_S (fun q : Nat => s.heap.size ≤ q) s.heap H locs) (hl : lv_has ls 4 [(0, .ref b), (1, .ref (ad 0)), (2, .ref (am 0)), (3, .int (nI i))])
    (kk : ∀ (ad' : Nat → Nat) (S' : KS) (M' : MS) (H' : Heap) (locs' : List Loc), Rel S' M' → va_P D vwCl (wK cI cZ cR ad' S' ++ wM cI cZ cB am M') H' → va_D (fun q : Nat => s.heap.size ≤ q) (wK cI cZ cR ad' S' ++ wM cI cZ cB am M') → va_S (fun q : Nat => s.heap.size ≤ q) s.heap H' locs' → lv_has ls 4 [(0, .ref b), (1, .ref (ad' 0)), (2, .ref (am 0)), (3, .int (nI i))] → W p l e room_1 s m args below meth c H' locs' cells slots Q (F0 m 727 ls [])) :
    W p l e room_1 s m args below meth c H locs cells slots Q (F0 m 193 ls []) := by
  obtain ⟨hx, hb, hml, hown, hts⟩ := id hC
  have hbA : ¬ (fun q : Nat => s.heap.size ≤ q) b := Nat.not_le.mpr hbl
  obtain ⟨fk, hf0⟩ := wK_0 (cI := cI) (cZ := cZ) (cR := cR) (ad := ad) (S := S)
  obtain ⟨fm, hm0⟩ := wM_0 (cI := cI) (cZ := cZ) (cB := cB) (am := am) (M := M)
  obtain ⟨ad', S', M', rv, hR', e0, hp, h1, h2, hty⟩ := L_decanter (l := l) (D := D) (cI := cI) (cZ := cZ) (cB := cB) (cR := cR) (sa := sa) (ad := ad) (am := am) hR (xs (i + 1)) (xs (i + 2))
  obtain ⟨z, rfl⟩ := tyV_int hty
  refine lv_aload_n hx hb dL_law_193 rfl (lv_at hl 1 rfl) ?_
  refine zArg (k := 1) hx hb hX hbl hbA hS hl (by omega) hL dL_law_194 dL_law_195 dL_law_196 (by decide) dL_law_197 dL_law_198 ?_
  refine zArg (k := 2) hx hb hX hbl hbA hS hl (by omega) hL dL_law_199 dL_law_200 dL_law_201 (by decide) dL_law_202 dL_law_203 ?_
  refine zGL (X := wK cI cZ cR ad S) (X' := wK cI cZ cR ad' S') (Y := wM cI cZ cB am M) (As := [.int (xs (i + 1)), .int (xs (i + 2))]) (b := ad 0) (rest := []) hC h1 lM_L_27 vM_X3_decanter (by decide) hK (ZZ_kept hS hZ) hP hD hS hp ⟨hf0, rfl, rfl⟩ rfl hl.1 rfl (by decide) dL_law_204 hcs (fun H locs hP hD hS => ?_)
  refine lv_aload_n hx hb dL_law_207 rfl (lv_at hl 2 rfl) ?_
  refine zArg (k := 1) hx hb hX hbl hbA hS hl (by omega) hL dL_law_208 dL_law_209 dL_law_210 (by decide) dL_law_211 dL_law_212 ?_
  refine zArg (k := 2) hx hb hX hbl hbA hS hl (by omega) hL dL_law_213 dL_law_214 dL_law_215 (by decide) dL_law_216 dL_law_217 ?_
  refine zGL (X := wM cI cZ cB am M) (X' := wM cI cZ cB am M') (Y := wK cI cZ cR ad' S') (As := [.int (xs (i + 1)), .int (xs (i + 2))]) (b := am 0) (rest := [.int z]) hC h2 lM_L_31 vM_X4_decanter (by decide) hK (ZZ_kept hS hZ) (va_Pswap hP) (va_Dswap hD) hS (by rw [wM_fst, wM_fst]) ⟨hm0, rfl, rfl⟩ rfl hl.1 rfl (by simp [Value.category]) dL_law_218 hcs (fun H locs hP hD hS => ?_)
  refine lv_icmp_eq (tgt := 727) hx hb dL_law_221 (by decide) (fun _ => ?_) (fun h => absurd rfl h)
  exact kk ad' S' M' H locs hR' (va_Pswap hP) (va_Dswap hD) hS (by rw [e0]; exact hl)
theorem lawc_4 {p : Program} {l : Launch} {e : Env} {s : State} {m : MethodId} {args : Array Value} {below : List Frame} {meth : Method} {c : Code} {H : Heap} {locs : List Loc} {cells slots : Nat} {Q : State → Prop} {ls : Array Slot} {D : va_G} {cI cZ cB cR : ClassId} {sa b L i : Nat} {xs : Nat → Int32} {ad am : Nat → Nat} {S : KS} {M : MS}
    (hC : CallFix p m c cL_law 4 s args wsU RL) (hX : va_X b L xs s s.heap) (hbl : b < s.heap.size) (hK : KK D cI cZ cB cR s) (hZ : ZZ sa s s.heap) (hL : L ≤ 2048) (hi : i + 4 ≤ L) (hcs : cells ≤ room_1.cells ∧ slots ≤ room_1.slots)
    (hR : Rel S M) (hP : va_P D vwCl (wK cI cZ cR ad S ++ wM cI cZ cB am M) H) (hD : va_D (fun q : Nat => s.heap.size ≤ q) (wK cI cZ cR ad S ++ wM cI cZ cB am M)) (hS : va_S (fun q : Nat => s.heap.size ≤ q) s.heap H locs) (hl : lv_has ls 4 [(0, .ref b), (1, .ref (ad 0)), (2, .ref (am 0)), (3, .int (nI i))])
    (kk : ∀ (ad' : Nat → Nat) (S' : KS) (M' : MS) (H' : Heap) (locs' : List Loc), Rel S' M' → va_P D vwCl (wK cI cZ cR ad' S' ++ wM cI cZ cB am M') H' → va_D (fun q : Nat => s.heap.size ≤ q) (wK cI cZ cR ad' S' ++ wM cI cZ cB am M') → va_S (fun q : Nat => s.heap.size ≤ q) s.heap H' locs' → lv_has ls 4 [(0, .ref b), (1, .ref (ad' 0)), (2, .ref (am 0)), (3, .int (nI i))] → W p l e room_1 s m args below meth c H' locs' cells slots Q (F0 m 727 ls [])) :
    W p l e room_1 s m args below meth c H locs cells slots Q (F0 m 226 ls []) := by
  obtain ⟨hx, hb, hml, hown, hts⟩ := id hC
  have hbA : ¬ (fun q : Nat => s.heap.size ≤ q) b := Nat.not_le.mpr hbl
  obtain ⟨fk, hf0⟩ := wK_0 (cI := cI) (cZ := cZ) (cR := cR) (ad := ad) (S := S)
  obtain ⟨fm, hm0⟩ := wM_0 (cI := cI) (cZ := cZ) (cB := cB) (am := am) (M := M)
  obtain ⟨ad', S', M', rv, hR', e0, hp, h1, h2, hty⟩ := L_act (l := l) (D := D) (cI := cI) (cZ := cZ) (cB := cB) (cR := cR) (sa := sa) (ad := ad) (am := am) hR (xs (i + 1)) (xs (i + 2))
  obtain ⟨z, rfl⟩ := tyV_int hty
  refine lv_aload_n hx hb dL_law_226 rfl (lv_at hl 1 rfl) ?_
  refine zArg (k := 1) hx hb hX hbl hbA hS hl (by omega) hL dL_law_227 dL_law_228 dL_law_229 (by decide) dL_law_230 dL_law_231 ?_
  refine zArg (k := 2) hx hb hX hbl hbA hS hl (by omega) hL dL_law_232 dL_law_233 dL_law_234 (by decide) dL_law_235 dL_law_236 ?_
  refine zGL (X := wK cI cZ cR ad S) (X' := wK cI cZ cR ad' S') (Y := wM cI cZ cB am M) (As := [.int (xs (i + 1)), .int (xs (i + 2))]) (b := ad 0) (rest := []) hC h1 lM_L_32 vM_X3_act (by decide) hK (ZZ_kept hS hZ) hP hD hS hp ⟨hf0, rfl, rfl⟩ rfl hl.1 rfl (by decide) dL_law_237 hcs (fun H locs hP hD hS => ?_)
  refine lv_aload_n hx hb dL_law_240 rfl (lv_at hl 2 rfl) ?_
  refine zArg (k := 1) hx hb hX hbl hbA hS hl (by omega) hL dL_law_241 dL_law_242 dL_law_243 (by decide) dL_law_244 dL_law_245 ?_
  refine zArg (k := 2) hx hb hX hbl hbA hS hl (by omega) hL dL_law_246 dL_law_247 dL_law_248 (by decide) dL_law_249 dL_law_250 ?_
  refine zGL (X := wM cI cZ cB am M) (X' := wM cI cZ cB am M') (Y := wK cI cZ cR ad' S') (As := [.int (xs (i + 1)), .int (xs (i + 2))]) (b := am 0) (rest := [.int z]) hC h2 lM_L_35 vM_X4_act (by decide) hK (ZZ_kept hS hZ) (va_Pswap hP) (va_Dswap hD) hS (by rw [wM_fst, wM_fst]) ⟨hm0, rfl, rfl⟩ rfl hl.1 rfl (by simp [Value.category]) dL_law_251 hcs (fun H locs hP hD hS => ?_)
  refine lv_icmp_eq (tgt := 727) hx hb dL_law_254 (by decide) (fun _ => ?_) (fun h => absurd rfl h)
  exact kk ad' S' M' H locs hR' (va_Pswap hP) (va_Dswap hD) hS (by rw [e0]; exact hl)
theorem lawc_5 {p : Program} {l : Launch} {e : Env} {s : State} {m : MethodId} {args : Array Value} {below : List Frame} {meth : Method} {c : Code} {H : Heap} {locs : List Loc} {cells slots : Nat} {Q : State → Prop} {ls : Array Slot} {D : va_G} {cI cZ cB cR : ClassId} {sa b L i : Nat} {xs : Nat → Int32} {ad am : Nat → Nat} {S : KS} {M : MS}
    (hC : CallFix p m c cL_law 4 s args wsU RL) (hX : va_X b L xs s s.heap) (hbl : b < s.heap.size) (hK : KK D cI cZ cB cR s) (hZ : ZZ sa s s.heap) (hL : L ≤ 2048) (hi : i + 4 ≤ L) (hcs : cells ≤ room_1.cells ∧ slots ≤ room_1.slots)
    (hR : Rel S M) (hP : va_P D vwCl (wK cI cZ cR ad S ++ wM cI cZ cB am M) H) (hD : va_D (fun q : Nat => s.heap.size ≤ q) (wK cI cZ cR ad S ++ wM cI cZ cB am M)) (hS : va_S (fun q : Nat => s.heap.size ≤ q) s.heap H locs) (hl : lv_has ls 4 [(0, .ref b), (1, .ref (ad 0)), (2, .ref (am 0)), (3, .int (nI i))])
    (kk : ∀ (ad' : Nat → Nat) (S' : KS) (M' : MS) (H' : Heap) (locs' : List Loc), Rel S' M' → va_P D vwCl (wK cI cZ cR ad' S' ++ wM cI cZ cB am M') H' → va_D (fun q : Nat => s.heap.size ≤ q) (wK cI cZ cR ad' S' ++ wM cI cZ cB am M') → va_S (fun q : Nat => s.heap.size ≤ q) s.heap H' locs' → lv_has ls 4 [(0, .ref b), (1, .ref (ad' 0)), (2, .ref (am 0)), (3, .int (nI i))] → W p l e room_1 s m args below meth c H' locs' cells slots Q (F0 m 727 ls [])) :
    W p l e room_1 s m args below meth c H locs cells slots Q (F0 m 259 ls []) := by
  obtain ⟨hx, hb, hml, hown, hts⟩ := id hC
  have hbA : ¬ (fun q : Nat => s.heap.size ≤ q) b := Nat.not_le.mpr hbl
  obtain ⟨fk, hf0⟩ := wK_0 (cI := cI) (cZ := cZ) (cR := cR) (ad := ad) (S := S)
  obtain ⟨fm, hm0⟩ := wM_0 (cI := cI) (cZ := cZ) (cB := cB) (am := am) (M := M)
  obtain ⟨ad', S', M', rv, hR', e0, hp, h1, h2, hty⟩ := L_needs (l := l) (D := D) (cI := cI) (cZ := cZ) (cB := cB) (cR := cR) (sa := sa) (ad := ad) (am := am) hR (xs (i + 1)) (xs (i + 2))
  obtain ⟨z, rfl⟩ := tyV_int hty
  refine lv_aload_n hx hb dL_law_259 rfl (lv_at hl 1 rfl) ?_
  refine zArg (k := 1) hx hb hX hbl hbA hS hl (by omega) hL dL_law_260 dL_law_261 dL_law_262 (by decide) dL_law_263 dL_law_264 ?_
  refine zArg (k := 2) hx hb hX hbl hbA hS hl (by omega) hL dL_law_265 dL_law_266 dL_law_267 (by decide) dL_law_268 dL_law_269 ?_
  refine zGL (X := wK cI cZ cR ad S) (X' := wK cI cZ cR ad' S') (Y := wM cI cZ cB am M) (As := [.int (xs (i + 1)), .int (xs (i + 2))]) (b := ad 0) (rest := []) hC h1 lM_L_36 vM_X3_needs (by decide) hK (ZZ_kept hS hZ) hP hD hS hp ⟨hf0, rfl, rfl⟩ rfl hl.1 rfl (by decide) dL_law_270 hcs (fun H locs hP hD hS => ?_)
  refine lv_aload_n hx hb dL_law_273 rfl (lv_at hl 2 rfl) ?_
  refine zArg (k := 1) hx hb hX hbl hbA hS hl (by omega) hL dL_law_274 dL_law_275 dL_law_276 (by decide) dL_law_277 dL_law_278 ?_
  refine zArg (k := 2) hx hb hX hbl hbA hS hl (by omega) hL dL_law_279 dL_law_280 dL_law_281 (by decide) dL_law_282 dL_law_283 ?_
  refine zGL (X := wM cI cZ cB am M) (X' := wM cI cZ cB am M') (Y := wK cI cZ cR ad' S') (As := [.int (xs (i + 1)), .int (xs (i + 2))]) (b := am 0) (rest := [.int z]) hC h2 lM_L_39 vM_X4_needs (by decide) hK (ZZ_kept hS hZ) (va_Pswap hP) (va_Dswap hD) hS (by rw [wM_fst, wM_fst]) ⟨hm0, rfl, rfl⟩ rfl hl.1 rfl (by simp [Value.category]) dL_law_284 hcs (fun H locs hP hD hS => ?_)
  refine lv_icmp_eq (tgt := 727) hx hb dL_law_287 (by decide) (fun _ => ?_) (fun h => absurd rfl h)
  exact kk ad' S' M' H locs hR' (va_Pswap hP) (va_Dswap hD) hS (by rw [e0]; exact hl)
theorem lawc_6 {p : Program} {l : Launch} {e : Env} {s : State} {m : MethodId} {args : Array Value} {below : List Frame} {meth : Method} {c : Code} {H : Heap} {locs : List Loc} {cells slots : Nat} {Q : State → Prop} {ls : Array Slot} {D : va_G} {cI cZ cB cR : ClassId} {sa b L i : Nat} {xs : Nat → Int32} {ad am : Nat → Nat} {S : KS} {M : MS}
    (hC : CallFix p m c cL_law 4 s args wsU RL) (hX : va_X b L xs s s.heap) (hbl : b < s.heap.size) (hK : KK D cI cZ cB cR s) (hZ : ZZ sa s s.heap) (hL : L ≤ 2048) (hi : i + 4 ≤ L) (hcs : cells ≤ room_1.cells ∧ slots ≤ room_1.slots)
    (hR : Rel S M) (hP : va_P D vwCl (wK cI cZ cR ad S ++ wM cI cZ cB am M) H) (hD : va_D (fun q : Nat => s.heap.size ≤ q) (wK cI cZ cR ad S ++ wM cI cZ cB am M)) (hS : va_S (fun q : Nat => s.heap.size ≤ q) s.heap H locs) (hl : lv_has ls 4 [(0, .ref b), (1, .ref (ad 0)), (2, .ref (am 0)), (3, .int (nI i))])
    (kk : ∀ (ad' : Nat → Nat) (S' : KS) (M' : MS) (H' : Heap) (locs' : List Loc), Rel S' M' → va_P D vwCl (wK cI cZ cR ad' S' ++ wM cI cZ cB am M') H' → va_D (fun q : Nat => s.heap.size ≤ q) (wK cI cZ cR ad' S' ++ wM cI cZ cB am M') → va_S (fun q : Nat => s.heap.size ≤ q) s.heap H' locs' → lv_has ls 4 [(0, .ref b), (1, .ref (ad' 0)), (2, .ref (am 0)), (3, .int (nI i))] → W p l e room_1 s m args below meth c H' locs' cells slots Q (F0 m 727 ls [])) :
    W p l e room_1 s m args below meth c H locs cells slots Q (F0 m 292 ls []) := by
  obtain ⟨hx, hb, hml, hown, hts⟩ := id hC
  have hbA : ¬ (fun q : Nat => s.heap.size ≤ q) b := Nat.not_le.mpr hbl
  obtain ⟨fk, hf0⟩ := wK_0 (cI := cI) (cZ := cZ) (cR := cR) (ad := ad) (S := S)
  obtain ⟨fm, hm0⟩ := wM_0 (cI := cI) (cZ := cZ) (cB := cB) (am := am) (M := M)
  obtain ⟨ad', S', M', rv, hR', e0, hp, h1, h2, hty⟩ := L_pours (l := l) (D := D) (cI := cI) (cZ := cZ) (cB := cB) (cR := cR) (sa := sa) (ad := ad) (am := am) hR (xs (i + 1))
  obtain ⟨z, rfl⟩ := tyV_int hty
  refine lv_aload_n hx hb dL_law_292 rfl (lv_at hl 1 rfl) ?_
  refine zArg (k := 1) hx hb hX hbl hbA hS hl (by omega) hL dL_law_293 dL_law_294 dL_law_295 (by decide) dL_law_296 dL_law_297 ?_
  refine zGL (X := wK cI cZ cR ad S) (X' := wK cI cZ cR ad' S') (Y := wM cI cZ cB am M) (As := [.int (xs (i + 1))]) (b := ad 0) (rest := []) hC h1 lM_L_40 vM_X3_pours (by decide) hK (ZZ_kept hS hZ) hP hD hS hp ⟨hf0, rfl, rfl⟩ rfl hl.1 rfl (by decide) dL_law_298 hcs (fun H locs hP hD hS => ?_)
  refine lv_aload_n hx hb dL_law_301 rfl (lv_at hl 2 rfl) ?_
  refine zArg (k := 1) hx hb hX hbl hbA hS hl (by omega) hL dL_law_302 dL_law_303 dL_law_304 (by decide) dL_law_305 dL_law_306 ?_
  refine zGL (X := wM cI cZ cB am M) (X' := wM cI cZ cB am M') (Y := wK cI cZ cR ad' S') (As := [.int (xs (i + 1))]) (b := am 0) (rest := [.int z]) hC h2 lM_L_43 vM_X4_pours (by decide) hK (ZZ_kept hS hZ) (va_Pswap hP) (va_Dswap hD) hS (by rw [wM_fst, wM_fst]) ⟨hm0, rfl, rfl⟩ rfl hl.1 rfl (by simp [Value.category]) dL_law_307 hcs (fun H locs hP hD hS => ?_)
  refine lv_icmp_eq (tgt := 727) hx hb dL_law_310 (by decide) (fun _ => ?_) (fun h => absurd rfl h)
  exact kk ad' S' M' H locs hR' (va_Pswap hP) (va_Dswap hD) hS (by rw [e0]; exact hl)
theorem lawc_7 {p : Program} {l : Launch} {e : Env} {s : State} {m : MethodId} {args : Array Value} {below : List Frame} {meth : Method} {c : Code} {H : Heap} {locs : List Loc} {cells slots : Nat} {Q : State → Prop} {ls : Array Slot} {D : va_G} {cI cZ cB cR : ClassId} {sa b L i : Nat} {xs : Nat → Int32} {ad am : Nat → Nat} {S : KS} {M : MS}
    (hC : CallFix p m c cL_law 4 s args wsU RL) (hX : va_X b L xs s s.heap) (hbl : b < s.heap.size) (hK : KK D cI cZ cB cR s) (hZ : ZZ sa s s.heap) (hL : L ≤ 2048) (hi : i + 4 ≤ L) (hcs : cells ≤ room_1.cells ∧ slots ≤ room_1.slots)
    (hR : Rel S M) (hP : va_P D vwCl (wK cI cZ cR ad S ++ wM cI cZ cB am M) H) (hD : va_D (fun q : Nat => s.heap.size ≤ q) (wK cI cZ cR ad S ++ wM cI cZ cB am M)) (hS : va_S (fun q : Nat => s.heap.size ≤ q) s.heap H locs) (hl : lv_has ls 4 [(0, .ref b), (1, .ref (ad 0)), (2, .ref (am 0)), (3, .int (nI i))])
    (kk : ∀ (ad' : Nat → Nat) (S' : KS) (M' : MS) (H' : Heap) (locs' : List Loc), Rel S' M' → va_P D vwCl (wK cI cZ cR ad' S' ++ wM cI cZ cB am M') H' → va_D (fun q : Nat => s.heap.size ≤ q) (wK cI cZ cR ad' S' ++ wM cI cZ cB am M') → va_S (fun q : Nat => s.heap.size ≤ q) s.heap H' locs' → lv_has ls 4 [(0, .ref b), (1, .ref (ad' 0)), (2, .ref (am 0)), (3, .int (nI i))] → W p l e room_1 s m args below meth c H' locs' cells slots Q (F0 m 727 ls [])) :
    W p l e room_1 s m args below meth c H locs cells slots Q (F0 m 315 ls []) := by
  obtain ⟨hx, hb, hml, hown, hts⟩ := id hC
  have hbA : ¬ (fun q : Nat => s.heap.size ≤ q) b := Nat.not_le.mpr hbl
  obtain ⟨fk, hf0⟩ := wK_0 (cI := cI) (cZ := cZ) (cR := cR) (ad := ad) (S := S)
  obtain ⟨fm, hm0⟩ := wM_0 (cI := cI) (cZ := cZ) (cB := cB) (am := am) (M := M)
  obtain ⟨ad', S', M', rv, hR', e0, hp, h1, h2, hty⟩ := L_month (l := l) (D := D) (cI := cI) (cZ := cZ) (cB := cB) (cR := cR) (sa := sa) (ad := ad) (am := am) hR
  obtain ⟨z, rfl⟩ := tyV_int hty
  refine lv_aload_n hx hb dL_law_315 rfl (lv_at hl 1 rfl) ?_
  refine zGL (X := wK cI cZ cR ad S) (X' := wK cI cZ cR ad' S') (Y := wM cI cZ cB am M) (As := []) (b := ad 0) (rest := []) hC h1 lM_L_44 vM_X3_month (by decide) hK (ZZ_kept hS hZ) hP hD hS hp ⟨hf0, rfl, rfl⟩ rfl hl.1 rfl (by decide) dL_law_316 hcs (fun H locs hP hD hS => ?_)
  refine lv_aload_n hx hb dL_law_319 rfl (lv_at hl 2 rfl) ?_
  refine zGL (X := wM cI cZ cB am M) (X' := wM cI cZ cB am M') (Y := wK cI cZ cR ad' S') (As := []) (b := am 0) (rest := [.int z]) hC h2 lM_L_47 vM_X4_month (by decide) hK (ZZ_kept hS hZ) (va_Pswap hP) (va_Dswap hD) hS (by rw [wM_fst, wM_fst]) ⟨hm0, rfl, rfl⟩ rfl hl.1 rfl (by simp [Value.category]) dL_law_320 hcs (fun H locs hP hD hS => ?_)
  refine lv_icmp_eq (tgt := 727) hx hb dL_law_323 (by decide) (fun _ => ?_) (fun h => absurd rfl h)
  exact kk ad' S' M' H locs hR' (va_Pswap hP) (va_Dswap hD) hS (by rw [e0]; exact hl)
theorem lawc_8 {p : Program} {l : Launch} {e : Env} {s : State} {m : MethodId} {args : Array Value} {below : List Frame} {meth : Method} {c : Code} {H : Heap} {locs : List Loc} {cells slots : Nat} {Q : State → Prop} {ls : Array Slot} {D : va_G} {cI cZ cB cR : ClassId} {sa b L i : Nat} {xs : Nat → Int32} {ad am : Nat → Nat} {S : KS} {M : MS}
    (hC : CallFix p m c cL_law 4 s args wsU RL) (hX : va_X b L xs s s.heap) (hbl : b < s.heap.size) (hK : KK D cI cZ cB cR s) (hZ : ZZ sa s s.heap) (hL : L ≤ 2048) (hi : i + 4 ≤ L) (hcs : cells ≤ room_1.cells ∧ slots ≤ room_1.slots)
    (hR : Rel S M) (hP : va_P D vwCl (wK cI cZ cR ad S ++ wM cI cZ cB am M) H) (hD : va_D (fun q : Nat => s.heap.size ≤ q) (wK cI cZ cR ad S ++ wM cI cZ cB am M)) (hS : va_S (fun q : Nat => s.heap.size ≤ q) s.heap H locs) (hl : lv_has ls 4 [(0, .ref b), (1, .ref (ad 0)), (2, .ref (am 0)), (3, .int (nI i))])
    (kk : ∀ (ad' : Nat → Nat) (S' : KS) (M' : MS) (H' : Heap) (locs' : List Loc), Rel S' M' → va_P D vwCl (wK cI cZ cR ad' S' ++ wM cI cZ cB am M') H' → va_D (fun q : Nat => s.heap.size ≤ q) (wK cI cZ cR ad' S' ++ wM cI cZ cB am M') → va_S (fun q : Nat => s.heap.size ≤ q) s.heap H' locs' → lv_has ls 4 [(0, .ref b), (1, .ref (ad' 0)), (2, .ref (am 0)), (3, .int (nI i))] → W p l e room_1 s m args below meth c H' locs' cells slots Q (F0 m 727 ls [])) :
    W p l e room_1 s m args below meth c H locs cells slots Q (F0 m 328 ls []) := by
  obtain ⟨hx, hb, hml, hown, hts⟩ := id hC
  have hbA : ¬ (fun q : Nat => s.heap.size ≤ q) b := Nat.not_le.mpr hbl
  obtain ⟨fk, hf0⟩ := wK_0 (cI := cI) (cZ := cZ) (cR := cR) (ad := ad) (S := S)
  obtain ⟨fm, hm0⟩ := wM_0 (cI := cI) (cZ := cZ) (cB := cB) (am := am) (M := M)
  obtain ⟨ad', S', M', rv, hR', e0, hp, h1, h2, hty⟩ := L_tops (l := l) (D := D) (cI := cI) (cZ := cZ) (cB := cB) (cR := cR) (sa := sa) (ad := ad) (am := am) hR (xs (i + 1)) (xs (i + 2))
  obtain ⟨z, rfl⟩ := tyV_int hty
  refine lv_aload_n hx hb dL_law_328 rfl (lv_at hl 1 rfl) ?_
  refine zArg (k := 1) hx hb hX hbl hbA hS hl (by omega) hL dL_law_329 dL_law_330 dL_law_331 (by decide) dL_law_332 dL_law_333 ?_
  refine zArg (k := 2) hx hb hX hbl hbA hS hl (by omega) hL dL_law_334 dL_law_335 dL_law_336 (by decide) dL_law_337 dL_law_338 ?_
  refine zGL (X := wK cI cZ cR ad S) (X' := wK cI cZ cR ad' S') (Y := wM cI cZ cB am M) (As := [.int (xs (i + 1)), .int (xs (i + 2))]) (b := ad 0) (rest := []) hC h1 lM_L_48 vM_X3_tops (by decide) hK (ZZ_kept hS hZ) hP hD hS hp ⟨hf0, rfl, rfl⟩ rfl hl.1 rfl (by decide) dL_law_339 hcs (fun H locs hP hD hS => ?_)
  refine lv_aload_n hx hb dL_law_342 rfl (lv_at hl 2 rfl) ?_
  refine zArg (k := 1) hx hb hX hbl hbA hS hl (by omega) hL dL_law_343 dL_law_344 dL_law_345 (by decide) dL_law_346 dL_law_347 ?_
  refine zArg (k := 2) hx hb hX hbl hbA hS hl (by omega) hL dL_law_348 dL_law_349 dL_law_350 (by decide) dL_law_351 dL_law_352 ?_
  refine zGL (X := wM cI cZ cB am M) (X' := wM cI cZ cB am M') (Y := wK cI cZ cR ad' S') (As := [.int (xs (i + 1)), .int (xs (i + 2))]) (b := am 0) (rest := [.int z]) hC h2 lM_L_51 vM_X4_tops (by decide) hK (ZZ_kept hS hZ) (va_Pswap hP) (va_Dswap hD) hS (by rw [wM_fst, wM_fst]) ⟨hm0, rfl, rfl⟩ rfl hl.1 rfl (by simp [Value.category]) dL_law_353 hcs (fun H locs hP hD hS => ?_)
  refine lv_icmp_eq (tgt := 727) hx hb dL_law_356 (by decide) (fun _ => ?_) (fun h => absurd rfl h)
  exact kk ad' S' M' H locs hR' (va_Pswap hP) (va_Dswap hD) hS (by rw [e0]; exact hl)
theorem lawc_9 {p : Program} {l : Launch} {e : Env} {s : State} {m : MethodId} {args : Array Value} {below : List Frame} {meth : Method} {c : Code} {H : Heap} {locs : List Loc} {cells slots : Nat} {Q : State → Prop} {ls : Array Slot} {D : va_G} {cI cZ cB cR : ClassId} {sa b L i : Nat} {xs : Nat → Int32} {ad am : Nat → Nat} {S : KS} {M : MS}
    (hC : CallFix p m c cL_law 4 s args wsU RL) (hX : va_X b L xs s s.heap) (hbl : b < s.heap.size) (hK : KK D cI cZ cB cR s) (hZ : ZZ sa s s.heap) (hL : L ≤ 2048) (hi : i + 4 ≤ L) (hcs : cells ≤ room_1.cells ∧ slots ≤ room_1.slots)
    (hR : Rel S M) (hP : va_P D vwCl (wK cI cZ cR ad S ++ wM cI cZ cB am M) H) (hD : va_D (fun q : Nat => s.heap.size ≤ q) (wK cI cZ cR ad S ++ wM cI cZ cB am M)) (hS : va_S (fun q : Nat => s.heap.size ≤ q) s.heap H locs) (hl : lv_has ls 4 [(0, .ref b), (1, .ref (ad 0)), (2, .ref (am 0)), (3, .int (nI i))])
    (kk : ∀ (ad' : Nat → Nat) (S' : KS) (M' : MS) (H' : Heap) (locs' : List Loc), Rel S' M' → va_P D vwCl (wK cI cZ cR ad' S' ++ wM cI cZ cB am M') H' → va_D (fun q : Nat => s.heap.size ≤ q) (wK cI cZ cR ad' S' ++ wM cI cZ cB am M') → va_S (fun q : Nat => s.heap.size ≤ q) s.heap H' locs' → lv_has ls 4 [(0, .ref b), (1, .ref (ad' 0)), (2, .ref (am 0)), (3, .int (nI i))] → W p l e room_1 s m args below meth c H' locs' cells slots Q (F0 m 727 ls [])) :
    W p l e room_1 s m args below meth c H locs cells slots Q (F0 m 361 ls []) := by
  obtain ⟨hx, hb, hml, hown, hts⟩ := id hC
  have hbA : ¬ (fun q : Nat => s.heap.size ≤ q) b := Nat.not_le.mpr hbl
  obtain ⟨fk, hf0⟩ := wK_0 (cI := cI) (cZ := cZ) (cR := cR) (ad := ad) (S := S)
  obtain ⟨fm, hm0⟩ := wM_0 (cI := cI) (cZ := cZ) (cB := cB) (am := am) (M := M)
  obtain ⟨ad', S', M', rv, hR', e0, hp, h1, h2, hty⟩ := L_labels (l := l) (D := D) (cI := cI) (cZ := cZ) (cB := cB) (cR := cR) (sa := sa) (ad := ad) (am := am) hR (xs (i + 1)) (xs (i + 2))
  obtain ⟨z, rfl⟩ := tyV_int hty
  refine lv_aload_n hx hb dL_law_361 rfl (lv_at hl 1 rfl) ?_
  refine zArg (k := 1) hx hb hX hbl hbA hS hl (by omega) hL dL_law_362 dL_law_363 dL_law_364 (by decide) dL_law_365 dL_law_366 ?_
  refine zArg (k := 2) hx hb hX hbl hbA hS hl (by omega) hL dL_law_367 dL_law_368 dL_law_369 (by decide) dL_law_370 dL_law_371 ?_
  refine zGL (X := wK cI cZ cR ad S) (X' := wK cI cZ cR ad' S') (Y := wM cI cZ cB am M) (As := [.int (xs (i + 1)), .int (xs (i + 2))]) (b := ad 0) (rest := []) hC h1 lM_L_52 vM_X3_labels (by decide) hK (ZZ_kept hS hZ) hP hD hS hp ⟨hf0, rfl, rfl⟩ rfl hl.1 rfl (by decide) dL_law_372 hcs (fun H locs hP hD hS => ?_)
  refine lv_aload_n hx hb dL_law_375 rfl (lv_at hl 2 rfl) ?_
  refine zArg (k := 1) hx hb hX hbl hbA hS hl (by omega) hL dL_law_376 dL_law_377 dL_law_378 (by decide) dL_law_379 dL_law_380 ?_
  refine zArg (k := 2) hx hb hX hbl hbA hS hl (by omega) hL dL_law_381 dL_law_382 dL_law_383 (by decide) dL_law_384 dL_law_385 ?_
  refine zGL (X := wM cI cZ cB am M) (X' := wM cI cZ cB am M') (Y := wK cI cZ cR ad' S') (As := [.int (xs (i + 1)), .int (xs (i + 2))]) (b := am 0) (rest := [.int z]) hC h2 lM_L_55 vM_X4_labels (by decide) hK (ZZ_kept hS hZ) (va_Pswap hP) (va_Dswap hD) hS (by rw [wM_fst, wM_fst]) ⟨hm0, rfl, rfl⟩ rfl hl.1 rfl (by simp [Value.category]) dL_law_386 hcs (fun H locs hP hD hS => ?_)
  refine lv_icmp_eq (tgt := 727) hx hb dL_law_389 (by decide) (fun _ => ?_) (fun h => absurd rfl h)
  exact kk ad' S' M' H locs hR' (va_Pswap hP) (va_Dswap hD) hS (by rw [e0]; exact hl)
theorem lawc_10 {p : Program} {l : Launch} {e : Env} {s : State} {m : MethodId} {args : Array Value} {below : List Frame} {meth : Method} {c : Code} {H : Heap} {locs : List Loc} {cells slots : Nat} {Q : State → Prop} {ls : Array Slot} {D : va_G} {cI cZ cB cR : ClassId} {sa b L i : Nat} {xs : Nat → Int32} {ad am : Nat → Nat} {S : KS} {M : MS}
    (hC : CallFix p m c cL_law 4 s args wsU RL) (hX : va_X b L xs s s.heap) (hbl : b < s.heap.size) (hK : KK D cI cZ cB cR s) (hZ : ZZ sa s s.heap) (hL : L ≤ 2048) (hi : i + 4 ≤ L) (hcs : cells ≤ room_1.cells ∧ slots ≤ room_1.slots)
    (hR : Rel S M) (hP : va_P D vwCl (wK cI cZ cR ad S ++ wM cI cZ cB am M) H) (hD : va_D (fun q : Nat => s.heap.size ≤ q) (wK cI cZ cR ad S ++ wM cI cZ cB am M)) (hS : va_S (fun q : Nat => s.heap.size ≤ q) s.heap H locs) (hl : lv_has ls 4 [(0, .ref b), (1, .ref (ad 0)), (2, .ref (am 0)), (3, .int (nI i))])
    (kk : ∀ (ad' : Nat → Nat) (S' : KS) (M' : MS) (H' : Heap) (locs' : List Loc), Rel S' M' → va_P D vwCl (wK cI cZ cR ad' S' ++ wM cI cZ cB am M') H' → va_D (fun q : Nat => s.heap.size ≤ q) (wK cI cZ cR ad' S' ++ wM cI cZ cB am M') → va_S (fun q : Nat => s.heap.size ≤ q) s.heap H' locs' → lv_has ls 4 [(0, .ref b), (1, .ref (ad' 0)), (2, .ref (am 0)), (3, .int (nI i))] → W p l e room_1 s m args below meth c H' locs' cells slots Q (F0 m 727 ls [])) :
    W p l e room_1 s m args below meth c H locs cells slots Q (F0 m 394 ls []) := by
  obtain ⟨hx, hb, hml, hown, hts⟩ := id hC
  have hbA : ¬ (fun q : Nat => s.heap.size ≤ q) b := Nat.not_le.mpr hbl
  obtain ⟨fk, hf0⟩ := wK_0 (cI := cI) (cZ := cZ) (cR := cR) (ad := ad) (S := S)
  obtain ⟨fm, hm0⟩ := wM_0 (cI := cI) (cZ := cZ) (cB := cB) (am := am) (M := M)
  obtain ⟨ad', S', M', rv, hR', e0, hp, h1, h2, hty⟩ := L_undo (l := l) (D := D) (cI := cI) (cZ := cZ) (cB := cB) (cR := cR) (sa := sa) (ad := ad) (am := am) hR
  obtain ⟨z, rfl⟩ := tyV_int hty
  refine lv_aload_n hx hb dL_law_394 rfl (lv_at hl 1 rfl) ?_
  refine zGL (X := wK cI cZ cR ad S) (X' := wK cI cZ cR ad' S') (Y := wM cI cZ cB am M) (As := []) (b := ad 0) (rest := []) hC h1 lM_L_56 vM_X3_undo (by decide) hK (ZZ_kept hS hZ) hP hD hS hp ⟨hf0, rfl, rfl⟩ rfl hl.1 rfl (by decide) dL_law_395 hcs (fun H locs hP hD hS => ?_)
  refine lv_aload_n hx hb dL_law_398 rfl (lv_at hl 2 rfl) ?_
  refine zGL (X := wM cI cZ cB am M) (X' := wM cI cZ cB am M') (Y := wK cI cZ cR ad' S') (As := []) (b := am 0) (rest := [.int z]) hC h2 lM_L_59 vM_X4_undo (by decide) hK (ZZ_kept hS hZ) (va_Pswap hP) (va_Dswap hD) hS (by rw [wM_fst, wM_fst]) ⟨hm0, rfl, rfl⟩ rfl hl.1 rfl (by simp [Value.category]) dL_law_399 hcs (fun H locs hP hD hS => ?_)
  refine lv_icmp_eq (tgt := 727) hx hb dL_law_402 (by decide) (fun _ => ?_) (fun h => absurd rfl h)
  exact kk ad' S' M' H locs hR' (va_Pswap hP) (va_Dswap hD) hS (by rw [e0]; exact hl)
theorem lawc_11 {p : Program} {l : Launch} {e : Env} {s : State} {m : MethodId} {args : Array Value} {below : List Frame} {meth : Method} {c : Code} {H : Heap} {locs : List Loc} {cells slots : Nat} {Q : State → Prop} {ls : Array Slot} {D : va_G} {cI cZ cB cR : ClassId} {sa b L i : Nat} {xs : Nat → Int32} {ad am : Nat → Nat} {S : KS} {M : MS}
    (hC : CallFix p m c cL_law 4 s args wsU RL) (hX : va_X b L xs s s.heap) (hbl : b < s.heap.size) (hK : KK D cI cZ cB cR s) (hZ : ZZ sa s s.heap) (hL : L ≤ 2048) (hi : i + 4 ≤ L) (hcs : cells ≤ room_1.cells ∧ slots ≤ room_1.slots)
    (hR : Rel S M) (hP : va_P D vwCl (wK cI cZ cR ad S ++ wM cI cZ cB am M) H) (hD : va_D (fun q : Nat => s.heap.size ≤ q) (wK cI cZ cR ad S ++ wM cI cZ cB am M)) (hS : va_S (fun q : Nat => s.heap.size ≤ q) s.heap H locs) (hl : lv_has ls 4 [(0, .ref b), (1, .ref (ad 0)), (2, .ref (am 0)), (3, .int (nI i))])
    (kk : ∀ (ad' : Nat → Nat) (S' : KS) (M' : MS) (H' : Heap) (locs' : List Loc), Rel S' M' → va_P D vwCl (wK cI cZ cR ad' S' ++ wM cI cZ cB am M') H' → va_D (fun q : Nat => s.heap.size ≤ q) (wK cI cZ cR ad' S' ++ wM cI cZ cB am M') → va_S (fun q : Nat => s.heap.size ≤ q) s.heap H' locs' → lv_has ls 4 [(0, .ref b), (1, .ref (ad' 0)), (2, .ref (am 0)), (3, .int (nI i))] → W p l e room_1 s m args below meth c H' locs' cells slots Q (F0 m 727 ls [])) :
    W p l e room_1 s m args below meth c H locs cells slots Q (F0 m 407 ls []) := by
  obtain ⟨hx, hb, hml, hown, hts⟩ := id hC
  have hbA : ¬ (fun q : Nat => s.heap.size ≤ q) b := Nat.not_le.mpr hbl
  obtain ⟨fk, hf0⟩ := wK_0 (cI := cI) (cZ := cZ) (cR := cR) (ad := ad) (S := S)
  obtain ⟨fm, hm0⟩ := wM_0 (cI := cI) (cZ := cZ) (cB := cB) (am := am) (M := M)
  obtain ⟨ad', S', M', rv, hR', e0, hp, h1, h2, hty⟩ := L_now (l := l) (D := D) (cI := cI) (cZ := cZ) (cB := cB) (cR := cR) (sa := sa) (ad := ad) (am := am) hR (xs (i + 1))
  obtain ⟨z, rfl⟩ := tyV_int hty
  refine lv_aload_n hx hb dL_law_407 rfl (lv_at hl 1 rfl) ?_
  refine zArg (k := 1) hx hb hX hbl hbA hS hl (by omega) hL dL_law_408 dL_law_409 dL_law_410 (by decide) dL_law_411 dL_law_412 ?_
  refine zGL (X := wK cI cZ cR ad S) (X' := wK cI cZ cR ad' S') (Y := wM cI cZ cB am M) (As := [.int (xs (i + 1))]) (b := ad 0) (rest := []) hC h1 lM_L_60 vM_X3_now (by decide) hK (ZZ_kept hS hZ) hP hD hS hp ⟨hf0, rfl, rfl⟩ rfl hl.1 rfl (by decide) dL_law_413 hcs (fun H locs hP hD hS => ?_)
  refine lv_aload_n hx hb dL_law_416 rfl (lv_at hl 2 rfl) ?_
  refine zArg (k := 1) hx hb hX hbl hbA hS hl (by omega) hL dL_law_417 dL_law_418 dL_law_419 (by decide) dL_law_420 dL_law_421 ?_
  refine zGL (X := wM cI cZ cB am M) (X' := wM cI cZ cB am M') (Y := wK cI cZ cR ad' S') (As := [.int (xs (i + 1))]) (b := am 0) (rest := [.int z]) hC h2 lM_L_63 vM_X4_now (by decide) hK (ZZ_kept hS hZ) (va_Pswap hP) (va_Dswap hD) hS (by rw [wM_fst, wM_fst]) ⟨hm0, rfl, rfl⟩ rfl hl.1 rfl (by simp [Value.category]) dL_law_422 hcs (fun H locs hP hD hS => ?_)
  refine lv_icmp_eq (tgt := 727) hx hb dL_law_425 (by decide) (fun _ => ?_) (fun h => absurd rfl h)
  exact kk ad' S' M' H locs hR' (va_Pswap hP) (va_Dswap hD) hS (by rw [e0]; exact hl)
theorem lawc_12 {p : Program} {l : Launch} {e : Env} {s : State} {m : MethodId} {args : Array Value} {below : List Frame} {meth : Method} {c : Code} {H : Heap} {locs : List Loc} {cells slots : Nat} {Q : State → Prop} {ls : Array Slot} {D : va_G} {cI cZ cB cR : ClassId} {sa b L i : Nat} {xs : Nat → Int32} {ad am : Nat → Nat} {S : KS} {M : MS}
    (hC : CallFix p m c cL_law 4 s args wsU RL) (hX : va_X b L xs s s.heap) (hbl : b < s.heap.size) (hK : KK D cI cZ cB cR s) (hZ : ZZ sa s s.heap) (hL : L ≤ 2048) (hi : i + 4 ≤ L) (hcs : cells ≤ room_1.cells ∧ slots ≤ room_1.slots)
    (hR : Rel S M) (hP : va_P D vwCl (wK cI cZ cR ad S ++ wM cI cZ cB am M) H) (hD : va_D (fun q : Nat => s.heap.size ≤ q) (wK cI cZ cR ad S ++ wM cI cZ cB am M)) (hS : va_S (fun q : Nat => s.heap.size ≤ q) s.heap H locs) (hl : lv_has ls 4 [(0, .ref b), (1, .ref (ad 0)), (2, .ref (am 0)), (3, .int (nI i))])
    (kk : ∀ (ad' : Nat → Nat) (S' : KS) (M' : MS) (H' : Heap) (locs' : List Loc), Rel S' M' → va_P D vwCl (wK cI cZ cR ad' S' ++ wM cI cZ cB am M') H' → va_D (fun q : Nat => s.heap.size ≤ q) (wK cI cZ cR ad' S' ++ wM cI cZ cB am M') → va_S (fun q : Nat => s.heap.size ≤ q) s.heap H' locs' → lv_has ls 4 [(0, .ref b), (1, .ref (ad' 0)), (2, .ref (am 0)), (3, .int (nI i))] → W p l e room_1 s m args below meth c H' locs' cells slots Q (F0 m 727 ls [])) :
    W p l e room_1 s m args below meth c H locs cells slots Q (F0 m 430 ls []) := by
  obtain ⟨hx, hb, hml, hown, hts⟩ := id hC
  have hbA : ¬ (fun q : Nat => s.heap.size ≤ q) b := Nat.not_le.mpr hbl
  obtain ⟨fk, hf0⟩ := wK_0 (cI := cI) (cZ := cZ) (cR := cR) (ad := ad) (S := S)
  obtain ⟨fm, hm0⟩ := wM_0 (cI := cI) (cZ := cZ) (cB := cB) (am := am) (M := M)
  obtain ⟨ad', S', M', rv, hR', e0, hp, h1, h2, hty⟩ := L_tray (l := l) (D := D) (cI := cI) (cZ := cZ) (cB := cB) (cR := cR) (sa := sa) (ad := ad) (am := am) hR (xs (i + 1))
  obtain ⟨z, rfl⟩ := tyV_int hty
  refine lv_aload_n hx hb dL_law_430 rfl (lv_at hl 1 rfl) ?_
  refine zArg (k := 1) hx hb hX hbl hbA hS hl (by omega) hL dL_law_431 dL_law_432 dL_law_433 (by decide) dL_law_434 dL_law_435 ?_
  refine zGL (X := wK cI cZ cR ad S) (X' := wK cI cZ cR ad' S') (Y := wM cI cZ cB am M) (As := [.int (xs (i + 1))]) (b := ad 0) (rest := []) hC h1 lM_L_64 vM_X3_tray (by decide) hK (ZZ_kept hS hZ) hP hD hS hp ⟨hf0, rfl, rfl⟩ rfl hl.1 rfl (by decide) dL_law_436 hcs (fun H locs hP hD hS => ?_)
  refine lv_aload_n hx hb dL_law_439 rfl (lv_at hl 2 rfl) ?_
  refine zArg (k := 1) hx hb hX hbl hbA hS hl (by omega) hL dL_law_440 dL_law_441 dL_law_442 (by decide) dL_law_443 dL_law_444 ?_
  refine zGL (X := wM cI cZ cB am M) (X' := wM cI cZ cB am M') (Y := wK cI cZ cR ad' S') (As := [.int (xs (i + 1))]) (b := am 0) (rest := [.int z]) hC h2 lM_L_67 vM_X4_tray (by decide) hK (ZZ_kept hS hZ) (va_Pswap hP) (va_Dswap hD) hS (by rw [wM_fst, wM_fst]) ⟨hm0, rfl, rfl⟩ rfl hl.1 rfl (by simp [Value.category]) dL_law_445 hcs (fun H locs hP hD hS => ?_)
  refine lv_icmp_eq (tgt := 727) hx hb dL_law_448 (by decide) (fun _ => ?_) (fun h => absurd rfl h)
  exact kk ad' S' M' H locs hR' (va_Pswap hP) (va_Dswap hD) hS (by rw [e0]; exact hl)
theorem lawc_13 {p : Program} {l : Launch} {e : Env} {s : State} {m : MethodId} {args : Array Value} {below : List Frame} {meth : Method} {c : Code} {H : Heap} {locs : List Loc} {cells slots : Nat} {Q : State → Prop} {ls : Array Slot} {D : va_G} {cI cZ cB cR : ClassId} {sa b L i : Nat} {xs : Nat → Int32} {ad am : Nat → Nat} {S : KS} {M : MS}
    (hC : CallFix p m c cL_law 4 s args wsU RL) (hX : va_X b L xs s s.heap) (hbl : b < s.heap.size) (hK : KK D cI cZ cB cR s) (hZ : ZZ sa s s.heap) (hL : L ≤ 2048) (hi : i + 4 ≤ L) (hcs : cells ≤ room_1.cells ∧ slots ≤ room_1.slots)
    (hR : Rel S M) (hP : va_P D vwCl (wK cI cZ cR ad S ++ wM cI cZ cB am M) H) (hD : va_D (fun q : Nat => s.heap.size ≤ q) (wK cI cZ cR ad S ++ wM cI cZ cB am M)) (hS : va_S (fun q : Nat => s.heap.size ≤ q) s.heap H locs) (hl : lv_has ls 4 [(0, .ref b), (1, .ref (ad 0)), (2, .ref (am 0)), (3, .int (nI i))])
    (kk : ∀ (ad' : Nat → Nat) (S' : KS) (M' : MS) (H' : Heap) (locs' : List Loc), Rel S' M' → va_P D vwCl (wK cI cZ cR ad' S' ++ wM cI cZ cB am M') H' → va_D (fun q : Nat => s.heap.size ≤ q) (wK cI cZ cR ad' S' ++ wM cI cZ cB am M') → va_S (fun q : Nat => s.heap.size ≤ q) s.heap H' locs' → lv_has ls 4 [(0, .ref b), (1, .ref (ad' 0)), (2, .ref (am 0)), (3, .int (nI i))] → W p l e room_1 s m args below meth c H' locs' cells slots Q (F0 m 727 ls [])) :
    W p l e room_1 s m args below meth c H locs cells slots Q (F0 m 453 ls []) := by
  obtain ⟨hx, hb, hml, hown, hts⟩ := id hC
  have hbA : ¬ (fun q : Nat => s.heap.size ≤ q) b := Nat.not_le.mpr hbl
  obtain ⟨fk, hf0⟩ := wK_0 (cI := cI) (cZ := cZ) (cR := cR) (ad := ad) (S := S)
  obtain ⟨fm, hm0⟩ := wM_0 (cI := cI) (cZ := cZ) (cB := cB) (am := am) (M := M)
  obtain ⟨ad', S', M', rv, hR', e0, hp, h1, h2, hty⟩ := L_right (l := l) (D := D) (cI := cI) (cZ := cZ) (cB := cB) (cR := cR) (sa := sa) (ad := ad) (am := am) hR (xs (i + 1))
  obtain ⟨z, rfl⟩ := tyV_int hty
  refine lv_aload_n hx hb dL_law_453 rfl (lv_at hl 1 rfl) ?_
  refine zArg (k := 1) hx hb hX hbl hbA hS hl (by omega) hL dL_law_454 dL_law_455 dL_law_456 (by decide) dL_law_457 dL_law_458 ?_
  refine zGL (X := wK cI cZ cR ad S) (X' := wK cI cZ cR ad' S') (Y := wM cI cZ cB am M) (As := [.int (xs (i + 1))]) (b := ad 0) (rest := []) hC h1 lM_L_68 vM_X3_right (by decide) hK (ZZ_kept hS hZ) hP hD hS hp ⟨hf0, rfl, rfl⟩ rfl hl.1 rfl (by decide) dL_law_459 hcs (fun H locs hP hD hS => ?_)
  refine lv_aload_n hx hb dL_law_462 rfl (lv_at hl 2 rfl) ?_
  refine zArg (k := 1) hx hb hX hbl hbA hS hl (by omega) hL dL_law_463 dL_law_464 dL_law_465 (by decide) dL_law_466 dL_law_467 ?_
  refine zGL (X := wM cI cZ cB am M) (X' := wM cI cZ cB am M') (Y := wK cI cZ cR ad' S') (As := [.int (xs (i + 1))]) (b := am 0) (rest := [.int z]) hC h2 lM_L_71 vM_X4_right (by decide) hK (ZZ_kept hS hZ) (va_Pswap hP) (va_Dswap hD) hS (by rw [wM_fst, wM_fst]) ⟨hm0, rfl, rfl⟩ rfl hl.1 rfl (by simp [Value.category]) dL_law_468 hcs (fun H locs hP hD hS => ?_)
  refine lv_icmp_eq (tgt := 727) hx hb dL_law_471 (by decide) (fun _ => ?_) (fun h => absurd rfl h)
  exact kk ad' S' M' H locs hR' (va_Pswap hP) (va_Dswap hD) hS (by rw [e0]; exact hl)
theorem lawc_14 {p : Program} {l : Launch} {e : Env} {s : State} {m : MethodId} {args : Array Value} {below : List Frame} {meth : Method} {c : Code} {H : Heap} {locs : List Loc} {cells slots : Nat} {Q : State → Prop} {ls : Array Slot} {D : va_G} {cI cZ cB cR : ClassId} {sa b L i : Nat} {xs : Nat → Int32} {ad am : Nat → Nat} {S : KS} {M : MS}
    (hC : CallFix p m c cL_law 4 s args wsU RL) (hX : va_X b L xs s s.heap) (hbl : b < s.heap.size) (hK : KK D cI cZ cB cR s) (hZ : ZZ sa s s.heap) (hL : L ≤ 2048) (hi : i + 4 ≤ L) (hcs : cells ≤ room_1.cells ∧ slots ≤ room_1.slots)
    (hR : Rel S M) (hP : va_P D vwCl (wK cI cZ cR ad S ++ wM cI cZ cB am M) H) (hD : va_D (fun q : Nat => s.heap.size ≤ q) (wK cI cZ cR ad S ++ wM cI cZ cB am M)) (hS : va_S (fun q : Nat => s.heap.size ≤ q) s.heap H locs) (hl : lv_has ls 4 [(0, .ref b), (1, .ref (ad 0)), (2, .ref (am 0)), (3, .int (nI i))])
    (kk : ∀ (ad' : Nat → Nat) (S' : KS) (M' : MS) (H' : Heap) (locs' : List Loc), Rel S' M' → va_P D vwCl (wK cI cZ cR ad' S' ++ wM cI cZ cB am M') H' → va_D (fun q : Nat => s.heap.size ≤ q) (wK cI cZ cR ad' S' ++ wM cI cZ cB am M') → va_S (fun q : Nat => s.heap.size ≤ q) s.heap H' locs' → lv_has ls 4 [(0, .ref b), (1, .ref (ad' 0)), (2, .ref (am 0)), (3, .int (nI i))] → W p l e room_1 s m args below meth c H' locs' cells slots Q (F0 m 727 ls [])) :
    W p l e room_1 s m args below meth c H locs cells slots Q (F0 m 476 ls []) := by
  obtain ⟨hx, hb, hml, hown, hts⟩ := id hC
  have hbA : ¬ (fun q : Nat => s.heap.size ≤ q) b := Nat.not_le.mpr hbl
  obtain ⟨fk, hf0⟩ := wK_0 (cI := cI) (cZ := cZ) (cR := cR) (ad := ad) (S := S)
  obtain ⟨fm, hm0⟩ := wM_0 (cI := cI) (cZ := cZ) (cB := cB) (am := am) (M := M)
  obtain ⟨ad', S', M', rv, hR', e0, hp, h1, h2, hty⟩ := L_share (l := l) (D := D) (cI := cI) (cZ := cZ) (cB := cB) (cR := cR) (sa := sa) (ad := ad) (am := am) hR (xs (i + 1))
  obtain ⟨z, rfl⟩ := tyV_int hty
  refine lv_aload_n hx hb dL_law_476 rfl (lv_at hl 1 rfl) ?_
  refine zArg (k := 1) hx hb hX hbl hbA hS hl (by omega) hL dL_law_477 dL_law_478 dL_law_479 (by decide) dL_law_480 dL_law_481 ?_
  refine zGL (X := wK cI cZ cR ad S) (X' := wK cI cZ cR ad' S') (Y := wM cI cZ cB am M) (As := [.int (xs (i + 1))]) (b := ad 0) (rest := []) hC h1 lM_L_72 vM_X3_share (by decide) hK (ZZ_kept hS hZ) hP hD hS hp ⟨hf0, rfl, rfl⟩ rfl hl.1 rfl (by decide) dL_law_482 hcs (fun H locs hP hD hS => ?_)
  refine lv_aload_n hx hb dL_law_485 rfl (lv_at hl 2 rfl) ?_
  refine zArg (k := 1) hx hb hX hbl hbA hS hl (by omega) hL dL_law_486 dL_law_487 dL_law_488 (by decide) dL_law_489 dL_law_490 ?_
  refine zGL (X := wM cI cZ cB am M) (X' := wM cI cZ cB am M') (Y := wK cI cZ cR ad' S') (As := [.int (xs (i + 1))]) (b := am 0) (rest := [.int z]) hC h2 lM_L_75 vM_X4_share (by decide) hK (ZZ_kept hS hZ) (va_Pswap hP) (va_Dswap hD) hS (by rw [wM_fst, wM_fst]) ⟨hm0, rfl, rfl⟩ rfl hl.1 rfl (by simp [Value.category]) dL_law_491 hcs (fun H locs hP hD hS => ?_)
  refine lv_icmp_eq (tgt := 727) hx hb dL_law_494 (by decide) (fun _ => ?_) (fun h => absurd rfl h)
  exact kk ad' S' M' H locs hR' (va_Pswap hP) (va_Dswap hD) hS (by rw [e0]; exact hl)
theorem lawc_15 {p : Program} {l : Launch} {e : Env} {s : State} {m : MethodId} {args : Array Value} {below : List Frame} {meth : Method} {c : Code} {H : Heap} {locs : List Loc} {cells slots : Nat} {Q : State → Prop} {ls : Array Slot} {D : va_G} {cI cZ cB cR : ClassId} {sa b L i : Nat} {xs : Nat → Int32} {ad am : Nat → Nat} {S : KS} {M : MS}
    (hC : CallFix p m c cL_law 4 s args wsU RL) (hX : va_X b L xs s s.heap) (hbl : b < s.heap.size) (hK : KK D cI cZ cB cR s) (hZ : ZZ sa s s.heap) (hL : L ≤ 2048) (hi : i + 4 ≤ L) (hcs : cells ≤ room_1.cells ∧ slots ≤ room_1.slots)
    (hR : Rel S M) (hP : va_P D vwCl (wK cI cZ cR ad S ++ wM cI cZ cB am M) H) (hD : va_D (fun q : Nat => s.heap.size ≤ q) (wK cI cZ cR ad S ++ wM cI cZ cB am M)) (hS : va_S (fun q : Nat => s.heap.size ≤ q) s.heap H locs) (hl : lv_has ls 4 [(0, .ref b), (1, .ref (ad 0)), (2, .ref (am 0)), (3, .int (nI i))])
    (kk : ∀ (ad' : Nat → Nat) (S' : KS) (M' : MS) (H' : Heap) (locs' : List Loc), Rel S' M' → va_P D vwCl (wK cI cZ cR ad' S' ++ wM cI cZ cB am M') H' → va_D (fun q : Nat => s.heap.size ≤ q) (wK cI cZ cR ad' S' ++ wM cI cZ cB am M') → va_S (fun q : Nat => s.heap.size ≤ q) s.heap H' locs' → lv_has ls 4 [(0, .ref b), (1, .ref (ad' 0)), (2, .ref (am 0)), (3, .int (nI i))] → W p l e room_1 s m args below meth c H' locs' cells slots Q (F0 m 727 ls [])) :
    W p l e room_1 s m args below meth c H locs cells slots Q (F0 m 499 ls []) := by
  obtain ⟨hx, hb, hml, hown, hts⟩ := id hC
  have hbA : ¬ (fun q : Nat => s.heap.size ≤ q) b := Nat.not_le.mpr hbl
  obtain ⟨fk, hf0⟩ := wK_0 (cI := cI) (cZ := cZ) (cR := cR) (ad := ad) (S := S)
  obtain ⟨fm, hm0⟩ := wM_0 (cI := cI) (cZ := cZ) (cB := cB) (am := am) (M := M)
  obtain ⟨ad', S', M', rv, hR', e0, hp, h1, h2, hty⟩ := L_odds (l := l) (D := D) (cI := cI) (cZ := cZ) (cB := cB) (cR := cR) (sa := sa) (ad := ad) (am := am) hR (xs (i + 1)) (xs (i + 2)) (xs (i + 3))
  obtain ⟨z, rfl⟩ := tyV_int hty
  refine lv_aload_n hx hb dL_law_499 rfl (lv_at hl 1 rfl) ?_
  refine zArg (k := 1) hx hb hX hbl hbA hS hl (by omega) hL dL_law_500 dL_law_501 dL_law_502 (by decide) dL_law_503 dL_law_504 ?_
  refine zArg (k := 2) hx hb hX hbl hbA hS hl (by omega) hL dL_law_505 dL_law_506 dL_law_507 (by decide) dL_law_508 dL_law_509 ?_
  refine zArg (k := 3) hx hb hX hbl hbA hS hl (by omega) hL dL_law_510 dL_law_511 dL_law_512 (by decide) dL_law_513 dL_law_514 ?_
  refine zGL (X := wK cI cZ cR ad S) (X' := wK cI cZ cR ad' S') (Y := wM cI cZ cB am M) (As := [.int (xs (i + 1)), .int (xs (i + 2)), .int (xs (i + 3))]) (b := ad 0) (rest := []) hC h1 lM_L_76 vM_X3_odds (by decide) hK (ZZ_kept hS hZ) hP hD hS hp ⟨hf0, rfl, rfl⟩ rfl hl.1 rfl (by decide) dL_law_515 hcs (fun H locs hP hD hS => ?_)
  refine lv_aload_n hx hb dL_law_518 rfl (lv_at hl 2 rfl) ?_
  refine zArg (k := 1) hx hb hX hbl hbA hS hl (by omega) hL dL_law_519 dL_law_520 dL_law_521 (by decide) dL_law_522 dL_law_523 ?_
  refine zArg (k := 2) hx hb hX hbl hbA hS hl (by omega) hL dL_law_524 dL_law_525 dL_law_526 (by decide) dL_law_527 dL_law_528 ?_
  refine zArg (k := 3) hx hb hX hbl hbA hS hl (by omega) hL dL_law_529 dL_law_530 dL_law_531 (by decide) dL_law_532 dL_law_533 ?_
  refine zGL (X := wM cI cZ cB am M) (X' := wM cI cZ cB am M') (Y := wK cI cZ cR ad' S') (As := [.int (xs (i + 1)), .int (xs (i + 2)), .int (xs (i + 3))]) (b := am 0) (rest := [.int z]) hC h2 lM_L_80 vM_X4_odds (by decide) hK (ZZ_kept hS hZ) (va_Pswap hP) (va_Dswap hD) hS (by rw [wM_fst, wM_fst]) ⟨hm0, rfl, rfl⟩ rfl hl.1 rfl (by simp [Value.category]) dL_law_534 hcs (fun H locs hP hD hS => ?_)
  refine lv_icmp_eq (tgt := 727) hx hb dL_law_537 (by decide) (fun _ => ?_) (fun h => absurd rfl h)
  exact kk ad' S' M' H locs hR' (va_Pswap hP) (va_Dswap hD) hS (by rw [e0]; exact hl)
theorem lawc_16 {p : Program} {l : Launch} {e : Env} {s : State} {m : MethodId} {args : Array Value} {below : List Frame} {meth : Method} {c : Code} {H : Heap} {locs : List Loc} {cells slots : Nat} {Q : State → Prop} {ls : Array Slot} {D : va_G} {cI cZ cB cR : ClassId} {sa b L i : Nat} {xs : Nat → Int32} {ad am : Nat → Nat} {S : KS} {M : MS}
    (hC : CallFix p m c cL_law 4 s args wsU RL) (hX : va_X b L xs s s.heap) (hbl : b < s.heap.size) (hK : KK D cI cZ cB cR s) (hZ : ZZ sa s s.heap) (hL : L ≤ 2048) (hi : i + 4 ≤ L) (hcs : cells ≤ room_1.cells ∧ slots ≤ room_1.slots)
    (hR : Rel S M) (hP : va_P D vwCl (wK cI cZ cR ad S ++ wM cI cZ cB am M) H) (hD : va_D (fun q : Nat => s.heap.size ≤ q) (wK cI cZ cR ad S ++ wM cI cZ cB am M)) (hS : va_S (fun q : Nat => s.heap.size ≤ q) s.heap H locs) (hl : lv_has ls 4 [(0, .ref b), (1, .ref (ad 0)), (2, .ref (am 0)), (3, .int (nI i))])
    (kk : ∀ (ad' : Nat → Nat) (S' : KS) (M' : MS) (H' : Heap) (locs' : List Loc), Rel S' M' → va_P D vwCl (wK cI cZ cR ad' S' ++ wM cI cZ cB am M') H' → va_D (fun q : Nat => s.heap.size ≤ q) (wK cI cZ cR ad' S' ++ wM cI cZ cB am M') → va_S (fun q : Nat => s.heap.size ≤ q) s.heap H' locs' → lv_has ls 4 [(0, .ref b), (1, .ref (ad' 0)), (2, .ref (am 0)), (3, .int (nI i))] → W p l e room_1 s m args below meth c H' locs' cells slots Q (F0 m 727 ls [])) :
    W p l e room_1 s m args below meth c H locs cells slots Q (F0 m 542 ls []) := by
  obtain ⟨hx, hb, hml, hown, hts⟩ := id hC
  have hbA : ¬ (fun q : Nat => s.heap.size ≤ q) b := Nat.not_le.mpr hbl
  obtain ⟨fk, hf0⟩ := wK_0 (cI := cI) (cZ := cZ) (cR := cR) (ad := ad) (S := S)
  obtain ⟨fm, hm0⟩ := wM_0 (cI := cI) (cZ := cZ) (cB := cB) (am := am) (M := M)
  obtain ⟨ad', S', M', rv, hR', e0, hp, h1, h2, hty⟩ := L_tells (l := l) (D := D) (cI := cI) (cZ := cZ) (cB := cB) (cR := cR) (sa := sa) (ad := ad) (am := am) hR (xs (i + 1)) (xs (i + 2))
  obtain ⟨z, rfl⟩ := tyV_int hty
  refine lv_aload_n hx hb dL_law_542 rfl (lv_at hl 1 rfl) ?_
  refine zArg (k := 1) hx hb hX hbl hbA hS hl (by omega) hL dL_law_543 dL_law_544 dL_law_545 (by decide) dL_law_546 dL_law_547 ?_
  refine zArg (k := 2) hx hb hX hbl hbA hS hl (by omega) hL dL_law_548 dL_law_549 dL_law_550 (by decide) dL_law_551 dL_law_552 ?_
  refine zGL (X := wK cI cZ cR ad S) (X' := wK cI cZ cR ad' S') (Y := wM cI cZ cB am M) (As := [.int (xs (i + 1)), .int (xs (i + 2))]) (b := ad 0) (rest := []) hC h1 lM_L_81 vM_X3_tells (by decide) hK (ZZ_kept hS hZ) hP hD hS hp ⟨hf0, rfl, rfl⟩ rfl hl.1 rfl (by decide) dL_law_553 hcs (fun H locs hP hD hS => ?_)
  refine lv_aload_n hx hb dL_law_556 rfl (lv_at hl 2 rfl) ?_
  refine zArg (k := 1) hx hb hX hbl hbA hS hl (by omega) hL dL_law_557 dL_law_558 dL_law_559 (by decide) dL_law_560 dL_law_561 ?_
  refine zArg (k := 2) hx hb hX hbl hbA hS hl (by omega) hL dL_law_562 dL_law_563 dL_law_564 (by decide) dL_law_565 dL_law_566 ?_
  refine zGL (X := wM cI cZ cB am M) (X' := wM cI cZ cB am M') (Y := wK cI cZ cR ad' S') (As := [.int (xs (i + 1)), .int (xs (i + 2))]) (b := am 0) (rest := [.int z]) hC h2 lM_L_84 vM_X4_tells (by decide) hK (ZZ_kept hS hZ) (va_Pswap hP) (va_Dswap hD) hS (by rw [wM_fst, wM_fst]) ⟨hm0, rfl, rfl⟩ rfl hl.1 rfl (by simp [Value.category]) dL_law_567 hcs (fun H locs hP hD hS => ?_)
  refine lv_icmp_eq (tgt := 727) hx hb dL_law_570 (by decide) (fun _ => ?_) (fun h => absurd rfl h)
  exact kk ad' S' M' H locs hR' (va_Pswap hP) (va_Dswap hD) hS (by rw [e0]; exact hl)
theorem lawc_17 {p : Program} {l : Launch} {e : Env} {s : State} {m : MethodId} {args : Array Value} {below : List Frame} {meth : Method} {c : Code} {H : Heap} {locs : List Loc} {cells slots : Nat} {Q : State → Prop} {ls : Array Slot} {D : va_G} {cI cZ cB cR : ClassId} {sa b L i : Nat} {xs : Nat → Int32} {ad am : Nat → Nat} {S : KS} {M : MS}
    (hC : CallFix p m c cL_law 4 s args wsU RL) (hX : va_X b L xs s s.heap) (hbl : b < s.heap.size) (hK : KK D cI cZ cB cR s) (hZ : ZZ sa s s.heap) (hL : L ≤ 2048) (hi : i + 4 ≤ L) (hcs : cells ≤ room_1.cells ∧ slots ≤ room_1.slots)
    (hR : Rel S M) (hP : va_P D vwCl (wK cI cZ cR ad S ++ wM cI cZ cB am M) H) (hD : va_D (fun q : Nat => s.heap.size ≤ q) (wK cI cZ cR ad S ++ wM cI cZ cB am M)) (hS : va_S (fun q : Nat => s.heap.size ≤ q) s.heap H locs) (hl : lv_has ls 4 [(0, .ref b), (1, .ref (ad 0)), (2, .ref (am 0)), (3, .int (nI i))])
    (kk : ∀ (ad' : Nat → Nat) (S' : KS) (M' : MS) (H' : Heap) (locs' : List Loc), Rel S' M' → va_P D vwCl (wK cI cZ cR ad' S' ++ wM cI cZ cB am M') H' → va_D (fun q : Nat => s.heap.size ≤ q) (wK cI cZ cR ad' S' ++ wM cI cZ cB am M') → va_S (fun q : Nat => s.heap.size ≤ q) s.heap H' locs' → lv_has ls 4 [(0, .ref b), (1, .ref (ad' 0)), (2, .ref (am 0)), (3, .int (nI i))] → W p l e room_1 s m args below meth c H' locs' cells slots Q (F0 m 727 ls [])) :
    W p l e room_1 s m args below meth c H locs cells slots Q (F0 m 575 ls []) := by
  obtain ⟨hx, hb, hml, hown, hts⟩ := id hC
  have hbA : ¬ (fun q : Nat => s.heap.size ≤ q) b := Nat.not_le.mpr hbl
  obtain ⟨fk, hf0⟩ := wK_0 (cI := cI) (cZ := cZ) (cR := cR) (ad := ad) (S := S)
  obtain ⟨fm, hm0⟩ := wM_0 (cI := cI) (cZ := cZ) (cB := cB) (am := am) (M := M)
  obtain ⟨ad', S', M', rv, hR', e0, hp, h1, h2, hty⟩ := L_forget (l := l) (D := D) (cI := cI) (cZ := cZ) (cB := cB) (cR := cR) (sa := sa) (ad := ad) (am := am) hR
  obtain ⟨z, rfl⟩ := tyV_int hty
  refine lv_aload_n hx hb dL_law_575 rfl (lv_at hl 1 rfl) ?_
  refine zGL (X := wK cI cZ cR ad S) (X' := wK cI cZ cR ad' S') (Y := wM cI cZ cB am M) (As := []) (b := ad 0) (rest := []) hC h1 lM_L_85 vM_X3_forget (by decide) hK (ZZ_kept hS hZ) hP hD hS hp ⟨hf0, rfl, rfl⟩ rfl hl.1 rfl (by decide) dL_law_576 hcs (fun H locs hP hD hS => ?_)
  refine lv_aload_n hx hb dL_law_579 rfl (lv_at hl 2 rfl) ?_
  refine zGL (X := wM cI cZ cB am M) (X' := wM cI cZ cB am M') (Y := wK cI cZ cR ad' S') (As := []) (b := am 0) (rest := [.int z]) hC h2 lM_L_88 vM_X4_forget (by decide) hK (ZZ_kept hS hZ) (va_Pswap hP) (va_Dswap hD) hS (by rw [wM_fst, wM_fst]) ⟨hm0, rfl, rfl⟩ rfl hl.1 rfl (by simp [Value.category]) dL_law_580 hcs (fun H locs hP hD hS => ?_)
  refine lv_icmp_eq (tgt := 727) hx hb dL_law_583 (by decide) (fun _ => ?_) (fun h => absurd rfl h)
  exact kk ad' S' M' H locs hR' (va_Pswap hP) (va_Dswap hD) hS (by rw [e0]; exact hl)
theorem lawc_18 {p : Program} {l : Launch} {e : Env} {s : State} {m : MethodId} {args : Array Value} {below : List Frame} {meth : Method} {c : Code} {H : Heap} {locs : List Loc} {cells slots : Nat} {Q : State → Prop} {ls : Array Slot} {D : va_G} {cI cZ cB cR : ClassId} {sa b L i : Nat} {xs : Nat → Int32} {ad am : Nat → Nat} {S : KS} {M : MS}
    (hC : CallFix p m c cL_law 4 s args wsU RL) (hX : va_X b L xs s s.heap) (hbl : b < s.heap.size) (hK : KK D cI cZ cB cR s) (hZ : ZZ sa s s.heap) (hL : L ≤ 2048) (hi : i + 4 ≤ L) (hcs : cells ≤ room_1.cells ∧ slots ≤ room_1.slots)
    (hR : Rel S M) (hP : va_P D vwCl (wK cI cZ cR ad S ++ wM cI cZ cB am M) H) (hD : va_D (fun q : Nat => s.heap.size ≤ q) (wK cI cZ cR ad S ++ wM cI cZ cB am M)) (hS : va_S (fun q : Nat => s.heap.size ≤ q) s.heap H locs) (hl : lv_has ls 4 [(0, .ref b), (1, .ref (ad 0)), (2, .ref (am 0)), (3, .int (nI i))])
    (kk : ∀ (ad' : Nat → Nat) (S' : KS) (M' : MS) (H' : Heap) (locs' : List Loc), Rel S' M' → va_P D vwCl (wK cI cZ cR ad' S' ++ wM cI cZ cB am M') H' → va_D (fun q : Nat => s.heap.size ≤ q) (wK cI cZ cR ad' S' ++ wM cI cZ cB am M') → va_S (fun q : Nat => s.heap.size ≤ q) s.heap H' locs' → lv_has ls 4 [(0, .ref b), (1, .ref (ad' 0)), (2, .ref (am 0)), (3, .int (nI i))] → W p l e room_1 s m args below meth c H' locs' cells slots Q (F0 m 727 ls [])) :
    W p l e room_1 s m args below meth c H locs cells slots Q (F0 m 588 ls []) := by
  obtain ⟨hx, hb, hml, hown, hts⟩ := id hC
  have hbA : ¬ (fun q : Nat => s.heap.size ≤ q) b := Nat.not_le.mpr hbl
  obtain ⟨fk, hf0⟩ := wK_0 (cI := cI) (cZ := cZ) (cR := cR) (ad := ad) (S := S)
  obtain ⟨fm, hm0⟩ := wM_0 (cI := cI) (cZ := cZ) (cB := cB) (am := am) (M := M)
  obtain ⟨ad', S', M', rv, hR', e0, hp, h1, h2, hty⟩ := L_fits (l := l) (D := D) (cI := cI) (cZ := cZ) (cB := cB) (cR := cR) (sa := sa) (ad := ad) (am := am) hR (xs (i + 1))
  obtain ⟨z, rfl⟩ := tyV_int hty
  refine lv_aload_n hx hb dL_law_588 rfl (lv_at hl 1 rfl) ?_
  refine zArg (k := 1) hx hb hX hbl hbA hS hl (by omega) hL dL_law_589 dL_law_590 dL_law_591 (by decide) dL_law_592 dL_law_593 ?_
  refine zGL (X := wK cI cZ cR ad S) (X' := wK cI cZ cR ad' S') (Y := wM cI cZ cB am M) (As := [.int (xs (i + 1))]) (b := ad 0) (rest := []) hC h1 lM_L_89 vM_X3_fits (by decide) hK (ZZ_kept hS hZ) hP hD hS hp ⟨hf0, rfl, rfl⟩ rfl hl.1 rfl (by decide) dL_law_594 hcs (fun H locs hP hD hS => ?_)
  refine lv_aload_n hx hb dL_law_597 rfl (lv_at hl 2 rfl) ?_
  refine zArg (k := 1) hx hb hX hbl hbA hS hl (by omega) hL dL_law_598 dL_law_599 dL_law_600 (by decide) dL_law_601 dL_law_602 ?_
  refine zGL (X := wM cI cZ cB am M) (X' := wM cI cZ cB am M') (Y := wK cI cZ cR ad' S') (As := [.int (xs (i + 1))]) (b := am 0) (rest := [.int z]) hC h2 lM_L_92 vM_X4_fits (by decide) hK (ZZ_kept hS hZ) (va_Pswap hP) (va_Dswap hD) hS (by rw [wM_fst, wM_fst]) ⟨hm0, rfl, rfl⟩ rfl hl.1 rfl (by simp [Value.category]) dL_law_603 hcs (fun H locs hP hD hS => ?_)
  refine lv_icmp_eq (tgt := 727) hx hb dL_law_606 (by decide) (fun _ => ?_) (fun h => absurd rfl h)
  exact kk ad' S' M' H locs hR' (va_Pswap hP) (va_Dswap hD) hS (by rw [e0]; exact hl)
theorem lawc_19 {p : Program} {l : Launch} {e : Env} {s : State} {m : MethodId} {args : Array Value} {below : List Frame} {meth : Method} {c : Code} {H : Heap} {locs : List Loc} {cells slots : Nat} {Q : State → Prop} {ls : Array Slot} {D : va_G} {cI cZ cB cR : ClassId} {sa b L i : Nat} {xs : Nat → Int32} {ad am : Nat → Nat} {S : KS} {M : MS}
    (hC : CallFix p m c cL_law 4 s args wsU RL) (hX : va_X b L xs s s.heap) (hbl : b < s.heap.size) (hK : KK D cI cZ cB cR s) (hZ : ZZ sa s s.heap) (hL : L ≤ 2048) (hi : i + 4 ≤ L) (hcs : cells ≤ room_1.cells ∧ slots ≤ room_1.slots)
    (hR : Rel S M) (hP : va_P D vwCl (wK cI cZ cR ad S ++ wM cI cZ cB am M) H) (hD : va_D (fun q : Nat => s.heap.size ≤ q) (wK cI cZ cR ad S ++ wM cI cZ cB am M)) (hS : va_S (fun q : Nat => s.heap.size ≤ q) s.heap H locs) (hl : lv_has ls 4 [(0, .ref b), (1, .ref (ad 0)), (2, .ref (am 0)), (3, .int (nI i))])
    (kk : ∀ (ad' : Nat → Nat) (S' : KS) (M' : MS) (H' : Heap) (locs' : List Loc), Rel S' M' → va_P D vwCl (wK cI cZ cR ad' S' ++ wM cI cZ cB am M') H' → va_D (fun q : Nat => s.heap.size ≤ q) (wK cI cZ cR ad' S' ++ wM cI cZ cB am M') → va_S (fun q : Nat => s.heap.size ≤ q) s.heap H' locs' → lv_has ls 4 [(0, .ref b), (1, .ref (ad' 0)), (2, .ref (am 0)), (3, .int (nI i))] → W p l e room_1 s m args below meth c H' locs' cells slots Q (F0 m 727 ls [])) :
    W p l e room_1 s m args below meth c H locs cells slots Q (F0 m 611 ls []) := by
  obtain ⟨hx, hb, hml, hown, hts⟩ := id hC
  have hbA : ¬ (fun q : Nat => s.heap.size ≤ q) b := Nat.not_le.mpr hbl
  obtain ⟨fk, hf0⟩ := wK_0 (cI := cI) (cZ := cZ) (cR := cR) (ad := ad) (S := S)
  obtain ⟨fm, hm0⟩ := wM_0 (cI := cI) (cZ := cZ) (cB := cB) (am := am) (M := M)
  obtain ⟨ad', S', M', rv, hR', e0, hp, h1, h2, hty⟩ := L_mark (l := l) (D := D) (cI := cI) (cZ := cZ) (cB := cB) (cR := cR) (sa := sa) (ad := ad) (am := am) hR (xs (i + 1)) (xs (i + 2))
  obtain ⟨z, rfl⟩ := tyV_int hty
  refine lv_aload_n hx hb dL_law_611 rfl (lv_at hl 1 rfl) ?_
  refine zArg (k := 1) hx hb hX hbl hbA hS hl (by omega) hL dL_law_612 dL_law_613 dL_law_614 (by decide) dL_law_615 dL_law_616 ?_
  refine zArg (k := 2) hx hb hX hbl hbA hS hl (by omega) hL dL_law_617 dL_law_618 dL_law_619 (by decide) dL_law_620 dL_law_621 ?_
  refine zGL (X := wK cI cZ cR ad S) (X' := wK cI cZ cR ad' S') (Y := wM cI cZ cB am M) (As := [.int (xs (i + 1)), .int (xs (i + 2))]) (b := ad 0) (rest := []) hC h1 lM_L_93 vM_X3_mark (by decide) hK (ZZ_kept hS hZ) hP hD hS hp ⟨hf0, rfl, rfl⟩ rfl hl.1 rfl (by decide) dL_law_622 hcs (fun H locs hP hD hS => ?_)
  refine lv_aload_n hx hb dL_law_625 rfl (lv_at hl 2 rfl) ?_
  refine zArg (k := 1) hx hb hX hbl hbA hS hl (by omega) hL dL_law_626 dL_law_627 dL_law_628 (by decide) dL_law_629 dL_law_630 ?_
  refine zArg (k := 2) hx hb hX hbl hbA hS hl (by omega) hL dL_law_631 dL_law_632 dL_law_633 (by decide) dL_law_634 dL_law_635 ?_
  refine zGL (X := wM cI cZ cB am M) (X' := wM cI cZ cB am M') (Y := wK cI cZ cR ad' S') (As := [.int (xs (i + 1)), .int (xs (i + 2))]) (b := am 0) (rest := [.int z]) hC h2 lM_L_96 vM_X4_mark (by decide) hK (ZZ_kept hS hZ) (va_Pswap hP) (va_Dswap hD) hS (by rw [wM_fst, wM_fst]) ⟨hm0, rfl, rfl⟩ rfl hl.1 rfl (by simp [Value.category]) dL_law_636 hcs (fun H locs hP hD hS => ?_)
  refine lv_icmp_eq (tgt := 727) hx hb dL_law_639 (by decide) (fun _ => ?_) (fun h => absurd rfl h)
  exact kk ad' S' M' H locs hR' (va_Pswap hP) (va_Dswap hD) hS (by rw [e0]; exact hl)
theorem lawc_20 {p : Program} {l : Launch} {e : Env} {s : State} {m : MethodId} {args : Array Value} {below : List Frame} {meth : Method} {c : Code} {H : Heap} {locs : List Loc} {cells slots : Nat} {Q : State → Prop} {ls : Array Slot} {D : va_G} {cI cZ cB cR : ClassId} {sa b L i : Nat} {xs : Nat → Int32} {ad am : Nat → Nat} {S : KS} {M : MS}
    (hC : CallFix p m c cL_law 4 s args wsU RL) (hX : va_X b L xs s s.heap) (hbl : b < s.heap.size) (hK : KK D cI cZ cB cR s) (hZ : ZZ sa s s.heap) (hL : L ≤ 2048) (hi : i + 4 ≤ L) (hcs : cells ≤ room_1.cells ∧ slots ≤ room_1.slots)
    (hR : Rel S M) (hP : va_P D vwCl (wK cI cZ cR ad S ++ wM cI cZ cB am M) H) (hD : va_D (fun q : Nat => s.heap.size ≤ q) (wK cI cZ cR ad S ++ wM cI cZ cB am M)) (hS : va_S (fun q : Nat => s.heap.size ≤ q) s.heap H locs) (hl : lv_has ls 4 [(0, .ref b), (1, .ref (ad 0)), (2, .ref (am 0)), (3, .int (nI i))])
    (kk : ∀ (ad' : Nat → Nat) (S' : KS) (M' : MS) (H' : Heap) (locs' : List Loc), Rel S' M' → va_P D vwCl (wK cI cZ cR ad' S' ++ wM cI cZ cB am M') H' → va_D (fun q : Nat => s.heap.size ≤ q) (wK cI cZ cR ad' S' ++ wM cI cZ cB am M') → va_S (fun q : Nat => s.heap.size ≤ q) s.heap H' locs' → lv_has ls 4 [(0, .ref b), (1, .ref (ad' 0)), (2, .ref (am 0)), (3, .int (nI i))] → W p l e room_1 s m args below meth c H' locs' cells slots Q (F0 m 727 ls [])) :
    W p l e room_1 s m args below meth c H locs cells slots Q (F0 m 644 ls []) := by
  obtain ⟨hx, hb, hml, hown, hts⟩ := id hC
  have hbA : ¬ (fun q : Nat => s.heap.size ≤ q) b := Nat.not_le.mpr hbl
  obtain ⟨fk, hf0⟩ := wK_0 (cI := cI) (cZ := cZ) (cR := cR) (ad := ad) (S := S)
  obtain ⟨fm, hm0⟩ := wM_0 (cI := cI) (cZ := cZ) (cB := cB) (am := am) (M := M)
  obtain ⟨ad', S', M', rv, hR', e0, hp, h1, h2, hty⟩ := L_keep (l := l) (D := D) (cI := cI) (cZ := cZ) (cB := cB) (cR := cR) (sa := sa) (ad := ad) (am := am) hR (xs (i + 1))
  obtain ⟨z, rfl⟩ := tyV_int hty
  refine lv_aload_n hx hb dL_law_644 rfl (lv_at hl 1 rfl) ?_
  refine zArg (k := 1) hx hb hX hbl hbA hS hl (by omega) hL dL_law_645 dL_law_646 dL_law_647 (by decide) dL_law_648 dL_law_649 ?_
  refine zGL (X := wK cI cZ cR ad S) (X' := wK cI cZ cR ad' S') (Y := wM cI cZ cB am M) (As := [.int (xs (i + 1))]) (b := ad 0) (rest := []) hC h1 lM_L_97 vM_X3_keep (by decide) hK (ZZ_kept hS hZ) hP hD hS hp ⟨hf0, rfl, rfl⟩ rfl hl.1 rfl (by decide) dL_law_650 hcs (fun H locs hP hD hS => ?_)
  refine lv_aload_n hx hb dL_law_653 rfl (lv_at hl 2 rfl) ?_
  refine zArg (k := 1) hx hb hX hbl hbA hS hl (by omega) hL dL_law_654 dL_law_655 dL_law_656 (by decide) dL_law_657 dL_law_658 ?_
  refine zGL (X := wM cI cZ cB am M) (X' := wM cI cZ cB am M') (Y := wK cI cZ cR ad' S') (As := [.int (xs (i + 1))]) (b := am 0) (rest := [.int z]) hC h2 lM_L_100 vM_X4_keep (by decide) hK (ZZ_kept hS hZ) (va_Pswap hP) (va_Dswap hD) hS (by rw [wM_fst, wM_fst]) ⟨hm0, rfl, rfl⟩ rfl hl.1 rfl (by simp [Value.category]) dL_law_659 hcs (fun H locs hP hD hS => ?_)
  refine lv_icmp_eq (tgt := 727) hx hb dL_law_662 (by decide) (fun _ => ?_) (fun h => absurd rfl h)
  exact kk ad' S' M' H locs hR' (va_Pswap hP) (va_Dswap hD) hS (by rw [e0]; exact hl)
theorem lawc_21 {p : Program} {l : Launch} {e : Env} {s : State} {m : MethodId} {args : Array Value} {below : List Frame} {meth : Method} {c : Code} {H : Heap} {locs : List Loc} {cells slots : Nat} {Q : State → Prop} {ls : Array Slot} {D : va_G} {cI cZ cB cR : ClassId} {sa b L i : Nat} {xs : Nat → Int32} {ad am : Nat → Nat} {S : KS} {M : MS}
    (hC : CallFix p m c cL_law 4 s args wsU RL) (hX : va_X b L xs s s.heap) (hbl : b < s.heap.size) (hK : KK D cI cZ cB cR s) (hZ : ZZ sa s s.heap) (hL : L ≤ 2048) (hi : i + 4 ≤ L) (hcs : cells ≤ room_1.cells ∧ slots ≤ room_1.slots)
    (hR : Rel S M) (hP : va_P D vwCl (wK cI cZ cR ad S ++ wM cI cZ cB am M) H) (hD : va_D (fun q : Nat => s.heap.size ≤ q) (wK cI cZ cR ad S ++ wM cI cZ cB am M)) (hS : va_S (fun q : Nat => s.heap.size ≤ q) s.heap H locs) (hl : lv_has ls 4 [(0, .ref b), (1, .ref (ad 0)), (2, .ref (am 0)), (3, .int (nI i))])
    (kk : ∀ (ad' : Nat → Nat) (S' : KS) (M' : MS) (H' : Heap) (locs' : List Loc), Rel S' M' → va_P D vwCl (wK cI cZ cR ad' S' ++ wM cI cZ cB am M') H' → va_D (fun q : Nat => s.heap.size ≤ q) (wK cI cZ cR ad' S' ++ wM cI cZ cB am M') → va_S (fun q : Nat => s.heap.size ≤ q) s.heap H' locs' → lv_has ls 4 [(0, .ref b), (1, .ref (ad' 0)), (2, .ref (am 0)), (3, .int (nI i))] → W p l e room_1 s m args below meth c H' locs' cells slots Q (F0 m 727 ls [])) :
    W p l e room_1 s m args below meth c H locs cells slots Q (F0 m 667 ls []) := by
  obtain ⟨hx, hb, hml, hown, hts⟩ := id hC
  have hbA : ¬ (fun q : Nat => s.heap.size ≤ q) b := Nat.not_le.mpr hbl
  obtain ⟨fk, hf0⟩ := wK_0 (cI := cI) (cZ := cZ) (cR := cR) (ad := ad) (S := S)
  obtain ⟨fm, hm0⟩ := wM_0 (cI := cI) (cZ := cZ) (cB := cB) (am := am) (M := M)
  obtain ⟨ad', S', M', rv, hR', e0, hp, h1, h2, hty⟩ := L_back (l := l) (D := D) (cI := cI) (cZ := cZ) (cB := cB) (cR := cR) (sa := sa) (ad := ad) (am := am) hR (xs (i + 1))
  obtain ⟨z, rfl⟩ := tyV_int hty
  refine lv_aload_n hx hb dL_law_667 rfl (lv_at hl 1 rfl) ?_
  refine zArg (k := 1) hx hb hX hbl hbA hS hl (by omega) hL dL_law_668 dL_law_669 dL_law_670 (by decide) dL_law_671 dL_law_672 ?_
  refine zGL (X := wK cI cZ cR ad S) (X' := wK cI cZ cR ad' S') (Y := wM cI cZ cB am M) (As := [.int (xs (i + 1))]) (b := ad 0) (rest := []) hC h1 lM_L_101 vM_X3_back (by decide) hK (ZZ_kept hS hZ) hP hD hS hp ⟨hf0, rfl, rfl⟩ rfl hl.1 rfl (by decide) dL_law_673 hcs (fun H locs hP hD hS => ?_)
  refine lv_aload_n hx hb dL_law_676 rfl (lv_at hl 2 rfl) ?_
  refine zArg (k := 1) hx hb hX hbl hbA hS hl (by omega) hL dL_law_677 dL_law_678 dL_law_679 (by decide) dL_law_680 dL_law_681 ?_
  refine zGL (X := wM cI cZ cB am M) (X' := wM cI cZ cB am M') (Y := wK cI cZ cR ad' S') (As := [.int (xs (i + 1))]) (b := am 0) (rest := [.int z]) hC h2 lM_L_104 vM_X4_back (by decide) hK (ZZ_kept hS hZ) (va_Pswap hP) (va_Dswap hD) hS (by rw [wM_fst, wM_fst]) ⟨hm0, rfl, rfl⟩ rfl hl.1 rfl (by simp [Value.category]) dL_law_682 hcs (fun H locs hP hD hS => ?_)
  refine lv_icmp_eq (tgt := 727) hx hb dL_law_685 (by decide) (fun _ => ?_) (fun h => absurd rfl h)
  exact kk ad' S' M' H locs hR' (va_Pswap hP) (va_Dswap hD) hS (by rw [e0]; exact hl)
theorem lawc_22 {p : Program} {l : Launch} {e : Env} {s : State} {m : MethodId} {args : Array Value} {below : List Frame} {meth : Method} {c : Code} {H : Heap} {locs : List Loc} {cells slots : Nat} {Q : State → Prop} {ls : Array Slot} {D : va_G} {cI cZ cB cR : ClassId} {sa b L i : Nat} {xs : Nat → Int32} {ad am : Nat → Nat} {S : KS} {M : MS}
    (hC : CallFix p m c cL_law 4 s args wsU RL) (hX : va_X b L xs s s.heap) (hbl : b < s.heap.size) (hK : KK D cI cZ cB cR s) (hZ : ZZ sa s s.heap) (hL : L ≤ 2048) (hi : i + 4 ≤ L) (hcs : cells ≤ room_1.cells ∧ slots ≤ room_1.slots)
    (hR : Rel S M) (hP : va_P D vwCl (wK cI cZ cR ad S ++ wM cI cZ cB am M) H) (hD : va_D (fun q : Nat => s.heap.size ≤ q) (wK cI cZ cR ad S ++ wM cI cZ cB am M)) (hS : va_S (fun q : Nat => s.heap.size ≤ q) s.heap H locs) (hl : lv_has ls 4 [(0, .ref b), (1, .ref (ad 0)), (2, .ref (am 0)), (3, .int (nI i))])
    (kk : ∀ (ad' : Nat → Nat) (S' : KS) (M' : MS) (H' : Heap) (locs' : List Loc), Rel S' M' → va_P D vwCl (wK cI cZ cR ad' S' ++ wM cI cZ cB am M') H' → va_D (fun q : Nat => s.heap.size ≤ q) (wK cI cZ cR ad' S' ++ wM cI cZ cB am M') → va_S (fun q : Nat => s.heap.size ≤ q) s.heap H' locs' → lv_has ls 4 [(0, .ref b), (1, .ref (ad' 0)), (2, .ref (am 0)), (3, .int (nI i))] → W p l e room_1 s m args below meth c H' locs' cells slots Q (F0 m 727 ls [])) :
    W p l e room_1 s m args below meth c H locs cells slots Q (F0 m 690 ls []) := by
  obtain ⟨hx, hb, hml, hown, hts⟩ := id hC
  have hbA : ¬ (fun q : Nat => s.heap.size ≤ q) b := Nat.not_le.mpr hbl
  obtain ⟨fk, hf0⟩ := wK_0 (cI := cI) (cZ := cZ) (cR := cR) (ad := ad) (S := S)
  obtain ⟨fm, hm0⟩ := wM_0 (cI := cI) (cZ := cZ) (cB := cB) (am := am) (M := M)
  obtain ⟨ad', S', M', rv, hR', e0, hp, h1, h2, hty⟩ := L_count (l := l) (D := D) (cI := cI) (cZ := cZ) (cB := cB) (cR := cR) (sa := sa) (ad := ad) (am := am) hR (xs (i + 1))
  obtain ⟨z, rfl⟩ := tyV_int hty
  refine lv_aload_n hx hb dL_law_690 rfl (lv_at hl 1 rfl) ?_
  refine zArg (k := 1) hx hb hX hbl hbA hS hl (by omega) hL dL_law_691 dL_law_692 dL_law_693 (by decide) dL_law_694 dL_law_695 ?_
  refine zGL (X := wK cI cZ cR ad S) (X' := wK cI cZ cR ad' S') (Y := wM cI cZ cB am M) (As := [.int (xs (i + 1))]) (b := ad 0) (rest := []) hC h1 lM_L_105 vM_X3_count (by decide) hK (ZZ_kept hS hZ) hP hD hS hp ⟨hf0, rfl, rfl⟩ rfl hl.1 rfl (by decide) dL_law_696 hcs (fun H locs hP hD hS => ?_)
  refine lv_aload_n hx hb dL_law_699 rfl (lv_at hl 2 rfl) ?_
  refine zArg (k := 1) hx hb hX hbl hbA hS hl (by omega) hL dL_law_700 dL_law_701 dL_law_702 (by decide) dL_law_703 dL_law_704 ?_
  refine zGL (X := wM cI cZ cB am M) (X' := wM cI cZ cB am M') (Y := wK cI cZ cR ad' S') (As := [.int (xs (i + 1))]) (b := am 0) (rest := [.int z]) hC h2 lM_L_108 vM_X4_count (by decide) hK (ZZ_kept hS hZ) (va_Pswap hP) (va_Dswap hD) hS (by rw [wM_fst, wM_fst]) ⟨hm0, rfl, rfl⟩ rfl hl.1 rfl (by simp [Value.category]) dL_law_705 hcs (fun H locs hP hD hS => ?_)
  refine lv_icmp_eq (tgt := 727) hx hb dL_law_708 (by decide) (fun _ => ?_) (fun h => absurd rfl h)
  exact kk ad' S' M' H locs hR' (va_Pswap hP) (va_Dswap hD) hS (by rw [e0]; exact hl)
theorem lawc_23 {p : Program} {l : Launch} {e : Env} {s : State} {m : MethodId} {args : Array Value} {below : List Frame} {meth : Method} {c : Code} {H : Heap} {locs : List Loc} {cells slots : Nat} {Q : State → Prop} {ls : Array Slot} {D : va_G} {cI cZ cB cR : ClassId} {sa b L i : Nat} {xs : Nat → Int32} {ad am : Nat → Nat} {S : KS} {M : MS}
    (hC : CallFix p m c cL_law 4 s args wsU RL) (hX : va_X b L xs s s.heap) (hbl : b < s.heap.size) (hK : KK D cI cZ cB cR s) (hZ : ZZ sa s s.heap) (hL : L ≤ 2048) (hi : i + 4 ≤ L) (hcs : cells ≤ room_1.cells ∧ slots ≤ room_1.slots)
    (hR : Rel S M) (hP : va_P D vwCl (wK cI cZ cR ad S ++ wM cI cZ cB am M) H) (hD : va_D (fun q : Nat => s.heap.size ≤ q) (wK cI cZ cR ad S ++ wM cI cZ cB am M)) (hS : va_S (fun q : Nat => s.heap.size ≤ q) s.heap H locs) (hl : lv_has ls 4 [(0, .ref b), (1, .ref (ad 0)), (2, .ref (am 0)), (3, .int (nI i))])
    (kk : ∀ (ad' : Nat → Nat) (S' : KS) (M' : MS) (H' : Heap) (locs' : List Loc), Rel S' M' → va_P D vwCl (wK cI cZ cR ad' S' ++ wM cI cZ cB am M') H' → va_D (fun q : Nat => s.heap.size ≤ q) (wK cI cZ cR ad' S' ++ wM cI cZ cB am M') → va_S (fun q : Nat => s.heap.size ≤ q) s.heap H' locs' → lv_has ls 4 [(0, .ref b), (1, .ref (ad' 0)), (2, .ref (am 0)), (3, .int (nI i))] → W p l e room_1 s m args below meth c H' locs' cells slots Q (F0 m 727 ls [])) :
    W p l e room_1 s m args below meth c H locs cells slots Q (F0 m 713 ls []) := by
  obtain ⟨hx, hb, hml, hown, hts⟩ := id hC
  have hbA : ¬ (fun q : Nat => s.heap.size ≤ q) b := Nat.not_le.mpr hbl
  obtain ⟨fk, hf0⟩ := wK_0 (cI := cI) (cZ := cZ) (cR := cR) (ad := ad) (S := S)
  obtain ⟨fm, hm0⟩ := wM_0 (cI := cI) (cZ := cZ) (cB := cB) (am := am) (M := M)
  obtain ⟨ad', S', M', rv, hR', e0, hp, h1, h2, hty⟩ := L_trace (l := l) (D := D) (cI := cI) (cZ := cZ) (cB := cB) (cR := cR) (sa := sa) (ad := ad) (am := am) hR
  obtain ⟨z, rfl⟩ := tyV_long hty
  refine lv_aload_n hx hb dL_law_713 rfl (lv_at hl 1 rfl) ?_
  refine zGL (X := wK cI cZ cR ad S) (X' := wK cI cZ cR ad' S') (Y := wM cI cZ cB am M) (As := []) (b := ad 0) (rest := []) hC h1 lM_L_109 vM_X3_trace (by decide) hK (ZZ_kept hS hZ) hP hD hS hp ⟨hf0, rfl, rfl⟩ rfl hl.1 rfl (by decide) dL_law_714 hcs (fun H locs hP hD hS => ?_)
  refine lv_aload_n hx hb dL_law_717 rfl (lv_at hl 2 rfl) ?_
  refine zGL (X := wM cI cZ cB am M) (X' := wM cI cZ cB am M') (Y := wK cI cZ cR ad' S') (As := []) (b := am 0) (rest := [.long z]) hC h2 lM_L_113 vM_X4_trace (by decide) hK (ZZ_kept hS hZ) (va_Pswap hP) (va_Dswap hD) hS (by rw [wM_fst, wM_fst]) ⟨hm0, rfl, rfl⟩ rfl hl.1 rfl (by simp [Value.category]) dL_law_718 hcs (fun H locs hP hD hS => ?_)
  refine lw_lcmp hx hb dL_law_721 ?_
  refine lv_if_eq (tgt := 727) hx hb dL_law_722 (by decide) (fun _ => ?_) (fun h => absurd rfl h)
  exact kk ad' S' M' H locs hR' (va_Pswap hP) (va_Dswap hD) hS (by rw [e0]; exact hl)
