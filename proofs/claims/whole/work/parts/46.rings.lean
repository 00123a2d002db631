/-! rings of labels: all rows of labels are gone through -/
def lF (L : List Nat) : Nat → Nat := fun i => L.getD i 0
def pall (n : Nat) (chk : List Nat → Bool) : Nat → List Nat → Bool
  | 0, L => chk L
  | k + 1, L => rngA (fun v => L.contains v || pall n chk k (L ++ [v])) n
theorem pall_spec {n : Nat} {chk : List Nat → Bool} {la : Nat → Nat} (hb : ∀ i, i < n → la i < n) (hi : ∀ i j, i < n → j < n → la i = la j → i = j) : ∀ (k m : Nat), m + k = n → pall n chk k ((List.range m).map la) = true → chk ((List.range n).map la) = true
  | 0, m, hm, h => by
    have e : m = n := by omega
    subst e
    exact h
  | k + 1, m, hm, h => by
    have h1 := rngA_s h (la m) (hb m (by omega))
    rw [Bool.or_eq_true] at h1
    have h2 : ((List.range m).map la).contains (la m) = false := by
      cases q : ((List.range m).map la).contains (la m) with
      | false => rfl
      | true =>
        have h3 : la m ∈ (List.range m).map la := by simpa using q
        obtain ⟨j, hj, e⟩ := List.mem_map.mp h3
        have hj2 := List.mem_range.mp hj
        exact absurd (hi j m (by omega) (by omega) e) (by omega)
    rw [h2] at h1
    have h4 := h1.resolve_left (by decide)
    refine pall_spec hb hi k (m + 1) (by omega) ?_
    rw [List.range_succ, List.map_append]
    exact h4
def rchk (n : Nat) (L : List Nat) : Bool := (fcS (lF L) n n).1 == n - (mcS (lF L) n).1
theorem rt_0 : pall 0 (rchk 0) 0 [] = true := by decide +kernel
theorem rt_1 : pall 1 (rchk 1) 1 [] = true := by decide +kernel
theorem rt_2 : pall 2 (rchk 2) 2 [] = true := by decide +kernel
theorem rt_3 : pall 3 (rchk 3) 3 [] = true := by decide +kernel
theorem rt_4 : pall 4 (rchk 4) 4 [] = true := by decide +kernel
theorem rt_5 : pall 5 (rchk 5) 5 [] = true := by decide +kernel
theorem rt_6 : pall 6 (rchk 6) 6 [] = true := by decide +kernel
theorem rt_n : ∀ n, n ≤ 6 → pall n (rchk n) n [] = true := by
  intro n hn
  match n, hn with
  | 0, _ => exact rt_0
  | 1, _ => exact rt_1
  | 2, _ => exact rt_2
  | 3, _ => exact rt_3
  | 4, _ => exact rt_4
  | 5, _ => exact rt_5
  | 6, _ => exact rt_6
theorem rg_s (la : Nat → Nat) (k e acc : Nat) : rg la (k + 1) e acc = rg la k (la e) (acc ||| 2 ^ e) := rfl
theorem rg_cong {la lb : Nat → Nat} {n : Nat} (h : ∀ i, i < n → la i = lb i) (hb : ∀ i, i < n → la i < n) : ∀ k e acc, e < n → rg la k e acc = rg lb k e acc
  | 0, _, _, _ => rfl
  | k + 1, e, acc, he => by rw [rg_s, rg_s, ← h e he]; exact rg_cong h hb k (la e) _ (hb e he)
theorem rg_lt {la : Nat → Nat} {n : Nat} (hn : n ≤ 6) (hb : ∀ i, i < n → la i < n) : ∀ k e acc, e < n → acc < 64 → rg la k e acc < 64
  | 0, _, _, _, h => h
  | k + 1, e, acc, he, h => by rw [rg_s]; exact rg_lt hn hb k (la e) _ (hb e he) (z_or64 h (z_pow6 (by omega)))
theorem fcS_s (la : Nat → Nat) (n d : Nat) : fcS la n (d + 1) = if (fcS la n d).2.testBit d then fcS la n d else ((fcS la n d).1 - 1, (fcS la n d).2 ||| rg la n d 0) := rfl
theorem fcS_cong {la lb : Nat → Nat} {n : Nat} (h : ∀ i, i < n → la i = lb i) (hb : ∀ i, i < n → la i < n) : ∀ d, d ≤ n → fcS la n d = fcS lb n d
  | 0, _ => rfl
  | d + 1, hd => by rw [fcS_s, fcS_s, fcS_cong h hb d (by omega), rg_cong h hb n d 0 (by omega)]
theorem rgR_cong {la lb : Nat → Nat} {n : Nat} (h : ∀ i, i < n → la i = lb i) (hb : ∀ i, i < n → la i < n) : ∀ k e s, e < n → rgR la k e s = rgR lb k e s
  | 0, _, _, _ => rfl
  | k + 1, e, s, he => by
    cases q : s.testBit e with
    | true => rw [rgR_t q, rgR_t q]
    | false => rw [rgR_f (Nat.succ_pos k) q, rgR_f (Nat.succ_pos k) q, Nat.succ_sub_one, ← h e he]; exact rgR_cong h hb k (la e) _ (hb e he)
theorem mcS_cong {la lb : Nat → Nat} {n : Nat} (h : ∀ i, i < n → la i = lb i) (hb : ∀ i, i < n → la i < n) : ∀ d, d ≤ n → mcS la d = mcS lb d
  | 0, _ => rfl
  | d + 1, hd => by rw [mcS_s, mcS_s, mcS_cong h hb d (by omega), rgR_cong h hb 65 d _ (by omega)]
/-- as many changes on both sides -/
theorem rings_eq {la lb : Nat → Nat} {n : Nat} (hn : n ≤ 6) (hp : PM n la) (h : ∀ i, i < n → la i = lb i) : (fcS la n n).1 = n - (mcS lb n).1 := by
  have hb : ∀ i, i < n → la i < n := by
    obtain ⟨W9, h1, -⟩ := hp
    exact fun i hi => (h1 i hi).1
  have h1 := pall_spec (chk := rchk n) (la := la) hb (fun i j hi hj e => hp.inj hi hj e) n 0 (by omega) (rt_n n hn)
  have hL : ∀ i, i < n → la i = lF ((List.range n).map la) i := fun i hi => by
    unfold lF
    rw [List.getD_eq_getElem?_getD, List.getElem?_map, List.getElem?_range hi]
    rfl
  have h2 : (fcS (lF ((List.range n).map la)) n n).1 = n - (mcS (lF ((List.range n).map la)) n).1 := by
    have : ((fcS (lF ((List.range n).map la)) n n).1 == n - (mcS (lF ((List.range n).map la)) n).1) = true := h1
    simpa using this
  rw [fcS_cong hL hb n (Nat.le_refl n), h2, ← mcS_cong hL hb n (Nat.le_refl n), mcS_cong h hb n (Nat.le_refl n)]
