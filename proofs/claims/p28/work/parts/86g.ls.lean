/-! what the law compares after each action -/
theorem kw_bit {r : Int → Int} {pl i : Int} (h : 0 ≤ i ∧ i < pl ∧ pl ≤ 9) : ia (isr ((wd (knF r) 0 pl.toNat : Nat) : Int) i) 1 = knF r i.toNat := by
  have hl := wd_lt (G := knF r) (b := 0) pl.toNat
  have h9 : 2 ^ pl.toNat ≤ 2 ^ 9 := pw_le (by omega)
  have h1 := bit_e (v := ((wd (knF r) 0 pl.toNat : Nat) : Int)) (n := i.toNat) (by omega) (by omega)
  rw [Int.toNat_of_nonneg h.1] at h1
  rw [h1, show (((wd (knF r) 0 pl.toNat : Nat) : Int)).toNat = wd (knF r) 0 pl.toNat from rfl, wd_bit _ (by omega), Nat.zero_add]
  unfold knF
  split
  · rfl
  · rfl
theorem keys_1 {S : Int → Int} {i : Int} : keysIn S i i = S (8 + i) := by
  unfold keysIn
  rw [show (i + 1 - i).toNat = 1 by omega]
  show 0 + S (8 + (i + ((0 : Nat) : Int))) = _
  rw [show i + ((0 : Nat) : Int) = i by omega]
  omega
theorem kno {S : Int → Int} (hI : Inv S) {i : Int} (h : 0 ≤ i ∧ i < S 0) : (knF (FB S (-1)) i.toNat = 1 ∧ knownOf (FB S (-1)) i = S (8 + i)) ∨ (knF (FB S (-1)) i.toNat = 0 ∧ knownOf (FB S (-1)) i = -1) := by
  have hp := hI.pl
  have hP := pot_FB hI (-1)
  have a1 := hP i (i + 1) (by omega) (by omega) (by omega) (by omega)
  have a2 := hP (i + 1) i (by omega) (by omega) (by omega) (by omega)
  have a3 := pre_in (S := S) (a := i) (b := i) (by omega) (by omega)
  have a4 := keys_1 (S := S) (i := i)
  unfold knF knownOf
  rw [Int.toNat_of_nonneg h.1]
  split
  · rename_i q
    refine Or.inl ⟨rfl, ?_⟩
    unfold mostI leastI at q
    unfold mostI
    rw [show 41 * i + i + 1 = 41 * i + (i + 1) by omega] at *
    omega
  · exact Or.inr ⟨rfl, rfl⟩
theorem kAt_none {r : Int → Int} {i : Int} : ∀ n : Nat, kCnt r n ≤ i → kAt r i n = -1
  | 0, _ => rfl
  | n + 1, h => by
    have e : kCnt r (n + 1) = kCnt r n + (if knownOf r n ≠ -1 then 1 else 0) := rfl
    show (if knownOf r n ≠ -1 ∧ kCnt r n = i then (n : Int) else kAt r i n) = -1
    rw [e] at h
    by_cases q : knownOf r n ≠ -1
    · rw [if_pos q] at h
      rw [if_neg (fun z => by omega)]
      exact kAt_none n (by omega)
    · rw [if_neg q] at h
      rw [if_neg (fun z => q z.1)]
      exact kAt_none n (by omega)
theorem wq_r {S : Int → Int} (hI : Inv S) {a b : Int} : 0 ≤ worstQ S a b ∧ worstQ S a b ≤ 40 := by
  have hp := hI.pl
  unfold worstQ
  rcases wsN_at (S := S) (r := FB S (-1)) (a := a) (b := b) (lo := leastI (FB S (-1)) a b) (mostI (FB S (-1)) a b + 1 - leastI (FB S (-1)) a b).toNat with e | ⟨k, h1, h2⟩
  · omega
  · have := wsK_r (S := S) (r := FB S (-1)) (a := a) (b := b) (k := leastI (FB S (-1)) a b + (k : Nat)) (by omega)
    omega
