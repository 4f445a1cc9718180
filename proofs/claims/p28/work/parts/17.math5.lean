/-! longs; scripts and simulations on the way -/
def cmpI (a b : Int) : Int := if b < a then 1 else if a = b then 0 else -1
theorem cmpI_s (a b : Int) : (cmpI a b = 1 ∧ b < a) ∨ (cmpI a b = 0 ∧ a = b) ∨ (cmpI a b = -1 ∧ a < b) := by
  unfold cmpI
  split
  · omega
  · split <;> omega
theorem cmp_e {x y : Int64} {b : Int} (hy : y.toInt = b) : lg_cmp x y = iI (cmpI x.toInt b) := by
  unfold lg_cmp cmpI
  subst hy
  by_cases h1 : y < x
  · have h2 := Int64.lt_iff_toInt_lt.mp h1
    simp only [h1, h2, if_true]
    decide +kernel
  · have h2 : ¬ y.toInt < x.toInt := fun q => h1 (Int64.lt_iff_toInt_lt.mpr q)
    by_cases h3 : x = y
    · subst h3
      simp only [h1, h2, if_true, if_false]
      decide +kernel
    · have h4 : ¬ x.toInt = y.toInt := fun q => h3 (Int64.toInt_inj.mp q)
      simp only [h1, h2, h3, h4, if_false]
      decide +kernel
def bnd3 (n : Int) : Int := if n = 1 then 100000 else if n = 2 then 10000000000 else 1000000000000000
theorem i64_rng (x : Int64) : -9223372036854775808 ≤ x.toInt ∧ x.toInt < 9223372036854775808 := ⟨Int64.le_toInt x, Int64.toInt_lt x⟩
theorem i64_div {x g : Int64} (hx : 0 ≤ x.toInt) (hg : 0 < g.toInt) : (x / g).toInt = x.toInt / g.toInt := by
  have hr := i64_rng x
  have hr2 := i64_rng g
  have e : x.toInt.tdiv g.toInt = x.toInt / g.toInt := Int.tdiv_eq_ediv_of_nonneg hx
  have h1 : x / g = Int64.ofInt (x.toInt.tdiv g.toInt) := by
    rw [Int64.ofInt_tdiv, Int64.ofInt_toInt, Int64.ofInt_toInt]
    · rw [show Int64.minValue.toInt = -9223372036854775808 by decide +kernel]; omega
    · rw [show Int64.maxValue.toInt = 9223372036854775807 by decide +kernel]; omega
    · rw [show Int64.minValue.toInt = -9223372036854775808 by decide +kernel]; omega
    · rw [show Int64.maxValue.toInt = 9223372036854775807 by decide +kernel]; omega
  rw [h1, e]
  have h2 : 0 ≤ x.toInt / g.toInt := Int.ediv_nonneg hx (by omega)
  have h3 : x.toInt / g.toInt ≤ x.toInt := Int.ediv_le_self _ hx
  exact Int64.toInt_ofInt_of_le (by omega) (by omega)
theorem i64_ne {g : Int64} {G : Int} (hg : g.toInt = G) (h0 : 0 < G) : ¬ g = 0 := by
  intro h
  rw [h] at hg
  have : (0 : Int64).toInt = 0 := by decide +kernel
  omega
theorem i64_1e5 : (100000 : Int64).toInt = 100000 := by decide +kernel
theorem i64_rem {y : Int64} (h : 0 ≤ y.toInt) : (y - y / 100000 * 100000).toInt32 = iI (y.toInt % 100000) := by
  have hr := i64_rng y
  have h1 := i64_div (g := 100000) h (by rw [i64_1e5]; omega)
  rw [i64_1e5] at h1
  have e : y - y / 100000 * 100000 = Int64.ofInt (y.toInt % 100000) := by
    rw [Int.emod_def, Int64.ofInt_sub, Int64.ofInt_mul, Int64.ofInt_toInt, ← h1, Int64.ofInt_toInt, Int64.mul_comm]
    rfl
  rw [e, Int64.toInt32_ofInt]
  rfl
theorem i64_dm {x g : Int64} {G : Int} (h : 0 ≤ x.toInt) (hg : g.toInt = G) (h0 : 0 < G) : (x / g - x / g / 100000 * 100000).toInt32 = iI (x.toInt / G % 100000) := by
  have h1 := i64_div h (by rw [hg]; exact h0)
  rw [i64_rem (by rw [h1, hg]; exact Int.ediv_nonneg h (by omega)), h1, hg]
theorem i64_sh {g : Int64} {G : Int} (hg : g.toInt = G) (h0 : 0 ≤ G) : (g / 100000).toInt = G / 100000 := by
  rw [i64_div (by omega) (by rw [i64_1e5]; omega), i64_1e5, hg]
theorem gw_pos (r : Nat) : 0 < gw r := Int.pow_pos (by omega)
theorem gw_s (r : Nat) : gw (r + 1) / 100000 = gw r := by
  unfold gw
  rw [Int.pow_succ]
  exact Int.mul_ediv_cancel _ (by omega)
theorem gw_b {n : Int} (h : 1 ≤ n ∧ n ≤ 3) : bnd3 n / 100000 = gw (n.toNat - 1) := by
  rcases (show n = 1 ∨ n = 2 ∨ n = 3 by omega) with e | e | e <;> subst e <;> decide +kernel
theorem inv_cmdS {S : Int → Int} (hI : Inv S) {g : Int} (hg : 0 ≤ g ∧ g < 100000) : Inv (cmdS S g) := by
  have hpl := hI.pl
  have hna := hI.na
  unfold cmdS
  split
  · split
    · rename_i q
      have h1 := whyR_0.mp (whyA_0.mp q).1
      exact inv_askd hI h1
    · exact hI
  · split
    · split
      · split
        · rename_i q
          exact inv_wr hI q.1 ⟨by have : 0 ≤ g % 100 / 10 := (by omega); exact this, by have : g % 100 / 10 < 2 := q.2; exact Int.le_of_lt_add_one this⟩
        · exact hI
      · exact hI
    · split
      · split
        · split
          · rename_i q
            exact inv_setg hI q
          · exact hI
        · exact hI
      · split
        · split
          · split
            · rename_i q
              exact inv_forget1 hI q
            · exact hI
          · exact hI
        · exact hI
theorem rs_no {sc : Int} {S : Int → Int} {n k : Nat} (hk : k < n) (h : ¬ pI (cmdOk S (sc / gw (n - 1 - k) % 100000)) = 1) : rsL sc (n - k) S k = k := by
  rw [show n - k = (n - 1 - k) + 1 by omega]
  show (if _ then _ else _) = _
  rw [if_neg h]
theorem rs_yes {sc : Int} {S : Int → Int} {n k : Nat} (hk : k < n) (h : pI (cmdOk S (sc / gw (n - 1 - k) % 100000)) = 1) : rsL sc (n - k) S k = rsL sc (n - (k + 1)) (cmdS S (sc / gw (n - 1 - k) % 100000)) ((k + 1 : Nat) : Int) := by
  rw [show n - k = (n - 1 - k) + 1 by omega]
  show (if _ then _ else _) = _
  rw [if_pos h, show n - (k + 1) = n - 1 - k by omega]
  rfl
theorem inv_sim1 {S : Int → Int} (hI : Inv S) {r : Int} (hr : 0 ≤ r) : Inv (sim1 S r) := by
  have hpl := hI.pl
  have hwi := hI.wi
  have h1 : 0 ≤ simA S r ∧ simA S r < S 0 := ⟨Int.emod_nonneg _ (by omega), Int.emod_lt_of_pos _ (by omega)⟩
  unfold sim1
  split
  · rename_i q
    refine inv_askd hI ⟨h1.1, ?_, q⟩
    unfold simB
    omega
  · split
    · have hk := hI.key (j := simA S r) (by omega) (by omega)
      exact inv_wr hI h1 (by omega)
    · exact hI
theorem cpy_self {S K G : Int → Int} {z : Int} (h1 : 0 ≤ z) (h2 : z < ((96 : Nat) : Int)) : cpy (cpy S K 0 0) G 0 0 z = S z := by
  unfold cpy cpyN
  rw [if_pos (by omega), if_pos (by omega)]
  congr 1
  omega
theorem cpy_5 {S K : Int → Int} : cpy S K 0 0 5 = S 5 := by
  unfold cpy cpyN
  rw [if_pos (by omega)]
  congr 1
theorem simL_s {m n : Nat} {y : Int64} {G : Int → Int} (h : m = n + 1) : simL m y G = simL n (simN y) (sim1 G (simR (simN y))) := by
  subst h
  rfl
