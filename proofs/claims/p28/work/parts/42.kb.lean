/-! the class's drive: the keys as bits, the answers in cells of their own -/
def kL (S : Int → Int) (a : Int) : Nat → Nat
  | 0 => 0
  | n + 1 => (S (8 + a)).toNat + 2 * kL S (a + 1) n
theorem kL_lt {S : Int → Int} : ∀ (n : Nat) (a : Int), (∀ j, a ≤ j → j < a + n → 0 ≤ S (8 + j) ∧ S (8 + j) ≤ 1) → kL S a n < 2 ^ n
  | 0, _, _ => by show 0 < 1; omega
  | n + 1, a, h => by
    have ih := kL_lt n (a + 1) (fun j h0 h1 => h j (by omega) (by omega))
    have h2 := h a (by omega) (by omega)
    show (S (8 + a)).toNat + 2 * kL S (a + 1) n < 2 ^ (n + 1)
    rw [Nat.pow_succ]
    omega
theorem kL_c {S S2 : Int → Int} : ∀ (n : Nat) (a : Int), (∀ j, a ≤ j → j < a + n → S2 (8 + j) = S (8 + j)) → kL S2 a n = kL S a n
  | 0, _, _ => rfl
  | n + 1, a, h => by
    show (S2 (8 + a)).toNat + 2 * kL S2 (a + 1) n = (S (8 + a)).toNat + 2 * kL S (a + 1) n
    rw [h a (by omega) (by omega), kL_c n (a + 1) (fun j h0 h1 => h j (by omega) (by omega))]
theorem kL_div {S : Int → Int} : ∀ (k n : Nat) (a : Int), k ≤ n → (∀ j, a ≤ j → j < a + n → 0 ≤ S (8 + j) ∧ S (8 + j) ≤ 1) → kL S a n / 2 ^ k = kL S (a + k) (n - k)
  | 0, n, a, _, _ => by rw [Nat.pow_zero, Nat.div_one, Nat.sub_zero, show a + ((0 : Nat) : Int) = a by omega]
  | k + 1, 0, a, h, _ => by omega
  | k + 1, n + 1, a, h, hk => by
    have h2 := hk a (by omega) (by omega)
    have ih := kL_div k n (a + 1) (by omega) (fun j h0 h1 => hk j (by omega) (by omega))
    have e : kL S a (n + 1) / 2 = kL S (a + 1) n := by
      show ((S (8 + a)).toNat + 2 * kL S (a + 1) n) / 2 = _
      omega
    rw [Nat.pow_succ, Nat.mul_comm, ← Nat.div_div_eq_div_mul, e, ih, show n + 1 - (k + 1) = n - k by omega]
    congr 1
    omega
theorem kL_mod {S : Int → Int} : ∀ (m n : Nat) (a : Int), m ≤ n → (∀ j, a ≤ j → j < a + n → 0 ≤ S (8 + j) ∧ S (8 + j) ≤ 1) → kL S a n % 2 ^ m = kL S a m
  | 0, n, a, _, _ => by rw [Nat.pow_zero, Nat.mod_one]; rfl
  | m + 1, 0, a, h, _ => by omega
  | m + 1, n + 1, a, h, hk => by
    have h2 := hk a (by omega) (by omega)
    have ih := kL_mod m n (a + 1) (by omega) (fun j h0 h1 => hk j (by omega) (by omega))
    show ((S (8 + a)).toNat + 2 * kL S (a + 1) n) % 2 ^ (m + 1) = (S (8 + a)).toNat + 2 * kL S (a + 1) m
    rw [← ih, Nat.pow_succ]
    have hp : 0 < 2 ^ m := Nat.two_pow_pos m
    generalize 2 ^ m = P at hp ⊢
    generalize kL S (a + 1) n = x
    have hx := Nat.div_add_mod x P
    have hlt := Nat.mod_lt x hp
    rw [show (S (8 + a)).toNat + 2 * x = ((S (8 + a)).toNat + 2 * (x % P)) + (P * 2) * (x / P) by rw [← Nat.mul_right_comm]; omega, Nat.add_mul_mod_self_left, Nat.mod_eq_of_lt (by omega)]
theorem popc_0 : ∀ k, popc k 0 = 0
  | 0 => rfl
  | k + 1 => by
    show 0 % 2 + popc k (0 / 2) = 0
    rw [show 0 / 2 = 0 from rfl, popc_0 k]
theorem kL_pop {S : Int → Int} : ∀ (n k : Nat) (a : Int), (∀ j, a ≤ j → j < a + n → 0 ≤ S (8 + j) ∧ S (8 + j) ≤ 1) → ((popc (n + k) (kL S a n) : Nat) : Int) = ksum S a n
  | 0, k, a, _ => by
    show ((popc (0 + k) 0 : Nat) : Int) = 0
    rw [popc_0]
    rfl
  | n + 1, k, a, h => by
    have h2 := h a (by omega) (by omega)
    have ih := kL_pop n k (a + 1) (fun j h0 h1 => h j (by omega) (by omega))
    have e := ksum_split (S := S) a 1 n
    have e1 : ksum S a 1 = 0 + S (8 + (a + ((0 : Nat) : Int))) := rfl
    have e2 : ksum S a (n + 1) = S (8 + a) + ksum S (a + 1) n := by
      rw [show n + 1 = 1 + n by omega, e, e1, show a + ((1 : Nat) : Int) = a + 1 by omega, show a + ((0 : Nat) : Int) = a by omega]
      omega
    rw [show n + 1 + k = (n + k) + 1 by omega, e2]
    show ((((S (8 + a)).toNat + 2 * kL S (a + 1) n) % 2 + popc (n + k) (((S (8 + a)).toNat + 2 * kL S (a + 1) n) / 2) : Nat) : Int) = _
    rw [show ((S (8 + a)).toNat + 2 * kL S (a + 1) n) / 2 = kL S (a + 1) n by omega, ← ih]
    omega
theorem kL_bit {S : Int → Int} {n : Nat} {a : Int} {j : Nat} (hj : j < n) (h : ∀ j, a ≤ j → j < a + n → 0 ≤ S (8 + j) ∧ S (8 + j) ≤ 1) : kL S a n / 2 ^ j % 2 = (S (8 + (a + j))).toNat := by
  rw [kL_div j n a (by omega) h, show n - j = (n - j - 1) + 1 by omega]
  have h2 := h (a + j) (by omega) (by omega)
  show ((S (8 + (a + j))).toNat + 2 * kL S (a + j + 1) (n - j - 1)) % 2 = _
  omega
theorem kL_xor {S : Int → Int} (h : ∀ j : Int, 0 ≤ j → j < 40 → 0 ≤ S (8 + j) ∧ S (8 + j) ≤ 1) {i : Nat} (hi : i < 40) {v : Int} (hv : v = 1 - S (8 + i)) : kL S 0 40 ^^^ 2 ^ i = kL (up S (8 + i) v) 0 40 := by
  have hi2 := h i (by omega) (by omega)
  have h' : ∀ j : Int, 0 ≤ j → j < 40 → 0 ≤ up S (8 + i) v (8 + j) ∧ up S (8 + i) v (8 + j) ≤ 1 := by
    intro j h0 h1
    unfold up
    split
    · omega
    · exact h j h0 h1
  have b1 := kL_lt (S := S) 40 0 (fun j h0 h1 => h j h0 (by omega))
  have b2 := kL_lt (S := up S (8 + i) v) 40 0 (fun j h0 h1 => h' j h0 (by omega))
  have b3 : 2 ^ i < 2 ^ 40 := Nat.pow_lt_pow_right (by omega) hi
  apply Nat.eq_of_testBit_eq
  intro j
  by_cases hj : j < 40
  · rw [Nat.testBit_xor, Nat.testBit_two_pow, Nat.testBit_eq_decide_div_mod_eq, Nat.testBit_eq_decide_div_mod_eq, kL_bit hj (fun j h0 h1 => h j h0 (by omega)), kL_bit hj (fun j h0 h1 => h' j h0 (by omega)), show (0 : Int) + (j : Int) = j by omega]
    have hj2 := h j (by omega) (by omega)
    unfold up
    by_cases e : j = i
    · subst e
      rw [if_pos rfl]
      rcases (show S (8 + (j : Int)) = 0 ∨ S (8 + (j : Int)) = 1 by omega) with q | q
      · rw [q] at hv
        rw [q, hv]
        simp
      · rw [q] at hv
        rw [q, hv]
        simp
    · rw [if_neg (by omega)]
      simp [show ¬ i = j by omega]
  · rw [Nat.testBit_lt_two_pow (Nat.lt_of_lt_of_le (Nat.xor_lt_two_pow b1 b3) (Nat.pow_le_pow_right (by omega) (by omega))), Nat.testBit_lt_two_pow (Nat.lt_of_lt_of_le b2 (Nat.pow_le_pow_right (by omega) (by omega)))]
theorem kL_cut {S : Int → Int} {p : Nat} (hp : p ≤ 40) (h : ∀ j : Int, 0 ≤ j → j < 40 → 0 ≤ S (8 + j) ∧ S (8 + j) ≤ 1) {S2 : Int → Int} (h1 : ∀ j : Int, 0 ≤ j → j < p → S2 (8 + j) = S (8 + j)) (h2 : ∀ j : Int, p ≤ j → j < 40 → S2 (8 + j) = 0) : kL S 0 40 % 2 ^ p = kL S2 0 40 := by
  have h' : ∀ j : Int, 0 ≤ j → j < 40 → 0 ≤ S2 (8 + j) ∧ S2 (8 + j) ≤ 1 := by
    intro j g0 g1
    by_cases e : j < p
    · rw [h1 j g0 e]
      exact h j g0 g1
    · rw [h2 j (by omega) g1]
      omega
  have z : ∀ (n : Nat) (a : Int), (∀ j, a ≤ j → j < a + n → S2 (8 + j) = 0) → kL S2 a n = 0 := by
    intro n
    induction n with
    | zero => intro a _; rfl
    | succ n ih =>
      intro a ha
      show (S2 (8 + a)).toNat + 2 * kL S2 (a + 1) n = 0
      rw [ha a (by omega) (by omega), ih (a + 1) (fun j g0 g1 => ha j (by omega) (by omega))]
      rfl
  have d := kL_div (S := S2) p 40 0 hp (fun j g0 g1 => h' j g0 (by omega))
  rw [z (40 - p) _ (fun j g0 g1 => h2 j (by omega) (by omega))] at d
  have m1 := kL_mod (S := S) p 40 0 hp (fun j g0 g1 => h j g0 (by omega))
  have m2 := kL_mod (S := S2) p 40 0 hp (fun j g0 g1 => h' j g0 (by omega))
  have c := kL_c (S := S) (S2 := S2) p 0 (fun j g0 g1 => h1 j g0 (by omega))
  have e := Nat.div_add_mod (kL S2 0 40) (2 ^ p)
  rw [d, m2, Nat.mul_zero, Nat.zero_add] at e
  rw [m1, ← c, e]
theorem ushr_z {n : Nat} {z : Int} (hn : n < 2 ^ 64) (hz : 0 ≤ z ∧ z < 64) : ((lN n).toUInt64 >>> ((iI z).toInt64.toUInt64 &&& Int64.toUInt64 63)).toInt64 = lN (n / 2 ^ z.toNat) := by
  have h := ushr_i z.toNat hn (by omega)
  rw [Int.toNat_of_nonneg hz.1] at h
  exact h
theorem shl_z (n : Nat) {z : Int} (hz : 0 ≤ z ∧ z < 64) : lN n <<< ((iI z).toInt64 &&& 63) = lN (n * 2 ^ z.toNat) := by
  have h := wb_shl n (k := z.toNat) (by omega)
  rw [nI_iI, Int.toNat_of_nonneg hz.1] at h
  exact h
/-- the class's cells hold the answers that are kept -/
def Rc (S g : Int → Int) : Prop := ∀ i w, 0 ≤ i → i < S 4 → 0 ≤ w → w < 4 → g (i * 4 + w) = an S i w
theorem about_is {S : Int → Int} (hI : Inv S) {a b k : Int} (h0 : 0 ≤ k) (h1 : k < S 4) (ha : an S k 0 = a) (hb : an S k 1 = b) : aboutI S a b = k := by
  have hn := hI.na
  have hr := aboutI_b (S := S) (a := a) (b := b) hn.1
  by_cases e : aboutI S a b = -1
  · exact absurd ⟨ha, hb⟩ (lastAb_no _ e k h0 (by omega))
  · have hy : an S (aboutI S a b) 0 = a ∧ an S (aboutI S a b) 1 = b := lastAb_yes (S := S) (a := a) (b := b) (S 4).toNat e
    rcases Int.lt_trichotomy (aboutI S a b) k with q | q | q
    · exact absurd ⟨hy.1.trans ha.symm, hy.2.trans hb.symm⟩ (hI.diff (by omega) q h1)
    · exact q
    · exact absurd ⟨ha.trans hy.1.symm, hb.trans hy.2.symm⟩ (hI.diff h0 q (by omega))
theorem about_no {S : Int → Int} {a b : Int} (h0 : 0 ≤ S 4) (h : ∀ i, 0 ≤ i → i < S 4 → ¬ (an S i 0 = a ∧ an S i 1 = b)) : aboutI S a b = -1 := by
  have hr := aboutI_b (S := S) (a := a) (b := b) h0
  by_cases e : aboutI S a b = -1
  · exact e
  · have hy : an S (aboutI S a b) 0 = a ∧ an S (aboutI S a b) 1 = b := lastAb_yes (S := S) (a := a) (b := b) (S 4).toNat e
    exact absurd hy (h _ (by omega) (by omega))
theorem lN_cmp1 {b : Nat} (h : b < 2 ^ 31) : lg_cmp (lN b) 1 = iI (cmpI (b : Int) 1) := by
  have e : (lN b).toInt = (b : Int) := lN_toInt h
  have h1 := cmp_e (x := lN b) (y := 1) (b := 1) (by decide +kernel)
  rw [e] at h1
  exact h1
theorem rng_e {k : Nat} : lN (1 * 2 ^ k) - 1 = lN (2 ^ k - 1) := by
  have hp : 1 ≤ 2 ^ k := Nat.two_pow_pos k
  rw [Nat.one_mul, show (1 : Int64) = lN 1 from by decide +kernel, lN_sub hp]
theorem ksum_z {S : Int → Int} : ∀ (n : Nat) (a : Int), (∀ j, a ≤ j → j < a + n → S (8 + j) = 0) → ksum S a n = 0
  | 0, _, _ => rfl
  | n + 1, a, h => by
    show ksum S a n + S (8 + (a + n)) = 0
    rw [ksum_z n a (fun j h0 h1 => h j h0 (by omega)), h (a + n) (by omega) (by omega)]
    rfl
theorem keys_all {S : Int → Int} (hI : Inv S) : ((popc 64 (kL S 0 40) : Nat) : Int) = keysIn S 0 (S 0 - 1) := by
  have hp := hI.pl
  have h := kL_pop (S := S) 40 24 0 (fun j h0 h1 => hI.key h0 (by omega))
  have h2 := ksum_split (S := S) 0 (S 0).toNat (40 - (S 0).toNat)
  rw [ksum_z (40 - (S 0).toNat) _ (fun j h0 h1 => hI.keyo (by omega) (by omega)), show (S 0).toNat + (40 - (S 0).toNat) = 40 by omega] at h2
  rw [show 64 = 40 + 24 from rfl, h, h2]
  unfold keysIn
  rw [show (S 0 - 1 + 1 - 0).toNat = (S 0).toNat by omega]
  omega
theorem keys_in {S : Int → Int} (hI : Inv S) {a b : Int} (h : 0 ≤ a ∧ a ≤ b ∧ b < 40) : ((popc 64 (kL S 0 40 / 2 ^ a.toNat % 2 ^ (b - a + 1).toNat) : Nat) : Int) = keysIn S a b := by
  have h1 := kL_div (S := S) a.toNat 40 0 (by omega) (fun j h0 h1 => hI.key h0 (by omega))
  have h2 := kL_mod (S := S) (b - a + 1).toNat (40 - a.toNat) (0 + (a.toNat : Int)) (by omega) (fun j h0 h1 => hI.key (by omega) (by omega))
  have h3 := kL_pop (S := S) (b - a + 1).toNat (64 - (b - a + 1).toNat) (0 + (a.toNat : Int)) (fun j h0 h1 => hI.key (by omega) (by omega))
  rw [h1, h2]
  rw [show (b - a + 1).toNat + (64 - (b - a + 1).toNat) = 64 by omega] at h3
  rw [h3]
  unfold keysIn
  rw [show (0 : Int) + (a.toNat : Int) = a by omega, show (b + 1 - a).toNat = (b - a + 1).toNat by omega]
