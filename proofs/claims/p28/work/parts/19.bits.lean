/-! bits: the family wb of the kit's BITS text; the bits of a number counted as the JDK counts them -/
theorem wb_tb (n : Nat) : (lN n).toBitVec = BitVec.ofNat 64 n := rfl
theorem wb_inj {a b : Int64} (h : a.toBitVec = b.toBitVec) : a = b := Int64.toBitVec_inj.mp h
theorem wb_tn {n : Nat} (h : n < 2 ^ 64) : (lN n).toBitVec.toNat = n := by rw [wb_tb, BitVec.toNat_ofNat, Nat.mod_eq_of_lt h]
theorem wb_of (x : Int64) : ∃ n, n < 2 ^ 64 ∧ x = lN n := ⟨x.toBitVec.toNat, x.toBitVec.isLt, wb_inj (by rw [wb_tb]; simp)⟩
theorem wb_of32 (x : Int32) : ∃ n, n < 2 ^ 32 ∧ x = nI n := ⟨x.toBitVec.toNat, x.toBitVec.isLt, Int32.toBitVec_inj.mp (by show _ = BitVec.ofNat 32 _; simp)⟩
theorem wb_c : ∀ k, k < 64 → ((nI k).toInt64 &&& 63) = lN k := by decide +kernel
theorem wb_cu : ∀ k, k < 64 → ((nI k).toInt64.toUInt64 &&& Int64.toUInt64 63) = UInt64.ofNat k := by decide +kernel
theorem wb_sm : ∀ k, k < 64 → (BitVec.ofNat 64 k).smod 64 = BitVec.ofNat 64 k := by decide +kernel
theorem wb_pw {a b : Nat} (h : a ≤ b) : 2 ^ b = 2 ^ a * 2 ^ (b - a) := by rw [← Nat.pow_add]; congr 1; omega
theorem wb_lt2 {a b : Nat} (h : a < b) : 2 ^ a < 2 ^ b := Nat.pow_lt_pow_right (by decide) h
theorem wb_mod (n : Nat) : lN n = lN (n % 2 ^ 64) := wb_inj (by rw [wb_tb, wb_tb]; apply BitVec.eq_of_toNat_eq; rw [BitVec.toNat_ofNat, BitVec.toNat_ofNat, Nat.mod_mod])
theorem wb_shr {n k : Nat} (hn : n < 2 ^ 64) (hk : k < 64) : ((lN n).toUInt64 >>> ((nI k).toInt64.toUInt64 &&& Int64.toUInt64 63)).toInt64 = lN (n / 2 ^ k) := by
  rw [wb_cu k hk]
  apply wb_inj
  apply BitVec.eq_of_toNat_eq
  show ((lN n).toUInt64 >>> UInt64.ofNat k).toNat = (BitVec.ofNat 64 _).toNat
  have h1 : (UInt64.ofNat k).toNat = k := by
    show (BitVec.ofNat 64 k).toNat = k
    rw [BitVec.toNat_ofNat, Nat.mod_eq_of_lt (by omega)]
  have h2 : (lN n).toUInt64.toNat = n := wb_tn hn
  rw [UInt64.toNat_shiftRight, h1, h2, Nat.mod_eq_of_lt hk, Nat.shiftRight_eq_div_pow, BitVec.toNat_ofNat, Nat.mod_eq_of_lt (Nat.lt_of_le_of_lt (Nat.div_le_self _ _) hn)]
theorem wb_shl (n : Nat) {k : Nat} (hk : k < 64) : lN n <<< ((nI k).toInt64 &&& 63) = lN (n * 2 ^ k) := by
  rw [wb_c k hk]
  apply wb_inj
  rw [Int64.toBitVec_shiftLeft, wb_tb, wb_tb, wb_tb, wb_sm k hk]
  apply BitVec.eq_of_toNat_eq
  rw [BitVec.shiftLeft_eq', BitVec.toNat_shiftLeft, BitVec.toNat_ofNat, BitVec.toNat_ofNat, BitVec.toNat_ofNat, Nat.mod_eq_of_lt (show k < 2 ^ 64 by omega), Nat.shiftLeft_eq, Nat.mul_mod, Nat.mod_mod, ← Nat.mul_mod]
theorem wb_and {a b : Nat} (ha : a < 2 ^ 64) (hb : b < 2 ^ 64) : lN a &&& lN b = lN (a &&& b) := by
  apply wb_inj
  rw [Int64.toBitVec_and, wb_tb, wb_tb, wb_tb]
  apply BitVec.eq_of_toNat_eq
  rw [BitVec.toNat_and, BitVec.toNat_ofNat, BitVec.toNat_ofNat, BitVec.toNat_ofNat, Nat.mod_eq_of_lt ha, Nat.mod_eq_of_lt hb, Nat.mod_eq_of_lt (Nat.and_lt_two_pow _ hb)]
theorem wb_or {a b : Nat} (ha : a < 2 ^ 64) (hb : b < 2 ^ 64) : lN a ||| lN b = lN (a ||| b) := by
  apply wb_inj
  rw [Int64.toBitVec_or, wb_tb, wb_tb, wb_tb]
  apply BitVec.eq_of_toNat_eq
  rw [BitVec.toNat_or, BitVec.toNat_ofNat, BitVec.toNat_ofNat, BitVec.toNat_ofNat, Nat.mod_eq_of_lt ha, Nat.mod_eq_of_lt hb, Nat.mod_eq_of_lt (Nat.or_lt_two_pow ha hb)]
theorem wb_mask {n k : Nat} (hn : n < 2 ^ 64) (hk : k < 64) : lN n &&& lN (2 ^ k - 1) = lN (n % 2 ^ k) := by
  rw [wb_and hn (by have := wb_lt2 hk; omega), Nat.and_two_pow_sub_one_eq_mod]
theorem wb_a1 {n : Nat} (hn : n < 2 ^ 64) : lN n &&& 1 = lN (n % 2) := wb_mask (k := 1) hn (by decide)
theorem wb_bit {n k : Nat} (hn : n < 2 ^ 64) (hk : k < 64) : ((lN n).toUInt64 >>> ((nI k).toInt64.toUInt64 &&& Int64.toUInt64 63)).toInt64 &&& 1 = lN (n / 2 ^ k % 2) := by
  rw [wb_shr hn hk, wb_a1 (Nat.lt_of_le_of_lt (Nat.div_le_self _ _) hn)]
def popc : Nat → Nat → Nat
  | 0, _ => 0
  | k + 1, n => n % 2 + popc k (n / 2)
/-- m bytes c -/
def repB (x : Nat) : Nat → Nat
  | 0 => 0
  | m + 1 => x + 256 * repB x m
theorem and_byte {b x y z : Nat} (hb : b < 256) (hy : y < 256) : (b + 256 * x) &&& (y + 256 * z) = (b &&& y) + 256 * (x &&& z) := by
  have hby : b &&& y < 2 ^ 8 := Nat.and_lt_two_pow _ hy
  apply Nat.eq_of_testBit_eq
  intro i
  rw [Nat.testBit_and, show b + 256 * x = 2 ^ 8 * x + b by omega, show y + 256 * z = 2 ^ 8 * z + y by omega, show (b &&& y) + 256 * (x &&& z) = 2 ^ 8 * (x &&& z) + (b &&& y) by omega, Nat.testBit_two_pow_mul_add _ (show b < 2 ^ 8 by omega), Nat.testBit_two_pow_mul_add _ (show y < 2 ^ 8 by omega), Nat.testBit_two_pow_mul_add _ hby]
  split
  · rw [Nat.testBit_and]
  · rw [Nat.testBit_and]
def bc1 (m n : Nat) : Nat := n - (n / 2 &&& repB 85 m)
def bc2 (m n : Nat) : Nat := (bc1 m n &&& repB 51 m) + (bc1 m n / 4 &&& repB 51 m)
def bc3 (m n : Nat) : Nat := (bc2 m n + bc2 m n / 16) &&& repB 15 m
def by1 (b : Nat) : Nat := b - (b / 2 &&& 85)
def by2 (b : Nat) : Nat := (by1 b &&& 51) + (by1 b / 4 &&& 51)
theorem by_d1 : ∀ b, b < 256 → ∀ e, e < 2 → ((b / 2 + 128 * e) &&& 85) = (b / 2 &&& 85) ∧ (b / 2 &&& 85) ≤ b ∧ by1 b < 256 := by decide +kernel
theorem by_d2 : ∀ b, b < 256 → ∀ e, e < 4 → ((by1 b / 4 + 64 * e) &&& 51) = (by1 b / 4 &&& 51) ∧ by2 b < 256 ∧ by2 b % 16 ≤ 4 := by decide +kernel
theorem by_d3 : ∀ b, b < 256 → ∀ e, e < 5 → ((by2 b + by2 b / 16 + 16 * e) &&& 15) = popc 8 b ∧ by2 b + by2 b / 16 + 16 * e < 256 ∧ popc 8 b ≤ 8 := by decide +kernel
theorem bc_le (m n : Nat) : (n / 2 &&& repB 85 m) ≤ n := Nat.le_trans Nat.and_le_left (Nat.div_le_self _ _)
theorem bc1_s {m b x : Nat} (hb : b < 256) : bc1 (m + 1) (b + 256 * x) = by1 b + 256 * bc1 m x := by
  obtain ⟨h1, h2, h3⟩ := by_d1 b hb (x % 2) (by omega)
  have h4 := bc_le m x
  unfold bc1 by1
  rw [show (b + 256 * x) / 2 = (b / 2 + 128 * (x % 2)) + 256 * (x / 2) by omega]
  show b + 256 * x - (((b / 2 + 128 * (x % 2)) + 256 * (x / 2)) &&& (85 + 256 * repB 85 m)) = _
  rw [and_byte (by omega) (by omega), h1]
  omega
theorem bc2_s {m b x : Nat} (hb : b < 256) : bc2 (m + 1) (b + 256 * x) = by2 b + 256 * bc2 m x := by
  obtain ⟨h1, h2, h3⟩ := by_d1 b hb 0 (by omega)
  obtain ⟨h4, h5, h6⟩ := by_d2 b hb (bc1 m x % 4) (by omega)
  unfold bc2 by2
  rw [bc1_s hb, show (by1 b + 256 * bc1 m x) / 4 = (by1 b / 4 + 64 * (bc1 m x % 4)) + 256 * (bc1 m x / 4) by omega]
  show ((by1 b + 256 * bc1 m x) &&& (51 + 256 * repB 51 m)) + (((by1 b / 4 + 64 * (bc1 m x % 4)) + 256 * (bc1 m x / 4)) &&& (51 + 256 * repB 51 m)) = _
  rw [and_byte h3 (by omega), and_byte (by omega) (by omega), h4]
  omega
theorem bc2_n {m n : Nat} : n < 256 ^ m → bc2 m n % 16 ≤ 4 := by
  cases m with
  | zero => intro h; have : n = 0 := by omega
            subst this; decide +kernel
  | succ m =>
    intro h
    have e : n = n % 256 + 256 * (n / 256) := by omega
    rw [e, bc2_s (by omega)]
    have := (by_d2 (n % 256) (by omega) 0 (by omega)).2.2
    omega
theorem bc3_s {m b x : Nat} (hb : b < 256) (hx : x < 256 ^ m) : bc3 (m + 1) (b + 256 * x) = popc 8 b + 256 * bc3 m x := by
  have hn := bc2_n hx
  obtain ⟨h1, h2, h3⟩ := by_d3 b hb (bc2 m x % 16) (by omega)
  unfold bc3
  rw [bc2_s hb, show by2 b + 256 * bc2 m x + (by2 b + 256 * bc2 m x) / 16 = (by2 b + by2 b / 16 + 16 * (bc2 m x % 16)) + 256 * (bc2 m x + bc2 m x / 16) by omega]
  show ((by2 b + by2 b / 16 + 16 * (bc2 m x % 16)) + 256 * (bc2 m x + bc2 m x / 16)) &&& (15 + 256 * repB 15 m) = _
  rw [and_byte h2 (by omega), h1]
theorem popc_s (k b x : Nat) (hb : b < 256) : popc (k + 8) (b + 256 * x) = popc 8 b + popc k x := by
  show (b + 256 * x) % 2 + ((b + 256 * x) / 2 % 2 + ((b + 256 * x) / 2 / 2 % 2 + ((b + 256 * x) / 2 / 2 / 2 % 2 + ((b + 256 * x) / 2 / 2 / 2 / 2 % 2 + ((b + 256 * x) / 2 / 2 / 2 / 2 / 2 % 2 + ((b + 256 * x) / 2 / 2 / 2 / 2 / 2 / 2 % 2 + ((b + 256 * x) / 2 / 2 / 2 / 2 / 2 / 2 / 2 % 2 + popc k ((b + 256 * x) / 2 / 2 / 2 / 2 / 2 / 2 / 2 / 2)))))))) = b % 2 + (b / 2 % 2 + (b / 2 / 2 % 2 + (b / 2 / 2 / 2 % 2 + (b / 2 / 2 / 2 / 2 % 2 + (b / 2 / 2 / 2 / 2 / 2 % 2 + (b / 2 / 2 / 2 / 2 / 2 / 2 % 2 + (b / 2 / 2 / 2 / 2 / 2 / 2 / 2 % 2 + 0))))))) + popc k x
  rw [show (b + 256 * x) / 2 / 2 / 2 / 2 / 2 / 2 / 2 / 2 = x by omega]
  omega
