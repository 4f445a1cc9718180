/-! the bits of a long counted -/
theorem nI_iI (n : Nat) : nI n = iI (n : Int) := (Int32.ofInt_eq_ofNat).symm
theorem repB_85 : (6148914691236517205 : Int64) = lN (repB 85 8) := by decide +kernel
theorem repB_51 : (3689348814741910323 : Int64) = lN (repB 51 8) := by decide +kernel
theorem repB_15 : (1085102592571150095 : Int64) = lN (repB 15 8) := by decide +kernel
theorem repB_v : repB 85 8 = 6148914691236517205 ∧ repB 51 8 = 3689348814741910323 ∧ repB 15 8 = 1085102592571150095 := by decide +kernel
theorem ushr_i {n : Nat} (k : Nat) (hn : n < 2 ^ 64) (hk : k < 64) : ((lN n).toUInt64 >>> ((iI (k : Int)).toInt64.toUInt64 &&& Int64.toUInt64 63)).toInt64 = lN (n / 2 ^ k) := by
  rw [← nI_iI]
  exact wb_shr hn hk
theorem bcL1 {n : Nat} (hn : n < 2 ^ 64) : lN n - (((lN n).toUInt64 >>> ((iI 1).toInt64.toUInt64 &&& Int64.toUInt64 63)).toInt64 &&& 6148914691236517205) = lN (bc1 8 n) := by
  have h := repB_v.1
  have h2 := ushr_i (n := n) 1 hn (by omega)
  rw [show ((1 : Nat) : Int) = 1 from rfl] at h2
  rw [h2, repB_85, wb_and (by omega) (by omega), lN_sub (bc_le 8 n)]
  rfl
theorem bcL2 {a : Nat} (ha : a < 2 ^ 64) : (lN a &&& 3689348814741910323) + (((lN a).toUInt64 >>> ((iI 2).toInt64.toUInt64 &&& Int64.toUInt64 63)).toInt64 &&& 3689348814741910323) = lN ((a &&& repB 51 8) + (a / 4 &&& repB 51 8)) := by
  have h := repB_v.2.1
  have h2 := ushr_i (n := a) 2 ha (by omega)
  rw [show ((2 : Nat) : Int) = 2 from rfl] at h2
  rw [h2, repB_51, wb_and (by omega) (by omega), wb_and (by omega) (by omega), lN_add]
theorem bcL3 {a : Nat} (ha : a < 2 ^ 63) : (lN a + ((lN a).toUInt64 >>> ((iI 4).toInt64.toUInt64 &&& Int64.toUInt64 63)).toInt64) &&& 1085102592571150095 = lN ((a + a / 16) &&& repB 15 8) := by
  have h := repB_v.2.2
  have h2 := ushr_i (n := a) 4 (by omega) (by omega)
  rw [show ((4 : Nat) : Int) = 4 from rfl] at h2
  rw [h2, repB_15, lN_add, wb_and (by omega) (by omega)]
theorem bcL4 {a : Nat} (k : Nat) (ha : a < 2 ^ 64) (hk : k < 64) : lN a + ((lN a).toUInt64 >>> ((iI (k : Int)).toInt64.toUInt64 &&& Int64.toUInt64 63)).toInt64 = lN (a + a / 2 ^ k) := by
  rw [ushr_i k ha hk, lN_add]
theorem popc_r : ∀ (k n : Nat), popc k n ≤ k
  | 0, _ => Nat.le_refl 0
  | k + 1, n => by
    have := popc_r k (n / 2)
    show n % 2 + popc k (n / 2) ≤ k + 1
    omega
theorem sum8 {p0 p1 p2 p3 p4 p5 p6 p7 A A1 A2 A3 A4 A5 A6 : Nat} (h0 : A = p0 + 256 * A1) (h1 : A1 = p1 + 256 * A2) (h2 : A2 = p2 + 256 * A3) (h3 : A3 = p3 + 256 * A4) (h4 : A4 = p4 + 256 * A5) (h5 : A5 = p5 + 256 * A6) (h6 : A6 = p6 + 256 * p7)
    (b : p0 ≤ 8 ∧ p1 ≤ 8 ∧ p2 ≤ 8 ∧ p3 ≤ 8 ∧ p4 ≤ 8 ∧ p5 ≤ 8 ∧ p6 ≤ 8 ∧ p7 ≤ 8) : A < 2 ^ 60 ∧ ((A + A / 256) + (A + A / 256) / 65536 + ((A + A / 256) + (A + A / 256) / 65536) / 4294967296) % 128 = p0 + p1 + p2 + p3 + p4 + p5 + p6 + p7 := by
  have d1 : A / 256 = A1 := by clear h1 h2 h3 h4 h5 h6; omega
  have d2 : (A + A1) / 65536 = A2 + A3 := by clear h3 h4 h5 h6 d1; omega
  have d3 : (A + A1 + (A2 + A3)) / 4294967296 = A4 + A5 + A6 + p7 := by clear d1 d2; omega
  rw [d1, d2, d3]
  refine ⟨?_, ?_⟩
  · clear d1 d2 d3
    omega
  · clear d1 d2 d3
    omega
theorem bc_sum {n : Nat} (hn : n < 2 ^ 64) : ∃ a, bc3 8 n = a ∧ a < 2 ^ 60 ∧ ((a + a / 256) + (a + a / 256) / 65536 + ((a + a / 256) + (a + a / 256) / 65536) / 4294967296) % 128 = popc 64 n := by
  have step : ∀ (m x : Nat), x < 256 ^ (m + 1) → bc3 (m + 1) x = popc 8 (x % 256) + 256 * bc3 m (x / 256) ∧ popc (8 * m + 8) x = popc 8 (x % 256) + popc (8 * m) (x / 256) := by
    intro m x hx
    have hx2 : x / 256 < 256 ^ m := by
      rw [Nat.pow_succ] at hx
      omega
    have h1 := bc3_s (b := x % 256) (x := x / 256) (m := m) (by omega) hx2
    have h2 := popc_s (8 * m) (x % 256) (x / 256) (by omega)
    rw [show x % 256 + 256 * (x / 256) = x by omega] at h1 h2
    exact ⟨h1, h2⟩
  obtain ⟨n1, e1⟩ : ∃ z, z = n / 256 := ⟨_, rfl⟩
  obtain ⟨n2, e2⟩ : ∃ z, z = n1 / 256 := ⟨_, rfl⟩
  obtain ⟨n3, e3⟩ : ∃ z, z = n2 / 256 := ⟨_, rfl⟩
  obtain ⟨n4, e4⟩ : ∃ z, z = n3 / 256 := ⟨_, rfl⟩
  obtain ⟨n5, e5⟩ : ∃ z, z = n4 / 256 := ⟨_, rfl⟩
  obtain ⟨n6, e6⟩ : ∃ z, z = n5 / 256 := ⟨_, rfl⟩
  obtain ⟨n7, e7⟩ : ∃ z, z = n6 / 256 := ⟨_, rfl⟩
  have b1 : n1 < 256 ^ 7 := by omega
  have b2 : n2 < 256 ^ 6 := by omega
  have b3 : n3 < 256 ^ 5 := by omega
  have b4 : n4 < 256 ^ 4 := by omega
  have b5 : n5 < 256 ^ 3 := by omega
  have b6 : n6 < 256 ^ 2 := by omega
  have b7 : n7 < 256 ^ 1 := by omega
  have s7 := step 7 n (by omega)
  have s6 := step 6 n1 b1
  have s5 := step 5 n2 b2
  have s4 := step 4 n3 b3
  have s3 := step 3 n4 b4
  have s2 := step 2 n5 b5
  have s1 := step 1 n6 b6
  have s0 := step 0 n7 b7
  have z8 : n7 / 256 = 0 := by omega
  rw [← e1] at s7
  rw [← e2] at s6
  rw [← e3] at s5
  rw [← e4] at s4
  rw [← e5] at s3
  rw [← e6] at s2
  rw [← e7] at s1
  rw [z8, show bc3 0 0 = 0 from by decide +kernel, show popc (8 * 0) 0 = 0 from rfl] at s0
  refine ⟨bc3 8 n, rfl, ?_⟩
  have h := sum8 s7.1 s6.1 s5.1 s4.1 s3.1 s2.1 s1.1 (p7 := bc3 1 n7) ⟨popc_r 8 _, popc_r 8 _, popc_r 8 _, popc_r 8 _, popc_r 8 _, popc_r 8 _, popc_r 8 _, by rw [s0.1]; exact popc_r 8 _⟩
  refine ⟨h.1, h.2.trans ?_⟩
  have a7 : popc 64 n = popc 8 (n % 256) + popc 56 n1 := s7.2
  have a6 : popc 56 n1 = popc 8 (n1 % 256) + popc 48 n2 := s6.2
  have a5 : popc 48 n2 = popc 8 (n2 % 256) + popc 40 n3 := s5.2
  have a4 : popc 40 n3 = popc 8 (n3 % 256) + popc 32 n4 := s4.2
  have a3 : popc 32 n4 = popc 8 (n4 % 256) + popc 24 n5 := s3.2
  have a2 : popc 24 n5 = popc 8 (n5 % 256) + popc 16 n6 := s2.2
  have a1 : popc 16 n6 = popc 8 (n6 % 256) + popc 8 n7 := s1.2
  have a0 : popc 8 n7 = popc 8 (n7 % 256) + 0 := s0.2
  have a00 : bc3 1 n7 = popc 8 (n7 % 256) + 256 * 0 := s0.1
  rw [a7, a6, a5, a4, a3, a2, a1, a0, a00]
  omega
theorem bc_and {a : Nat} : (lN a).toInt32 &&& iI 127 = iI ((a % 128 : Nat) : Int) := by
  have h1 : (lN a).toInt32 = nI a := lN_i a
  have h2 := pk_and (nI a) (m := iI 127) 7 (by decide +kernel)
  have h3 : (nI a).toBitVec.toNat = a % 2 ^ 32 := by
    show (BitVec.ofNat 32 a).toNat = _
    rw [BitVec.toNat_ofNat]
  have h4 : (nI a).toBitVec.toNat % 2 ^ 7 = a % 128 := by
    rw [h3]
    omega
  rw [h1, h2, h4, nI_iI]
