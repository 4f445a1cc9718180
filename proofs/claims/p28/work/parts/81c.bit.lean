/-! numbers by their bits -/
def ia (x y : Int) : Int := (iI x &&& iI y).toInt
def io (x y : Int) : Int := (iI x ||| iI y).toInt
def ixr (x y : Int) : Int := (iI x ^^^ iI y).toInt
def isl (x y : Int) : Int := (iI x <<< (iI y &&& 31)).toInt
def isr (x y : Int) : Int := (iI x >>> (iI y &&& 31)).toInt
theorem ia_i (x y : Int) : iI x &&& iI y = iI (ia x y) := iI_of _
theorem io_i (x y : Int) : iI x ||| iI y = iI (io x y) := iI_of _
theorem ixr_i (x y : Int) : iI x ^^^ iI y = iI (ixr x y) := iI_of _
theorem isl_i (x y : Int) : iI x <<< (iI y &&& 31) = iI (isl x y) := iI_of _
theorem isr_i (x y : Int) : iI x >>> (iI y &&& 31) = iI (isr x y) := iI_of _
theorem ia_r (x y : Int) : inR (ia x y) := iI_rng _
theorem io_r (x y : Int) : inR (io x y) := iI_rng _
theorem ixr_r (x y : Int) : inR (ixr x y) := iI_rng _
theorem isl_r (x y : Int) : inR (isl x y) := iI_rng _
theorem isr_r (x y : Int) : inR (isr x y) := iI_rng _
def bz (x : Int) (i : Nat) : Bool := bt (iI x) i
theorem bz_ia (x y : Int) (i : Nat) : bz (ia x y) i = (bz x i && bz y i) := by unfold bz; rw [← ia_i, b_and]
theorem bz_io (x y : Int) (i : Nat) : bz (io x y) i = (bz x i || bz y i) := by unfold bz; rw [← io_i, b_or]
theorem bz_ixr (x y : Int) (i : Nat) : bz (ixr x y) i = (bz x i ^^ bz y i) := by unfold bz; rw [← ixr_i, b_xor]
theorem bz_nat {n i : Nat} (hi : i < 32) : bz (n : Int) i = n.testBit i := by
  unfold bz
  rw [← nI_iI]
  show (BitVec.ofNat 32 n).getLsbD i = _
  rw [BitVec.getLsbD_ofNat]
  simp [hi]
theorem bz_m1 {i : Nat} (hi : i < 32) : bz (-1) i = true := by
  unfold bz
  rw [show iI (-1) = -1 by decide +kernel]
  exact b_m1 i hi
theorem bz_eq {x y : Int} (hx : inR x) (hy : inR y) (h : ∀ i, i < 32 → bz x i = bz y i) : x = y := (iI_eq hx hy).mp (b_ext h)
theorem natR {n : Nat} (h : n < 2147483648) : inR (n : Int) := ⟨by omega, by omega⟩
theorem isr_n {n : Nat} {k : Int} (hn : n < 2147483648) (hk : 0 ≤ k ∧ k < 32) : isr (n : Int) k = ((n / 2 ^ k.toNat : Nat) : Int) := by
  have e : iI k = nI k.toNat := by rw [nI_iI, Int.toNat_of_nonneg hk.1]
  have h := pk_shrN (n := n) hn (nI k.toNat &&& 31) k.toNat (s_l k.toNat (by omega))
  have hd := Nat.div_le_self n (2 ^ k.toNat)
  unfold isr
  rw [e, ← nI_iI n, h, nI_iI]
  exact iI_toInt (natR (by omega))
theorem sl_1 : ∀ n : Nat, n < 31 → ((1 : Int32) <<< (nI n &&& 31)) = nI (2 ^ n) := by decide +kernel
theorem pw_lt {k n : Nat} (h : k < n) : 2 ^ k < 2 ^ n := Nat.pow_lt_pow_right (by omega) h
theorem pw_le {k n : Nat} (h : k ≤ n) : 2 ^ k ≤ 2 ^ n := Nat.pow_le_pow_right (by omega) h
theorem pw_31 {k : Nat} (h : k < 31) : 2 ^ k < 2147483648 := pw_lt h
theorem isl_1 {k : Int} (hk : 0 ≤ k ∧ k < 31) : isl 1 k = ((2 ^ k.toNat : Nat) : Int) := by
  have e : iI k = nI k.toNat := by rw [nI_iI, Int.toNat_of_nonneg hk.1]
  have h := sl_1 k.toNat (by omega)
  unfold isl
  rw [e, show iI 1 = 1 by decide +kernel, h, nI_iI]
  exact iI_toInt (natR (pw_31 (by omega)))
theorem ia_nat {a b : Nat} (ha : a < 2147483648) : ia (a : Int) (b : Int) = ((a &&& b : Nat) : Int) := by
  have hl : a &&& b ≤ a := Nat.and_le_left
  refine bz_eq (ia_r _ _) (natR (by omega)) (fun i hi => ?_)
  rw [bz_ia, bz_nat hi, bz_nat hi, bz_nat hi, Nat.testBit_and]
theorem mask_e (k : Nat) : ((2 ^ k : Nat) : Int) - 1 = ((2 ^ k - 1 : Nat) : Int) := by
  have := Nat.two_pow_pos k
  generalize 2 ^ k = P at *
  omega
theorem ia_mod {n k : Nat} (hn : n < 2147483648) : ia (n : Int) (((2 ^ k : Nat) : Int) - 1) = ((n % 2 ^ k : Nat) : Int) := by
  rw [mask_e, ia_nat hn, Nat.and_two_pow_sub_one_eq_mod]
theorem in_e {L : Nat} {a b : Int} (hL : L < 1024) (h : 0 ≤ a ∧ a ≤ b ∧ b < 10) : ia (isr (L : Int) a) (isl 1 (b - a + 1) - 1) = ((L / 2 ^ a.toNat % 2 ^ (b - a + 1).toNat : Nat) : Int) := by
  have hd := Nat.div_le_self L (2 ^ a.toNat)
  rw [isr_n (by omega) (by omega), isl_1 (by omega), ia_mod (by omega)]
theorem in_lt {L : Nat} {a b : Int} (hL : L < 1024) : L / 2 ^ a.toNat % 2 ^ (b - a + 1).toNat < 1024 := by
  have hd := Nat.div_le_self L (2 ^ a.toNat)
  have hm := Nat.mod_le (L / 2 ^ a.toNat) (2 ^ (b - a + 1).toNat)
  omega
theorem bit_e {v : Int} {n : Nat} (hv : 0 ≤ v ∧ v < 1024) (hn : n < 10) : ia (isr v n) 1 = ((v.toNat / 2 ^ n % 2 : Nat) : Int) := by
  have hd := Nat.div_le_self v.toNat (2 ^ n)
  have h := isr_n (n := v.toNat) (k := n) (by omega) (by omega)
  rw [Int.toNat_of_nonneg hv.1, show ((n : Int)).toNat = n by omega] at h
  have h2 := ia_mod (n := v.toNat / 2 ^ n) (k := 1) (by omega)
  rw [h]
  exact h2
/-! what all layouts have, what some have -/
def alI (G : Nat → Int) : Nat → Int
  | 0 => -1
  | m + 1 => if G m = 1 then ia (alI G m) m else alI G m
def soI (G : Nat → Int) : Nat → Int
  | 0 => 0
  | m + 1 => if G m = 1 then io (soI G m) m else soI G m
theorem alI_r {G : Nat → Int} : ∀ m : Nat, inR (alI G m)
  | 0 => by show inR (-1); exact ⟨by omega, by omega⟩
  | m + 1 => by
    show inR (if G m = 1 then ia (alI G m) m else alI G m)
    split
    · exact ia_r _ _
    · exact alI_r m
theorem soI_r {G : Nat → Int} : ∀ m : Nat, inR (soI G m)
  | 0 => by show inR 0; exact ⟨by omega, by omega⟩
  | m + 1 => by
    show inR (if G m = 1 then io (soI G m) m else soI G m)
    split
    · exact io_r _ _
    · exact soI_r m
theorem alI_b {G : Nat → Int} {i : Nat} (hi : i < 32) : ∀ m : Nat, (bz (alI G m) i = true ↔ ∀ L : Nat, L < m → G L = 1 → L.testBit i = true)
  | 0 => ⟨fun _ L h => by omega, fun _ => bz_m1 hi⟩
  | m + 1 => by
    have ih := alI_b (G := G) hi m
    show bz (if G m = 1 then ia (alI G m) m else alI G m) i = true ↔ _
    split
    · rename_i q
      rw [bz_ia, bz_nat hi, Bool.and_eq_true, ih]
      constructor
      · rintro ⟨h1, h2⟩ L hL hG
        by_cases e : L = m
        · rw [e]
          exact h2
        · exact h1 L (by omega) hG
      · intro h
        exact ⟨fun L hL hG => h L (by omega) hG, h m (by omega) q⟩
    · rename_i q
      rw [ih]
      constructor
      · intro h L hL hG
        by_cases e : L = m
        · rw [e] at hG
          exact absurd hG q
        · exact h L (by omega) hG
      · intro h L hL hG
        exact h L (by omega) hG
theorem bz_0 {i : Nat} : bz 0 i = false := by
  unfold bz
  rw [show iI 0 = 0 by decide +kernel]
  exact b_0 i
theorem soI_b {G : Nat → Int} {i : Nat} (hi : i < 32) : ∀ m : Nat, (bz (soI G m) i = true ↔ ∃ L : Nat, L < m ∧ G L = 1 ∧ L.testBit i = true)
  | 0 => by
    have e : bz (soI G 0) i = false := bz_0
    rw [e]
    exact ⟨fun h => (by cases h), fun ⟨L, h, _⟩ => by omega⟩
  | m + 1 => by
    have ih := soI_b (G := G) hi m
    show bz (if G m = 1 then io (soI G m) m else soI G m) i = true ↔ _
    split
    · rename_i q
      rw [bz_io, bz_nat hi, Bool.or_eq_true, ih]
      constructor
      · rintro (⟨L, h1, h2, h3⟩ | h)
        · exact ⟨L, by omega, h2, h3⟩
        · exact ⟨m, by omega, q, h⟩
      · rintro ⟨L, h1, h2, h3⟩
        by_cases e : L = m
        · rw [e] at h3
          exact Or.inr h3
        · exact Or.inl ⟨L, by omega, h2, h3⟩
    · rename_i q
      rw [ih]
      constructor
      · rintro ⟨L, h1, h2, h3⟩
        exact ⟨L, by omega, h2, h3⟩
      · rintro ⟨L, h1, h2, h3⟩
        by_cases e : L = m
        · rw [e] at h2
          exact absurd h2 q
        · exact ⟨L, by omega, h2, h3⟩
def kmI (x y n : Int) : Int := ia (io x (ixr y (-1))) (isl 1 n - 1)
theorem kmI_b {x y n : Int} {i : Nat} (hn : 0 ≤ n ∧ n < 31) (hi : i < 32) : bz (kmI x y n) i = ((bz x i || !bz y i) && decide (i < n.toNat)) := by
  unfold kmI
  rw [isl_1 hn, mask_e, bz_ia, bz_io, bz_ixr, bz_m1 hi, bz_nat hi, Nat.testBit_two_pow_sub_one]
  cases bz x i <;> cases bz y i <;> rfl
theorem ia_mask (x : Int) {k : Nat} (hk : k < 31) : ∃ z : Nat, z < 2 ^ k ∧ ia x (((2 ^ k : Nat) : Int) - 1) = z := by
  have hp := Nat.two_pow_pos k
  have h31 := pw_31 hk
  have hm : (iI (((2 ^ k : Nat) : Int) - 1)).toBitVec.toNat = 2 ^ k - 1 := by
    rw [mask_e, ← nI_iI]
    show (BitVec.ofNat 32 (2 ^ k - 1)).toNat = _
    rw [BitVec.toNat_ofNat]
    exact Nat.mod_eq_of_lt (by omega)
  have h := pk_and (iI x) (m := iI (((2 ^ k : Nat) : Int) - 1)) k hm
  have hl := Nat.mod_lt (iI x).toBitVec.toNat hp
  refine ⟨(iI x).toBitVec.toNat % 2 ^ k, hl, ?_⟩
  unfold ia
  rw [h, nI_iI]
  exact iI_toInt (natR (by omega))
theorem kmI_n {x y n : Int} (hn : 0 ≤ n ∧ n ≤ 10) : 0 ≤ kmI x y n ∧ kmI x y n < 1024 := by
  obtain ⟨z, h1, h2⟩ := ia_mask (io x (ixr y (-1))) (k := n.toNat) (by omega)
  have h3 : 2 ^ n.toNat ≤ 1024 := pw_le (n := 10) (by omega)
  unfold kmI
  rw [isl_1 (by omega), h2]
  omega
/-! words of flags -/
def wd (G : Nat → Int) (b : Nat) : Nat → Nat
  | 0 => 0
  | j + 1 => wd G b j + (if G (b + j) = 1 then 2 ^ j else 0)
theorem wd_lt {G : Nat → Int} {b : Nat} : ∀ n : Nat, wd G b n < 2 ^ n
  | 0 => by show 0 < 1; omega
  | n + 1 => by
    have ih := wd_lt (G := G) (b := b) n
    show wd G b n + (if G (b + n) = 1 then 2 ^ n else 0) < 2 ^ (n + 1)
    rw [Nat.pow_succ]
    split <;> omega
theorem wd_bit {G : Nat → Int} {b i : Nat} : ∀ n : Nat, i < n → wd G b n / 2 ^ i % 2 = if G (b + i) = 1 then 1 else 0
  | 0, h => by omega
  | n + 1, h => by
    have hl := wd_lt (G := G) (b := b) n
    have hp := Nat.two_pow_pos n
    show (wd G b n + (if G (b + n) = 1 then 2 ^ n else 0)) / 2 ^ i % 2 = _
    by_cases e : i = n
    · subst e
      have h0 : wd G b i / 2 ^ i = 0 := Nat.div_eq_of_lt hl
      split
      · rw [Nat.add_div_right _ hp, h0]
      · rw [Nat.add_zero, h0]
    · have ih := wd_bit (G := G) (b := b) (i := i) n (by omega)
      rw [← ih]
      split
      · rw [show 2 ^ n = 2 ^ i * (2 ^ (n - i - 1) * 2) by rw [← Nat.pow_succ, ← Nat.pow_add]; congr 1; omega, Nat.add_mul_div_left _ _ (Nat.two_pow_pos i)]
        omega
      · rw [Nat.add_zero]
theorem wd_tb {G : Nat → Int} {b i n : Nat} (h : i < n) : (wd G b n).testBit i = decide (G (b + i) = 1) := by
  rw [Nat.testBit_eq_decide_div_mod_eq, wd_bit n h]
  by_cases e : G (b + i) = 1
  · rw [if_pos e]
    simp [e]
  · rw [if_neg e]
    simp [e]
/-- the places that are known, as flags -/
def knF (r : Int → Int) (i : Nat) : Int := if mostI r i i = leastI r i i then 1 else 0
theorem wd_pop {r : Int → Int} : ∀ n : Nat, ((popc n (wd (knF r) 0 n) : Nat) : Int) = knownC r n
  | 0 => rfl
  | n + 1 => by
    have ih := wd_pop (r := r) n
    have hl := wd_lt (G := knF r) (b := 0) n
    have hb := wd_bit (G := knF r) (b := 0) (i := n) (n + 1) (by omega)
    have e1 : wd (knF r) 0 (n + 1) % 2 ^ n = wd (knF r) 0 n := by
      show (wd (knF r) 0 n + (if knF r (0 + n) = 1 then 2 ^ n else 0)) % 2 ^ n = _
      split
      · rw [Nat.add_mod_right, Nat.mod_eq_of_lt hl]
      · rw [Nat.add_zero, Nat.mod_eq_of_lt hl]
    have e2 := popc_mod n n (wd (knF r) 0 (n + 1)) (Nat.le_refl n)
    rw [e1] at e2
    rw [popc_1, ← e2, hb, Nat.zero_add]
    have e3 : knF r n = if mostI r n n = leastI r n n then 1 else 0 := rfl
    show _ = knownC r n + (if mostI r n n = leastI r n n then 1 else 0)
    rw [← e3]
    by_cases q : knF r n = 1
    · rw [if_pos q, q]
      omega
    · have : knF r n = 0 := by
        rw [e3] at q ⊢
        split at q
        · exact absurd rfl q
        · rename_i z
          rw [if_neg z]
      rw [if_neg q, this]
      omega
theorem kn_iff {r : Int → Int} {i : Nat} : knF r i = 1 ↔ mostI r i i = leastI r i i := by
  unfold knF
  split
  · rename_i h
    exact ⟨fun _ => h, fun _ => rfl⟩
  · rename_i h
    exact ⟨fun q => by omega, fun q => absurd q h⟩
theorem rep_kn {G : Nat → Int} {r : Int → Int} {pl : Int} (h : Rep G r pl) {i : Nat} (hi : (i : Int) < pl) : ((∀ L : Nat, L < 2 ^ pl.toNat → G L = 1 → L.testBit i = true) ∨ ¬ ∃ L : Nat, L < 2 ^ pl.toNat ∧ G L = 1 ∧ L.testBit i = true) ↔ mostI r i i = leastI r i i := by
  have hp := h.1.1
  obtain ⟨L1, a1, a2, a3⟩ := rep_min h (a := i) (b := i) (by omega)
  obtain ⟨L2, b1, b2, b3⟩ := rep_max h (a := i) (b := i) (by omega)
  rw [inL_1 (by omega)] at a3 b3
  have tb : ∀ L : Nat, (L.testBit i = true ↔ L / 2 ^ i % 2 = 1) := fun L => by rw [Nat.testBit_eq_decide_div_mod_eq, decide_eq_true_iff]
  constructor
  · rintro (q | q)
    · have q1 := (tb L1).mp (q L1 a1 a2)
      have q2 := (tb L2).mp (q L2 b1 b2)
      omega
    · have q1 : ¬ L1 / 2 ^ i % 2 = 1 := fun z => q ⟨L1, a1, a2, (tb L1).mpr z⟩
      have q2 : ¬ L2 / 2 ^ i % 2 = 1 := fun z => q ⟨L2, b1, b2, (tb L2).mpr z⟩
      omega
  · intro e
    by_cases q : L1 / 2 ^ i % 2 = 1
    · refine Or.inl (fun L hL hG => (tb L).mpr ?_)
      have := rep_le h hL hG (a := i) (b := i) (by omega)
      rw [inL_1 (by omega)] at this
      omega
    · refine Or.inr (fun ⟨L, hL, hG, ht⟩ => ?_)
      have := rep_le h hL hG (a := i) (b := i) (by omega)
      rw [inL_1 (by omega)] at this
      have h2 := (tb L).mp ht
      omega
theorem rep_km {G : Nat → Int} {r : Int → Int} {pl : Int} (h : Rep G r pl) : kmI (alI G (2 ^ pl.toNat)) (soI G (2 ^ pl.toNat)) pl = ((wd (knF r) 0 pl.toNat : Nat) : Int) := by
  have hp := h.1.1
  have hl := wd_lt (G := knF r) (b := 0) pl.toNat
  have h31 := pw_31 (k := pl.toNat) (by omega)
  have hm := kmI_n (x := alI G (2 ^ pl.toNat)) (y := soI G (2 ^ pl.toNat)) (n := pl) (by omega)
  refine bz_eq ⟨by omega, by omega⟩ (natR (by omega)) (fun i hi => ?_)
  rw [kmI_b (by omega) hi, bz_nat hi]
  by_cases q : i < pl.toNat
  · have hk := rep_kn h (i := i) (by omega)
    have ha := alI_b (G := G) hi (2 ^ pl.toNat)
    have hs := soI_b (G := G) hi (2 ^ pl.toNat)
    rw [← ha, ← hs] at hk
    rw [wd_tb q, Nat.zero_add, decide_eq_true q, Bool.and_true]
    by_cases z : mostI r i i = leastI r i i
    · rw [decide_eq_true (kn_iff.mpr z)]
      rcases hk.mpr z with z1 | z1
      · rw [z1]
        rfl
      · rw [Bool.not_eq_true] at z1
        rw [z1]
        simp
    · rw [decide_eq_false (fun e => z (kn_iff.mp e))]
      have z1 : ¬ bz (alI G (2 ^ pl.toNat)) i = true := fun e => z (hk.mp (Or.inl e))
      have z2 : ¬ ¬ bz (soI G (2 ^ pl.toNat)) i = true := fun e => z (hk.mp (Or.inr e))
      rw [Bool.not_eq_true] at z1
      have z3 := Classical.not_not.mp z2
      rw [z1, z3]
      rfl
  · rw [decide_eq_false q, Bool.and_false]
    exact (Nat.testBit_lt_two_pow (Nat.lt_of_lt_of_le hl (pw_le (by omega)))).symm
theorem rep_kc {G : Nat → Int} {r : Int → Int} {pl : Int} (h : Rep G r pl) : ((popc 10 (kmI (alI G (2 ^ pl.toNat)) (soI G (2 ^ pl.toNat)) pl).toNat : Nat) : Int) = knownIn r pl := by
  have hp := h.1.1
  have hl := wd_lt (G := knF r) (b := 0) pl.toNat
  rw [rep_km h, show (((wd (knF r) 0 pl.toNat : Nat) : Int)).toNat = wd (knF r) 0 pl.toNat by omega, popc_lt hl (by omega), wd_pop]
  rfl
