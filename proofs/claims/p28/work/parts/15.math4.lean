/-! scripts, simulations, the text's commands -/
abbrev cmdF (g : Int) : Int := g / 100 % 100
abbrev cmdB (g : Int) : Int := g % 100
def pdOk (S : Int → Int) (g : Int) : Prop := ¬ (iI (g % 1000) < iI (S 5))
theorem pdOk_def {S : Int → Int} {g : Int} : pdOk S g ↔ ¬ (iI (g % 1000) < iI (S 5)) := Iff.rfl
def c5Ok (S : Int → Int) (i v : Int) : Prop := (0 ≤ i ∧ i < S 0) ∧ v < 2 ∧ knownOf (FB S (-1)) i = v
/-- whether a command succeeds: by its kind -/
def cmdOk (S : Int → Int) (g : Int) : Prop :=
  (g / 10000 = 1 ∧ whyA S (cmdF g) (cmdB g) = 0) ∨ (g / 10000 = 2 ∧ cmdB g % 10 = 0 ∧ (0 ≤ cmdF g ∧ cmdF g < S 0) ∧ cmdB g / 10 < 2) ∨
  (g / 10000 = 3 ∧ cmdB g = 0 ∧ okS (cmdF g / 10) (cmdF g % 10)) ∨ (g / 10000 = 4 ∧ cmdB g = 0 ∧ 0 ≤ cmdF g ∧ cmdF g < S 4) ∨
  (g / 10000 = 5 ∧ c5Ok S (cmdF g) (cmdB g)) ∨ (g / 10000 = 6 ∧ cmdF g = 0 ∧ cmdB g ≤ knownIn (FB S (-1)) (S 0)) ∨
  (g / 10000 = 7 ∧ cmdF g < 10 ∧ pdOk S g) ∨ (g / 10000 = 8 ∧ cmdF g = 0 ∧ cmdB g ≤ S 4) ∨ (g / 10000 = 9 ∧ cmdF g = 0 ∧ cmdB g ≤ keysIn S 0 (S 0 - 1))
noncomputable def cmdD (S : Int → Int) (g : Int) : Decidable (cmdOk S g) := Classical.propDecidable _
/-- the state behind it -/
def cmdS (S : Int → Int) (g : Int) : Int → Int :=
  if g / 10000 = 1 then (if whyA S (cmdF g) (cmdB g) = 0 then askd S (cmdF g) (cmdB g) else S)
  else if g / 10000 = 2 then (if cmdB g % 10 = 0 then (if (0 ≤ cmdF g ∧ cmdF g < S 0) ∧ cmdB g / 10 < 2 then wr S (cmdF g) (cmdB g / 10) else S) else S)
  else if g / 10000 = 3 then (if cmdB g = 0 then (if okS (cmdF g / 10) (cmdF g % 10) then setg S (cmdF g / 10) (cmdF g % 10) else S) else S)
  else if g / 10000 = 4 then (if cmdB g = 0 then (if 0 ≤ cmdF g ∧ cmdF g < S 4 then forget1 S (cmdF g) else S) else S)
  else S
/-- one if it is so, as a number -/
noncomputable def pI (P : Prop) : Int := @bI P (Classical.propDecidable P)
theorem pI_t {P : Prop} (h : P) : pI P = 1 := @bI_t P (Classical.propDecidable P) h
theorem pI_f {P : Prop} (h : ¬ P) : pI P = 0 := @bI_f P (Classical.propDecidable P) h
/-- the group's weight -/
def gw (r : Nat) : Int := 100000 ^ r
/-- what a script answers: r commands left, the next is number k -/
noncomputable def rsL (sc : Int) : Nat → (Int → Int) → Int → Int
  | 0, _, _ => -1
  | r + 1, S, k => if pI (cmdOk S (sc / gw r % 100000)) = 1 then rsL sc r (cmdS S (sc / gw r % 100000)) (k + 1) else k
/-- a simulated question -/
def simN (x : Int64) : Int64 := x * 6364136223846793005 + 1442695040888963407
def simR (x : Int64) : Int := ((x.toUInt64 >>> ((iI 33).toInt64.toUInt64 &&& Int64.toUInt64 63)).toInt64).toInt32.toInt
def simA (S : Int → Int) (r : Int) : Int := r / 8 % S 0
def simB (S : Int → Int) (r : Int) : Int := simA S r + S 1 - 1 + r / 512 % 8
def sim1 (S : Int → Int) (r : Int) : Int → Int := if simB S r < S 0 then askd S (simA S r) (simB S r) else if r % 8 = 0 then wr S (simA S r) (1 - S (8 + simA S r)) else S
def simL : Nat → Int64 → (Int → Int) → (Int → Int)
  | 0, _, S => S
  | n + 1, x, S => simL n (simN x) (sim1 S (simR (simN x)))
def simQ (S S2 : Int → Int) : Int := 1000 * knownIn (FB S2 (-1)) (S2 0) + (if iI 999 ≤ iI (S2 5 - S 5) then 999 else S2 5 - S 5)
theorem simR_r (x : Int64) : 0 ≤ simR x ∧ simR x < 2147483648 := by
  unfold simR
  have e : ((x.toUInt64 >>> ((iI 33).toInt64.toUInt64 &&& Int64.toUInt64 63)).toInt64).toInt32.toBitVec.toNat < 2147483648 := by
    have e1 : ((iI 33).toInt64.toUInt64 &&& Int64.toUInt64 63) = 33 := by decide +kernel
    rw [e1]
    show ((x.toUInt64 >>> 33).toBitVec.signExtend 32).toNat < 2147483648
    rw [BitVec.signExtend_eq_setWidth_of_le _ (by omega), BitVec.toNat_setWidth]
    have h : (x.toUInt64 >>> 33).toBitVec.toNat = x.toUInt64.toBitVec.toNat >>> 33 := by
      show (x.toUInt64.toBitVec >>> ((33 : UInt64).toBitVec % 64)).toNat = _
      rw [BitVec.ushiftRight_eq', BitVec.toNat_ushiftRight]
      rfl
    rw [h, Nat.shiftRight_eq_div_pow]
    have := x.toUInt64.toBitVec.isLt
    omega
  have h2 : ((x.toUInt64 >>> ((iI 33).toInt64.toUInt64 &&& Int64.toUInt64 63)).toInt64).toInt32.toInt = (((x.toUInt64 >>> ((iI 33).toInt64.toUInt64 &&& Int64.toUInt64 63)).toInt64).toInt32.toBitVec.toNat : Int) := by
    show BitVec.toInt _ = _
    rw [BitVec.toInt_eq_toNat_of_lt (by omega)]
  omega
theorem wr_self {S : Int → Int} {i v : Int} (h : S (8 + i) = v) : wr S i v = S := by
  unfold wr
  rw [if_pos h]
theorem ws_kr {r : Int → Int} {S : Int → Int} (h : 0 ≤ S 0 ∧ S 0 ≤ 40) : inR (knownIn r (S 0)) := by
  have := knownIn_r (r := r) h.1
  constructor <;> omega
def whyS (V : Int → Int) (q : Int) : Int := if ¬ (0 ≤ q ∧ q < 2) then 1 else if V q = 1 then 0 else 2
theorem cpy_hst2 {S F : Int → Int} {f : Int} {z : Int} (h1 : 0 ≤ z) (h2 : z < ((96 : Nat) : Int)) : cpy F S (96 * f) 0 z = hst F f z := by
  unfold cpy cpyN hst
  rw [if_pos (by omega)]
  congr 1
  omega
theorem bnd_le {r : Int → Int} {f t w z : Int} : bnd r f t w z ≤ r z := by
  unfold bnd
  split <;> omega
theorem fb_le {S : Int → Int} {wo z : Int} : ∀ n : Nat, fb S wo n z ≤ b0 (S 0) z
  | 0 => Int.le_refl _
  | n + 1 => by
    have ih := fb_le (S := S) (wo := wo) (z := z) n
    have h1 : ∀ (r : Int → Int) (a b k s : Int), bndA r a b k s z ≤ r z := by
      intro r a b k s
      unfold bndA
      split
      · exact bnd_le
      · exact Int.le_trans bnd_le bnd_le
    show (if (n : Int) = wo then fb S wo n else bndA (fb S wo n) (an S n 0) (an S n 1) (an S n 2) (S 2)) z ≤ _
    split
    · exact ih
    · exact Int.le_trans (h1 _ _ _ _ _) ih
theorem ml_r {S : Int → Int} {wo a b : Int} (hp : S 0 ≤ 40) (h : 0 ≤ a ∧ a ≤ b ∧ b < S 0) : 0 ≤ leastI (FB S wo) a b ∧ mostI (FB S wo) a b ≤ b + 1 - a := by
  have h1 : FB S wo (41 * a + (b + 1)) ≤ b0 (S 0) (41 * a + (b + 1)) := fb_le _
  have h2 : FB S wo (41 * (b + 1) + a) ≤ b0 (S 0) (41 * (b + 1) + a) := fb_le _
  rw [b0_at (by omega) (by omega), if_neg (by omega), if_pos (by omega)] at h1
  rw [b0_at (by omega) (by omega), if_neg (by omega), if_neg (by omega)] at h2
  unfold leastI mostI
  rw [show 41 * a + b + 1 = 41 * a + (b + 1) by omega]
  omega
theorem cmd_1 {S : Int → Int} {g : Int} (h : g / 10000 = 1) : cmdOk S g ↔ whyA S (g / 100 % 100) (g % 100) = 0 := by
  unfold cmdOk
  simp [h]
theorem cms_1 {S : Int → Int} {g : Int} (h : g / 10000 = 1) : cmdS S g = if whyA S (g / 100 % 100) (g % 100) = 0 then askd S (g / 100 % 100) (g % 100) else S := by
  unfold cmdS
  simp only [h]
  first | rfl | simp
theorem cmd_2 {S : Int → Int} {g : Int} (h : g / 10000 = 2) : cmdOk S g ↔ g % 100 % 10 = 0 ∧ (0 ≤ g / 100 % 100 ∧ g / 100 % 100 < S 0) ∧ g % 100 / 10 < 2 := by
  unfold cmdOk
  simp [h]
theorem cms_2 {S : Int → Int} {g : Int} (h : g / 10000 = 2) : cmdS S g = if g % 100 % 10 = 0 then (if (0 ≤ g / 100 % 100 ∧ g / 100 % 100 < S 0) ∧ g % 100 / 10 < 2 then wr S (g / 100 % 100) (g % 100 / 10) else S) else S := by
  unfold cmdS
  simp only [h]
  first | rfl | simp
theorem cmd_3 {S : Int → Int} {g : Int} (h : g / 10000 = 3) : cmdOk S g ↔ g % 100 = 0 ∧ okS (g / 100 % 100 / 10) (g / 100 % 100 % 10) := by
  unfold cmdOk
  simp [h]
theorem cms_3 {S : Int → Int} {g : Int} (h : g / 10000 = 3) : cmdS S g = if g % 100 = 0 then (if okS (g / 100 % 100 / 10) (g / 100 % 100 % 10) then setg S (g / 100 % 100 / 10) (g / 100 % 100 % 10) else S) else S := by
  unfold cmdS
  simp only [h]
  first | rfl | simp
theorem cmd_4 {S : Int → Int} {g : Int} (h : g / 10000 = 4) : cmdOk S g ↔ g % 100 = 0 ∧ 0 ≤ g / 100 % 100 ∧ g / 100 % 100 < S 4 := by
  unfold cmdOk
  simp [h]
theorem cms_4 {S : Int → Int} {g : Int} (h : g / 10000 = 4) : cmdS S g = if g % 100 = 0 then (if 0 ≤ g / 100 % 100 ∧ g / 100 % 100 < S 4 then forget1 S (g / 100 % 100) else S) else S := by
  unfold cmdS
  simp only [h]
  first | rfl | simp
theorem cmd_5 {S : Int → Int} {g : Int} (h : g / 10000 = 5) : cmdOk S g ↔ c5Ok S (g / 100 % 100) (g % 100) := by
  unfold cmdOk
  simp [h]
theorem cms_5 {S : Int → Int} {g : Int} (h : g / 10000 = 5) : cmdS S g = S := by
  unfold cmdS
  simp only [h]
  first | rfl | simp
theorem cmd_6 {S : Int → Int} {g : Int} (h : g / 10000 = 6) : cmdOk S g ↔ g / 100 % 100 = 0 ∧ g % 100 ≤ knownIn (FB S (-1)) (S 0) := by
  unfold cmdOk
  simp [h]
theorem cms_6 {S : Int → Int} {g : Int} (h : g / 10000 = 6) : cmdS S g = S := by
  unfold cmdS
  simp only [h]
  first | rfl | simp
theorem cmd_7 {S : Int → Int} {g : Int} (h : g / 10000 = 7) : cmdOk S g ↔ g / 100 % 100 < 10 ∧ pdOk S g := by
  unfold cmdOk
  simp [h]
theorem cms_7 {S : Int → Int} {g : Int} (h : g / 10000 = 7) : cmdS S g = S := by
  unfold cmdS
  simp only [h]
  first | rfl | simp
theorem cmd_8 {S : Int → Int} {g : Int} (h : g / 10000 = 8) : cmdOk S g ↔ g / 100 % 100 = 0 ∧ g % 100 ≤ S 4 := by
  unfold cmdOk
  simp [h]
theorem cms_8 {S : Int → Int} {g : Int} (h : g / 10000 = 8) : cmdS S g = S := by
  unfold cmdS
  simp only [h]
  first | rfl | simp
theorem cmd_9 {S : Int → Int} {g : Int} (h : g / 10000 = 9) : cmdOk S g ↔ g / 100 % 100 = 0 ∧ g % 100 ≤ keysIn S 0 (S 0 - 1) := by
  unfold cmdOk
  simp [h]
theorem cms_9 {S : Int → Int} {g : Int} (h : g / 10000 = 9) : cmdS S g = S := by
  unfold cmdS
  simp only [h]
  first | rfl | simp
theorem cmd_o {S : Int → Int} {g : Int} (h : g / 10000 < 1 ∨ 9 < g / 10000) : ¬ cmdOk S g := by
  unfold cmdOk
  omega
theorem cms_o {S : Int → Int} {g : Int} (h : g / 10000 < 1 ∨ 9 < g / 10000) : cmdS S g = S := by
  unfold cmdS
  rw [if_neg (by omega), if_neg (by omega), if_neg (by omega), if_neg (by omega)]
theorem pI_c {P P2 : Prop} (h : P ↔ P2) : pI P = pI P2 := by rw [propext h]
theorem pI_b {P : Prop} [Decidable P] : bI P = pI P := by
  by_cases h : P
  · rw [bI_t h, pI_t h]
  · rw [bI_f h, pI_f h]
theorem pI_r {P : Prop} : 0 ≤ pI P ∧ pI P ≤ 1 := by
  by_cases h : P
  · rw [pI_t h]; omega
  · rw [pI_f h]; omega
theorem narP (P : Prop) : narrow .boolean (.int (iI (pI P))) = .int (iI (pI P)) := by
  by_cases h : P
  · rw [pI_t h]
    decide +kernel
  · rw [pI_f h]
    decide +kernel
