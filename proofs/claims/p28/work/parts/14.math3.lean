/-! asking -/
theorem ask_ca {S : Int → Int} {v z : Int} (h1 : 8 ≤ z) (h2 : z < 48) : up S 4 v z = S z := up_n (by omega)
theorem forget1_k {S : Int → Int} {i z : Int} (hi : 0 ≤ i) (h1 : z < 48) (h4 : z ≠ 4) (h7 : z ≠ 7) : forget1 S i z = S z := by
  unfold forget1
  rw [if_neg h4, if_neg h7, if_neg (by omega)]
theorem ask_cb {S : Int → Int} {v z : Int} (h1 : 8 ≤ z) (h2 : z < 48) : up (forget1 S 0) 4 v z = S z := by
  rw [up_n (by omega)]
  exact forget1_k (by omega) h2 (by omega) (by omega)
theorem ask_c2 {S : Int → Int} {v : Int} : up (forget1 S 0) 4 v 2 = S 2 := by
  rw [up_n (by omega)]
  exact forget1_k (by omega) (by omega) (by omega) (by omega)
theorem ask_eq1 {S : Int → Int} {a b v : Int} (h : aboutI S a b = -1) (h2 : S 4 = 12) (hv : v = told S a b) : askd S a b = askat (up (forget1 S 0) 4 (forget1 S 0 4 + 1)) (forget1 S 0 4) a b v (costOf S a b) := by
  have e : askroom S = forget1 S 0 := if_pos h2
  unfold askd
  rw [if_pos h, e, hv]
theorem ask_eq2 {S : Int → Int} {a b v : Int} (h : aboutI S a b = -1) (h2 : S 4 ≠ 12) (hv : v = told S a b) : askd S a b = askat (up S 4 (S 4 + 1)) (S 4) a b v (costOf S a b) := by
  have e : askroom S = S := if_neg h2
  unfold askd
  rw [if_pos h, e, hv]
theorem ask_eq3 {S : Int → Int} {a b v : Int} (h : aboutI S a b ≠ -1) (hv : v = told S a b) : askd S a b = askat S (aboutI S a b) a b v (costOf S a b) := by
  unfold askd
  rw [if_neg h, hv]
def zeroN (F : Int → Int) (p : Int) (k : Nat) : Int → Int := fun z => if p ≤ z ∧ z < p + k then 0 else F z
theorem zeroN_0 {F : Int → Int} {p : Int} : F = zeroN F p 0 := by
  funext z
  unfold zeroN
  rw [if_neg (by omega)]
theorem zeroN_s {F : Int → Int} {p : Int} {k : Nat} : up (zeroN F p k) (p + k) 0 = zeroN F p (k + 1) := by
  funext z
  unfold zeroN up
  dsimp only
  by_cases h : z = p + k
  · rw [if_pos h, if_pos (by omega)]
  · rw [if_neg h]
    by_cases h2 : p ≤ z ∧ z < p + k
    · rw [if_pos h2, if_pos (by omega)]
    · rw [if_neg h2, if_neg (by omega)]
theorem rsz_eq {S : Int → Int} {q : Int} {k : Nat} (h : (k : Int) = 40 - q ∧ 0 ≤ q) : up (zeroN (forgetA S) (8 + q) k) 0 q = rsz S q := by
  funext z
  unfold rsz up
  by_cases h0 : z = 0
  · rw [if_pos h0, if_pos h0]
  · rw [if_neg h0, if_neg h0]
    unfold zeroN
    by_cases h1 : 8 + q ≤ z ∧ z < 48
    · rw [if_pos h1, if_pos (by omega)]
    · rw [if_neg h1, if_neg (by omega)]
theorem cpy_hst {S F : Int → Int} {f : Int} {z : Int} (h1 : 0 ≤ z) (h2 : z < ((96 : Nat) : Int)) : cpy F S (f * 96) 0 z = hst F f z := by
  unfold cpy cpyN hst
  rw [if_pos (by omega)]
  congr 1
  omega
theorem bqS_t {S r : Int → Int} {a b y1 y2 y3 v : Int} (hv : v = bqB S r a b) (h : y2 < v ∨ (0 < v ∧ v = y2 ∧ costOf S a b < y3)) : bqS S r a b (y1, y2, y3) = (100 * a + b, v, costOf S a b) := by
  subst hv
  unfold bqS
  rw [if_pos h]
theorem bqS_f {S r : Int → Int} {a b y1 y2 y3 v : Int} (hv : v = bqB S r a b) (h : ¬ (y2 < v ∨ (0 < v ∧ v = y2 ∧ costOf S a b < y3))) : bqS S r a b (y1, y2, y3) = (y1, y2, y3) := by
  subst hv
  unfold bqS
  rw [if_neg h]
theorem most_le {S : Int → Int} (hI : Inv S) {a b : Int} (h : 0 ≤ a ∧ a ≤ b ∧ b < 40) : leastI (FB S (-1)) a b ≤ mostI (FB S (-1)) a b := by
  have hp := pot_FB hI (-1)
  have a1 := hp a (b + 1) (by omega) (by omega) (by omega) (by omega)
  have a2 := hp (b + 1) a (by omega) (by omega) (by omega) (by omega)
  unfold leastI mostI
  rw [show 41 * a + b + 1 = 41 * a + (b + 1) by omega]
  omega
theorem ws_gb {S : Int → Int} (hI : Inv S) {a b k : Int} (h0 : 0 ≤ a ∧ a ≤ b ∧ b < 40) (hk : -50 ≤ k ∧ k ≤ 1000) : GB (bndA (FB S (-1)) a b (if k < S 2 then -2 else k) (S 2)) := by
  have hp := pot_FB hI (-1)
  have hs := hI.se
  have key : ∀ (r : Int → Int) (m w f t : Int), (0 ≤ f ∧ f ≤ 40) → (0 ≤ t ∧ t ≤ 40) → (∀ z, 0 ≤ z → z < 1681 → m ≤ r z ∧ r z ≤ 1000) → ∀ z, 0 ≤ z → z < 1681 → min m (2 * m + w) ≤ bnd r f t w z ∧ bnd r f t w z ≤ 1000 := by
    intro r m w f t hf ht h z g0 g1
    have a1 := h z g0 g1
    have a2 := h (41 * (z / 41) + f) (by omega) (by omega)
    have a3 := h (41 * t + z % 41) (by omega) (by omega)
    unfold bnd
    rw [if_pos ⟨g0, g1⟩]
    omega
  have h1 : ∀ z, 0 ≤ z → z < 1681 → -40 ≤ FB S (-1) z ∧ FB S (-1) z ≤ 1000 := fun z g0 g1 => pot_lo hI hp g0 g1
  intro z g0 g1
  by_cases hks : k < S 2
  · rw [if_pos hks]
    unfold bndA
    rw [if_pos rfl]
    have := key _ (-40) (S 2 - 1) a (b + 1) (by omega) (by omega) h1 z g0 g1
    omega
  · rw [if_neg hks]
    unfold bndA
    rw [if_neg (by omega)]
    have h2 := key _ (-40) k a (b + 1) (by omega) (by omega) h1
    have := key _ (min (-40) (2 * -40 + k)) (-k) (b + 1) a (by omega) (by omega) h2 z g0 g1
    omega
