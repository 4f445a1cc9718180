/-! asking -/
theorem ask_ca {S : Int → Int} {v z : Int} (h1 : 8 ≤ z) (h2 : z < 48) : up S 4 v z = S z := up_n (by omega)
theorem forget1_k {S : Int → Int} {i z : Int} (hi : 0 ≤ i) (h1 : z < 48) (h4 : z ≠ 4) (h7 : z ≠ 7) : forget1 S i z = S z := by
  unfold forget1
  rw [if_neg h4, if_neg h7, if_neg (by omega)]
theorem ask_cb {S : Int → Int} {v z : Int} (h1 : 8 ≤ z) (h2 : z < 48) : up (forget1 S 0) 4 v z = S z := by
  rw [up_n (by omega)]
  exact forget1_k (by omega) h2 (by omega) (by omega)
theorem ask_c2 {S : Int → Int} {v : Int} : up (forget1 S 0) 4 v 2 = S 2 := by
  rw [up_n (by omega)]
  exact forget1_k (by omega) (by omega) (by omega) (by omega)
theorem ask_eq1 {S : Int → Int} {a b v : Int} (h : aboutI S a b = -1) (h2 : S 4 = 12) (hv : v = told S a b) : askd S a b = askat (up (forget1 S 0) 4 (forget1 S 0 4 + 1)) (forget1 S 0 4) a b v (costOf S a b) := by
  have e : askroom S = forget1 S 0 := if_pos h2
  unfold askd
  rw [if_pos h, e, hv]
theorem ask_eq2 {S : Int → Int} {a b v : Int} (h : aboutI S a b = -1) (h2 : S 4 ≠ 12) (hv : v = told S a b) : askd S a b = askat (up S 4 (S 4 + 1)) (S 4) a b v (costOf S a b) := by
  have e : askroom S = S := if_neg h2
  unfold askd
  rw [if_pos h, e, hv]
theorem ask_eq3 {S : Int → Int} {a b v : Int} (h : aboutI S a b ≠ -1) (hv : v = told S a b) : askd S a b = askat S (aboutI S a b) a b v (costOf S a b) := by
  unfold askd
  rw [if_neg h, hv]
def zeroN (F : Int → Int) (p : Int) (k : Nat) : Int → Int := fun z => if p ≤ z ∧ z < p + k then 0 else F z
theorem zeroN_0 {F : Int → Int} {p : Int} : F = zeroN F p 0 := by
  funext z
  unfold zeroN
  rw [if_neg (by omega)]
theorem zeroN_s {F : Int → Int} {p : Int} {k : Nat} : up (zeroN F p k) (p + k) 0 = zeroN F p (k + 1) := by
  funext z
  unfold zeroN up
  dsimp only
  by_cases h : z = p + k
  · rw [if_pos h, if_pos (by omega)]
  · rw [if_neg h]
    by_cases h2 : p ≤ z ∧ z < p + k
    · rw [if_pos h2, if_pos (by omega)]
    · rw [if_neg h2, if_neg (by omega)]
theorem rsz_eq {S : Int → Int} {q : Int} {k : Nat} (h : (k : Int) = 40 - q ∧ 0 ≤ q) : up (zeroN (forgetA S) (8 + q) k) 0 q = rsz S q := by
  funext z
  unfold rsz up
  by_cases h0 : z = 0
  · rw [if_pos h0, if_pos h0]
  · rw [if_neg h0, if_neg h0]
    unfold zeroN
    by_cases h1 : 8 + q ≤ z ∧ z < 48
    · rw [if_pos h1, if_pos (by omega)]
    · rw [if_neg h1, if_neg (by omega)]
theorem cpy_hst {S F : Int → Int} {f : Int} {z : Int} (h1 : 0 ≤ z) (h2 : z < ((96 : Nat) : Int)) : cpy F S (f * 96) 0 z = hst F f z := by
  unfold cpy cpyN hst
  rw [if_pos (by omega)]
  congr 1
  omega
