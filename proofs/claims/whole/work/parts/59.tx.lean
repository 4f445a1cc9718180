/-! reading a text in one go -/
def rdD (T : Int → Int) (n p low high : Int) : Int := if low ≤ digit T n p ∧ digit T n p ≤ high then digit T n p else -1
def rdP (T : Int → Int) (n p low high : Int) : Int := if low ≤ digit T n p ∧ digit T n p ≤ high then p + 1 else p
def sgn (T : Int → Int) (n p : Int) : Int := if p < n then T p else -1
theorem sgn_r {T : Int → Int} {n p : Int} (hr : ∀ z, 0 ≤ z → z < n → 0 ≤ T z ∧ T z < 65536) (hp : 0 ≤ p) : -1 ≤ sgn T n p ∧ sgn T n p < 65536 := by
  unfold sgn
  split
  · have := hr p hp (by omega)
    omega
  · omega
theorem sgn_d {T : Int → Int} {n p : Int} : (48 ≤ sgn T n p → sgn T n p ≤ 57 → digit T n p = sgn T n p - 48) ∧ (sgn T n p < 48 ∨ 57 < sgn T n p → digit T n p = -1) := by
  unfold sgn digit
  constructor
  · intro h1 h2
    split at h1
    · rename_i q
      rw [if_pos q] at h2 ⊢
      rw [if_pos ⟨q, h1, h2⟩]
    · omega
  · intro h
    split at h
    · rw [if_neg (by omega)]
    · rw [if_neg (by omega)]
theorem rd_y {T : Int → Int} {n p low high : Int} (h : low ≤ digit T n p ∧ digit T n p ≤ high) : rdD T n p low high = digit T n p ∧ rdP T n p low high = p + 1 := ⟨if_pos h, if_pos h⟩
theorem rd_n {T : Int → Int} {n p low high : Int} (h : ¬(low ≤ digit T n p ∧ digit T n p ≤ high)) : rdD T n p low high = -1 ∧ rdP T n p low high = p := ⟨if_neg h, if_neg h⟩
theorem rdD_r {T : Int → Int} {n p low high : Int} : -1 ≤ rdD T n p low high ∧ rdD T n p low high ≤ 9 := by
  have := digit_r (T := T) (n := n) (p := p)
  unfold rdD
  split <;> omega
theorem rdP_r {T : Int → Int} {n p low high : Int} : p ≤ rdP T n p low high ∧ rdP T n p low high ≤ p + 1 := by
  unfold rdP
  split <;> omega
