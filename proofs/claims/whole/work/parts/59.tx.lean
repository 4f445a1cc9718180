/-! reading a text in one go -/
def rdD (T : Int → Int) (n p low high : Int) : Int := if low ≤ digit T n p ∧ digit T n p ≤ high then digit T n p else -1
def rdP (T : Int → Int) (n p low high : Int) : Int := if low ≤ digit T n p ∧ digit T n p ≤ high then p + 1 else p
def sgn (T : Int → Int) (n p : Int) : Int := if p < n then T p else -1
theorem sgn_r {T : Int → Int} {n p : Int} (hr : ∀ z, 0 ≤ z → z < n → 0 ≤ T z ∧ T z < 65536) (hp : 0 ≤ p) : -1 ≤ sgn T n p ∧ sgn T n p < 65536 := by
  unfold sgn
  split
  · have := hr p hp (by omega)
    omega
  · omega
theorem sgn_d {T : Int → Int} {n p : Int} : (48 ≤ sgn T n p → sgn T n p ≤ 57 → digit T n p = sgn T n p - 48) ∧ (sgn T n p < 48 ∨ 57 < sgn T n p → digit T n p = -1) := by
  unfold sgn digit
  constructor
  · intro h1 h2
    split at h1
    · rename_i q
      rw [if_pos q] at h2 ⊢
      rw [if_pos ⟨q, h1, h2⟩]
    · omega
  · intro h
    split at h
    · rw [if_neg (by omega)]
    · rw [if_neg (by omega)]
theorem rd_y {T : Int → Int} {n p low high : Int} (h : low ≤ digit T n p ∧ digit T n p ≤ high) : rdD T n p low high = digit T n p ∧ rdP T n p low high = p + 1 := ⟨if_pos h, if_pos h⟩
theorem rd_n {T : Int → Int} {n p low high : Int} (h : ¬(low ≤ digit T n p ∧ digit T n p ≤ high)) : rdD T n p low high = -1 ∧ rdP T n p low high = p := ⟨if_neg h, if_neg h⟩
theorem rdD_r {T : Int → Int} {n p low high : Int} : -1 ≤ rdD T n p low high ∧ rdD T n p low high ≤ 9 := by
  have := digit_r (T := T) (n := n) (p := p)
  unfold rdD
  split <;> omega
theorem rdP_r {T : Int → Int} {n p low high : Int} : p ≤ rdP T n p low high ∧ rdP T n p low high ≤ p + 1 := by
  unfold rdP
  split <;> omega
/-! a number of two digits -/
def nmD (T : Int → Int) (n p lo hi : Int) : Int := if wrongIn T n p lo hi = -1 then numb T n p else -1
def nmP (T : Int → Int) (n p lo hi : Int) : Int := if wrongIn T n p lo hi = -1 then p + 2 else wrongIn T n p lo hi
theorem nm_f {T : Int → Int} {n p lo hi : Int} (hp : 0 ≤ p) (hl : 0 ≤ lo) (h : rdD T n p (lo / 10) (hi / 10) = -1) : nmD T n p lo hi = -1 ∧ nmP T n p lo hi = rdP T n p (lo / 10) (hi / 10) := by
  have hd := digit_r (T := T) (n := n) (p := p)
  have hn : ¬(lo / 10 ≤ digit T n p ∧ digit T n p ≤ hi / 10) := by
    intro q
    rw [(rd_y q).1] at h
    omega
  have hw : wrongIn T n p lo hi = p := if_pos (by omega)
  unfold nmD nmP
  rw [hw, if_neg (by omega), if_neg (by omega), (rd_n hn).2]
  exact ⟨rfl, rfl⟩
theorem nm_s {T : Int → Int} {n p lo hi : Int} (hp : 0 ≤ p) (hl : 0 ≤ lo) (h : rdD T n p (lo / 10) (hi / 10) ≠ -1) : rdP T n p (lo / 10) (hi / 10) = p + 1 ∧ rdD T n p (lo / 10) (hi / 10) = digit T n p ∧ (∀ e q, e = rdD T n (p + 1) (max 0 (lo - 10 * digit T n p)) (min 9 (hi - 10 * digit T n p)) → q = rdP T n (p + 1) (max 0 (lo - 10 * digit T n p)) (min 9 (hi - 10 * digit T n p)) → nmP T n p lo hi = q ∧ (e = -1 → nmD T n p lo hi = -1) ∧ (e ≠ -1 → nmD T n p lo hi = 10 * digit T n p + e)) := by
  have hd := digit_r (T := T) (n := n) (p := p)
  have hd2 := digit_r (T := T) (n := n) (p := p + 1)
  by_cases hy : lo / 10 ≤ digit T n p ∧ digit T n p ≤ hi / 10
  · refine ⟨(rd_y hy).2, (rd_y hy).1, fun e q he hq => ?_⟩
    have hnu : numb T n p = 10 * digit T n p + digit T n (p + 1) := rfl
    have hw : wrongIn T n p lo hi = if 0 ≤ digit T n (p + 1) ∧ lo ≤ numb T n p ∧ numb T n p ≤ hi then -1 else p + 1 := if_neg (by omega)
    unfold nmP nmD
    by_cases hz : max 0 (lo - 10 * digit T n p) ≤ digit T n (p + 1) ∧ digit T n (p + 1) ≤ min 9 (hi - 10 * digit T n p)
    · rw [(rd_y hz).1] at he
      rw [(rd_y hz).2] at hq
      rw [if_pos (by omega)] at hw
      rw [if_pos hw, if_pos hw]
      refine ⟨by omega, fun q => by omega, fun q => by omega⟩
    · rw [(rd_n hz).1] at he
      rw [(rd_n hz).2] at hq
      rw [if_neg (by omega)] at hw
      rw [if_neg (by omega), if_neg (by omega)]
      refine ⟨by omega, fun q => rfl, fun q => by omega⟩
  · exact absurd (rd_n hy).1 h
theorem rdD_ok {T : Int → Int} {n p low high : Int} (h : rdD T n p low high ≠ -1) : low ≤ rdD T n p low high ∧ rdD T n p low high ≤ high := by
  unfold rdD at h ⊢
  split at h
  · rw [if_pos (by assumption)]
    assumption
  · exact absurd rfl h
