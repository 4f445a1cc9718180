/-! reading a text in one go -/
def rdD (T : Int → Int) (n p low high : Int) : Int := if low ≤ digit T n p ∧ digit T n p ≤ high then digit T n p else -1
def rdP (T : Int → Int) (n p low high : Int) : Int := if low ≤ digit T n p ∧ digit T n p ≤ high then p + 1 else p
