/-! what is known: the class's matrix against the model's -/
def Ek (E r : Int → Int) (pl : Int) : Prop := ∀ x y, 0 ≤ x → x ≤ pl → 0 ≤ y → y ≤ pl → E (x * 41 + y) = r (41 * x + y)
theorem kCnt_mono {r : Int → Int} {k : Nat} : ∀ n : Nat, k ≤ n → kCnt r k ≤ kCnt r n
  | 0, h => by rw [show k = 0 by omega]; omega
  | n + 1, h => by
    by_cases e : k = n + 1
    · rw [e]; omega
    · have ih := kCnt_mono (r := r) n (show k ≤ n by omega)
      show kCnt r k ≤ kCnt r n + (if knownOf r n ≠ -1 then 1 else 0)
      split <;> omega
theorem kAt_found {r : Int → Int} {i : Int} {k : Nat} (h : knownOf r k ≠ -1) (hk : kCnt r k = i) : ∀ n : Nat, k < n → kAt r i n = k
  | 0, h0 => by omega
  | n + 1, h0 => by
    show (if knownOf r n ≠ -1 ∧ kCnt r n = i then (n : Int) else kAt r i n) = k
    by_cases e : k = n
    · subst e
      rw [if_pos ⟨h, hk⟩]
    · have h1 : kCnt r (k + 1) = kCnt r k + 1 := by
        show kCnt r k + (if knownOf r k ≠ -1 then 1 else 0) = _
        rw [if_pos h]
      have h2 := kCnt_mono (r := r) n (show k + 1 ≤ n by omega)
      rw [if_neg (fun q => by omega)]
      exact kAt_found h hk n (by omega)
def xb (r : Int → Int) (x y f t few many : Int) : Int := min (r (41 * x + y)) (min (r (41 * x + f) + many + r (41 * t + y)) (r (41 * x + t) - few + r (41 * f + y)))
def cbN (r : Int → Int) (a b few many : Int) : Nat → Int
  | 0 => 0
  | n + 1 => cbN r a b few many n + (if xb r n (n + 1) a (b + 1) few many = -xb r (n + 1) n a (b + 1) few many then 1 else 0)
theorem xb_r {r : Int → Int} (h : GB r) {x y f t few many : Int} (hx : 0 ≤ x ∧ x ≤ 40 ∧ 0 ≤ y ∧ y ≤ 40 ∧ 0 ≤ f ∧ f ≤ 40 ∧ 0 ≤ t ∧ t ≤ 40) (hm : -1000 ≤ few ∧ few ≤ 1000 ∧ -1000 ≤ many ∧ many ≤ 1000) : -10000 ≤ xb r x y f t few many ∧ xb r x y f t few many ≤ 1000 := by
  have h1 := h (41 * x + y) (by omega) (by omega)
  have h2 := h (41 * x + f) (by omega) (by omega)
  have h3 := h (41 * t + y) (by omega) (by omega)
  have h4 := h (41 * x + t) (by omega) (by omega)
  have h5 := h (41 * f + y) (by omega) (by omega)
  unfold xb
  omega
theorem cbN_r {r : Int → Int} {a b few many : Int} : ∀ n : Nat, 0 ≤ cbN r a b few many n ∧ cbN r a b few many n ≤ n
  | 0 => by show (0 : Int) ≤ 0 ∧ (0 : Int) ≤ 0; omega
  | n + 1 => by
    have ih := cbN_r (r := r) (a := a) (b := b) (few := few) (many := many) n
    show 0 ≤ cbN r a b few many n + (if _ then 1 else 0) ∧ cbN r a b few many n + (if _ then 1 else 0) ≤ ((n + 1 : Nat) : Int)
    split <;> omega
