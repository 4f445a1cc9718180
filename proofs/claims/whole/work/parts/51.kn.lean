/-! what is known: the class's matrix against the model's -/
def Ek (E r : Int → Int) (pl : Int) : Prop := ∀ x y, 0 ≤ x → x ≤ pl → 0 ≤ y → y ≤ pl → E (x * 41 + y) = r (41 * x + y)
theorem kCnt_mono {r : Int → Int} {k : Nat} : ∀ n : Nat, k ≤ n → kCnt r k ≤ kCnt r n
  | 0, h => by rw [show k = 0 by omega]; omega
  | n + 1, h => by
    by_cases e : k = n + 1
    · rw [e]; omega
    · have ih := kCnt_mono (r := r) n (show k ≤ n by omega)
      show kCnt r k ≤ kCnt r n + (if knownOf r n ≠ -1 then 1 else 0)
      split <;> omega
theorem kAt_found {r : Int → Int} {i : Int} {k : Nat} (h : knownOf r k ≠ -1) (hk : kCnt r k = i) : ∀ n : Nat, k < n → kAt r i n = k
  | 0, h0 => by omega
  | n + 1, h0 => by
    show (if knownOf r n ≠ -1 ∧ kCnt r n = i then (n : Int) else kAt r i n) = k
    by_cases e : k = n
    · subst e
      rw [if_pos ⟨h, hk⟩]
    · have h1 : kCnt r (k + 1) = kCnt r k + 1 := by
        show kCnt r k + (if knownOf r k ≠ -1 then 1 else 0) = _
        rw [if_pos h]
      have h2 := kCnt_mono (r := r) n (show k + 1 ≤ n by omega)
      rw [if_neg (fun q => by omega)]
      exact kAt_found h hk n (by omega)
