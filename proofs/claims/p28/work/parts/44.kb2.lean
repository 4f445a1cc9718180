/-! the drive's object by its state; dropping answers -/
theorem oDrv_e {dc : Nat} {S S2 : Int → Int} {k k2 : Int64} (h : ∀ z, 0 ≤ z → z < 8 → S z = S2 z) (hk : k = k2) : oDrv dc S k = oDrv dc S2 k2 := by
  show Sum.inr _ = Sum.inr _
  rw [h 0 (by omega) (by omega), h 1 (by omega) (by omega), h 2 (by omega) (by omega), h 3 (by omega) (by omega), h 4 (by omega) (by omega), h 5 (by omega) (by omega), h 6 (by omega) (by omega), h 7 (by omega) (by omega), hk]
theorem kL_new {p : Int} : (0 : Int64) = lN (kL (newS p) 0 40) := by
  have z : ∀ (n : Nat) (a : Int), 0 ≤ a → kL (newS p) a n = 0 := by
    intro n
    induction n with
    | zero => intro a _; rfl
    | succ n ih =>
      intro a ha
      show (newS p (8 + a)).toNat + 2 * kL (newS p) (a + 1) n = 0
      have e : newS p (8 + a) = 0 := by
        unfold newS
        rw [if_neg (by omega), if_neg (by omega), if_neg (by omega), if_neg (by omega)]
      rw [e, ih (a + 1) (by omega)]
      rfl
  rw [z 40 0 (by omega)]
  decide +kernel
theorem rc_new {p : Int} {g : Int → Int} : Rc (newS p) g := by
  intro i w h0 h1 h2 h3
  have : newS p 4 = 0 := rfl
  omega
theorem kL_f1 {S : Int → Int} {i : Int} (hi : 0 ≤ i) : lN (kL S 0 40) = lN (kL (forget1 S i) 0 40) := by
  rw [kL_c (S := S) (S2 := forget1 S i) 40 0 (fun j h0 h1 => forget1_k hi (by omega) (by omega) (by omega))]
theorem kL_fA {S : Int → Int} : lN (kL S 0 40) = lN (kL (forgetA S) 0 40) := by
  rw [kL_c (S := S) (S2 := forgetA S) 40 0 (fun j h0 h1 => forgetA_k (by omega) (by omega))]
theorem rc_forget {S g : Int → Int} (hR : Rc S g) {i : Int} (hi : 0 ≤ i ∧ i < S 4) (hn : S 4 ≤ 12) {k : Nat} (hk : (k : Int) = 44 - i * 4) : Rc (forget1 S i) (shN g (i * 4) k) := by
  intro j w h0 h1 h2 h3
  have e4 : forget1 S i 4 = S 4 - 1 := rfl
  rw [an_f1 hi.1 (by omega) (by omega)]
  unfold shN
  by_cases h : j < i
  · rw [if_pos h, if_neg (by omega)]
    exact hR j w h0 (by omega) h2 h3
  · rw [if_neg h, if_pos (by omega), show j * 4 + w + 4 = (j + 1) * 4 + w by omega]
    exact hR (j + 1) w (by omega) (by omega) h2 h3
theorem rc_forgetA {S g : Int → Int} : Rc (forgetA S) g := by
  intro i w h0 h1 h2 h3
  have : forgetA S 4 = 0 := rfl
  omega
theorem forget1_lo {S : Int → Int} {i z : Int} (h : z < 8) (hi : 0 ≤ i) : forget1 S i z = if z = 4 then S 4 - 1 else if z = 7 then S 7 + 1 else S z := by
  unfold forget1
  split
  · rfl
  · split
    · rfl
    · rw [if_neg (by omega)]
