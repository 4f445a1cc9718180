/-! writing a key, the class's side -/
theorem key_x {S : Int → Int} (h : ∀ j : Int, 0 ≤ j → j < 40 → 0 ≤ S (8 + j) ∧ S (8 + j) ≤ 1) {i v : Int} (hi : 0 ≤ i ∧ i < 40) (hv : v = 1 - S (8 + i)) : lN (kL S 0 40) ^^^ lN (1 * 2 ^ i.toNat) = lN (kL (up S (8 + i) v) 0 40) := by
  have e : ((i.toNat : Nat) : Int) = i := by omega
  have hx := kL_xor (S := S) h (i := i.toNat) (by omega) (v := v) (by rw [e]; exact hv)
  rw [e] at hx
  rw [fb_xorL, Nat.one_mul, hx]
theorem rc_up {S g : Int → Int} (hR : Rc S g) {k v : Int} (hk : 5 ≤ k ∧ k < 48) : Rc (up S k v) g := by
  intro i w h0 h1 h2 h3
  rw [up_n (by omega)] at h1
  rw [an_up0 (by omega)]
  exact hR i w h0 h1 h2 h3
theorem bI_k {x : Int} (h : 0 ≤ x ∧ x ≤ 1) : bI (x = 1) = x := by
  by_cases q : x = 1
  · rw [bI_t q, q]
  · rw [bI_f q]
    omega
theorem kL_setg {S : Int → Int} {w v : Int} (hw : 0 ≤ w ∧ w ≤ 2) : kL (setg S w v) 0 40 = kL S 0 40 := by
  refine kL_c 40 0 (fun j h0 h1 => ?_)
  unfold setg
  split
  · rw [forgetA_k (by omega) (by omega), up_n (by omega)]
  · rw [up_n (by omega)]
theorem rc_setg {S g : Int → Int} (hR : Rc S g) {w v : Int} (hw : 0 ≤ w ∧ w ≤ 2) : Rc (setg S w v) g := by
  unfold setg
  split
  · exact rc_forgetA
  · intro i w' h0 h1 h2 h3
    rw [up_n (by omega)] at h1
    rw [an_up0 (by omega)]
    exact hR i w' h0 h1 h2 h3
theorem rc_rsz {S g : Int → Int} {q : Int} (hq : 8 ≤ q) : Rc (rsz S q) g := by
  intro i w h0 h1 h2 h3
  have : rsz S q 4 = 0 := by
    unfold rsz
    rw [if_neg (by omega), if_neg (by omega)]
    rfl
  omega
