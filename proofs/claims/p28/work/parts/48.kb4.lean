/-! writing a key, the class's side -/
theorem key_x {S : Int → Int} (h : ∀ j : Int, 0 ≤ j → j < 40 → 0 ≤ S (8 + j) ∧ S (8 + j) ≤ 1) {i v : Int} (hi : 0 ≤ i ∧ i < 40) (hv : v = 1 - S (8 + i)) : lN (kL S 0 40) ^^^ lN (1 * 2 ^ i.toNat) = lN (kL (up S (8 + i) v) 0 40) := by
  have e : ((i.toNat : Nat) : Int) = i := by omega
  have hx := kL_xor (S := S) h (i := i.toNat) (by omega) (v := v) (by rw [e]; exact hv)
  rw [e] at hx
  rw [fb_xorL, Nat.one_mul, hx]
theorem rc_up {S g : Int → Int} (hR : Rc S g) {k v : Int} (hk : 5 ≤ k ∧ k < 48) : Rc (up S k v) g := by
  intro i w h0 h1 h2 h3
  rw [up_n (by omega)] at h1
  rw [an_up0 (by omega)]
  exact hR i w h0 h1 h2 h3
theorem bI_k {x : Int} (h : 0 ≤ x ∧ x ≤ 1) : bI (x = 1) = x := by
  by_cases q : x = 1
  · rw [bI_t q, q]
  · rw [bI_f q]
    omega
theorem kL_setg {S : Int → Int} {w v : Int} (hw : 0 ≤ w ∧ w ≤ 2) : kL (setg S w v) 0 40 = kL S 0 40 := by
  refine kL_c 40 0 (fun j h0 h1 => ?_)
  unfold setg
  split
  · rw [forgetA_k (by omega) (by omega), up_n (by omega)]
  · rw [up_n (by omega)]
theorem rc_setg {S g : Int → Int} (hR : Rc S g) {w v : Int} (hw : 0 ≤ w ∧ w ≤ 2) : Rc (setg S w v) g := by
  unfold setg
  split
  · exact rc_forgetA
  · intro i w' h0 h1 h2 h3
    rw [up_n (by omega)] at h1
    rw [an_up0 (by omega)]
    exact hR i w' h0 h1 h2 h3
theorem rc_rsz {S g : Int → Int} {q : Int} (hq : 8 ≤ q) : Rc (rsz S q) g := by
  intro i w h0 h1 h2 h3
  have : rsz S q 4 = 0 := by
    unfold rsz
    rw [if_neg (by omega), if_neg (by omega)]
    rfl
  omega
def cutS (S : Int → Int) (q : Int) : Int → Int := fun z => if z = 0 then q else if 8 + q ≤ z ∧ z < 48 then 0 else S z
theorem cut_lo {S : Int → Int} {q z : Int} (hq : 0 ≤ q) (h : z < 8) : up S 0 q z = cutS S q z := by
  unfold up cutS
  split
  · rfl
  · rw [if_neg (by omega)]
theorem cut_e {S : Int → Int} {q : Int} (hq : 0 ≤ q) : forgetA (cutS S q) = rsz S q := by
  funext z
  unfold forgetA rsz
  by_cases h0 : z = 0
  · subst h0
    rfl
  · by_cases h4 : z = 4
    · subst h4
      rw [if_pos rfl, if_neg h0, if_neg (by omega)]
      rfl
    · by_cases h7 : z = 7
      · subst h7
        rw [if_neg h4, if_pos rfl, if_neg h0, if_neg (by omega)]
        show cutS S q 7 + cutS S q 4 = S 7 + S 4
        unfold cutS
        rw [if_neg (by omega), if_neg (by omega), if_neg (by omega), if_neg (by omega)]
      · rw [if_neg h4, if_neg h7, if_neg h0, forgetA_k h4 h7]
        unfold cutS
        rw [if_neg h0]
theorem cut_x {S : Int → Int} (h : ∀ j : Int, 0 ≤ j → j < 40 → 0 ≤ S (8 + j) ∧ S (8 + j) ≤ 1) {q : Int} (hq : 0 ≤ q ∧ q ≤ 40) : lN (kL S 0 40) &&& lN (2 ^ q.toNat - 1) = lN (kL (cutS S q) 0 40) := by
  have hb := kL_lt (S := S) 40 0 (fun j h0 h1 => h j h0 (by omega))
  rw [wb_mask (by omega) (by omega), kL_cut (S := S) (S2 := cutS S q) (p := q.toNat) (by omega) h (fun j h0 h1 => ?_) (fun j h0 h1 => ?_)]
  · unfold cutS
    rw [if_neg (by omega), if_neg (by omega)]
  · unfold cutS
    rw [if_neg (by omega), if_pos (by omega)]
