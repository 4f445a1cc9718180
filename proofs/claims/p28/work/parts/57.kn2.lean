/-! all answers: the shortest ways -/
theorem tri_FB {S : Int → Int} (hI : Inv S) (wo : Int) : Tri (FB S wo) (S 0) := tri_fb hI wo (S 4).toNat (by have := hI.na; omega)
def lwT (S : Int → Int) (n : Int) : Int := if an S n 2 = -2 then S 2 - 1 else an S n 2
def lwF (S : Int → Int) (n : Int) : Int := if an S n 2 = -2 then 0 else an S n 2
def lr1 (S : Int → Int) (wo : Int) (n : Nat) : Int → Int := bnd (fb S wo n) (an S n 0) (an S n 1 + 1) (lwT S n)
theorem lf_pot {S : Int → Int} (hI : Inv S) (wo : Int) {n : Nat} (h : (n : Int) < S 4) : Pot S (lr1 S wo n) := by
  obtain ⟨h1, h2, h3, h4⟩ := ans_w hI (n := n) (by omega) h
  exact pot_bnd (pot_fb hI wo n (by omega)) (by omega) (by omega) h3
theorem lf_pre {S : Int → Int} (hI : Inv S) {n : Nat} (h : (n : Int) < S 4) : pre S (an S n 0) - pre S (an S n 1 + 1) ≤ -lwF S n := by
  obtain ⟨h1, h2, h3, h4⟩ := ans_w hI (n := n) (by omega) h
  have hp := hI.pl
  have ha := hI.ans (i := n) (by omega) h
  have hr := pre_step hI (i := an S n 0) (j := an S n 1 + 1) (by omega) (by omega) (by omega)
  unfold lwF
  split
  · omega
  · next q => exact h4 q
theorem lf_cyc {S : Int → Int} (hI : Inv S) (wo : Int) {n : Nat} (h : (n : Int) < S 4) : 0 ≤ -lwF S n + lr1 S wo n (41 * an S n 0 + (an S n 1 + 1)) := by
  obtain ⟨h1, h2, h3, h4⟩ := ans_w hI (n := n) (by omega) h
  exact pot_cyc (lf_pot hI wo h) (by omega) (by omega) (lf_pre hI h)
theorem lf_gb {S : Int → Int} (hI : Inv S) (wo : Int) {n : Nat} (h : (n : Int) < S 4) : GB (bnd (lr1 S wo n) (an S n 1 + 1) (an S n 0) (-lwF S n)) := by
  obtain ⟨h1, h2, h3, h4⟩ := ans_w hI (n := n) (by omega) h
  exact (pot_bnd (lf_pot hI wo h) (by omega) (by omega) (lf_pre hI h)).GB hI
theorem ek_lf {S E : Int → Int} (hI : Inv S) {wo : Int} {n : Nat} (h : (n : Int) < S 4) (hwo : ¬(n : Int) = wo) (hE : Ek E (bnd (lr1 S wo n) (an S n 1 + 1) (an S n 0) (-lwF S n)) (S 0)) : Ek E (fb S wo (n + 1)) (S 0) := by
  have ha := hI.ans (i := n) (by omega) h
  have hp := hI.pl
  obtain ⟨h1, h2, h3, h4⟩ := ans_w hI (n := n) (by omega) h
  have hT := tri_fb hI wo (n + 1) (by omega)
  have e : fb S wo (n + 1) = bndA (fb S wo n) (an S n 0) (an S n 1) (an S n 2) (S 2) := if_neg hwo
  rw [e] at hT ⊢
  unfold lr1 lwT lwF at hE
  unfold bndA at hT ⊢
  by_cases q : an S n 2 = -2
  · rw [if_pos q, if_pos q] at hE
    rw [if_pos q] at hT ⊢
    refine ek_noop (by omega) (by omega) (by omega) hT ?_ hE
    rw [bnd_at (by omega) (by omega)]
    have a := fb_le (S := S) (wo := wo) (z := 41 * (an S n 1 + 1) + an S n 0) n
    rw [b0_at (by omega) (by omega)] at a
    repeat' split at a
    all_goals omega
  · rw [if_neg q, if_neg q] at hE
    rw [if_neg q]
    exact hE
