/-! THE INVARIANT of a state, and what it gives the bounds -/
def Inv (S : Int → Int) : Prop :=
  (8 ≤ S 0 ∧ S 0 ≤ 40) ∧ (1 ≤ S 1 ∧ S 1 ≤ 8) ∧ (0 ≤ S 2 ∧ S 2 ≤ 4) ∧ (0 ≤ S 3 ∧ S 3 ≤ 9) ∧ (0 ≤ S 4 ∧ S 4 ≤ 12) ∧
  (∀ j, 0 ≤ j → j < 40 → 0 ≤ S (8 + j) ∧ S (8 + j) ≤ 1) ∧ (∀ j, S 0 ≤ j → j < 40 → S (8 + j) = 0) ∧
  (∀ i, 0 ≤ i → i < S 4 → 0 ≤ an S i 0 ∧ an S i 0 ≤ an S i 1 ∧ an S i 1 < S 0 ∧ an S i 2 = told S (an S i 0) (an S i 1)) ∧
  (∀ i j, 0 ≤ i → i < j → j < S 4 → ¬ (an S i 0 = an S j 0 ∧ an S i 1 = an S j 1))
theorem Inv.pl {S : Int → Int} (h : Inv S) : 8 ≤ S 0 ∧ S 0 ≤ 40 := h.1
theorem Inv.wi {S : Int → Int} (h : Inv S) : 1 ≤ S 1 ∧ S 1 ≤ 8 := h.2.1
theorem Inv.se {S : Int → Int} (h : Inv S) : 0 ≤ S 2 ∧ S 2 ≤ 4 := h.2.2.1
theorem Inv.fe {S : Int → Int} (h : Inv S) : 0 ≤ S 3 ∧ S 3 ≤ 9 := h.2.2.2.1
theorem Inv.na {S : Int → Int} (h : Inv S) : 0 ≤ S 4 ∧ S 4 ≤ 12 := h.2.2.2.2.1
theorem Inv.key {S : Int → Int} (h : Inv S) {j : Int} (h0 : 0 ≤ j) (h1 : j < 40) : 0 ≤ S (8 + j) ∧ S (8 + j) ≤ 1 := h.2.2.2.2.2.1 j h0 h1
theorem Inv.keyo {S : Int → Int} (h : Inv S) {j : Int} (h0 : S 0 ≤ j) (h1 : j < 40) : S (8 + j) = 0 := h.2.2.2.2.2.2.1 j h0 h1
theorem Inv.ans {S : Int → Int} (h : Inv S) {i : Int} (h0 : 0 ≤ i) (h1 : i < S 4) : 0 ≤ an S i 0 ∧ an S i 0 ≤ an S i 1 ∧ an S i 1 < S 0 ∧ an S i 2 = told S (an S i 0) (an S i 1) := h.2.2.2.2.2.2.2.1 i h0 h1
theorem Inv.diff {S : Int → Int} (h : Inv S) {i j : Int} (h0 : 0 ≤ i) (h1 : i < j) (h2 : j < S 4) : ¬ (an S i 0 = an S j 0 ∧ an S i 1 = an S j 1) := h.2.2.2.2.2.2.2.2 i j h0 h1 h2
theorem Inv.anr {S : Int → Int} (h : Inv S) : ∀ i, 0 ≤ i → i < S 4 → inR (an S i 0) ∧ inR (an S i 1) := fun i h0 h1 => by
  have h2 := h.ans h0 h1
  have h3 := h.pl
  exact ⟨⟨by omega, by omega⟩, ⟨by omega, by omega⟩⟩
theorem ksum_r {S : Int → Int} (hk : ∀ j, 0 ≤ j → j < 40 → 0 ≤ S (8 + j) ∧ S (8 + j) ≤ 1) : ∀ (n : Nat) (a : Int), 0 ≤ a → a + n ≤ 40 → 0 ≤ ksum S a n ∧ ksum S a n ≤ n
  | 0, a, _, _ => by show (0 : Int) ≤ 0 ∧ (0 : Int) ≤ 0; omega
  | n + 1, a, h0, h1 => by
    have ih := ksum_r hk n a h0 (by omega)
    have h2 := hk (a + n) (by omega) (by omega)
    show 0 ≤ ksum S a n + S (8 + (a + n)) ∧ ksum S a n + S (8 + (a + n)) ≤ ((n + 1 : Nat) : Int)
    omega
theorem ksum_split {S : Int → Int} (a : Int) (m : Nat) : ∀ n : Nat, ksum S a (m + n) = ksum S a m + ksum S (a + m) n
  | 0 => by show ksum S a m = ksum S a m + 0; omega
  | n + 1 => by
    have ih := ksum_split (S := S) a m n
    show ksum S a (m + n) + S (8 + (a + ((m + n : Nat) : Int))) = ksum S a m + (ksum S (a + m) n + S (8 + (a + m + n)))
    rw [ih, show a + ((m + n : Nat) : Int) = a + m + n by omega]
    omega
theorem keysIn_r {S : Int → Int} (h : Inv S) {a b : Int} (h0 : 0 ≤ a) (h1 : a ≤ b + 1) (h2 : b < 40) : 0 ≤ keysIn S a b ∧ keysIn S a b ≤ b + 1 - a := by
  have := ksum_r (fun j h0 h1 => h.key h0 h1) (b + 1 - a).toNat a h0 (by omega)
  unfold keysIn
  omega
theorem told_r {S : Int → Int} (h : Inv S) {a b : Int} (h0 : 0 ≤ a) (h1 : a ≤ b + 1) (h2 : b < 40) : -2 ≤ told S a b ∧ told S a b ≤ 40 := by
  have := keysIn_r h h0 h1 h2
  unfold told
  split <;> omega
/-- the keys ahead of a point -/
def pre (S : Int → Int) (j : Int) : Int := ksum S 0 j.toNat
theorem pre_in {S : Int → Int} {a b : Int} (h0 : 0 ≤ a) (h1 : a ≤ b + 1) : keysIn S a b = pre S (b + 1) - pre S a := by
  have h := ksum_split (S := S) 0 a.toNat (b + 1 - a).toNat
  unfold keysIn pre
  rw [show (b + 1).toNat = a.toNat + (b + 1 - a).toNat by omega, h, show (0 : Int) + (a.toNat : Int) = a by omega]
  omega
theorem pre_step {S : Int → Int} (h : Inv S) {i j : Int} (h0 : 0 ≤ i) (h1 : i ≤ j) (h2 : j ≤ 40) : 0 ≤ pre S j - pre S i ∧ pre S j - pre S i ≤ j - i := by
  have e := pre_in (S := S) (a := i) (b := j - 1) h0 (by omega)
  have r := keysIn_r h (a := i) (b := j - 1) h0 (by omega) (by omega)
  rw [show j - 1 + 1 = j by omega] at e
  omega
/-- the numbers of keys fit the bounds -/
def Pot (S r : Int → Int) : Prop := ∀ i j, 0 ≤ i → i ≤ 40 → 0 ≤ j → j ≤ 40 → pre S j - pre S i ≤ r (41 * i + j) ∧ r (41 * i + j) ≤ 1000
theorem Pot.GB {S r : Int → Int} (hI : Inv S) (h : Pot S r) : GB r := by
  intro z h0 h1
  have h2 := h (z / 41) (z % 41) (by omega) (by omega) (by omega) (by omega)
  rw [show 41 * (z / 41) + z % 41 = z by omega] at h2
  have h3 : z / 41 ≤ z % 41 ∨ z % 41 ≤ z / 41 := by omega
  rcases h3 with h3 | h3
  · have := pre_step hI (i := z / 41) (j := z % 41) (by omega) h3 (by omega)
    omega
  · have := pre_step hI (i := z % 41) (j := z / 41) (by omega) h3 (by omega)
    omega
theorem pot_b0 {S : Int → Int} (hI : Inv S) : Pot S (b0 (S 0)) := by
  intro i j h0 h1 h2 h3
  have e : b0 (S 0) (41 * i + j) = if S 0 < i ∨ S 0 < j then (if i = j then 0 else 1000) else if i < j then j - i else 0 := by
    unfold b0
    rw [show (41 * i + j) / 41 = i by omega, show (41 * i + j) % 41 = j by omega]
  rw [e]
  have hp := hI.pl
  have a1 : i ≤ j → 0 ≤ pre S j - pre S i ∧ pre S j - pre S i ≤ j - i := fun q => pre_step hI h0 q h3
  have a2 : j ≤ i → 0 ≤ pre S i - pre S j ∧ pre S i - pre S j ≤ i - j := fun q => pre_step hI h2 q h1
  rcases Int.le_total i j with q | q
  · have := a1 q
    repeat' split
    all_goals first | omega | (subst_vars; omega)
  · have := a2 q
    repeat' split
    all_goals first | omega | (subst_vars; omega)
theorem pot_bnd {S r : Int → Int} (h : Pot S r) {f t w : Int} (hf : 0 ≤ f ∧ f ≤ 40) (ht : 0 ≤ t ∧ t ≤ 40) (hw : pre S t - pre S f ≤ w) : Pot S (bnd r f t w) := by
  intro i j h0 h1 h2 h3
  rw [bnd_at (by omega) (by omega)]
  have a1 := h i j h0 h1 h2 h3
  have a2 := h i f h0 h1 hf.1 hf.2
  have a3 := h t j ht.1 ht.2 h2 h3
  omega
theorem pot_cyc {S r : Int → Int} (h : Pot S r) {f t w : Int} (hf : 0 ≤ f ∧ f ≤ 40) (ht : 0 ≤ t ∧ t ≤ 40) (hw : pre S t - pre S f ≤ w) : 0 ≤ w + r (41 * t + f) := by
  have := h t f ht.1 ht.2 hf.1 hf.2
  omega
/-- what an answer says is so -/
theorem ans_w {S : Int → Int} (hI : Inv S) {n : Int} (h0 : 0 ≤ n) (h1 : n < S 4) : (0 ≤ an S n 0 ∧ an S n 0 ≤ an S n 1 ∧ an S n 1 < 40) ∧ (-2 ≤ an S n 2 ∧ an S n 2 ≤ 40) ∧ pre S (an S n 1 + 1) - pre S (an S n 0) ≤ (if an S n 2 = -2 then S 2 - 1 else an S n 2) ∧ (an S n 2 ≠ -2 → pre S (an S n 0) - pre S (an S n 1 + 1) ≤ -an S n 2) := by
  have ha := hI.ans h0 h1
  have hp := hI.pl
  have hr := told_r hI (a := an S n 0) (b := an S n 1) (by omega) (by omega) (by omega)
  have hk := keysIn_r hI (a := an S n 0) (b := an S n 1) (by omega) (by omega) (by omega)
  have he := pre_in (S := S) (a := an S n 0) (b := an S n 1) (by omega) (by omega)
  have ht : an S n 2 = if keysIn S (an S n 0) (an S n 1) < S 2 then -2 else keysIn S (an S n 0) (an S n 1) := ha.2.2.2
  refine ⟨by omega, by omega, ?_, ?_⟩
  · split <;> split at ht <;> omega
  · intro q
    split at ht <;> omega
theorem pot_fb {S : Int → Int} (hI : Inv S) (wo : Int) : ∀ n : Nat, (n : Int) ≤ S 4 → Pot S (fb S wo n)
  | 0, _ => pot_b0 hI
  | n + 1, h => by
    have ih := pot_fb hI wo n (by omega)
    show Pot S (if (n : Int) = wo then fb S wo n else bndA (fb S wo n) (an S n 0) (an S n 1) (an S n 2) (S 2))
    split
    · exact ih
    · obtain ⟨h1, h2, h3, h4⟩ := ans_w hI (n := n) (by omega) (by omega)
      unfold bndA
      split
      · rename_i q
        rw [if_pos q] at h3
        exact pot_bnd ih (by omega) (by omega) h3
      · rename_i q
        rw [if_neg q] at h3
        exact pot_bnd (pot_bnd ih (by omega) (by omega) h3) (by omega) (by omega) (h4 q)
theorem gb_fb {S : Int → Int} (hI : Inv S) (wo : Int) {n : Nat} (h : (n : Int) ≤ S 4) : GB (fb S wo n) := (pot_fb hI wo n h).GB hI
theorem gb_FB {S : Int → Int} (hI : Inv S) (wo : Int) : GB (FB S wo) := gb_fb hI wo (by have := hI.na; omega)
theorem fb_h5 {S : Int → Int} (hI : Inv S) (wo : Int) {n : Nat} (h : (n : Int) < S 4) : 0 ≤ (if an S n 2 = -2 then S 2 - 1 else an S n 2) + fb S wo n (41 * (an S n 1 + 1) + an S n 0) := by
  obtain ⟨h1, h2, h3, h4⟩ := ans_w hI (n := n) (by omega) h
  exact pot_cyc (pot_fb hI wo n (by omega)) (by omega) (by omega) h3
theorem fb_h6 {S : Int → Int} (hI : Inv S) (wo : Int) {n : Nat} (h : (n : Int) < S 4) : an S n 2 ≠ -2 → GB (bnd (fb S wo n) (an S n 0) (an S n 1 + 1) (an S n 2)) ∧ 0 ≤ -an S n 2 + bnd (fb S wo n) (an S n 0) (an S n 1 + 1) (an S n 2) (41 * an S n 0 + (an S n 1 + 1)) := by
  intro q
  obtain ⟨h1, h2, h3, h4⟩ := ans_w hI (n := n) (by omega) h
  rw [if_neg q] at h3
  have hp := pot_bnd (pot_fb hI wo n (by omega)) (f := an S n 0) (t := an S n 1 + 1) (by omega) (by omega) h3
  exact ⟨hp.GB hI, pot_cyc hp (by omega) (by omega) (h4 q)⟩
