/-! p28: all layouts tried. A layout is a number below 2^places, its bit j the key at place j. -/
theorem popc_add : ∀ (j k L : Nat), popc (j + k) L = popc j L + popc k (L / 2 ^ j)
  | 0, k, L => by
    rw [Nat.zero_add, Nat.pow_zero, Nat.div_one]
    show popc k L = 0 + popc k L
    omega
  | j + 1, k, L => by
    have ih := popc_add j k (L / 2)
    have e : L / 2 ^ (j + 1) = L / 2 / 2 ^ j := by rw [Nat.pow_succ, Nat.mul_comm, ← Nat.div_div_eq_div_mul]
    rw [show j + 1 + k = (j + k) + 1 by omega, e]
    show L % 2 + popc (j + k) (L / 2) = (L % 2 + popc j (L / 2)) + popc k (L / 2 / 2 ^ j)
    omega
theorem popc_mod : ∀ (k m L : Nat), k ≤ m → popc m (L % 2 ^ k) = popc k L
  | 0, m, L, _ => by rw [Nat.pow_zero, Nat.mod_one, popc_0]; rfl
  | k + 1, 0, L, h => by omega
  | k + 1, m + 1, L, h => by
    have ih := popc_mod k m (L / 2) (by omega)
    have e1 : L % 2 ^ (k + 1) % 2 = L % 2 := by
      rw [Nat.pow_succ]
      exact Nat.mod_mul_left_mod _ _ _
    have e2 : L % 2 ^ (k + 1) / 2 = L / 2 % 2 ^ k := by
      rw [Nat.pow_succ, Nat.mul_comm]
      exact Nat.mod_mul_right_div_self _ _ _
    show L % 2 ^ (k + 1) % 2 + popc m (L % 2 ^ (k + 1) / 2) = L % 2 + popc k (L / 2)
    rw [e1, e2, ih]
theorem popc_1 (j L : Nat) : popc (j + 1) L = popc j L + L / 2 ^ j % 2 := by
  rw [popc_add j 1 L]
  show _ = popc j L + _
  have : popc 1 (L / 2 ^ j) = L / 2 ^ j % 2 := by
    show L / 2 ^ j % 2 + 0 = _
    omega
  omega
theorem popc_lt {k n L : Nat} (h : L < 2 ^ n) : n ≤ k → popc k L = popc n L := fun hk => by
  have := popc_mod n k L hk
  rw [Nat.mod_eq_of_lt h] at this
  exact this
/-- the keys of a layout from a to b -/
def inL (L : Nat) (a b : Int) : Int := ((popc 10 (L / 2 ^ a.toNat % 2 ^ (b - a + 1).toNat) : Nat) : Int)
/-- the keys of a layout ahead of a point -/
def lp (L : Nat) (j : Int) : Int := ((popc j.toNat L : Nat) : Int)
theorem inL_lp {L : Nat} {a b : Int} (h : 0 ≤ a ∧ a ≤ b ∧ b < 10) : inL L a b = lp L (b + 1) - lp L a := by
  have h1 := popc_add a.toNat (b - a + 1).toNat L
  have h2 := popc_mod (b - a + 1).toNat 10 (L / 2 ^ a.toNat) (by omega)
  unfold inL lp
  rw [h2, show (b + 1).toNat = a.toNat + (b - a + 1).toNat by omega, h1]
  omega
theorem lp_step {L : Nat} {x y : Int} (h0 : 0 ≤ x) (h : x ≤ y) : 0 ≤ lp L y - lp L x ∧ lp L y - lp L x ≤ y - x := by
  have h1 := popc_add x.toNat (y - x).toNat L
  have h2 := popc_r (y - x).toNat (L / 2 ^ x.toNat)
  unfold lp
  rw [show y.toNat = x.toNat + (y - x).toNat by omega, h1]
  omega
theorem inL_r {L : Nat} {a b : Int} (h : 0 ≤ a ∧ a ≤ b ∧ b < 10) : 0 ≤ inL L a b ∧ inL L a b ≤ b - a + 1 := by
  have := lp_step (L := L) (x := a) (y := b + 1) h.1 (by omega)
  rw [inL_lp h]
  omega
theorem inL_1 {L i : Nat} (h : i < 10) : inL L i i = ((L / 2 ^ i % 2 : Nat) : Int) := by
  have h1 := popc_1 i L
  rw [inL_lp (by omega)]
  unfold lp
  rw [show ((i : Int) + 1).toNat = i + 1 by omega, show ((i : Int)).toNat = i by omega, h1]
  omega
/-- a layout keeps the bounds -/
def CIn (r : Int → Int) (pl : Int) (L : Nat) : Prop := ∀ x y, 0 ≤ x → x ≤ pl → 0 ≤ y → y ≤ pl → lp L y - lp L x ≤ r (41 * x + y)
theorem cin_b0 {pl : Int} (hp : 0 ≤ pl ∧ pl ≤ 40) {L : Nat} : CIn (b0 pl) pl L := by
  intro x y h0 h1 h2 h3
  rw [b0_at (by omega) (by omega), if_neg (by omega)]
  rcases Int.le_total x y with q | q
  · have := lp_step (L := L) h0 q
    split <;> omega
  · have := lp_step (L := L) h2 q
    split <;> omega
theorem cin_bnd {r : Int → Int} {pl f t w : Int} {L : Nat} (hp : pl ≤ 40) (hT : Tri r pl) (hf : 0 ≤ f ∧ f ≤ pl) (ht : 0 ≤ t ∧ t ≤ pl) : CIn (bnd r f t w) pl L ↔ CIn r pl L ∧ lp L t - lp L f ≤ w := by
  constructor
  · intro h
    refine ⟨fun x y h0 h1 h2 h3 => ?_, ?_⟩
    · have a := h x y h0 h1 h2 h3
      rw [bnd_at (by omega) (by omega)] at a
      omega
    · have a := h f t hf.1 hf.2 ht.1 ht.2
      rw [bnd_at (by omega) (by omega)] at a
      have z1 := hT.2 f hf.1 hf.2
      have z2 := hT.2 t ht.1 ht.2
      omega
  · rintro ⟨h, hw⟩ x y h0 h1 h2 h3
    rw [bnd_at (by omega) (by omega)]
    have a1 := h x y h0 h1 h2 h3
    have a2 := h x f h0 h1 hf.1 hf.2
    have a3 := h t y ht.1 ht.2 h2 h3
    omega
theorem cin_bndA {r : Int → Int} {pl a b k sec : Int} {L : Nat} (hp : pl ≤ 9) (hT : Tri r pl) (hab : 0 ≤ a ∧ a ≤ b ∧ b < pl) (hq : k ≠ -2 → 0 ≤ k + r (41 * (b + 1) + a)) : CIn (bndA r a b k sec) pl L ↔ CIn r pl L ∧ ((k = -2 ∧ inL L a b < sec) ∨ (k ≠ -2 ∧ inL L a b = k)) := by
  have e := inL_lp (L := L) (a := a) (b := b) (by omega)
  unfold bndA
  split
  · rename_i h
    rw [cin_bnd (by omega) hT (by omega) (by omega)]
    constructor
    · rintro ⟨h1, h2⟩
      exact ⟨h1, Or.inl ⟨h, by omega⟩⟩
    · rintro ⟨h1, h2⟩
      exact ⟨h1, by omega⟩
  · rename_i h
    rw [cin_bnd (by omega) (tri_bnd (by omega) hT (by omega) (by omega) (hq h)) (by omega) (by omega), cin_bnd (by omega) hT (by omega) (by omega)]
    constructor
    · rintro ⟨⟨h1, h2⟩, h3⟩
      exact ⟨h1, Or.inr ⟨h, by omega⟩⟩
    · rintro ⟨h1, h2⟩
      exact ⟨⟨h1, by omega⟩, by omega⟩
/-- a layout fits answer i -/
abbrev fitA (S : Int → Int) (L : Nat) (i : Int) : Prop := (an S i 2 = -2 ∧ inL L (an S i 0) (an S i 1) < S 2) ∨ (an S i 2 ≠ -2 ∧ inL L (an S i 0) (an S i 1) = an S i 2)
/-- .. the first n answers but one -/
def fitN (S : Int → Int) (wo : Int) (L : Nat) : Nat → Int
  | 0 => 1
  | n + 1 => if fitN S wo L n = 1 ∧ ((n : Int) = wo ∨ fitA S L n) then 1 else 0
def fitG (S : Int → Int) (wo : Int) (L : Nat) : Int := fitN S wo L (S 4).toNat
theorem fitN_iff {S : Int → Int} {wo : Int} {L : Nat} : ∀ n : Nat, fitN S wo L n = 1 ↔ ∀ i : Int, 0 ≤ i → i < n → i ≠ wo → fitA S L i
  | 0 => ⟨fun _ i h0 h1 => by omega, fun _ => rfl⟩
  | n + 1 => by
    have ih := fitN_iff (S := S) (wo := wo) (L := L) n
    have e : fitN S wo L (n + 1) = if fitN S wo L n = 1 ∧ ((n : Int) = wo ∨ fitA S L n) then 1 else 0 := rfl
    rw [e]
    constructor
    · intro h i h0 h1 h2
      split at h
      · rename_i q
        by_cases hn : i = n
        · subst hn
          exact q.2.resolve_left h2
        · exact ih.mp q.1 i h0 (by omega) h2
      · omega
    · intro h
      rw [if_pos]
      refine ⟨ih.mpr (fun i h0 h1 h2 => h i h0 (by omega) h2), ?_⟩
      by_cases q : (n : Int) = wo
      · exact Or.inl q
      · exact Or.inr (h n (by omega) (by omega) q)
theorem fitN_01 {S : Int → Int} {wo : Int} {L : Nat} : ∀ n : Nat, 0 ≤ fitN S wo L n ∧ fitN S wo L n ≤ 1
  | 0 => by show (0 : Int) ≤ 1 ∧ (1 : Int) ≤ 1; omega
  | n + 1 => by
    show 0 ≤ (if _ then (1 : Int) else 0) ∧ (if _ then (1 : Int) else 0) ≤ 1
    split <;> omega
theorem cin_fb {S : Int → Int} (hI : Inv S) (h9 : S 0 ≤ 9) (wo : Int) (L : Nat) : ∀ n : Nat, (n : Int) ≤ S 4 → (CIn (fb S wo n) (S 0) L ↔ ∀ i : Int, 0 ≤ i → i < n → i ≠ wo → fitA S L i)
  | 0, _ => ⟨fun _ i h0 h1 => by omega, fun _ => cin_b0 (by have := hI.pl; omega)⟩
  | n + 1, h => by
    have ih := cin_fb hI h9 wo L n (by omega)
    have ha := hI.ans (i := n) (by omega) (by omega)
    have q5 := fb_h5 hI wo (n := n) (by omega)
    show CIn (if (n : Int) = wo then fb S wo n else bndA (fb S wo n) (an S n 0) (an S n 1) (an S n 2) (S 2)) (S 0) L ↔ _
    split
    · rename_i e
      rw [ih]
      exact ⟨fun g i h0 h1 h2 => g i h0 (by omega) h2, fun g i h0 h1 h2 => g i h0 (by omega) h2⟩
    · rename_i e
      rw [cin_bndA h9 (tri_fb hI wo n (by omega)) (by omega) (fun q => by rw [if_neg q] at q5; exact q5), ih]
      constructor
      · rintro ⟨g1, g2⟩ i h0 h1 h2
        by_cases hn : i = n
        · subst hn
          exact g2
        · exact g1 i h0 (by omega) h2
      · intro g
        exact ⟨fun i h0 h1 h2 => g i h0 (by omega) h2, g n (by omega) (by omega) e⟩
/-- the layout whose keys ahead of each point are the bounds from the point x on -/
def mkL (r : Int → Int) (x : Int) (j : Int) : Nat → Nat
  | 0 => 0
  | n + 1 => (r (41 * x + (j + 1)) - r (41 * x + j)).toNat + 2 * mkL r x (j + 1) n
theorem mkL_lt {r : Int → Int} {x : Int} : ∀ (n : Nat) (j : Int), (∀ i, j ≤ i → i < j + n → 0 ≤ r (41 * x + (i + 1)) - r (41 * x + i) ∧ r (41 * x + (i + 1)) - r (41 * x + i) ≤ 1) → mkL r x j n < 2 ^ n
  | 0, _, _ => by show 0 < 1; omega
  | n + 1, j, h => by
    have ih := mkL_lt n (j + 1) (fun i h0 h1 => h i (by omega) (by omega))
    have h2 := h j (by omega) (by omega)
    show (r (41 * x + (j + 1)) - r (41 * x + j)).toNat + 2 * mkL r x (j + 1) n < 2 ^ (n + 1)
    rw [Nat.pow_succ]
    omega
theorem mkL_pop {r : Int → Int} {x : Int} : ∀ (n : Nat) (j : Int) (k : Nat), (∀ i, j ≤ i → i < j + n → 0 ≤ r (41 * x + (i + 1)) - r (41 * x + i) ∧ r (41 * x + (i + 1)) - r (41 * x + i) ≤ 1) → k ≤ n → ((popc k (mkL r x j n) : Nat) : Int) = r (41 * x + (j + k)) - r (41 * x + j)
  | n, j, 0, _, _ => by
    rw [show j + ((0 : Nat) : Int) = j by omega]
    show ((0 : Nat) : Int) = _
    omega
  | 0, j, k + 1, _, h => by omega
  | n + 1, j, k + 1, h, hk => by
    have ih := mkL_pop n (j + 1) k (fun i h0 h1 => h i (by omega) (by omega)) (by omega)
    have h2 := h j (by omega) (by omega)
    rw [show j + ((k + 1 : Nat) : Int) = j + 1 + k by omega]
    show ((((r (41 * x + (j + 1)) - r (41 * x + j)).toNat + 2 * mkL r x (j + 1) n) % 2 + popc k (((r (41 * x + (j + 1)) - r (41 * x + j)).toNat + 2 * mkL r x (j + 1) n) / 2) : Nat) : Int) = _
    rw [show ((r (41 * x + (j + 1)) - r (41 * x + j)).toNat + 2 * mkL r x (j + 1) n) / 2 = mkL r x (j + 1) n by omega]
    omega
/-- bounds that hold for layouts: no way is shorter than its parts, and a place has one key or none -/
def Lay (r : Int → Int) (pl : Int) : Prop := (8 ≤ pl ∧ pl ≤ 9) ∧ Tri r pl ∧ ∀ x, 0 ≤ x → x < pl → r (41 * x + (x + 1)) ≤ 1 ∧ r (41 * (x + 1) + x) ≤ 0
theorem lay_at {r : Int → Int} {pl x : Int} (h : Lay r pl) (h0 : 0 ≤ x) (h1 : x ≤ pl) : ∃ L : Nat, L < 2 ^ pl.toNat ∧ CIn r pl L ∧ ∀ y, 0 ≤ y → y ≤ pl → lp L y - lp L x = r (41 * x + y) := by
  obtain ⟨hp, hT, hE⟩ := h
  have hs : ∀ i, (0 : Int) ≤ i → i < 0 + (pl.toNat : Int) → 0 ≤ r (41 * x + (i + 1)) - r (41 * x + i) ∧ r (41 * x + (i + 1)) - r (41 * x + i) ≤ 1 := fun i q0 q1 => by
    have t1 := hT.1 x i (i + 1) h0 h1 q0 (by omega) (by omega) (by omega)
    have t2 := hT.1 x (i + 1) i h0 h1 (by omega) (by omega) q0 (by omega)
    have e := hE i q0 (by omega)
    omega
  have hl : ∀ y, 0 ≤ y → y ≤ pl → lp (mkL r x 0 pl.toNat) y = r (41 * x + y) - r (41 * x + 0) := fun y q0 q1 => by
    have := mkL_pop pl.toNat 0 y.toNat hs (by omega)
    rw [show (0 : Int) + (y.toNat : Int) = y by omega] at this
    exact this
  have z := hT.2 x h0 h1
  refine ⟨mkL r x 0 pl.toNat, mkL_lt _ _ hs, fun u v u0 u1 v0 v1 => ?_, fun y q0 q1 => ?_⟩
  · rw [hl u u0 u1, hl v v0 v1]
    have := hT.1 x u v h0 h1 u0 u1 v0 v1
    omega
  · rw [hl y q0 q1, hl x h0 h1]
    omega
theorem lay_sub {r r2 : Int → Int} {pl : Int} (h : Lay r pl) (hT : Tri r2 pl) (hle : ∀ z, r2 z ≤ r z) : Lay r2 pl := ⟨h.1, hT, fun x h0 h1 => ⟨Int.le_trans (hle _) (h.2.2 x h0 h1).1, Int.le_trans (hle _) (h.2.2 x h0 h1).2⟩⟩
theorem bndA_le {r : Int → Int} {a b k sec z : Int} : bndA r a b k sec z ≤ r z := by
  unfold bndA
  split
  · exact bnd_le
  · exact Int.le_trans bnd_le bnd_le
theorem lay_FB {S : Int → Int} (hI : Inv S) (h9 : S 0 ≤ 9) (wo : Int) : Lay (FB S wo) (S 0) := by
  have hp := hI.pl
  refine ⟨by omega, tri_FB hI wo, fun x h0 h1 => ⟨?_, ?_⟩⟩
  · have a := fb_le (S := S) (wo := wo) (z := 41 * x + (x + 1)) (S 4).toNat
    rw [b0_at (by omega) (by omega), if_neg (by omega), if_pos (by omega)] at a
    show fb S wo (S 4).toNat _ ≤ 1
    omega
  · have a := fb_le (S := S) (wo := wo) (z := 41 * (x + 1) + x) (S 4).toNat
    rw [b0_at (by omega) (by omega), if_neg (by omega), if_neg (by omega)] at a
    show fb S wo (S 4).toNat _ ≤ 0
    omega
/-- the layouts that G picks are those that keep the bounds r -/
def Rep (G : Nat → Int) (r : Int → Int) (pl : Int) : Prop := Lay r pl ∧ ∀ L : Nat, L < 2 ^ pl.toNat → (G L = 1 ↔ CIn r pl L)
theorem rep_FB {S : Int → Int} (hI : Inv S) (h9 : S 0 ≤ 9) (wo : Int) : Rep (fitG S wo) (FB S wo) (S 0) := by
  have hna := hI.na
  refine ⟨lay_FB hI h9 wo, fun L _ => ?_⟩
  show fitN S wo L (S 4).toNat = 1 ↔ CIn (fb S wo (S 4).toNat) (S 0) L
  rw [fitN_iff, cin_fb hI h9 wo L _ (by omega)]
theorem rep_le {G : Nat → Int} {r : Int → Int} {pl a b : Int} {L : Nat} (h : Rep G r pl) (hL : L < 2 ^ pl.toNat) (hG : G L = 1) (hab : 0 ≤ a ∧ a ≤ b ∧ b < pl) : leastI r a b ≤ inL L a b ∧ inL L a b ≤ mostI r a b := by
  have hp := h.1.1
  have hc := (h.2 L hL).mp hG
  have c1 := hc a (b + 1) (by omega) (by omega) (by omega) (by omega)
  have c2 := hc (b + 1) a (by omega) (by omega) (by omega) (by omega)
  rw [inL_lp (by omega)]
  unfold leastI mostI
  rw [show 41 * a + b + 1 = 41 * a + (b + 1) by omega]
  omega
theorem rep_min {G : Nat → Int} {r : Int → Int} {pl a b : Int} (h : Rep G r pl) (hab : 0 ≤ a ∧ a ≤ b ∧ b < pl) : ∃ L : Nat, L < 2 ^ pl.toNat ∧ G L = 1 ∧ inL L a b = leastI r a b := by
  have hp := h.1.1
  obtain ⟨L, h1, h2, h3⟩ := lay_at h.1 (x := b + 1) (by omega) (by omega)
  refine ⟨L, h1, (h.2 L h1).mpr h2, ?_⟩
  have := h3 a (by omega) (by omega)
  rw [inL_lp (by omega)]
  unfold leastI
  omega
theorem rep_max {G : Nat → Int} {r : Int → Int} {pl a b : Int} (h : Rep G r pl) (hab : 0 ≤ a ∧ a ≤ b ∧ b < pl) : ∃ L : Nat, L < 2 ^ pl.toNat ∧ G L = 1 ∧ inL L a b = mostI r a b := by
  have hp := h.1.1
  obtain ⟨L, h1, h2, h3⟩ := lay_at h.1 (x := a) (by omega) (by omega)
  refine ⟨L, h1, (h.2 L h1).mpr h2, ?_⟩
  have := h3 (b + 1) (by omega) (by omega)
  rw [inL_lp (by omega)]
  unfold mostI
  rw [show 41 * a + b + 1 = 41 * a + (b + 1) by omega]
  omega
/-- the least and the most, layout by layout -/
def lsN (G : Nat → Int) (a b : Int) : Nat → Int
  | 0 => 99
  | m + 1 => if G m = 1 ∧ inL m a b < lsN G a b m then inL m a b else lsN G a b m
def msN (G : Nat → Int) (a b : Int) : Nat → Int
  | 0 => -1
  | m + 1 => if G m = 1 ∧ msN G a b m < inL m a b then inL m a b else msN G a b m
theorem lsN_le {G : Nat → Int} {a b : Int} : ∀ (m L : Nat), L < m → G L = 1 → lsN G a b m ≤ inL L a b
  | 0, L, h, _ => by omega
  | m + 1, L, h, hG => by
    show (if G m = 1 ∧ inL m a b < lsN G a b m then inL m a b else lsN G a b m) ≤ _
    by_cases e : L = m
    · subst e
      split
      · omega
      · rename_i q
        have : ¬ inL L a b < lsN G a b L := fun z => q ⟨hG, z⟩
        omega
    · have ih := lsN_le (a := a) (b := b) m L (by omega) hG
      split
      · omega
      · exact ih
theorem lsN_at {G : Nat → Int} {a b : Int} : ∀ m : Nat, lsN G a b m = 99 ∨ ∃ L, L < m ∧ G L = 1 ∧ lsN G a b m = inL L a b
  | 0 => Or.inl rfl
  | m + 1 => by
    show (if G m = 1 ∧ inL m a b < lsN G a b m then inL m a b else lsN G a b m) = 99 ∨ ∃ L, L < m + 1 ∧ G L = 1 ∧ (if G m = 1 ∧ inL m a b < lsN G a b m then inL m a b else lsN G a b m) = inL L a b
    split
    · rename_i q
      exact Or.inr ⟨m, by omega, q.1, rfl⟩
    · rcases lsN_at (G := G) (a := a) (b := b) m with e | ⟨L, h1, h2, h3⟩
      · exact Or.inl e
      · exact Or.inr ⟨L, by omega, h2, h3⟩
theorem msN_le {G : Nat → Int} {a b : Int} : ∀ (m L : Nat), L < m → G L = 1 → inL L a b ≤ msN G a b m
  | 0, L, h, _ => by omega
  | m + 1, L, h, hG => by
    show _ ≤ (if G m = 1 ∧ msN G a b m < inL m a b then inL m a b else msN G a b m)
    by_cases e : L = m
    · subst e
      split
      · omega
      · rename_i q
        have : ¬ msN G a b L < inL L a b := fun z => q ⟨hG, z⟩
        omega
    · have ih := msN_le (a := a) (b := b) m L (by omega) hG
      split
      · omega
      · exact ih
theorem msN_at {G : Nat → Int} {a b : Int} : ∀ m : Nat, msN G a b m = -1 ∨ ∃ L, L < m ∧ G L = 1 ∧ msN G a b m = inL L a b
  | 0 => Or.inl rfl
  | m + 1 => by
    show (if G m = 1 ∧ msN G a b m < inL m a b then inL m a b else msN G a b m) = -1 ∨ ∃ L, L < m + 1 ∧ G L = 1 ∧ (if G m = 1 ∧ msN G a b m < inL m a b then inL m a b else msN G a b m) = inL L a b
    split
    · rename_i q
      exact Or.inr ⟨m, by omega, q.1, rfl⟩
    · rcases msN_at (G := G) (a := a) (b := b) m with e | ⟨L, h1, h2, h3⟩
      · exact Or.inl e
      · exact Or.inr ⟨L, by omega, h2, h3⟩
theorem lsN_r {G : Nat → Int} {a b : Int} (h : 0 ≤ a ∧ a ≤ b ∧ b < 10) (m : Nat) : 0 ≤ lsN G a b m ∧ lsN G a b m ≤ 99 := by
  rcases lsN_at (G := G) (a := a) (b := b) m with e | ⟨L, h1, h2, h3⟩
  · omega
  · have := inL_r (L := L) h
    omega
theorem msN_r {G : Nat → Int} {a b : Int} (h : 0 ≤ a ∧ a ≤ b ∧ b < 10) (m : Nat) : -1 ≤ msN G a b m ∧ msN G a b m ≤ 99 := by
  rcases msN_at (G := G) (a := a) (b := b) m with e | ⟨L, h1, h2, h3⟩
  · omega
  · have := inL_r (L := L) h
    omega
theorem rep_ls {G : Nat → Int} {r : Int → Int} {pl a b : Int} (h : Rep G r pl) (hab : 0 ≤ a ∧ a ≤ b ∧ b < pl) : lsN G a b (2 ^ pl.toNat) = leastI r a b := by
  have hp := h.1.1
  obtain ⟨L, h1, h2, h3⟩ := rep_min h hab
  have a1 := lsN_le (a := a) (b := b) _ L h1 h2
  have a2 := inL_r (L := L) (a := a) (b := b) (by omega)
  rcases lsN_at (G := G) (a := a) (b := b) (2 ^ pl.toNat) with e | ⟨M, g1, g2, g3⟩
  · omega
  · have := rep_le h g1 g2 hab
    omega
theorem rep_ms {G : Nat → Int} {r : Int → Int} {pl a b : Int} (h : Rep G r pl) (hab : 0 ≤ a ∧ a ≤ b ∧ b < pl) : msN G a b (2 ^ pl.toNat) = mostI r a b := by
  have hp := h.1.1
  obtain ⟨L, h1, h2, h3⟩ := rep_max h hab
  have a1 := msN_le (a := a) (b := b) _ L h1 h2
  have a2 := inL_r (L := L) (a := a) (b := b) (by omega)
  rcases msN_at (G := G) (a := a) (b := b) (2 ^ pl.toNat) with e | ⟨M, g1, g2, g3⟩
  · omega
  · have := rep_le h g1 g2 hab
    omega
