/-! THE MATHEMATICAL STATE: S : Int → Int, as the model's array has it. 0 places, 1 width, 2 secrecy, 3 fee, 4 answers, 5 paid, 6 asked, 7 forgotten; 8 + j the key at place j; 48 + 4 i + w part w of answer i. -/
def ksum (S : Int → Int) (a : Int) : Nat → Int
  | 0 => 0
  | n + 1 => ksum S a n + S (8 + (a + n))
def keysIn (S : Int → Int) (a b : Int) : Int := ksum S a (b + 1 - a).toNat
def an (S : Int → Int) (i w : Int) : Int := S (48 + 4 * i + w)
def lastAb (S : Int → Int) (a b : Int) : Nat → Int
  | 0 => -1
  | n + 1 => if an S n 0 = a ∧ an S n 1 = b then (n : Int) else lastAb S a b n
def aboutI (S : Int → Int) (a b : Int) : Int := lastAb S a b (S 4).toNat
def costOf (S : Int → Int) (a b : Int) : Int := if aboutI S a b ≠ -1 then 0 else S 3 + (b - a + 1) / 4
def told (S : Int → Int) (a b : Int) : Int := if keysIn S a b < S 2 then -2 else keysIn S a b
def forget1 (S : Int → Int) (i : Int) : Int → Int := fun z => if z = 4 then S 4 - 1 else if z = 7 then S 7 + 1 else if 48 + 4 * i ≤ z ∧ z < 48 + 4 * (S 4 - 1) then S (z + 4) else S z
def forgetA (S : Int → Int) : Int → Int := fun z => if z = 4 then 0 else if z = 7 then S 7 + S 4 else S z
def wloop (i : Int) : Nat → (Int → Int) → (Int → Int)
  | 0, S => S
  | n + 1, S => wloop i n (if an S n 0 ≤ i ∧ i ≤ an S n 1 then forget1 S n else S)
def wr (S : Int → Int) (i v : Int) : Int → Int := if S (8 + i) = v then S else wloop i (S 4).toNat (up S (8 + i) v)
def setg (S : Int → Int) (what v : Int) : Int → Int := if what = 1 ∧ S (1 + what) ≠ v then forgetA (up S (1 + what) v) else up S (1 + what) v
abbrev askU (S : Int → Int) (at_ a b t cost : Int) : Int → Int := up (up (up (up S (48 + 4 * at_ + 0) a) (48 + 4 * at_ + 1) b) (48 + 4 * at_ + 2) t) (48 + 4 * at_ + 3) cost
abbrev askat (S : Int → Int) (at_ a b t cost : Int) : Int → Int := up (up (askU S at_ a b t cost) 5 (askU S at_ a b t cost 5 + cost)) 6 (askU S at_ a b t cost 6 + 1)
def askroom (S : Int → Int) : Int → Int := if S 4 = 12 then forget1 S 0 else S
def askd (S : Int → Int) (a b : Int) : Int → Int :=
  if aboutI S a b = -1 then askat (up (askroom S) 4 (askroom S 4 + 1)) (askroom S 4) a b (told S a b) (costOf S a b)
  else askat S (aboutI S a b) a b (told S a b) (costOf S a b)
def rsz (S : Int → Int) (p : Int) : Int → Int := fun z => if z = 0 then p else if 8 + p ≤ z ∧ z < 48 then 0 else forgetA S z
def newS (p : Int) : Int → Int := fun z => if z = 0 then p else if z = 1 then 3 else if z = 2 then 2 else if z = 3 then 1 else 0
/-! bounds: point i is the border before place i -/
def bnd (r : Int → Int) (f t w : Int) : Int → Int := fun z => if 0 ≤ z ∧ z < 1681 then min (r z) (r (41 * (z / 41) + f) + w + r (41 * t + z % 41)) else r z
def bndA (r : Int → Int) (a b keys sec : Int) : Int → Int := if keys = -2 then bnd r a (b + 1) (sec - 1) else bnd (bnd r a (b + 1) keys) (b + 1) a (-keys)
def b0 (pl : Int) : Int → Int := fun z => if pl < z / 41 ∨ pl < z % 41 then (if z / 41 = z % 41 then 0 else 1000) else if z / 41 < z % 41 then z % 41 - z / 41 else 0
def fb (S : Int → Int) (wo : Int) : Nat → (Int → Int)
  | 0 => b0 (S 0)
  | n + 1 => if (n : Int) = wo then fb S wo n else bndA (fb S wo n) (an S n 0) (an S n 1) (an S n 2) (S 2)
def FB (S : Int → Int) (wo : Int) : Int → Int := fb S wo (S 4).toNat
def mostI (r : Int → Int) (a b : Int) : Int := r (41 * a + b + 1)
def leastI (r : Int → Int) (a b : Int) : Int := -r (41 * (b + 1) + a)
def knownC (r : Int → Int) : Nat → Int
  | 0 => 0
  | n + 1 => knownC r n + (if mostI r n n = leastI r n n then 1 else 0)
def knownIn (r : Int → Int) (pl : Int) : Int := knownC r pl.toNat
def knownOf (r : Int → Int) (i : Int) : Int := if mostI r i i = leastI r i i then mostI r i i else -1
/-- a matrix in bounds, no number of which runs over -/
def GB (r : Int → Int) : Prop := ∀ z, 0 ≤ z → z < 1681 → -2000 ≤ r z ∧ r z ≤ 1000
/-! copies -/
def cpyN (F G : Int → Int) (f t : Int) (k : Nat) : Int → Int := fun z => if t ≤ z ∧ z < t + k then F (f + (z - t)) else G z
def cpy (F G : Int → Int) (f t : Int) : Int → Int := cpyN F G f t 96
theorem cpyN_0 {F G : Int → Int} {f t : Int} : G = cpyN F G f t 0 := by
  funext z
  unfold cpyN
  rw [if_neg (by omega)]
theorem cpyN_s {F G : Int → Int} {f t : Int} {k : Nat} : up (cpyN F G f t k) (t + k) (F (f + k)) = cpyN F G f t (k + 1) := by
  funext z
  unfold cpyN up
  dsimp only
  by_cases h : z = t + k
  · rw [if_pos h, if_pos (by omega), h]
    congr 1
    omega
  · rw [if_neg h]
    by_cases h2 : t ≤ z ∧ z < t + k
    · rw [if_pos h2, if_pos (by omega)]
    · rw [if_neg h2, if_neg (by omega)]
theorem an_up0 {S : Int → Int} {i w k v : Int} (h : 48 + 4 * i + w ≠ k) : an (up S k v) i w = an S i w := by
  unfold an
  rw [up_n h]
theorem keysIn_s {S : Int → Int} {a : Int} {k : Nat} : ksum S a k + S (8 + (a + k)) = ksum S a (k + 1) := rfl
theorem lastAb_r {S : Int → Int} {a b : Int} : ∀ n : Nat, -1 ≤ lastAb S a b n ∧ lastAb S a b n < n
  | 0 => by show -1 ≤ (-1 : Int) ∧ (-1 : Int) < 0; omega
  | n + 1 => by
    have ih := lastAb_r (S := S) (a := a) (b := b) n
    unfold lastAb
    split <;> omega
theorem aboutI_b {S : Int → Int} {a b : Int} (h : 0 ≤ S 4) : -1 ≤ aboutI S a b ∧ aboutI S a b < S 4 := by
  have := lastAb_r (S := S) (a := a) (b := b) (S 4).toNat
  unfold aboutI
  omega
theorem aboutI_r {S : Int → Int} {a b : Int} (h : 0 ≤ S 4) (h2 : S 4 ≤ 12) : inR (aboutI S a b) := by
  have := aboutI_b (S := S) (a := a) (b := b) h
  constructor <;> omega
/-! the first n cells by g, the others by r -/
def mixP (g r : Int → Int) (n : Int) : Int → Int := fun z => if z < n then g z else r z
theorem mix_s {g r : Int → Int} {n v : Int} (h : v = g n) : up (mixP g r n) n v = mixP g r (n + 1) := by
  funext z
  unfold mixP up
  dsimp only
  by_cases h1 : z = n
  · rw [if_pos h1, if_pos (by omega), h, h1]
  · rw [if_neg h1]
    by_cases h2 : z < n
    · rw [if_pos h2, if_pos (by omega)]
    · rw [if_neg h2, if_neg (by omega)]
theorem bnd_at {r : Int → Int} {f t w i j : Int} (hi : 0 ≤ i ∧ i < 41) (hj : 0 ≤ j ∧ j < 41) : bnd r f t w (41 * i + j) = min (r (41 * i + j)) (r (41 * i + f) + w + r (41 * t + j)) := by
  unfold bnd
  rw [if_pos (by omega), show (41 * i + j) / 41 = i by omega, show (41 * i + j) % 41 = j by omega]
theorem bnd_f {r : Int → Int} {f t w i : Int} (hi : 0 ≤ i ∧ i < 41) (hf : 0 ≤ f ∧ f < 41) (h : 0 ≤ w + r (41 * t + f)) : bnd r f t w (41 * i + f) = r (41 * i + f) := by
  rw [bnd_at hi hf]
  omega
theorem bnd_t {r : Int → Int} {f t w j : Int} (ht : 0 ≤ t ∧ t < 41) (hj : 0 ≤ j ∧ j < 41) (h : 0 ≤ w + r (41 * t + f)) : bnd r f t w (41 * t + j) = r (41 * t + j) := by
  rw [bnd_at ht hj]
  omega
theorem mix_eq {g r : Int → Int} {n z : Int} (h : g z = r z) : mixP g r n z = r z := by
  unfold mixP
  split
  · exact h
  · rfl
theorem mix_ge {g r : Int → Int} {n z : Int} (h : n ≤ z) : mixP g r n z = r z := by
  unfold mixP
  rw [if_neg (by omega)]
theorem mix_0 {f t w : Int} {r : Int → Int} : r = mixP (bnd r f t w) r 0 := by
  funext z
  unfold mixP bnd
  split
  · rw [if_neg (by omega)]
  · rfl
theorem mix_all {f t w : Int} {r : Int → Int} : mixP (bnd r f t w) r 1681 = bnd r f t w := by
  funext z
  unfold mixP
  split
  · rfl
  · unfold bnd
    rw [if_neg (by omega)]
def whyR (S : Int → Int) (a b : Int) : Int := if ¬ (0 ≤ a ∧ a < S 0) ∨ ¬ (0 ≤ b ∧ b < S 0) then 1 else if b < a then 2 else 0
def whyA (S : Int → Int) (a b : Int) : Int := if 0 < whyR S a b then whyR S a b else if S 1 ≤ b - a + 1 then 0 else 3
theorem whyR_0 {S : Int → Int} {a b : Int} : whyR S a b = 0 ↔ 0 ≤ a ∧ a ≤ b ∧ b < S 0 := by
  unfold whyR
  repeat' split
  all_goals omega
theorem whyR_r {S : Int → Int} {a b : Int} : 0 ≤ whyR S a b ∧ whyR S a b ≤ 2 := by
  unfold whyR
  repeat' split
  all_goals omega
theorem whyA_r {S : Int → Int} {a b : Int} : 0 ≤ whyA S a b ∧ whyA S a b ≤ 3 := by
  have := whyR_r (S := S) (a := a) (b := b)
  unfold whyA
  repeat' split
  all_goals omega
theorem whyA_0 {S : Int → Int} {a b : Int} : whyA S a b = 0 ↔ whyR S a b = 0 ∧ S 1 ≤ b - a + 1 := by
  have := whyR_r (S := S) (a := a) (b := b)
  unfold whyA
  repeat' split
  all_goals omega
/-! the text -/
def digit (T : Int → Int) (n p : Int) : Int := if p < n ∧ 48 ≤ T p ∧ T p ≤ 57 then T p - 48 else -1
def numb (T : Int → Int) (n p : Int) : Int := 10 * digit T n p + digit T n (p + 1)
def wrongIn (T : Int → Int) (n p lo hi : Int) : Int := if digit T n p < 0 ∨ hi < 10 * digit T n p ∨ 10 * digit T n p + 9 < lo then p else if 0 ≤ digit T n (p + 1) ∧ lo ≤ numb T n p ∧ numb T n p ≤ hi then -1 else p + 1
def wrongC (T : Int → Int) (n p pl : Int) : Int :=
  if T p = 107 then wrongIn T n (p + 1) 0 (pl - 1)
  else if T p = 113 then (if wrongIn T n (p + 1) 0 (pl - 1) ≠ -1 then wrongIn T n (p + 1) 0 (pl - 1) else wrongIn T n (p + 3) (numb T n (p + 1)) (pl - 1))
  else if T p = 119 then (if 1 ≤ digit T n (p + 1) ∧ digit T n (p + 1) ≤ 8 then -1 else p + 1)
  else if T p = 115 then (if 0 ≤ digit T n (p + 1) ∧ digit T n (p + 1) ≤ 4 then -1 else p + 1)
  else if T p ≠ 102 then p else if 0 ≤ digit T n (p + 1) then -1 else p + 1
def lenAt (T : Int → Int) (p : Int) : Int := if T p = 107 then 3 else if T p = 113 then 5 else 2
def fe (T : Int → Int) (n pl : Int) : Nat → Int → Int → Int
  | 0, _, w => w
  | k + 1, p, w => if p < n ∧ w = -1 then fe T n pl k (p + lenAt T p) (wrongC T n p pl) else w
def findE (T : Int → Int) (n : Int) : Int := if n = 0 ∨ T 0 ≠ 75 then 0 else fe T n (numb T n 1) 100 3 (wrongIn T n 1 8 40)
theorem digit_r {T : Int → Int} {n p : Int} : -1 ≤ digit T n p ∧ digit T n p ≤ 9 := by
  unfold digit
  split <;> omega
theorem numb_r {T : Int → Int} {n p : Int} : -11 ≤ numb T n p ∧ numb T n p ≤ 99 := by
  have h1 := digit_r (T := T) (n := n) (p := p)
  have h2 := digit_r (T := T) (n := n) (p := p + 1)
  unfold numb
  omega
theorem wrongIn_r {T : Int → Int} {n p lo hi : Int} (h : 0 ≤ p) : -1 ≤ wrongIn T n p lo hi ∧ wrongIn T n p lo hi ≤ p + 1 := by
  unfold wrongIn
  repeat' split
  all_goals omega
theorem wrongC_r {T : Int → Int} {n p pl : Int} (h : 0 ≤ p) : -1 ≤ wrongC T n p pl ∧ wrongC T n p pl ≤ p + 4 := by
  have h1 := wrongIn_r (T := T) (n := n) (p := p + 1) (lo := 0) (hi := pl - 1) (by omega)
  have h2 := wrongIn_r (T := T) (n := n) (p := p + 3) (lo := numb T n (p + 1)) (hi := pl - 1) (by omega)
  unfold wrongC
  repeat' split
  all_goals omega
theorem mostI_r {r : Int → Int} (h : GB r) {a b : Int} (hr : 0 ≤ a ∧ a ≤ 40 ∧ 0 ≤ b ∧ b < 40) : -2000 ≤ mostI r a b ∧ mostI r a b ≤ 1000 := h (41 * a + b + 1) (by omega) (by omega)
theorem leastI_r {r : Int → Int} (h : GB r) {a b : Int} (hr : 0 ≤ a ∧ a ≤ 40 ∧ 0 ≤ b ∧ b < 40) : -1000 ≤ leastI r a b ∧ leastI r a b ≤ 2000 := by
  have := h (41 * (b + 1) + a) (by omega) (by omega)
  unfold leastI
  omega
/-- the first k cells from p on are moved by four -/
def shN (S : Int → Int) (p : Int) (k : Nat) : Int → Int := fun z => if p ≤ z ∧ z < p + k then S (z + 4) else S z
theorem shN_0 {S : Int → Int} {p : Int} : S = shN S p 0 := by
  funext z
  unfold shN
  rw [if_neg (by omega)]
theorem shN_lo {S : Int → Int} {p z : Int} {k : Nat} (h : z < p ∨ p + k ≤ z) : shN S p k z = S z := by
  unfold shN
  rw [if_neg (by omega)]
theorem shN_s {S : Int → Int} {p : Int} {k : Nat} : up (shN S p k) (p + k) (shN S p k (p + k + 4)) = shN S p (k + 1) := by
  rw [shN_lo (z := p + k + 4) (by omega)]
  funext z
  unfold shN up
  dsimp only
  by_cases h : z = p + k
  · rw [if_pos h, if_pos (by omega), h]
  · rw [if_neg h]
    by_cases h2 : p ≤ z ∧ z < p + k
    · rw [if_pos h2, if_pos (by omega)]
    · rw [if_neg h2, if_neg (by omega)]
theorem forget1_eq {S G : Int → Int} {i : Int} {k : Nat} (hk : (k : Int) = 4 * (S 4 - 1) - 4 * i ∧ 0 ≤ i) (hG : G = shN S (48 + 4 * i) k) : up (up G 4 (G 4 - 1)) 7 (G 7 + 1) = forget1 S i := by
  have e4 : G 4 = S 4 := by rw [hG]; exact shN_lo (by omega)
  have e7 : G 7 = S 7 := by rw [hG]; exact shN_lo (by omega)
  funext z
  rw [e4, e7]
  unfold forget1
  by_cases h4 : z = 4
  · rw [if_pos h4, h4, up_n (by omega), up_s]
  · rw [if_neg h4]
    by_cases h7 : z = 7
    · rw [if_pos h7, h7, up_s]
    · rw [if_neg h7, up_n h7, up_n h4, hG]
      unfold shN
      by_cases h : 48 + 4 * i ≤ z ∧ z < 48 + 4 * (S 4 - 1)
      · rw [if_pos h, if_pos (by omega)]
      · rw [if_neg h, if_neg (by omega)]
theorem forgetA_eq {S : Int → Int} : up (up S 7 (S 7 + S 4)) 4 0 = forgetA S := by
  funext z
  unfold forgetA up
  rfl
abbrev okS (what v : Int) : Prop := (what = 0 ∧ 1 ≤ v ∧ v ≤ 8) ∨ (what = 1 ∧ 0 ≤ v ∧ v ≤ 4) ∨ (what = 2 ∧ 0 ≤ v ∧ v ≤ 9)
theorem renew_eq {G : Int → Int} {pl : Int} (h : ∀ z, 0 ≤ z → z < 96 → G z = 0) : ∀ z, 0 ≤ z → z < 96 → up (up (up (up G 0 pl) 1 3) 2 2) 3 1 z = newS pl z := by
  intro z h0 h1
  unfold newS up
  repeat' split
  all_goals first | omega | exact h z h0 h1
theorem mix_s2 {g r G : Int → Int} {n n' v : Int} (hG : G = mixP g r n) (h : v = g n) (e : n' = n + 1) : up G n v = mixP g r n' := by
  rw [hG, e]
  exact mix_s h
