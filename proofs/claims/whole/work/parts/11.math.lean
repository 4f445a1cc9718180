/-! THE MATHEMATICAL STATE: S : Int → Int, as the model's array has it. 0 places, 1 width, 2 secrecy, 3 fee, 4 answers, 5 paid, 6 asked, 7 forgotten; 8 + j the key at place j; 48 + 4 i + w part w of answer i. -/
def ksum (S : Int → Int) (a : Int) : Nat → Int
  | 0 => 0
  | n + 1 => ksum S a n + S (8 + (a + n))
def keysIn (S : Int → Int) (a b : Int) : Int := ksum S a (b + 1 - a).toNat
def an (S : Int → Int) (i w : Int) : Int := S (48 + 4 * i + w)
def lastAb (S : Int → Int) (a b : Int) : Nat → Int
  | 0 => -1
  | n + 1 => if an S n 0 = a ∧ an S n 1 = b then (n : Int) else lastAb S a b n
def aboutI (S : Int → Int) (a b : Int) : Int := lastAb S a b (S 4).toNat
def costOf (S : Int → Int) (a b : Int) : Int := if aboutI S a b ≠ -1 then 0 else S 3 + (b - a + 1) / 4
def told (S : Int → Int) (a b : Int) : Int := if keysIn S a b < S 2 then -2 else keysIn S a b
def forget1 (S : Int → Int) (i : Int) : Int → Int := fun z => if z = 4 then S 4 - 1 else if z = 7 then S 7 + 1 else if 48 + 4 * i ≤ z ∧ z < 48 + 4 * (S 4 - 1) then S (z + 4) else S z
def forgetA (S : Int → Int) : Int → Int := fun z => if z = 4 then 0 else if z = 7 then S 7 + S 4 else S z
def wloop (i : Int) : Nat → (Int → Int) → (Int → Int)
  | 0, S => S
  | n + 1, S => wloop i n (if an S n 0 ≤ i ∧ i ≤ an S n 1 then forget1 S n else S)
def wr (S : Int → Int) (i v : Int) : Int → Int := if S (8 + i) = v then S else wloop i (S 4).toNat (up S (8 + i) v)
def setg (S : Int → Int) (what v : Int) : Int → Int := if what = 1 ∧ S (1 + what) ≠ v then forgetA (up S (1 + what) v) else up S (1 + what) v
def askat (S : Int → Int) (at_ a b t cost : Int) : Int → Int :=
  let S1 := up (up (up (up S (48 + 4 * at_ + 0) a) (48 + 4 * at_ + 1) b) (48 + 4 * at_ + 2) t) (48 + 4 * at_ + 3) cost
  let S2 := up S1 5 (S 5 + cost)
  up S2 6 (S 6 + 1)
def askroom (S : Int → Int) : Int → Int := if S 4 = 12 then forget1 S 0 else S
def askd (S : Int → Int) (a b : Int) : Int → Int :=
  if aboutI S a b = -1 then askat (up (askroom S) 4 (askroom S 4 + 1)) (askroom S 4) a b (told S a b) (costOf S a b)
  else askat S (aboutI S a b) a b (told S a b) (costOf S a b)
def rsz (S : Int → Int) (p : Int) : Int → Int := fun z => if z = 0 then p else if 8 + p ≤ z ∧ z < 48 then 0 else forgetA S z
def newS (p : Int) : Int → Int := fun z => if z = 0 then p else if z = 1 then 3 else if z = 2 then 2 else if z = 3 then 1 else 0
/-! bounds: point i is the border before place i -/
def bnd (r : Int → Int) (f t w : Int) : Int → Int := fun z => min (r z) (r (41 * (z / 41) + f) + w + r (41 * t + z % 41))
def bndA (r : Int → Int) (a b keys sec : Int) : Int → Int := if keys = -2 then bnd r a (b + 1) (sec - 1) else bnd (bnd r a (b + 1) keys) (b + 1) a (-keys)
def b0 (pl : Int) : Int → Int := fun z => if pl < z / 41 ∨ pl < z % 41 then (if z / 41 = z % 41 then 0 else 1000) else if z / 41 < z % 41 then z % 41 - z / 41 else 0
def fb (S : Int → Int) (wo : Int) : Nat → (Int → Int)
  | 0 => b0 (S 0)
  | n + 1 => if (n : Int) = wo then fb S wo n else bndA (fb S wo n) (an S n 0) (an S n 1) (an S n 2) (S 2)
def FB (S : Int → Int) (wo : Int) : Int → Int := fb S wo (S 4).toNat
def mostI (r : Int → Int) (a b : Int) : Int := r (41 * a + b + 1)
def leastI (r : Int → Int) (a b : Int) : Int := -r (41 * (b + 1) + a)
def knownC (r : Int → Int) : Nat → Int
  | 0 => 0
  | n + 1 => knownC r n + (if mostI r n n = leastI r n n then 1 else 0)
def knownIn (r : Int → Int) (pl : Int) : Int := knownC r pl.toNat
def knownOf (r : Int → Int) (i : Int) : Int := if mostI r i i = leastI r i i then mostI r i i else -1
/-- a matrix in bounds, no number of which runs over -/
def GB (r : Int → Int) : Prop := ∀ z, 0 ≤ z → z < 1681 → -2000 ≤ r z ∧ r z ≤ 1000
/-! copies -/
def cpyN (F G : Int → Int) (f t : Int) (k : Nat) : Int → Int := fun z => if t ≤ z ∧ z < t + k then F (f + (z - t)) else G z
def cpy (F G : Int → Int) (f t : Int) : Int → Int := cpyN F G f t 96
theorem cpyN_0 {F G : Int → Int} {f t : Int} : G = cpyN F G f t 0 := by
  funext z
  unfold cpyN
  rw [if_neg (by omega)]
theorem cpyN_s {F G : Int → Int} {f t : Int} {k : Nat} : up (cpyN F G f t k) (t + k) (F (f + k)) = cpyN F G f t (k + 1) := by
  funext z
  unfold cpyN up
  dsimp only
  by_cases h : z = t + k
  · rw [if_pos h, if_pos (by omega), h]
    congr 1
    omega
  · rw [if_neg h]
    by_cases h2 : t ≤ z ∧ z < t + k
    · rw [if_pos h2, if_pos (by omega)]
    · rw [if_neg h2, if_neg (by omega)]
theorem an_up0 {S : Int → Int} {i w k v : Int} (h : 48 + 4 * i + w ≠ k) : an (up S k v) i w = an S i w := by
  unfold an
  rw [up_n h]
theorem keysIn_s {S : Int → Int} {a : Int} {k : Nat} : ksum S a k + S (8 + (a + k)) = ksum S a (k + 1) := rfl
theorem lastAb_r {S : Int → Int} {a b : Int} : ∀ n : Nat, -1 ≤ lastAb S a b n ∧ lastAb S a b n < n
  | 0 => by show -1 ≤ (-1 : Int) ∧ (-1 : Int) < 0; omega
  | n + 1 => by
    have ih := lastAb_r (S := S) (a := a) (b := b) n
    unfold lastAb
    split <;> omega
theorem aboutI_b {S : Int → Int} {a b : Int} (h : 0 ≤ S 4) : -1 ≤ aboutI S a b ∧ aboutI S a b < S 4 := by
  have := lastAb_r (S := S) (a := a) (b := b) (S 4).toNat
  unfold aboutI
  omega
theorem aboutI_r {S : Int → Int} {a b : Int} (h : 0 ≤ S 4) (h2 : S 4 ≤ 12) : inR (aboutI S a b) := by
  have := aboutI_b (S := S) (a := a) (b := b) h
  constructor <;> omega
