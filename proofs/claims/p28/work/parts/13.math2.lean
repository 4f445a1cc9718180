/-! more of what the model's methods answer -/
theorem va_P.arr {D : va_G} {cl : List vw_C} {ws : va_W} {H : Heap} (h : va_P D cl ws H) (k : Nat) {a n : Nat} {cA : ClassId} {f g : Int → Int} (hk : ws[k]? = some (a, .inl (cA, n, .inl (ar f)))) (e : ∀ z : Int, 0 ≤ z → z < n → f z = g z) : va_P D cl (ws.set k (a, .inl (cA, n, .inl (ar g)))) H := by
  have hl := (List.getElem?_eq_some_iff.mp hk).1
  intro j q hj
  by_cases hjk : j = k
  · subst hjk
    rw [List.getElem?_set_self hl] at hj
    cases hj
    refine ar_va (h _ _ hk) (fun i hi => ?_)
    unfold ar
    rw [e i (by omega) (by omega)]
  · rw [List.getElem?_set_ne (Ne.symm hjk)] at hj
    exact h j q hj
def kCnt (r : Int → Int) : Nat → Int
  | 0 => 0
  | n + 1 => kCnt r n + (if knownOf r n ≠ -1 then 1 else 0)
def kAt (r : Int → Int) (i : Int) : Nat → Int
  | 0 => -1
  | n + 1 => if knownOf r n ≠ -1 ∧ kCnt r n = i then (n : Int) else kAt r i n
def whyAp (n x : Int) : Int := if ¬ (0 ≤ x ∧ x ≤ 255) then 1 else if n = 100 then 2 else 0
def whyAn (S : Int → Int) (i w : Int) : Int := if ¬ (0 ≤ i ∧ i < S 4) then 1 else if 0 ≤ w ∧ w ≤ 3 then 0 else 2
def abt (S : Int → Int) (w : Int) : Int := if w = 0 then S 0 else if w = 1 then keysIn S 0 (S 0 - 1) else if 2 ≤ w ∧ w ≤ 8 then S (1 + w - 2) else if w = 9 then knownIn (FB S (-1)) (S 0) else 0
def shH (F : Int → Int) (k : Nat) : Int → Int := fun z => if 0 ≤ z ∧ z < k then F (z + 96) else F z
def remB (F : Int → Int) (re : Int) : Int → Int := if re = 14 then shH F 1248 else F
def remR (re : Int) : Int := if re = 14 then 13 else re
def remH (S F : Int → Int) (re : Int) : Int → Int := cpy S (remB F re) 0 (remR re * 96)
def hst (F : Int → Int) (r : Int) : Int → Int := fun z => F (96 * r + z)
theorem shH_0 {F : Int → Int} : F = shH F 0 := by
  funext z
  unfold shH
  rw [if_neg (by omega)]
theorem shH_s {F : Int → Int} {k : Nat} : up (shH F k) k (shH F k (k + 96)) = shH F (k + 1) := by
  have e : shH F k (k + 96) = F (k + 96) := by
    unfold shH
    rw [if_neg (by omega)]
  rw [e]
  funext z
  unfold shH up
  dsimp only
  by_cases h : z = k
  · rw [if_pos h, if_pos (by omega), h]
  · rw [if_neg h]
    by_cases h2 : 0 ≤ z ∧ z < k
    · rw [if_pos h2, if_pos (by omega)]
    · rw [if_neg h2, if_neg (by omega)]
theorem ksum_c {S S2 : Int → Int} : ∀ (n : Nat) {a : Int}, (∀ z, 8 + a ≤ z → z < 8 + a + n → S2 z = S z) → ksum S2 a n = ksum S a n
  | 0, _, _ => rfl
  | n + 1, a, h => by
    show ksum S2 a n + S2 (8 + (a + n)) = ksum S a n + S (8 + (a + n))
    rw [ksum_c n (fun z h1 h2 => h z h1 (by omega)), h _ (by omega) (by omega)]
theorem keysIn_c {S S2 : Int → Int} {a b : Int} (h0 : 0 ≤ a) (h1 : b < 40) (h : ∀ z, 8 ≤ z → z < 48 → S2 z = S z) : keysIn S2 a b = keysIn S a b := ksum_c _ (fun z q1 q2 => h z (by omega) (by omega))
theorem bnd_c {r q : Int → Int} {f t w : Int} (hf : 0 ≤ f ∧ f < 41) (ht : 0 ≤ t ∧ t < 41) (h : ∀ z, 0 ≤ z → z < 1681 → r z = q z) : ∀ z, 0 ≤ z → z < 1681 → bnd r f t w z = bnd q f t w z := by
  intro z h0 h1
  unfold bnd
  rw [if_pos ⟨h0, h1⟩, if_pos ⟨h0, h1⟩, h z h0 h1, h (41 * (z / 41) + f) (by omega) (by omega), h (41 * t + z % 41) (by omega) (by omega)]
theorem b0_at {pl i j : Int} (hi : 0 ≤ i ∧ i < 41) (hj : 0 ≤ j ∧ j < 41) : b0 pl (41 * i + j) = if pl < i ∨ pl < j then (if i = j then 0 else 1000) else if i < j then j - i else 0 := by
  unfold b0
  rw [show (41 * i + j) / 41 = i by omega, show (41 * i + j) % 41 = j by omega]
/-- the best question: the triple best, open, cost -/
def bqB (S r : Int → Int) (a b : Int) : Int := if S 1 ≤ b - a + 1 then mostI r a b - leastI r a b else 0
def bqS (S r : Int → Int) (a b : Int) (q : Int × Int × Int) : Int × Int × Int := if q.2.1 < bqB S r a b ∨ (0 < bqB S r a b ∧ bqB S r a b = q.2.1 ∧ costOf S a b < q.2.2) then (100 * a + b, bqB S r a b, costOf S a b) else q
def bqI (S r : Int → Int) (a : Int) (q : Int × Int × Int) : Nat → Int × Int × Int
  | 0 => q
  | n + 1 => bqS S r a (a + n) (bqI S r a q n)
def bqO (S r : Int → Int) : Nat → Int × Int × Int
  | 0 => (-1, 0, 0)
  | n + 1 => bqI S r n (bqO S r n) (S 0 - n).toNat
def bestQ (S : Int → Int) : Int := (bqO S (FB S (-1)) (S 0).toNat).1
/-- the worst: by the number of keys -/
def wsK (S r : Int → Int) (a b k : Int) : Int := knownIn (bndA r a b (if k < S 2 then -2 else k) (S 2)) (S 0)
def wsN (S r : Int → Int) (a b lo : Int) : Nat → Int
  | 0 => 40
  | n + 1 => if wsK S r a b (lo + n) < wsN S r a b lo n then wsK S r a b (lo + n) else wsN S r a b lo n
def worstQ (S : Int → Int) (a b : Int) : Int := wsN S (FB S (-1)) a b (leastI (FB S (-1)) a b) (mostI (FB S (-1)) a b + 1 - leastI (FB S (-1)) a b).toNat
/-- the answer worth least: best and most -/
def lwN (S : Int → Int) : Nat → Int × Int
  | 0 => (-1, -1)
  | n + 1 => if (lwN S n).2 < knownIn (FB S n) (S 0) then ((n : Int), knownIn (FB S n) (S 0)) else lwN S n
def leastW (S : Int → Int) : Int := (lwN S (S 4).toNat).1
theorem knownC_r {r : Int → Int} : ∀ n : Nat, 0 ≤ knownC r n ∧ knownC r n ≤ n
  | 0 => by show (0 : Int) ≤ 0 ∧ (0 : Int) ≤ 0; omega
  | n + 1 => by
    have ih := knownC_r (r := r) n
    show 0 ≤ knownC r n + (if mostI r n n = leastI r n n then 1 else 0) ∧ knownC r n + (if mostI r n n = leastI r n n then 1 else 0) ≤ ((n + 1 : Nat) : Int)
    split <;> omega
theorem knownIn_r {r : Int → Int} {pl : Int} (h : 0 ≤ pl) : 0 ≤ knownIn r pl ∧ knownIn r pl ≤ pl := by
  have := knownC_r (r := r) pl.toNat
  unfold knownIn
  omega
theorem kCnt_r {r : Int → Int} : ∀ n : Nat, 0 ≤ kCnt r n ∧ kCnt r n ≤ n
  | 0 => by show (0 : Int) ≤ 0 ∧ (0 : Int) ≤ 0; omega
  | n + 1 => by
    have ih := kCnt_r (r := r) n
    show 0 ≤ kCnt r n + (if knownOf r n ≠ -1 then 1 else 0) ∧ kCnt r n + (if knownOf r n ≠ -1 then 1 else 0) ≤ ((n + 1 : Nat) : Int)
    split <;> omega
theorem knownOf_r {r : Int → Int} (h : GB r) {i : Int} (hi : 0 ≤ i ∧ i < 40) : -2000 ≤ knownOf r i ∧ knownOf r i ≤ 1000 := by
  have := mostI_r h (a := i) (b := i) (by omega)
  unfold knownOf
  split <;> omega
theorem costOf_r {S : Int → Int} (hI : Inv S) {a b : Int} (h : 0 ≤ a ∧ a ≤ b ∧ b < 40) : 0 ≤ costOf S a b ∧ costOf S a b ≤ 19 := by
  have := hI.fe
  unfold costOf
  split <;> omega
/-- the bounds of an answer that might be -/
theorem ws_h5 {S : Int → Int} (hI : Inv S) {a b k : Int} (h1 : leastI (FB S (-1)) a b ≤ k) : 0 ≤ (if (if k < S 2 then (-2 : Int) else k) = -2 then S 2 - 1 else (if k < S 2 then -2 else k)) + FB S (-1) (41 * (b + 1) + a) := by
  have h2 := hI.se
  unfold leastI at h1
  repeat' split
  all_goals omega
theorem pot_FB {S : Int → Int} (hI : Inv S) (wo : Int) : Pot S (FB S wo) := pot_fb hI wo _ (by have := hI.na; omega)
theorem pot_lo {S r : Int → Int} (hI : Inv S) (h : Pot S r) {z : Int} (h0 : 0 ≤ z) (h1 : z < 1681) : -40 ≤ r z ∧ r z ≤ 1000 := by
  have h2 := h (z / 41) (z % 41) (by omega) (by omega) (by omega) (by omega)
  rw [show 41 * (z / 41) + z % 41 = z by omega] at h2
  have h3 : z / 41 ≤ z % 41 ∨ z % 41 ≤ z / 41 := by omega
  rcases h3 with h3 | h3
  · have := pre_step hI (i := z / 41) (j := z % 41) (by omega) h3 (by omega)
    omega
  · have := pre_step hI (i := z % 41) (j := z / 41) (by omega) h3 (by omega)
    omega
theorem ws_h6 {S : Int → Int} (hI : Inv S) {a b k : Int} (h0 : 0 ≤ a ∧ a ≤ b ∧ b < 40) (h1 : leastI (FB S (-1)) a b ≤ k) (h2 : k ≤ mostI (FB S (-1)) a b) (hk : -50 ≤ k ∧ k ≤ 1000) : (if k < S 2 then (-2 : Int) else k) ≠ -2 → GB (bnd (FB S (-1)) a (b + 1) (if k < S 2 then -2 else k)) ∧ 0 ≤ -(if k < S 2 then -2 else k) + bnd (FB S (-1)) a (b + 1) (if k < S 2 then -2 else k) (41 * a + (b + 1)) := by
  intro q
  have hp := pot_FB hI (-1)
  have e : (if k < S 2 then (-2 : Int) else k) = k := by
    split at q
    · exact absurd rfl q
    · rename_i z
      rw [if_neg z]
  rw [e]
  constructor
  · intro z g0 g1
    have a1 := pot_lo hI hp g0 g1
    have a2 := pot_lo hI hp (z := 41 * (z / 41) + a) (by omega) (by omega)
    have a3 := pot_lo hI hp (z := 41 * (b + 1) + z % 41) (by omega) (by omega)
    unfold bnd
    rw [if_pos ⟨g0, g1⟩]
    omega
  · rw [bnd_at (by omega) (by omega)]
    have a1 := hp a a (by omega) (by omega) (by omega) (by omega)
    have a2 := hp (b + 1) (b + 1) (by omega) (by omega) (by omega) (by omega)
    unfold mostI at h2
    rw [show 41 * a + b + 1 = 41 * a + (b + 1) by omega] at h2
    omega
theorem lenAt_r {T : Int → Int} {p : Int} : 2 ≤ lenAt T p ∧ lenAt T p ≤ 5 := by
  unfold lenAt
  repeat' split
  all_goals omega
theorem fe_end {T : Int → Int} {n pl : Int} {k : Nat} {p w : Int} (h : ¬ (p < n ∧ w = -1)) : w = fe T n pl k p w := by
  cases k with
  | zero => rfl
  | succ k => show w = if _ then _ else _; rw [if_neg h]
theorem an_forget {S : Int → Int} {i k w : Int} (h : 0 ≤ k ∧ k < i) (hw : 0 ≤ w ∧ w < 4) : an (forget1 S i) k w = an S k w := by
  unfold an forget1
  rw [if_neg (by omega), if_neg (by omega), if_neg (by omega)]
theorem an_forget_hi {S : Int → Int} {i k w : Int} (h : 0 ≤ i ∧ i ≤ k ∧ k < S 4 - 1) (hw : 0 ≤ w ∧ w < 4) : an (forget1 S i) k w = an S (k + 1) w := by
  unfold an forget1
  rw [if_neg (by omega), if_neg (by omega), if_pos (by omega)]
  congr 1
  omega
theorem wr_eq {S G : Int → Int} {i v : Int} {n : Nat} (h : ¬ S (8 + i) = v) (hw : wloop i n G = wloop i (S 4).toNat (up S (8 + i) v)) (hn : n = 0) : wr S i v = G := by
  subst hn
  unfold wr
  rw [if_neg h, ← hw]
  rfl
theorem set_h2 {S : Int → Int} (hI : Inv S) {w v : Int} (h : okS w v) : inR v ∧ inR (S (1 + w)) := by
  have h0 := hI.pl
  have h1 := hI.wi
  have h2 := hI.se
  have h3 := hI.fe
  rcases h with ⟨rfl, h4⟩ | ⟨rfl, h4⟩ | ⟨rfl, h4⟩
  · exact ⟨⟨by omega, by omega⟩, ⟨by show -2147483648 ≤ S 1; omega, by show S 1 < 2147483648; omega⟩⟩
  · exact ⟨⟨by omega, by omega⟩, ⟨by show -2147483648 ≤ S 2; omega, by show S 2 < 2147483648; omega⟩⟩
  · exact ⟨⟨by omega, by omega⟩, ⟨by show -2147483648 ≤ S 3; omega, by show S 3 < 2147483648; omega⟩⟩
