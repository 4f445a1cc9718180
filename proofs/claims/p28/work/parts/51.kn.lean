/-! what is known: the class's matrix against the model's -/
def Ek (E r : Int → Int) (pl : Int) : Prop := ∀ x y, 0 ≤ x → x ≤ pl → 0 ≤ y → y ≤ pl → E (x * 41 + y) = r (41 * x + y)
theorem kCnt_mono {r : Int → Int} {k : Nat} : ∀ n : Nat, k ≤ n → kCnt r k ≤ kCnt r n
  | 0, h => by rw [show k = 0 by omega]; omega
  | n + 1, h => by
    by_cases e : k = n + 1
    · rw [e]; omega
    · have ih := kCnt_mono (r := r) n (show k ≤ n by omega)
      show kCnt r k ≤ kCnt r n + (if knownOf r n ≠ -1 then 1 else 0)
      split <;> omega
theorem kAt_found {r : Int → Int} {i : Int} {k : Nat} (h : knownOf r k ≠ -1) (hk : kCnt r k = i) : ∀ n : Nat, k < n → kAt r i n = k
  | 0, h0 => by omega
  | n + 1, h0 => by
    show (if knownOf r n ≠ -1 ∧ kCnt r n = i then (n : Int) else kAt r i n) = k
    by_cases e : k = n
    · subst e
      rw [if_pos ⟨h, hk⟩]
    · have h1 : kCnt r (k + 1) = kCnt r k + 1 := by
        show kCnt r k + (if knownOf r k ≠ -1 then 1 else 0) = _
        rw [if_pos h]
      have h2 := kCnt_mono (r := r) n (show k + 1 ≤ n by omega)
      rw [if_neg (fun q => by omega)]
      exact kAt_found h hk n (by omega)
def xb (r : Int → Int) (x y f t few many : Int) : Int := min (r (41 * x + y)) (min (r (41 * x + f) + many + r (41 * t + y)) (r (41 * x + t) - few + r (41 * f + y)))
def cbN (r : Int → Int) (a b few many : Int) : Nat → Int
  | 0 => 0
  | n + 1 => cbN r a b few many n + (if xb r n (n + 1) a (b + 1) few many = -xb r (n + 1) n a (b + 1) few many then 1 else 0)
theorem xb_r {r : Int → Int} (h : GB r) {x y f t few many : Int} (hx : 0 ≤ x ∧ x ≤ 40 ∧ 0 ≤ y ∧ y ≤ 40 ∧ 0 ≤ f ∧ f ≤ 40 ∧ 0 ≤ t ∧ t ≤ 40) (hm : -1000 ≤ few ∧ few ≤ 1000 ∧ -1000 ≤ many ∧ many ≤ 1000) : -10000 ≤ xb r x y f t few many ∧ xb r x y f t few many ≤ 1000 := by
  have h1 := h (41 * x + y) (by omega) (by omega)
  have h2 := h (41 * x + f) (by omega) (by omega)
  have h3 := h (41 * t + y) (by omega) (by omega)
  have h4 := h (41 * x + t) (by omega) (by omega)
  have h5 := h (41 * f + y) (by omega) (by omega)
  unfold xb
  omega
theorem cbN_r {r : Int → Int} {a b few many : Int} : ∀ n : Nat, 0 ≤ cbN r a b few many n ∧ cbN r a b few many n ≤ n
  | 0 => by show (0 : Int) ≤ 0 ∧ (0 : Int) ≤ 0; omega
  | n + 1 => by
    have ih := cbN_r (r := r) (a := a) (b := b) (few := few) (many := many) n
    show 0 ≤ cbN r a b few many n + (if _ then 1 else 0) ∧ cbN r a b few many n + (if _ then 1 else 0) ≤ ((n + 1 : Nat) : Int)
    split <;> omega
/-- row x by a way through via -/
def rowS (r : Int → Int) (x via way : Int) : Int → Int := fun z => if z / 41 = x then min (r z) (way + r (41 * via + z % 41)) else r z
theorem rowS_at {r : Int → Int} {x via way u w : Int} (hw : 0 ≤ w ∧ w < 41) : rowS r x via way (41 * u + w) = if u = x then min (r (41 * u + w)) (way + r (41 * via + w)) else r (41 * u + w) := by
  unfold rowS
  rw [show (41 * u + w) / 41 = u by omega, show (41 * u + w) % 41 = w by omega]
/-- the rows ahead of x with the new bound, the others without -/
def mixR (r : Int → Int) (f t w x : Int) : Int → Int := fun z => if z / 41 < x then bnd r f t w z else r z
theorem mixR_at {r : Int → Int} {f t w x u v : Int} (hv : 0 ≤ v ∧ v < 41) : mixR r f t w x (41 * u + v) = if u < x then bnd r f t w (41 * u + v) else r (41 * u + v) := by
  unfold mixR
  rw [show (41 * u + v) / 41 = u by omega]
/-- shortest ways: no way through a point is shorter, and none of length below 0 goes round -/
def Tri (r : Int → Int) (pl : Int) : Prop := (∀ x y z, 0 ≤ x → x ≤ pl → 0 ≤ y → y ≤ pl → 0 ≤ z → z ≤ pl → r (41 * x + z) ≤ r (41 * x + y) + r (41 * y + z)) ∧ ∀ x, 0 ≤ x → x ≤ pl → r (41 * x + x) = 0
theorem tri_b0 {pl : Int} (hp : 0 ≤ pl ∧ pl ≤ 40) : Tri (b0 pl) pl := by
  refine ⟨fun x y z h0 h1 h2 h3 h4 h5 => ?_, fun x h0 h1 => ?_⟩
  · rw [b0_at (by omega) (by omega), b0_at (by omega) (by omega), b0_at (by omega) (by omega)]
    repeat' split
    all_goals omega
  · rw [b0_at (by omega) (by omega)]
    repeat' split
    all_goals omega
theorem tri_bnd {r : Int → Int} {pl f t w : Int} (hp : 0 ≤ pl ∧ pl ≤ 40) (h : Tri r pl) (hf : 0 ≤ f ∧ f ≤ pl) (ht : 0 ≤ t ∧ t ≤ pl) (hc : 0 ≤ w + r (41 * t + f)) : Tri (bnd r f t w) pl := by
  refine ⟨fun x y z h0 h1 h2 h3 h4 h5 => ?_, fun x h0 h1 => ?_⟩
  · rw [bnd_at (by omega) (by omega), bnd_at (by omega) (by omega), bnd_at (by omega) (by omega)]
    have a1 := h.1 x y z h0 h1 h2 h3 h4 h5
    have a2 := h.1 x y f h0 h1 h2 h3 hf.1 hf.2
    have a3 := h.1 t y z ht.1 ht.2 h2 h3 h4 h5
    have a4 := h.1 t y f ht.1 ht.2 h2 h3 hf.1 hf.2
    omega
  · rw [bnd_at (by omega) (by omega)]
    have a1 := h.2 x h0 h1
    have a2 := h.1 t x f ht.1 ht.2 h0 h1 hf.1 hf.2
    omega

theorem gb_mix {r : Int → Int} {f t w x : Int} (h : GB r) (h2 : GB (bnd r f t w)) : GB (mixR r f t w x) := by
  intro z h0 h1
  unfold mixR
  split
  · exact h2 z h0 h1
  · exact h z h0 h1
theorem ek_mixS {E r : Int → Int} {pl f t w x way : Int} (hx : 0 ≤ x ∧ x ≤ pl ∧ pl ≤ 40 ∧ 0 ≤ t ∧ t ≤ pl ∧ 0 ≤ f ∧ f ≤ pl) (hne : t > x ∨ t < x) (hw : way = r (41 * x + f) + w) (hb : ∀ y, 0 ≤ y → y ≤ pl → mixR r f t w x (41 * t + y) = r (41 * t + y)) (h : Ek E (rowS (mixR r f t w x) x t way) pl) : Ek E (mixR r f t w (x + 1)) pl := by
  intro u v h0 h1 h2 h3
  rw [h u v h0 h1 h2 h3, rowS_at (by omega), hb v h2 h3, mixR_at (by omega), mixR_at (by omega)]
  by_cases e : u = x
  · subst e
    rw [if_pos rfl, if_neg (by omega), if_pos (by omega), bnd_at (by omega) (by omega), hw]
  · rw [if_neg e]
    split <;> split <;> first | rfl | (exfalso; omega)
theorem ek_mixN {E r : Int → Int} {pl f t w x : Int} (hx : 0 ≤ x ∧ x ≤ pl ∧ pl ≤ 40 ∧ 0 ≤ t ∧ t ≤ pl ∧ 0 ≤ f ∧ f ≤ pl) (hw : r (41 * x + t) ≤ r (41 * x + f) + w) (hT : Tri r pl) (h : Ek E (mixR r f t w x) pl) : Ek E (mixR r f t w (x + 1)) pl := by
  intro u v h0 h1 h2 h3
  rw [h u v h0 h1 h2 h3, mixR_at (by omega), mixR_at (by omega)]
  by_cases e : u = x
  · subst e
    rw [if_neg (by omega), if_pos (by omega), bnd_at (by omega) (by omega)]
    have a := hT.1 u t v h0 h1 hx.2.2.2.1 hx.2.2.2.2.1 h2 h3
    omega
  · split <;> split <;> first | rfl | (exfalso; omega)
theorem mix_t {r : Int → Int} {pl f t w x : Int} (hp : pl ≤ 40) (hf : 0 ≤ f ∧ f ≤ pl) (ht : 0 ≤ t ∧ t ≤ pl) (hT : Tri r pl) (hc : 0 ≤ w + r (41 * t + f)) : ∀ y, 0 ≤ y → y ≤ pl → mixR r f t w x (41 * t + y) = r (41 * t + y) := by
  intro y h0 h1
  rw [mixR_at (by omega)]
  split
  · rw [bnd_at (by omega) (by omega)]
    have a := hT.1 t f y ht.1 ht.2 hf.1 hf.2 h0 h1
    have b := hT.2 t ht.1 ht.2
    have c := hT.1 t t y ht.1 ht.2 ht.1 ht.2 h0 h1
    omega
  · rfl

/-- a way with nothing to gain -/
theorem ek_noop {E r : Int → Int} {pl f t w : Int} (hp : 0 ≤ pl ∧ pl ≤ 40) (hf : 0 ≤ f ∧ f ≤ pl) (ht : 0 ≤ t ∧ t ≤ pl) (hT : Tri r pl) (hw : r (41 * f + t) ≤ w) (h : Ek E (bnd r f t w) pl) : Ek E r pl := by
  intro x y h0 h1 h2 h3
  rw [h x y h0 h1 h2 h3, bnd_at (by omega) (by omega)]
  have a1 := hT.1 x f y h0 h1 hf.1 hf.2 h2 h3
  have a2 := hT.1 f t y hf.1 hf.2 ht.1 ht.2 h2 h3
  omega
theorem tri_fb {S : Int → Int} (hI : Inv S) (wo : Int) : ∀ n : Nat, (n : Int) ≤ S 4 → Tri (fb S wo n) (S 0)
  | 0, _ => tri_b0 (by have := hI.pl; omega)
  | n + 1, h => by
    have ih := tri_fb hI wo n (by omega)
    have hp := hI.pl
    have hn : (n : Int) < S 4 := by omega
    obtain ⟨h1, h2, h3, h4⟩ := ans_w hI (n := n) (by omega) hn
    have ha := hI.ans (i := n) (by omega) hn
    have q5 := fb_h5 hI wo hn
    have q6 := fb_h6 hI wo hn
    show Tri (if (n : Int) = wo then fb S wo n else bndA (fb S wo n) (an S n 0) (an S n 1) (an S n 2) (S 2)) (S 0)
    split
    · exact ih
    · unfold bndA
      split
      · next e =>
        rw [if_pos e] at q5
        exact tri_bnd (by omega) ih (by omega) (by omega) q5
      · next e =>
        rw [if_neg e] at q5
        exact tri_bnd (by omega) (tri_bnd (by omega) ih (by omega) (by omega) q5) (by omega) (by omega) (q6 e).2
