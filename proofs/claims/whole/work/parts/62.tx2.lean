/-! the reader's commands, each by what the model says of it -/
theorem wrongIn_w {T : Int → Int} {n p lo hi : Int} (h : wrongIn T n p lo hi ≠ -1) : wrongIn T n p lo hi = p ∨ wrongIn T n p lo hi = p + 1 := by
  unfold wrongIn at h ⊢
  split
  · exact Or.inl rfl
  · rename_i q
    rw [if_neg q] at h
    split
    · rename_i q2
      rw [if_pos q2] at h
      exact absurd rfl h
    · exact Or.inr rfl
theorem nm_iff {T : Int → Int} {n p lo hi : Int} (hp : 0 ≤ p) (hl : 0 ≤ lo) : (nmD T n p lo hi = -1 ↔ wrongIn T n p lo hi ≠ -1) ∧ (wrongIn T n p lo hi = -1 → nmD T n p lo hi = numb T n p ∧ nmP T n p lo hi = p + 2 ∧ lo ≤ numb T n p ∧ numb T n p ≤ hi) ∧ (wrongIn T n p lo hi ≠ -1 → nmP T n p lo hi = wrongIn T n p lo hi) ∧ p ≤ nmP T n p lo hi ∧ nmP T n p lo hi ≤ p + 2 ∧ -1 ≤ nmD T n p lo hi ∧ nmD T n p lo hi ≤ 99 := by
  have hn := numb_r (T := T) (n := n) (p := p)
  unfold nmD nmP
  by_cases h : wrongIn T n p lo hi = -1
  · have hok := wrongIn_ok hp h
    rw [if_pos h, if_pos h]
    refine ⟨⟨fun q => by omega, fun q => absurd h q⟩, fun _ => ⟨rfl, rfl, hok.1, hok.2.1⟩, fun q => absurd h q, by omega, by omega, by omega, by omega⟩
  · have hw := wrongIn_w h
    rw [if_neg h, if_neg h]
    refine ⟨⟨fun q => h, fun q => rfl⟩, fun q => absurd q h, fun q => rfl, by omega, by omega, by omega, by omega⟩
def wrQ (T : Int → Int) (n p pl : Int) : Int := if wrongIn T n (p + 1) 0 (pl - 1) ≠ -1 then wrongIn T n (p + 1) 0 (pl - 1) else wrongIn T n (p + 3) (numb T n (p + 1)) (pl - 1)
def qP (T : Int → Int) (n p pl : Int) : Int := if wrQ T n p pl = -1 then p + 5 else wrQ T n p pl
def qW (T : Int → Int) (n p : Int) (S : Int → Int) : Prop := S 1 ≤ numb T n (p + 3) - numb T n (p + 1) + 1
def qS (T : Int → Int) (n p : Int) (S : Int → Int) : Int → Int := if wrQ T n p (S 0) = -1 then (if S 1 ≤ numb T n (p + 3) - numb T n (p + 1) + 1 then askd S (numb T n (p + 1)) (numb T n (p + 3)) else S) else S
def qL (T : Int → Int) (n p : Int) (S : Int → Int) (l : Int) : Int := if wrQ T n p (S 0) = -1 then (if ¬ (S 1 ≤ numb T n (p + 3) - numb T n (p + 1) + 1) then l + 1 else l) else l
def rcP (T : Int → Int) (n p pl : Int) : Int := if wrongC T n p pl = -1 then p + lenAt T p else wrongC T n p pl
def rcS (T : Int → Int) (n p : Int) (S : Int → Int) : Int → Int := if wrongC T n p (S 0) = -1 then ldS T n p S else S
def rcL (T : Int → Int) (n p : Int) (S : Int → Int) (l : Int) : Int := if wrongC T n p (S 0) = -1 then ldK T n p S l else l
/-! a question whose places can't be read -/
theorem q_no1 {T : Int → Int} {n p : Int} {S : Int → Int} {l : Int} (h : wrongIn T n (p + 1) 0 (S 0 - 1) ≠ -1) (hp : 0 ≤ p) : wrQ T n p (S 0) = wrongIn T n (p + 1) 0 (S 0 - 1) ∧ wrQ T n p (S 0) ≠ -1 ∧ qP T n p (S 0) = nmP T n (p + 1) 0 (S 0 - 1) ∧ qS T n p S = S ∧ qL T n p S l = l := by
  have e : wrQ T n p (S 0) = wrongIn T n (p + 1) 0 (S 0 - 1) := if_pos h
  have e2 : wrQ T n p (S 0) ≠ -1 := by rw [e]; exact h
  refine ⟨e, e2, ?_, if_neg e2, if_neg e2⟩
  unfold qP
  rw [if_neg e2, e]
  exact ((nm_iff (by omega) (by omega)).2.2.1 h).symm
theorem q_no2 {T : Int → Int} {n p : Int} {S : Int → Int} {l : Int} (h : wrongIn T n (p + 1) 0 (S 0 - 1) = -1) (h2 : wrongIn T n (p + 3) (numb T n (p + 1)) (S 0 - 1) ≠ -1) (hp : 0 ≤ p) : wrQ T n p (S 0) ≠ -1 ∧ qP T n p (S 0) = nmP T n (p + 3) (numb T n (p + 1)) (S 0 - 1) ∧ qS T n p S = S ∧ qL T n p S l = l := by
  have e : wrQ T n p (S 0) = wrongIn T n (p + 3) (numb T n (p + 1)) (S 0 - 1) := if_neg (by omega)
  have e2 : wrQ T n p (S 0) ≠ -1 := by rw [e]; exact h2
  have hb := (nm_iff (T := T) (n := n) (p := p + 1) (lo := 0) (hi := S 0 - 1) (by omega) (by omega)).2.1 h
  refine ⟨e2, ?_, if_neg e2, if_neg e2⟩
  unfold qP
  rw [if_neg e2, e]
  exact ((nm_iff (by omega) (by omega)).2.2.1 h2).symm
theorem q_yes {T : Int → Int} {n p : Int} {S : Int → Int} {l : Int} (h : wrongIn T n (p + 1) 0 (S 0 - 1) = -1) (h2 : wrongIn T n (p + 3) (numb T n (p + 1)) (S 0 - 1) = -1) : wrQ T n p (S 0) = -1 ∧ qP T n p (S 0) = p + 5 ∧ (S 1 ≤ numb T n (p + 3) - numb T n (p + 1) + 1 → qS T n p S = askd S (numb T n (p + 1)) (numb T n (p + 3)) ∧ qL T n p S l = l) ∧ (¬ S 1 ≤ numb T n (p + 3) - numb T n (p + 1) + 1 → qS T n p S = S ∧ qL T n p S l = l + 1) := by
  have e : wrQ T n p (S 0) = -1 := (if_neg (by omega)).trans h2
  unfold qP qS qL
  rw [if_pos e, if_pos e, if_pos e]
  refine ⟨e, rfl, fun q => ⟨if_pos q, if_neg (not_not_intro q)⟩, fun q => ⟨if_neg q, if_pos q⟩⟩
theorem wrQ_ok {T : Int → Int} {n p pl : Int} (h : wrQ T n p pl = -1) : wrongIn T n (p + 1) 0 (pl - 1) = -1 ∧ wrongIn T n (p + 3) (numb T n (p + 1)) (pl - 1) = -1 := by
  unfold wrQ at h
  split at h
  · exact absurd h (by assumption)
  · exact ⟨by omega, h⟩
/-! the command at a place, by its letter -/
theorem rc_k {T : Int → Int} {n p : Int} {S : Int → Int} {l : Int} (h : T p = 107) (hp : 0 ≤ p) : (wrongC T n p (S 0) = wrongIn T n (p + 1) 0 (S 0 - 1)) ∧ rcP T n p (S 0) = nmP T n (p + 1) 0 (S 0 - 1) ∧ rcS T n p S = (if wrongIn T n (p + 1) 0 (S 0 - 1) = -1 then wr S (numb T n (p + 1)) 1 else S) ∧ rcL T n p S l = l := by
  have e : wrongC T n p (S 0) = wrongIn T n (p + 1) 0 (S 0 - 1) := if_pos h
  have e2 : lenAt T p = 3 := if_pos h
  have e3 : ldS T n p S = wr S (numb T n (p + 1)) 1 := if_pos h
  have e4 : ldK T n p S l = l := if_neg (by omega)
  unfold rcP rcS rcL nmP
  rw [e, e2, e3, e4]
  refine ⟨rfl, ?_, rfl, ?_⟩
  · split <;> omega
  · split <;> rfl
theorem rc_q {T : Int → Int} {n p : Int} {S : Int → Int} {l : Int} (h : T p = 113) : wrongC T n p (S 0) = wrQ T n p (S 0) ∧ rcP T n p (S 0) = qP T n p (S 0) ∧ rcS T n p S = qS T n p S ∧ rcL T n p S l = qL T n p S l := by
  have e : wrongC T n p (S 0) = wrQ T n p (S 0) := (if_neg (by omega)).trans (if_pos h)
  have e2 : lenAt T p = 5 := (if_neg (by omega)).trans (if_pos h)
  have e3 : ldS T n p S = (if S 1 ≤ numb T n (p + 3) - numb T n (p + 1) + 1 then askd S (numb T n (p + 1)) (numb T n (p + 3)) else S) := (if_neg (by omega)).trans (if_neg (by omega))
  have e4 : ldK T n p S l = (if ¬ (S 1 ≤ numb T n (p + 3) - numb T n (p + 1) + 1) then l + 1 else l) := by
    unfold ldK
    by_cases q : S 1 ≤ numb T n (p + 3) - numb T n (p + 1) + 1
    · rw [if_neg (by omega), if_neg (by omega)]
    · rw [if_pos (by omega), if_pos q]
  unfold rcP rcS rcL qP qS qL
  rw [e, e2, e3, e4]
  exact ⟨rfl, rfl, rfl, rfl⟩
theorem rc_g {T : Int → Int} {n p w low high : Int} {S : Int → Int} {l : Int} (h : (T p = 119 ∧ w = 0 ∧ low = 1 ∧ high = 8) ∨ (T p = 115 ∧ w = 1 ∧ low = 0 ∧ high = 4) ∨ (T p = 102 ∧ w = 2 ∧ low = 0 ∧ high = 9)) (hp : 0 ≤ p) : (wrongC T n p (S 0) = -1 ↔ (low ≤ digit T n (p + 1) ∧ digit T n (p + 1) ≤ high)) ∧ rcP T n p (S 0) = rdP T n (p + 1) low high ∧ rcS T n p S = (if low ≤ digit T n (p + 1) ∧ digit T n (p + 1) ≤ high then setg S w (digit T n (p + 1)) else S) ∧ rcL T n p S l = l := by
  have hd := digit_r (T := T) (n := n) (p := p + 1)
  have e : wrongC T n p (S 0) = if low ≤ digit T n (p + 1) ∧ digit T n (p + 1) ≤ high then -1 else p + 1 := by
    unfold wrongC
    rcases h with ⟨h1, rfl, rfl, rfl⟩ | ⟨h1, rfl, rfl, rfl⟩ | ⟨h1, rfl, rfl, rfl⟩
    · rw [if_neg (by omega), if_neg (by omega), if_pos h1]
    · rw [if_neg (by omega), if_neg (by omega), if_neg (by omega), if_pos h1]
    · rw [if_neg (by omega), if_neg (by omega), if_neg (by omega), if_neg (by omega), if_neg (by omega)]
      by_cases q : 0 ≤ digit T n (p + 1)
      · rw [if_pos q, if_pos (by omega)]
      · rw [if_neg q, if_neg (by omega)]
  have e2 : lenAt T p = 2 := (if_neg (by omega)).trans (if_neg (by omega))
  have e3 : ldS T n p S = setg S w (digit T n (p + 1)) := by
    unfold ldS
    rcases h with ⟨h1, rfl, rfl, rfl⟩ | ⟨h1, rfl, rfl, rfl⟩ | ⟨h1, rfl, rfl, rfl⟩
    · rw [if_neg (by omega), if_pos (by omega), if_pos h1]
    · rw [if_neg (by omega), if_pos (by omega), if_neg (by omega), if_pos h1]
    · rw [if_neg (by omega), if_pos (by omega), if_neg (by omega), if_neg (by omega)]
  have e4 : ldK T n p S l = l := if_neg (by omega)
  unfold rcP rcS rcL rdP
  rw [e, e2, e3, e4]
  by_cases q : low ≤ digit T n (p + 1) ∧ digit T n (p + 1) ≤ high
  · rw [if_pos q]
    refine ⟨⟨fun _ => q, fun _ => rfl⟩, ?_, ?_, ?_⟩ <;> simp [q]
    omega
  · rw [if_neg q]
    have h9 : ¬ (p + 1 = -1) := by omega
    refine ⟨⟨fun z => absurd z h9, fun z => absurd z q⟩, ?_, ?_, ?_⟩ <;> simp only [if_neg h9, if_neg q]
theorem rc_o {T : Int → Int} {n p : Int} {S : Int → Int} {l : Int} (h : T p ≠ 102 ∧ T p ≠ 107 ∧ T p ≠ 113 ∧ T p ≠ 115 ∧ T p ≠ 119) (hp : 0 ≤ p) : wrongC T n p (S 0) ≠ -1 ∧ rcP T n p (S 0) = p ∧ rcS T n p S = S ∧ rcL T n p S l = l := by
  have e : wrongC T n p (S 0) = p := by
    unfold wrongC
    rw [if_neg (by omega), if_neg (by omega), if_neg (by omega), if_neg (by omega), if_pos (by omega)]
  unfold rcP rcS rcL
  rw [e, if_neg (by omega), if_neg (by omega), if_neg (by omega)]
  exact ⟨by omega, rfl, rfl, rfl⟩
theorem lenAt_s {T : Int → Int} {p : Int} : 2 ≤ lenAt T p ∧ lenAt T p ≤ 5 := by
  unfold lenAt
  split
  · omega
  · split <;> omega
theorem inv_ldS {T : Int → Int} {n p : Int} {S : Int → Int} (hI : Inv S) (hp : 0 ≤ p) (h : wrongC T n p (S 0) = -1) : Inv (ldS T n p S) ∧ ldS T n p S 0 = S 0 := by
  obtain ⟨h1, h2, h3, h4, h5⟩ := wrongC_ok hp h
  have hpl := hI.pl
  have hd := digit_r (T := T) (n := n) (p := p + 1)
  unfold ldS
  by_cases q1 : T p = 107
  · have := h1 q1
    rw [if_pos q1]
    exact ⟨inv_wr hI (by omega) (by omega), wr_0 hI (by omega) (by omega)⟩
  · rw [if_neg q1]
    by_cases q2 : T p = 113
    · have := h2 q2
      rw [if_neg (by omega)]
      split
      · exact ⟨inv_askd hI (by omega), askd_0 hI⟩
      · exact ⟨hI, rfl⟩
    · rw [if_pos q2]
      by_cases q3 : T p = 119
      · have := h3 q3
        rw [if_pos q3]
        exact ⟨inv_setg hI (Or.inl (by omega)), setg_0 (by omega)⟩
      · rw [if_neg q3]
        by_cases q4 : T p = 115
        · have := h4 q4
          rw [if_pos q4]
          exact ⟨inv_setg hI (Or.inr (Or.inl (by omega))), setg_0 (by omega)⟩
        · have := h5 q1 q2 q3 q4
          rw [if_neg q4]
          exact ⟨inv_setg hI (Or.inr (Or.inr (by omega))), setg_0 (by omega)⟩
/-! the loop over the commands -/
theorem fe_n {T : Int → Int} {n pl p : Int} {k k' : Nat} (hk : k = k' + 1) (hp : p < n) : fe T n pl k p (-1) = fe T n pl k' (p + lenAt T p) (wrongC T n p pl) := by
  subst hk
  exact if_pos ⟨hp, rfl⟩
theorem fe_x {T : Int → Int} {n pl : Int} : ∀ (k : Nat) {p w : Int}, w ≠ -1 → fe T n pl k p w = w
  | 0, _, _, _ => rfl
  | k + 1, p, w, h => if_neg (fun q => h q.2)
theorem fe_z {T : Int → Int} {n pl p : Int} : ∀ (k : Nat), ¬ p < n → fe T n pl k p (-1) = -1
  | 0, _ => rfl
  | k + 1, h => if_neg (fun q => h q.1)
theorem findE_0 {T : Int → Int} {n : Int} (hn : 0 ≤ n) (h : sgn T n 0 ≠ 75) : findE T n = 0 := by
  unfold sgn at h
  unfold findE
  by_cases q : (0 : Int) < n
  · rw [if_pos q] at h
    rw [if_pos (Or.inr h)]
  · rw [if_pos (Or.inl (by omega))]
theorem findE_s {T : Int → Int} {n : Int} (h : sgn T n 0 = 75) : 0 < n ∧ findE T n = fe T n (numb T n 1) 100 3 (wrongIn T n 1 8 40) := by
  unfold sgn at h
  unfold findE
  by_cases q : (0 : Int) < n
  · rw [if_pos q] at h
    exact ⟨q, if_neg (by omega)⟩
  · rw [if_neg q] at h
    omega
theorem nar_n : ∀ n, n < 256 → vp_nar .char (nI n) = nI n := by decide +kernel
theorem i2c_n : ∀ n, n < 256 → ((nI n).toUInt32 % 65536).toInt32 = nI n := by decide +kernel
theorem nar_c {z : Int} (h : 0 ≤ z ∧ z ≤ 255) : vp_nar .char (iI z) = iI z := by
  have := nar_n z.toNat (by omega)
  rw [nI_iI, show ((z.toNat : Nat) : Int) = z by omega] at this
  exact this
theorem i2c_c {z : Int} (h : 0 ≤ z ∧ z ≤ 255) : ((iI z).toUInt32 % 65536).toInt32 = iI z := by
  have := i2c_n z.toNat (by omega)
  rw [nI_iI, show ((z.toNat : Nat) : Int) = z by omega] at this
  exact this
