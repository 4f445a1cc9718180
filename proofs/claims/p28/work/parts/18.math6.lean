/-! loading a text -/
def ldS (T : Int → Int) (n p : Int) (S : Int → Int) : Int → Int :=
  if T p = 107 then wr S (numb T n (p + 1)) 1
  else if T p ≠ 113 then setg S (if T p = 119 then 0 else if T p = 115 then 1 else 2) (digit T n (p + 1))
  else if S 1 ≤ numb T n (p + 3) - numb T n (p + 1) + 1 then askd S (numb T n (p + 1)) (numb T n (p + 3)) else S
def ldK (T : Int → Int) (n p : Int) (S : Int → Int) (l : Int) : Int := if T p = 113 ∧ ¬ (S 1 ≤ numb T n (p + 3) - numb T n (p + 1) + 1) then l + 1 else l
def ldL (T : Int → Int) (n : Int) : Nat → Int → (Int → Int) → Int → (Int → Int) × Int
  | 0, _, S, l => (S, l)
  | k + 1, p, S, l => if p < n then ldL T n k (p + lenAt T p) (ldS T n p S) (ldK T n p S l) else (S, l)
def ldAll (T : Int → Int) (n : Int) : (Int → Int) × Int := ldL T n 100 3 (newS (numb T n 1)) 0
theorem ld_s {T : Int → Int} {n p l : Int} {S : Int → Int} {k k' : Nat} (h : k = k' + 1) (hp : p < n) : ldL T n k p S l = ldL T n k' (p + lenAt T p) (ldS T n p S) (ldK T n p S l) := by
  subst h
  show (if _ then _ else _) = _
  rw [if_pos hp]
theorem ld_e {T : Int → Int} {n p l : Int} {S : Int → Int} {k : Nat} (hp : ¬ p < n) : ldL T n k p S l = (S, l) := by
  cases k with
  | zero => rfl
  | succ k => show (if _ then _ else _) = _; rw [if_neg hp]
theorem fe_w {T : Int → Int} {n pl : Int} : ∀ (k : Nat) {p w : Int}, fe T n pl k p w = -1 → w = -1
  | 0, p, w, h => h
  | k + 1, p, w, h => by
    unfold fe at h
    split at h
    · rename_i q
      exact q.2
    · exact h
theorem fe_s {T : Int → Int} {n pl p : Int} {k k' : Nat} (h : fe T n pl k p (-1) = -1) (hk : k = k' + 1) (hp : p < n) : wrongC T n p pl = -1 ∧ fe T n pl k' (p + lenAt T p) (-1) = -1 := by
  subst hk
  have h2 : fe T n pl k' (p + lenAt T p) (wrongC T n p pl) = -1 := by
    have : (if p < n ∧ (-1 : Int) = -1 then fe T n pl k' (p + lenAt T p) (wrongC T n p pl) else -1) = -1 := h
    rw [if_pos ⟨hp, rfl⟩] at this
    exact this
  have h3 := fe_w _ h2
  rw [h3] at h2
  exact ⟨h3, h2⟩
theorem wrongIn_ok {T : Int → Int} {n p lo hi : Int} (hp : 0 ≤ p) (h : wrongIn T n p lo hi = -1) : lo ≤ numb T n p ∧ numb T n p ≤ hi ∧ 0 ≤ digit T n p ∧ 0 ≤ digit T n (p + 1) := by
  unfold wrongIn at h
  split at h
  · omega
  · split at h
    · omega
    · omega
theorem findE_ok {T : Int → Int} {n : Int} (h : findE T n = -1) : (8 ≤ numb T n 1 ∧ numb T n 1 ≤ 40) ∧ fe T n (numb T n 1) 100 3 (-1) = -1 := by
  unfold findE at h
  split at h
  · omega
  · have h1 := fe_w _ h
    have h2 := wrongIn_ok (by omega) h1
    rw [h1] at h
    exact ⟨⟨h2.1, h2.2.1⟩, h⟩
theorem wrongC_ok {T : Int → Int} {n p pl : Int} (hp : 0 ≤ p) (h : wrongC T n p pl = -1) : (T p = 107 → 0 ≤ numb T n (p + 1) ∧ numb T n (p + 1) ≤ pl - 1) ∧ (T p = 113 → 0 ≤ numb T n (p + 1) ∧ numb T n (p + 1) ≤ numb T n (p + 3) ∧ numb T n (p + 3) ≤ pl - 1) ∧ (T p = 119 → 1 ≤ digit T n (p + 1) ∧ digit T n (p + 1) ≤ 8) ∧ (T p = 115 → 0 ≤ digit T n (p + 1) ∧ digit T n (p + 1) ≤ 4) ∧ (T p ≠ 107 → T p ≠ 113 → T p ≠ 119 → T p ≠ 115 → T p = 102 ∧ 0 ≤ digit T n (p + 1)) := by
  unfold wrongC at h
  split at h
  · have := wrongIn_ok (by omega) h
    refine ⟨fun _ => ⟨this.1, this.2.1⟩, ?_, ?_, ?_, ?_⟩ <;> intros <;> omega
  · split at h
    · split at h
      · have := wrongIn_r (T := T) (n := n) (p := p + 1) (lo := 0) (hi := pl - 1) (by omega)
        omega
      · rename_i q
        have h1 := wrongIn_ok (T := T) (n := n) (p := p + 1) (lo := 0) (hi := pl - 1) (by omega) (by omega)
        have h2 := wrongIn_ok (by omega) h
        refine ⟨?_, fun _ => ⟨h1.1, h2.1, h2.2.1⟩, ?_, ?_, ?_⟩ <;> intros <;> omega
    · split at h
      · split at h
        · refine ⟨?_, ?_, ?_, ?_, ?_⟩ <;> intros <;> omega
        · omega
      · split at h
        · split at h
          · refine ⟨?_, ?_, ?_, ?_, ?_⟩ <;> intros <;> omega
          · omega
        · split at h
          · omega
          · split at h
            · refine ⟨?_, ?_, ?_, ?_, ?_⟩ <;> intros <;> omega
            · omega
theorem wr_0 {S : Int → Int} (hI : Inv S) {i v : Int} (hi : 0 ≤ i ∧ i < S 0) (hv : 0 ≤ v ∧ v ≤ 1) : wr S i v 0 = S 0 := by
  rw [(wr_all hI hi hv).2 0 (by omega) (by omega) (by omega) (by omega), up_n (by omega)]
theorem setg_0 {S : Int → Int} {w v : Int} (h : 0 ≤ w) : setg S w v 0 = S 0 := by
  unfold setg
  split
  · rw [forgetA_k (by omega) (by omega), up_n (by omega)]
  · rw [up_n (by omega)]
theorem askd_0 {S : Int → Int} (hI : Inv S) {a b : Int} : askd S a b 0 = S 0 := by
  have hna := hI.na
  have hb := aboutI_b (S := S) (a := a) (b := b) hna.1
  have hR := (inv_room hI).1.na
  unfold askd
  split
  · rw [askat_k (by omega) (by omega) (by omega) (by omega), up_n (by omega)]
    exact room_k (by omega) (by omega) (by omega)
  · exact askat_k (by omega) (by omega) (by omega) (by omega)
theorem ld_h2 {S : Int → Int} (hI : Inv S) {w v : Int} (hw : 0 ≤ w ∧ w ≤ 2) (hv : -100 ≤ v ∧ v ≤ 100) : inR v ∧ inR (S (1 + w)) := by
  have h1 := hI.wi
  have h2 := hI.se
  have h3 := hI.fe
  rcases (show w = 0 ∨ w = 1 ∨ w = 2 by omega) with rfl | rfl | rfl
  · exact ⟨⟨by omega, by omega⟩, ⟨by show -2147483648 ≤ S 1; omega, by show S 1 < 2147483648; omega⟩⟩
  · exact ⟨⟨by omega, by omega⟩, ⟨by show -2147483648 ≤ S 2; omega, by show S 2 < 2147483648; omega⟩⟩
  · exact ⟨⟨by omega, by omega⟩, ⟨by show -2147483648 ≤ S 3; omega, by show S 3 < 2147483648; omega⟩⟩
theorem fe_r {T : Int → Int} {n pl : Int} (hn : n ≤ 100) : ∀ (k : Nat) (p w : Int), 0 ≤ p → -1 ≤ w ∧ w ≤ 200 → -1 ≤ fe T n pl k p w ∧ fe T n pl k p w ≤ 200
  | 0, _, _, _, h => h
  | k + 1, p, w, hp, h => by
    unfold fe
    split
    · have h1 := wrongC_r (T := T) (n := n) (p := p) (pl := pl) hp
      have h2 := lenAt_r (T := T) (p := p)
      exact fe_r hn k _ _ (by omega) (by omega)
    · exact h
theorem findE_r {T : Int → Int} {n : Int} (hn : n ≤ 100) : -1 ≤ findE T n ∧ findE T n ≤ 200 := by
  have h1 := wrongIn_r (T := T) (n := n) (p := 1) (lo := 8) (hi := 40) (by omega)
  have h2 := fe_r (T := T) (pl := numb T n 1) hn 100 3 (wrongIn T n 1 8 40) (by omega) (by omega)
  unfold findE
  split
  · omega
  · exact h2
