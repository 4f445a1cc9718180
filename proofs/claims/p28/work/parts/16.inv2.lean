/-! the invariant is kept -/
theorem told_c {S S2 : Int → Int} {a b : Int} (h0 : 0 ≤ a) (h1 : b < 40) (h : ∀ z, 8 ≤ z → z < 48 → S2 z = S z) (h2 : S2 2 = S 2) : told S2 a b = told S a b := by
  unfold told
  rw [keysIn_c h0 h1 h, h2]
/-- a state with the same drive, whose answers are some of the old ones or a new one -/
theorem inv_mk {S S2 : Int → Int} (hI : Inv S) (hk : ∀ z, 0 ≤ z → z < 48 → z ≠ 4 → z ≠ 5 → z ≠ 6 → z ≠ 7 → S2 z = S z) (h4 : 0 ≤ S2 4 ∧ S2 4 ≤ 12)
    (ha : ∀ i, 0 ≤ i → i < S2 4 → 0 ≤ an S2 i 0 ∧ an S2 i 0 ≤ an S2 i 1 ∧ an S2 i 1 < S 0 ∧ an S2 i 2 = told S (an S2 i 0) (an S2 i 1))
    (hd : ∀ i j, 0 ≤ i → i < j → j < S2 4 → ¬ (an S2 i 0 = an S2 j 0 ∧ an S2 i 1 = an S2 j 1)) : Inv S2 := by
  have e0 := hk 0 (by omega) (by omega) (by omega) (by omega) (by omega) (by omega)
  have e1 := hk 1 (by omega) (by omega) (by omega) (by omega) (by omega) (by omega)
  have e2 := hk 2 (by omega) (by omega) (by omega) (by omega) (by omega) (by omega)
  have e3 := hk 3 (by omega) (by omega) (by omega) (by omega) (by omega) (by omega)
  have hpl := hI.pl
  refine ⟨by rw [e0]; exact hI.pl, by rw [e1]; exact hI.wi, by rw [e2]; exact hI.se, by rw [e3]; exact hI.fe, h4, fun j h0 h1 => ?_, fun j h0 h1 => ?_, fun i h0 h1 => ?_, hd⟩
  · rw [hk (8 + j) (by omega) (by omega) (by omega) (by omega) (by omega) (by omega)]
    exact hI.key h0 h1
  · rw [hk (8 + j) (by omega) (by omega) (by omega) (by omega) (by omega) (by omega)]
    exact hI.keyo (by omega) h1
  · have h := ha i h0 h1
    rw [e0, told_c (S := S) (S2 := S2) (by omega) (by omega) (fun z q1 q2 => hk z (by omega) q2 (by omega) (by omega) (by omega) (by omega)) e2]
    exact h
theorem an_f1 {S : Int → Int} {i k w : Int} (hi : 0 ≤ i) (hk : 0 ≤ k ∧ k < S 4 - 1) (hw : 0 ≤ w ∧ w < 4) : an (forget1 S i) k w = if k < i then an S k w else an S (k + 1) w := by
  by_cases h : k < i
  · rw [if_pos h]
    exact an_forget (by omega) hw
  · rw [if_neg h]
    exact an_forget_hi (by omega) hw
theorem inv_forget1 {S : Int → Int} (hI : Inv S) {i : Int} (hi : 0 ≤ i ∧ i < S 4) : Inv (forget1 S i) := by
  have hna := hI.na
  have e4 : forget1 S i 4 = S 4 - 1 := rfl
  refine inv_mk hI (fun z h0 h1 h4 h5 h6 h7 => forget1_k hi.1 h1 h4 h7) (by omega) (fun k h0 h1 => ?_) (fun k j h0 h1 h2 => ?_)
  · rw [an_f1 hi.1 (by omega) (by omega), an_f1 hi.1 (by omega) (by omega), an_f1 hi.1 (by omega) (by omega)]
    by_cases h : k < i
    · rw [if_pos h, if_pos h, if_pos h]
      exact hI.ans h0 (by omega)
    · rw [if_neg h, if_neg h, if_neg h]
      exact hI.ans (by omega) (by omega)
  · rw [an_f1 hi.1 (by omega) (by omega), an_f1 hi.1 (by omega) (by omega), an_f1 hi.1 (by omega) (by omega), an_f1 hi.1 (by omega) (by omega)]
    by_cases h : k < i
    · rw [if_pos h, if_pos h]
      by_cases h' : j < i
      · rw [if_pos h', if_pos h']
        exact hI.diff h0 h1 (by omega)
      · rw [if_neg h', if_neg h']
        exact hI.diff h0 (by omega) (by omega)
    · rw [if_neg h, if_neg h, if_neg (by omega), if_neg (by omega)]
      exact hI.diff (by omega) (by omega) (by omega)
theorem forgetA_k {S : Int → Int} {z : Int} (h4 : z ≠ 4) (h7 : z ≠ 7) : forgetA S z = S z := by
  unfold forgetA
  rw [if_neg h4, if_neg h7]
theorem inv_forgetA {S : Int → Int} (hI : Inv S) : Inv (forgetA S) := by
  have e4 : forgetA S 4 = 0 := rfl
  exact inv_mk hI (fun z h0 h1 h4 h5 h6 h7 => forgetA_k h4 h7) (by omega) (fun k h0 h1 => by omega) (fun k j h0 h1 h2 => by omega)
theorem lastAb_no {S : Int → Int} {a b : Int} : ∀ n : Nat, lastAb S a b n = -1 → ∀ i : Int, 0 ≤ i → i < n → ¬ (an S i 0 = a ∧ an S i 1 = b)
  | 0, _, i, h0, h1 => by omega
  | n + 1, h, i, h0, h1 => by
    unfold lastAb at h
    split at h
    · omega
    · rename_i q
      by_cases e : i = n
      · rw [e]
        exact q
      · exact lastAb_no n h i h0 (by omega)
theorem lastAb_yes {S : Int → Int} {a b : Int} : ∀ n : Nat, lastAb S a b n ≠ -1 → an S (lastAb S a b n) 0 = a ∧ an S (lastAb S a b n) 1 = b
  | 0, h => absurd rfl h
  | n + 1, h => by
    unfold lastAb at h ⊢
    split
    · assumption
    · rename_i q
      rw [if_neg q] at h
      exact lastAb_yes n h
/-- an answer put in -/
theorem askat_an {S : Int → Int} {at_ a b t cost : Int} (hat : 0 ≤ at_) {k w : Int} (hk : 0 ≤ k) (hw : 0 ≤ w ∧ w < 4) : an (askat S at_ a b t cost) k w = if k = at_ then (if w = 0 then a else if w = 1 then b else if w = 2 then t else cost) else an S k w := by
  unfold an askat askU
  rw [up_n (by omega), up_n (by omega)]
  by_cases h : k = at_
  · rw [if_pos h, h]
    by_cases h0 : w = 0
    · rw [if_pos h0, h0, up_n (by omega), up_n (by omega), up_n (by omega), up_s]
    · by_cases h1 : w = 1
      · rw [if_neg h0, if_pos h1, h1, up_n (by omega), up_n (by omega), up_s]
      · by_cases h2 : w = 2
        · rw [if_neg h0, if_neg h1, if_pos h2, h2, up_n (by omega), up_s]
        · have h3 : w = 3 := by omega
          rw [if_neg h0, if_neg h1, if_neg h2, h3, up_s]
  · rw [if_neg h, up_n (by omega), up_n (by omega), up_n (by omega), up_n (by omega)]
theorem askat_k {S : Int → Int} {at_ a b t cost z : Int} (hat : 0 ≤ at_) (hz : z < 48) (h5 : z ≠ 5) (h6 : z ≠ 6) : askat S at_ a b t cost z = S z := by
  unfold askat askU
  rw [up_n h6, up_n h5, up_n (by omega), up_n (by omega), up_n (by omega), up_n (by omega)]
theorem inv_room {S : Int → Int} (hI : Inv S) : Inv (askroom S) ∧ askroom S 4 < 12 ∧ ∀ a b, aboutI S a b = -1 → ∀ i, 0 ≤ i → i < askroom S 4 → ¬ (an (askroom S) i 0 = a ∧ an (askroom S) i 1 = b) := by
  have hna := hI.na
  unfold askroom
  split
  · rename_i h
    have e4 : forget1 S 0 4 = S 4 - 1 := rfl
    refine ⟨inv_forget1 hI (by omega), by omega, fun a b hab i h0 h1 => ?_⟩
    rw [an_f1 (by omega) (by omega) (by omega), an_f1 (by omega) (by omega) (by omega), if_neg (by omega), if_neg (by omega)]
    exact lastAb_no _ hab (i + 1) (by omega) (by omega)
  · rename_i h
    exact ⟨hI, by omega, fun a b hab i h0 h1 => lastAb_no _ hab i h0 (by omega)⟩
theorem room_k {S : Int → Int} {z : Int} (h1 : z < 48) (h4 : z ≠ 4) (h7 : z ≠ 7) : askroom S z = S z := by
  unfold askroom
  split
  · exact forget1_k (by omega) h1 h4 h7
  · rfl
theorem inv_askd {S : Int → Int} (hI : Inv S) {a b : Int} (h : 0 ≤ a ∧ a ≤ b ∧ b < S 0) : Inv (askd S a b) := by
  have hna := hI.na
  have hpl := hI.pl
  unfold askd
  split
  · rename_i hab
    obtain ⟨hR, hlt, hno⟩ := inv_room hI
    have hRn := hR.na
    have e4 : askat (up (askroom S) 4 (askroom S 4 + 1)) (askroom S 4) a b (told S a b) (costOf S a b) 4 = askroom S 4 + 1 := by
      rw [askat_k (by omega) (by omega) (by omega) (by omega), up_s]
    have ean : ∀ k w, 0 ≤ k → 0 ≤ w → w < 4 → an (askat (up (askroom S) 4 (askroom S 4 + 1)) (askroom S 4) a b (told S a b) (costOf S a b)) k w = if k = askroom S 4 then (if w = 0 then a else if w = 1 then b else if w = 2 then told S a b else costOf S a b) else an (askroom S) k w := by
      intro k w hk h0 h1
      rw [askat_an (by omega) hk ⟨h0, h1⟩, an_up0 (by omega)]
    have et : told (askroom S) a b = told S a b := told_c (by omega) (by omega) (fun z h0 h1 => room_k h1 (by omega) (by omega)) (room_k (by omega) (by omega) (by omega))
    have e0 : askroom S 0 = S 0 := room_k (by omega) (by omega) (by omega)
    refine inv_mk hR (fun z h0 h1 h4 h5 h6 h7 => by rw [askat_k (by omega) h1 h5 h6, up_n h4]) (by omega) (fun k h0 h1 => ?_) (fun i j h0 h1 h2 => ?_)
    · rw [ean k 0 h0 (by omega) (by omega), ean k 1 h0 (by omega) (by omega), ean k 2 h0 (by omega) (by omega)]
      by_cases q : k = askroom S 4
      · rw [if_pos q, if_pos q, if_pos q, if_pos rfl, if_neg (by omega), if_pos rfl, if_neg (by omega), if_neg (by omega), if_pos rfl, et, e0]
        exact ⟨h.1, h.2.1, h.2.2, rfl⟩
      · rw [if_neg q, if_neg q, if_neg q]
        have := hR.ans h0 (by omega)
        exact this
    · rw [ean i 0 h0 (by omega) (by omega), ean i 1 h0 (by omega) (by omega), ean j 0 (by omega) (by omega) (by omega), ean j 1 (by omega) (by omega) (by omega), if_neg (show ¬ i = askroom S 4 by omega), if_neg (show ¬ i = askroom S 4 by omega)]
      by_cases q : j = askroom S 4
      · rw [if_pos q, if_pos q, if_pos rfl, if_neg (by omega), if_pos rfl]
        exact hno a b hab i h0 (by omega)
      · rw [if_neg q, if_neg q]
        exact hR.diff h0 h1 (by omega)
  · rename_i hab
    have hb := aboutI_b (S := S) (a := a) (b := b) hna.1
    have hy := lastAb_yes (S := S) (a := a) (b := b) (S 4).toNat hab
    have ean : ∀ k w, 0 ≤ k → 0 ≤ w → w < 2 → an (askat S (aboutI S a b) a b (told S a b) (costOf S a b)) k w = an S k w := by
      intro k w hk h0 h1
      rw [askat_an (by omega) hk (by omega)]
      by_cases q : k = aboutI S a b
      · rw [if_pos q, q]
        rcases (show w = 0 ∨ w = 1 by omega) with e | e
        · rw [if_pos e, e]
          exact hy.1.symm
        · rw [if_neg (by omega), if_pos e, e]
          exact hy.2.symm
      · rw [if_neg q]
    have e4 : askat S (aboutI S a b) a b (told S a b) (costOf S a b) 4 = S 4 := askat_k (by omega) (by omega) (by omega) (by omega)
    refine inv_mk hI (fun z h0 h1 h4 h5 h6 h7 => askat_k (by omega) h1 h5 h6) (by omega) (fun k h0 h1 => ?_) (fun i j h0 h1 h2 => ?_)
    · rw [ean k 0 h0 (by omega) (by omega), ean k 1 h0 (by omega) (by omega), askat_an (by omega) h0 (by omega)]
      have ha := hI.ans h0 (by omega)
      refine ⟨ha.1, ha.2.1, ha.2.2.1, ?_⟩
      by_cases q : k = aboutI S a b
      · rw [if_pos q, if_neg (by omega), if_neg (by omega), if_pos rfl, q]
        have e1 : an S (aboutI S a b) 0 = a := hy.1
        have e2 : an S (aboutI S a b) 1 = b := hy.2
        rw [e1, e2]
      · rw [if_neg q]
        exact ha.2.2.2
    · rw [ean i 0 h0 (by omega) (by omega), ean i 1 h0 (by omega) (by omega), ean j 0 (by omega) (by omega) (by omega), ean j 1 (by omega) (by omega) (by omega)]
      exact hI.diff h0 h1 (by omega)
theorem setg_k {S : Int → Int} {w v : Int} : setg S w v = if w = 1 ∧ S (1 + w) ≠ v then forgetA (up S (1 + w) v) else up S (1 + w) v := rfl
theorem inv_setg {S : Int → Int} (hI : Inv S) {w v : Int} (h : okS w v) : Inv (setg S w v) := by
  have hna := hI.na
  have hpl := hI.pl
  have hwi := hI.wi
  have hse := hI.se
  have hfe := hI.fe
  unfold setg
  have base : ∀ (T : Int → Int), T 0 = S 0 → (1 ≤ T 1 ∧ T 1 ≤ 8) → (0 ≤ T 2 ∧ T 2 ≤ 4) → (0 ≤ T 3 ∧ T 3 ≤ 9) → (∀ z, 8 ≤ z → z < 48 → T z = S z) → (T 4 = 0 ∨ (T 4 = S 4 ∧ T 2 = S 2 ∧ ∀ z, 48 ≤ z → T z = S z)) → Inv T := by
    intro T e0 e1 e2 e3 ek e4
    refine ⟨by omega, e1, e2, e3, by omega, fun j h0 h1 => ?_, fun j h0 h1 => ?_, fun i h0 h1 => ?_, fun i j h0 h1 h2 => ?_⟩
    · rw [ek (8 + j) (by omega) (by omega)]
      exact hI.key h0 h1
    · rw [ek (8 + j) (by omega) (by omega)]
      exact hI.keyo (by omega) h1
    · rcases e4 with e4 | ⟨e4, e5, e6⟩
      · omega
      · have ea : ∀ w, 0 ≤ w → an T i w = an S i w := fun w hw => e6 _ (by omega)
        have ha := hI.ans h0 (by omega)
        rw [ea 0 (by omega), ea 1 (by omega), ea 2 (by omega), e0, told_c (S := S) (S2 := T) (by omega) (by omega) ek e5]
        exact ha
    · rcases e4 with e4 | ⟨e4, e5, e6⟩
      · omega
      · have ea : ∀ k w, 0 ≤ k → 0 ≤ w → an T k w = an S k w := fun k w hk hw => e6 _ (by omega)
        rw [ea i 0 h0 (by omega), ea i 1 h0 (by omega), ea j 0 (by omega) (by omega), ea j 1 (by omega) (by omega)]
        exact hI.diff h0 h1 (by omega)
  rcases h with ⟨rfl, h4⟩ | ⟨rfl, h4⟩ | ⟨rfl, h4⟩
  · rw [if_neg (by omega)]
    refine base _ (up_n (by omega)) ?_ ?_ ?_ (fun z h0 h1 => up_n (by omega)) (Or.inr ⟨up_n (by omega), up_n (by omega), fun z h0 => up_n (by omega)⟩)
    · rw [show (1 : Int) + 0 = 1 by omega, up_s]
      omega
    · rw [up_n (by omega)]
      omega
    · rw [up_n (by omega)]
      omega
  · by_cases q : S (1 + 1) = v
    · have e : up S (1 + 1) v = S := by
        funext z
        unfold up
        split
        · rename_i z'
          rw [z', q]
        · rfl
      rw [if_neg (fun z => z.2 q), e]
      exact hI
    · rw [if_pos ⟨rfl, q⟩]
      refine base _ ?_ ?_ ?_ ?_ (fun z h0 h1 => ?_) (Or.inl rfl)
      · rw [forgetA_k (by omega) (by omega), up_n (by omega)]
      · rw [forgetA_k (by omega) (by omega), up_n (by omega)]
        omega
      · rw [forgetA_k (by omega) (by omega), show (1 : Int) + 1 = 2 by omega, up_s]
        omega
      · rw [forgetA_k (by omega) (by omega), up_n (by omega)]
        omega
      · rw [forgetA_k (by omega) (by omega), up_n (by omega)]
  · rw [if_neg (by omega)]
    refine base _ (up_n (by omega)) ?_ ?_ ?_ (fun z h0 h1 => up_n (by omega)) (Or.inr ⟨up_n (by omega), up_n (by omega), fun z h0 => up_n (by omega)⟩)
    · rw [up_n (by omega)]
      omega
    · rw [up_n (by omega)]
      omega
    · rw [show (1 : Int) + 2 = 3 by omega, up_s]
      omega
theorem inv_newS {p : Int} (h : 8 ≤ p ∧ p ≤ 40) : Inv (newS p) := by
  have e4 : newS p 4 = 0 := rfl
  have ek : ∀ z, 8 ≤ z → newS p z = 0 := fun z hz => by
    unfold newS
    rw [if_neg (by omega), if_neg (by omega), if_neg (by omega), if_neg (by omega)]
  exact ⟨h, by show (1 : Int) ≤ 3 ∧ (3 : Int) ≤ 8; omega, by show (0 : Int) ≤ 2 ∧ (2 : Int) ≤ 4; omega, by show (0 : Int) ≤ 1 ∧ (1 : Int) ≤ 9; omega, by omega, fun j h0 h1 => by rw [ek (8 + j) (by omega)]; omega, fun j h0 h1 => ek (8 + j) (by have h0' : p ≤ j := h0; omega), fun i h0 h1 => by omega, fun i j h0 h1 h2 => by omega⟩
theorem inv_rsz {S : Int → Int} (hI : Inv S) {q : Int} (h : 8 ≤ q ∧ q ≤ 40) : Inv (rsz S q) := by
  have hwi := hI.wi
  have hse := hI.se
  have hfe := hI.fe
  have e4 : rsz S q 4 = 0 := by
    unfold rsz
    rw [if_neg (by omega), if_neg (by omega)]
    rfl
  have e : ∀ z, 1 ≤ z → z < 8 + q → z ≠ 4 → z ≠ 7 → rsz S q z = S z := fun z h0 h1 h2 h3 => by
    unfold rsz
    rw [if_neg (by omega), if_neg (by omega)]
    exact forgetA_k h2 h3
  refine ⟨h, by rw [e 1 (by omega) (by omega) (by omega) (by omega)]; exact hwi, by rw [e 2 (by omega) (by omega) (by omega) (by omega)]; exact hse, by rw [e 3 (by omega) (by omega) (by omega) (by omega)]; exact hfe, by omega, fun j h0 h1 => ?_, fun j h0 h1 => ?_, fun i h0 h1 => by omega, fun i j h0 h1 h2 => by omega⟩
  · by_cases hj : j < q
    · rw [e (8 + j) (by omega) (by omega) (by omega) (by omega)]
      exact hI.key h0 h1
    · have : rsz S q (8 + j) = 0 := by
        unfold rsz
        rw [if_neg (by omega), if_pos (by omega)]
      omega
  · have h0' : q ≤ j := h0
    show rsz S q (8 + j) = 0
    unfold rsz
    rw [if_neg (by omega), if_pos (by omega)]
/-- on the way of a writing: the answers from n on don't hold the place i -/
def Wq (S T G : Int → Int) (i : Int) (n : Nat) : Prop := (∀ z, 0 ≤ z → z < 48 → z ≠ 4 → z ≠ 7 → G z = T z) ∧ (n : Int) ≤ G 4 ∧ G 4 ≤ 12 ∧ (∀ k, 0 ≤ k → k < G 4 → (0 ≤ an G k 0 ∧ an G k 0 ≤ an G k 1 ∧ an G k 1 < S 0 ∧ an G k 2 = told S (an G k 0) (an G k 1)) ∧ ((n : Int) ≤ k → ¬ (an G k 0 ≤ i ∧ i ≤ an G k 1))) ∧ ∀ j k, 0 ≤ j → j < k → k < G 4 → ¬ (an G j 0 = an G k 0 ∧ an G j 1 = an G k 1)
theorem wq_loop {S T : Int → Int} {i : Int} : ∀ (n : Nat) (G : Int → Int), Wq S T G i n → Wq S T (wloop i n G) i 0
  | 0, G, h => h
  | n + 1, G, h => by
    obtain ⟨h1, h2, h3, h4, h5⟩ := h
    show Wq S T (wloop i n (if an G n 0 ≤ i ∧ i ≤ an G n 1 then forget1 G n else G)) i 0
    apply wq_loop n
    split
    · have e4 : forget1 G n 4 = G 4 - 1 := rfl
      refine ⟨fun z q0 q1 q2 q3 => by rw [forget1_k (by omega) q1 q2 q3]; exact h1 z q0 q1 q2 q3, by omega, by omega, fun k q0 q1 => ?_, fun j k q0 q1 q2 => ?_⟩
      · rw [an_f1 (by omega) (by omega) (by omega), an_f1 (by omega) (by omega) (by omega), an_f1 (by omega) (by omega) (by omega)]
        by_cases q : k < n
        · rw [if_pos q, if_pos q, if_pos q]
          exact ⟨(h4 k q0 (by omega)).1, fun z => by omega⟩
        · rw [if_neg q, if_neg q, if_neg q]
          exact ⟨(h4 (k + 1) (by omega) (by omega)).1, fun z => (h4 (k + 1) (by omega) (by omega)).2 (by omega)⟩
      · rw [an_f1 (by omega) (by omega) (by omega), an_f1 (by omega) (by omega) (by omega), an_f1 (by omega) (by omega) (by omega), an_f1 (by omega) (by omega) (by omega)]
        by_cases q : j < n
        · rw [if_pos q, if_pos q]
          by_cases q' : k < n
          · rw [if_pos q', if_pos q']
            exact h5 j k q0 q1 (by omega)
          · rw [if_neg q', if_neg q']
            exact h5 j (k + 1) q0 (by omega) (by omega)
        · rw [if_neg q, if_neg q, if_neg (show ¬ k < n by omega), if_neg (show ¬ k < n by omega)]
          exact h5 (j + 1) (k + 1) (by omega) (by omega) (by omega)
    · rename_i q
      refine ⟨h1, by omega, h3, fun k q0 q1 => ⟨(h4 k q0 q1).1, fun z => ?_⟩, h5⟩
      by_cases e : k = n
      · rw [e]
        exact q
      · exact (h4 k q0 q1).2 (by omega)
theorem wr_all {S : Int → Int} (hI : Inv S) {i v : Int} (hi : 0 ≤ i ∧ i < S 0) (hv : 0 ≤ v ∧ v ≤ 1) : Inv (wr S i v) ∧ ∀ z, 0 ≤ z → z < 48 → z ≠ 4 → z ≠ 7 → wr S i v z = up S (8 + i) v z := by
  have hna := hI.na
  have hpl := hI.pl
  unfold wr
  split
  · rename_i q
    refine ⟨hI, fun z _ _ _ _ => ?_⟩
    unfold up
    split
    · rename_i e
      rw [e, q]
    · rfl
  · rename_i q
    have e4 : up S (8 + i) v 4 = S 4 := up_n (by omega)
    have h := wq_loop (S := S) (T := up S (8 + i) v) (i := i) (S 4).toNat (up S (8 + i) v) ⟨fun z _ _ _ _ => rfl, by omega, by omega, fun k h0 h1 => by
      rw [an_up0 (by omega), an_up0 (by omega), an_up0 (by omega)]
      exact ⟨hI.ans h0 (by omega), fun z => by omega⟩, fun j k h0 h1 h2 => by
      rw [an_up0 (by omega), an_up0 (by omega), an_up0 (by omega), an_up0 (by omega)]
      exact hI.diff h0 h1 (by omega)⟩
    obtain ⟨h1, h2, h3, h4, h5⟩ := h
    refine ⟨?_, h1⟩
    generalize wloop i (S 4).toNat (up S (8 + i) v) = G at h1 h2 h3 h4 h5 ⊢
    have g : ∀ z, 0 ≤ z → z < 8 → z ≠ 4 → z ≠ 7 → G z = S z := fun z q0 q1 q2 q3 => by rw [h1 z q0 (by omega) q2 q3, up_n (by omega)]
    have gk : ∀ j, 0 ≤ j → j < 40 → G (8 + j) = if j = i then v else S (8 + j) := fun j q0 q1 => by
      rw [h1 (8 + j) (by omega) (by omega) (by omega) (by omega)]
      unfold up
      by_cases e : j = i
      · rw [if_pos (by omega), if_pos e]
      · rw [if_neg (by omega), if_neg e]
    have ek : ∀ a b, 0 ≤ a → a ≤ b → b < 40 → ¬ (a ≤ i ∧ i ≤ b) → keysIn G a b = keysIn S a b := fun a b q0 q1 q2 q3 => by
      refine ksum_c _ (fun z z0 z1 => ?_)
      have := gk (z - 8) (by omega) (by omega)
      rw [show 8 + (z - 8) = z by omega, if_neg (by omega)] at this
      exact this
    have g0 := g 0 (by omega) (by omega) (by omega) (by omega)
    have g1 := g 1 (by omega) (by omega) (by omega) (by omega)
    have g2 := g 2 (by omega) (by omega) (by omega) (by omega)
    have g3 := g 3 (by omega) (by omega) (by omega) (by omega)
    refine ⟨by rw [g0]; exact hI.pl, by rw [g1]; exact hI.wi, by rw [g2]; exact hI.se, by rw [g3]; exact hI.fe, by omega, fun j q0 q1 => ?_, fun j q0 q1 => ?_, fun k q0 q1 => ?_, h5⟩
    · rw [gk j q0 q1]
      have := hI.key q0 q1
      split <;> omega
    · rw [gk j (by omega) q1, if_neg (by omega)]
      exact hI.keyo (by omega) q1
    · obtain ⟨z1, z2⟩ := h4 k q0 q1
      refine ⟨z1.1, z1.2.1, by omega, ?_⟩
      rw [z1.2.2.2]
      unfold told
      rw [ek _ _ (by omega) (by omega) (by omega) (z2 (by omega)), g2]
theorem inv_wr {S : Int → Int} (hI : Inv S) {i v : Int} (hi : 0 ≤ i ∧ i < S 0) (hv : 0 ≤ v ∧ v ≤ 1) : Inv (wr S i v) := (wr_all hI hi hv).1
