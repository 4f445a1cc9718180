/-! asking, writing keys, settings, cutting: the class's side -/
theorem fb_xorL (a b : Nat) : lN a ^^^ lN b = lN (a ^^^ b) := by
  apply Int64.toBitVec_inj.1
  show BitVec.ofNat 64 a ^^^ BitVec.ofNat 64 b = BitVec.ofNat 64 (a ^^^ b)
  apply BitVec.eq_of_getLsbD_eq
  intro i hi
  simp [hi]
theorem room_t {S : Int → Int} (h : S 4 = 12) : askroom S = forget1 S 0 := if_pos h
theorem room_f {S : Int → Int} (h : ¬ S 4 = 12) : askroom S = S := if_neg h
theorem kL_room {S : Int → Int} : kL (askroom S) 0 40 = kL S 0 40 := kL_c 40 0 (fun j h0 h1 => room_k (by omega) (by omega) (by omega))
theorem kL_ask {S : Int → Int} (hI : Inv S) {a b : Int} : kL (askd S a b) 0 40 = kL S 0 40 := by
  have hna := hI.na
  have hb := aboutI_b (S := S) (a := a) (b := b) hna.1
  have hR := (inv_room hI).1.na
  refine kL_c 40 0 (fun j h0 h1 => ?_)
  unfold askd
  split
  · rw [askat_k (by omega) (by omega) (by omega) (by omega), up_n (by omega)]
    exact room_k (by omega) (by omega) (by omega)
  · exact askat_k (by omega) (by omega) (by omega) (by omega)
theorem put4_at {g : Int → Int} {i a b t q : Int} (hi : 0 ≤ i) {j w : Int} (hj : 0 ≤ j) (hw : 0 ≤ w ∧ w < 4) : up (up (up (up g (i * 4 + 0) a) (i * 4 + 1) b) (i * 4 + 2) t) (i * 4 + 3) q (j * 4 + w) = if j = i then (if w = 0 then a else if w = 1 then b else if w = 2 then t else q) else g (j * 4 + w) := by
  unfold up
  (repeat' split) <;> first | rfl | (exfalso; omega)
theorem ask_lo1 {S : Int → Int} (hI : Inv S) {a b z : Int} (h : aboutI S a b = -1) (h0 : 0 ≤ z) (h1 : z < 8) : up (up (up (askroom S) 4 (askroom S 4 + 1)) 5 (up (askroom S) 4 (askroom S 4 + 1) 5 + costOf S a b)) 6 (up (askroom S) 4 (askroom S 4 + 1) 6 + 1) z = askd S a b z := by
  have hR := (inv_room hI).1.na
  have ek : ∀ y, y < 48 → askU (up (askroom S) 4 (askroom S 4 + 1)) (askroom S 4) a b (told S a b) (costOf S a b) y = up (askroom S) 4 (askroom S 4 + 1) y := fun y hy => by
    unfold askU
    rw [up_n (by omega), up_n (by omega), up_n (by omega), up_n (by omega)]
  unfold askd
  rw [if_pos h]
  unfold askat
  rw [ek 5 (by omega), ek 6 (by omega)]
  by_cases q6 : z = 6
  · rw [q6, up_s, up_s]
  · rw [up_n q6, up_n q6]
    by_cases q5 : z = 5
    · rw [q5, up_s, up_s]
    · rw [up_n q5, up_n q5, ek z (by omega)]
theorem ask_lo2 {S : Int → Int} (hI : Inv S) {a b z : Int} (h : ¬ aboutI S a b = -1) (h0 : 0 ≤ z) (h1 : z < 8) : up (up S 5 (S 5 + 0)) 6 (S 6 + 1) z = askd S a b z := by
  have hna := hI.na
  have hb := aboutI_b (S := S) (a := a) (b := b) hna.1
  have hc : costOf S a b = 0 := if_pos h
  have ek : ∀ y, y < 48 → askU S (aboutI S a b) a b (told S a b) (costOf S a b) y = S y := fun y hy => by
    unfold askU
    rw [up_n (by omega), up_n (by omega), up_n (by omega), up_n (by omega)]
  unfold askd
  rw [if_neg h]
  unfold askat
  rw [ek 5 (by omega), ek 6 (by omega), hc]
  rw [hc] at ek
  by_cases q6 : z = 6
  · rw [q6, up_s, up_s]
  · rw [up_n q6, up_n q6]
    by_cases q5 : z = 5
    · rw [q5, up_s, up_s]
    · rw [up_n q5, up_n q5, ek z (by omega)]
theorem rc_ask1 {S g : Int → Int} (hI : Inv S) (hR : Rc (askroom S) g) {a b : Int} (h : aboutI S a b = -1) : Rc (askd S a b) (up (up (up (up g (askroom S 4 * 4 + 0) a) (askroom S 4 * 4 + 1) b) (askroom S 4 * 4 + 2) (told S a b)) (askroom S 4 * 4 + 3) (costOf S a b)) := by
  intro j w h0 h1 h2 h3
  have hr := (inv_room hI).1.na
  rw [put4_at hr.1 h0 ⟨h2, h3⟩]
  unfold askd at h1 ⊢
  rw [if_pos h] at h1 ⊢
  rw [askat_k hr.1 (by omega) (by omega) (by omega), up_s] at h1
  rw [askat_an hr.1 h0 ⟨h2, h3⟩]
  by_cases e : j = askroom S 4
  · rw [if_pos e, if_pos e]
  · rw [if_neg e, if_neg e, an_up0 (by omega)]
    exact hR j w h0 (by omega) h2 h3
theorem rc_ask2 {S g : Int → Int} (hI : Inv S) (hR : Rc S g) {a b : Int} (h : ¬ aboutI S a b = -1) : Rc (askd S a b) (up (up (up (up g (aboutI S a b * 4 + 0) a) (aboutI S a b * 4 + 1) b) (aboutI S a b * 4 + 2) (told S a b)) (aboutI S a b * 4 + 3) 0) := by
  intro j w h0 h1 h2 h3
  have hna := hI.na
  have hb := aboutI_b (S := S) (a := a) (b := b) hna.1
  have hc : costOf S a b = 0 := if_pos h
  rw [put4_at (by omega) h0 ⟨h2, h3⟩]
  unfold askd at h1 ⊢
  rw [if_neg h] at h1 ⊢
  rw [askat_k (by omega) (by omega) (by omega) (by omega)] at h1
  rw [askat_an (by omega) h0 ⟨h2, h3⟩, hc]
  by_cases e : j = aboutI S a b
  · rw [if_pos e, if_pos e]
  · rw [if_neg e, if_neg e]
    exact hR j w h0 h1 h2 h3
