/-! the law's own numbers: q the settings, an the answers, set the row of layouts -/
def qS (S : Int → Int) : Int → Int := fun z => if z = 8 then ((kL S 0 40 : Nat) : Int) else S z
theorem qS_n {S : Int → Int} {z : Int} (h : z ≠ 8) : qS S z = S z := if_neg h
theorem qS_8 {S : Int → Int} : qS S 8 = ((kL S 0 40 : Nat) : Int) := if_pos rfl
def lowV (v n : Int) : Int := ia v 2147483647 % n
theorem ia_nn (v : Int) : 0 ≤ ia v 2147483647 ∧ ia v 2147483647 < 2147483648 := by
  have hm : (iI 2147483647).toBitVec.toNat = 2 ^ 31 - 1 := by decide +kernel
  have h := pk_and (iI v) (m := iI 2147483647) 31 hm
  have hl := Nat.mod_lt (iI v).toBitVec.toNat (show 0 < 2 ^ 31 by decide)
  unfold ia
  rw [h, nI_iI, iI_toInt (natR hl)]
  omega
theorem lowV_r {v n : Int} (h : 0 < n) : 0 ≤ lowV v n ∧ lowV v n < n := ⟨Int.emod_nonneg _ (by omega), Int.emod_lt_of_pos _ h⟩
/-- the row of the layouts below m that G picks -/
def setF (G : Nat → Int) (m : Nat) : Nat → Int64 := fun k => lN (wd G (64 * k) (min 64 (m - 64 * k)))
theorem setF_0 {G : Nat → Int} (k : Nat) : setF G 0 k = 0 := by
  unfold setF
  rw [show min 64 (0 - 64 * k) = 0 by omega]
  rfl
theorem lN_or2 {x j : Nat} (hx : x < 2 ^ j) (hj : j < 64) : lN x ||| lN (2 ^ j) = lN (x + 2 ^ j) := by
  have h1 : 2 ^ j < 2 ^ 64 := pw_lt hj
  rw [wb_or (by omega) h1]
  have h := Nat.two_pow_add_eq_or_of_lt hx 1
  rw [Nat.mul_one] at h
  rw [Nat.or_comm, ← h, Nat.add_comm]
theorem lN_or0 {x : Nat} (hx : x < 2 ^ 64) : lN x ||| 0 = lN x := by
  rw [show (0 : Int64) = lN 0 from rfl, wb_or hx (by omega), Nat.or_zero]
theorem setF_s {G : Nat → Int} {n : Nat} {v : Int64} (h : v = if G n = 1 then lN (2 ^ (n % 64)) else 0) : vp_updL (setF G n) (n / 64) (setF G n (n / 64) ||| v) = setF G (n + 1) := by
  funext k
  unfold vp_updL
  by_cases e : k = n / 64
  · rw [if_pos e]
    unfold setF
    have hl := wd_lt (G := G) (b := 64 * (n / 64)) (n % 64)
    rw [e, show min 64 (n - 64 * (n / 64)) = n % 64 by omega, show min 64 (n + 1 - 64 * (n / 64)) = n % 64 + 1 by omega, h]
    show _ = lN (wd G (64 * (n / 64)) (n % 64) + (if G (64 * (n / 64) + n % 64) = 1 then 2 ^ (n % 64) else 0))
    rw [show 64 * (n / 64) + n % 64 = n by omega]
    split
    · exact lN_or2 hl (by omega)
    · rw [Nat.add_zero]
      exact lN_or0 (Nat.lt_of_lt_of_le hl (pw_le (by omega)))
  · rw [if_neg e]
    unfold setF
    rw [show min 64 (n + 1 - 64 * k) = min 64 (n - 64 * k) by omega]
theorem lbit {w j : Nat} (hw : w < 2 ^ 64) (hj : j < 64) : (lN w >>> ((nI j).toInt64 &&& 63)) &&& 1 = lN (w / 2 ^ j % 2) := by
  rw [wb_c j hj]
  apply wb_inj
  apply BitVec.eq_of_getLsbD_eq
  intro i hi
  have h1 : (1 : Int64).toBitVec.getLsbD i = decide (i = 0) := by
    have : ∀ i, i < 64 → (1 : Int64).toBitVec.getLsbD i = decide (i = 0) := by decide +kernel
    exact this i hi
  rw [Int64.toBitVec_and, BitVec.getLsbD_and, h1, Int64.toBitVec_shiftRight]
  show (((lN w).toBitVec.sshiftRight ((lN j).toBitVec.smod 64).toNat).getLsbD i && decide (i = 0)) = _
  rw [wb_tb, wb_tb, wb_sm j hj, wb_tb, BitVec.getLsbD_ofNat]
  have hj2 : (BitVec.ofNat 64 j).toNat = j := by
    rw [BitVec.toNat_ofNat]
    exact Nat.mod_eq_of_lt (by omega)
  rw [hj2]
  by_cases e : i = 0
  · subst e
    rw [BitVec.getLsbD_sshiftRight, BitVec.getLsbD_ofNat, Nat.testBit_eq_decide_div_mod_eq, Nat.testBit_eq_decide_div_mod_eq]
    simp [hj]
  · rw [decide_eq_false e, Bool.and_false]
    have h2 : (w / 2 ^ j % 2).testBit i = false := Nat.testBit_lt_two_pow (Nat.lt_of_lt_of_le (Nat.mod_lt _ (by omega)) (pw_le (k := 1) (by omega)))
    rw [h2, Bool.and_false]
theorem is_e {G : Nat → Int} {M : Nat} {z : Int} (hz : 0 ≤ z) (hm : z.toNat < M) : lg_cmp ((setF G M (z / 64).toNat >>> ((iI (z % 64)).toInt64 &&& 63)) &&& 1) 1 = iI (cmpI (if G z.toNat = 1 then 1 else 0) 1) := by
  have hl := wd_lt (G := G) (b := 64 * (z / 64).toNat) (min 64 (M - 64 * (z / 64).toNat))
  have e : iI (z % 64) = nI (z % 64).toNat := by rw [nI_iI, Int.toNat_of_nonneg (by omega)]
  unfold setF
  rw [e, lbit (Nat.lt_of_lt_of_le hl (pw_le (by omega))) (by omega), wd_bit _ (by omega), show 64 * (z / 64).toNat + (z % 64).toNat = z.toNat by omega]
  by_cases q : G z.toNat = 1
  · rw [if_pos q, if_pos q, lN_cmp1 (by omega)]
    rfl
  · rw [if_neg q, if_neg q, lN_cmp1 (by omega)]
    rfl
theorem shl_1L {z : Int} (hz : 0 ≤ z ∧ z < 64) : (1 : Int64) <<< ((iI z).toInt64 &&& 63) = lN (2 ^ z.toNat) := by
  have h := shl_z 1 hz
  rw [Nat.one_mul] at h
  exact h
theorem aJ_va {D : va_G} {cl : List vw_C} {cA : ClassId} {n a : Nat} {f g : Nat → Int64} {H : Heap} (h : va_at D cl (a, aJ cA n f) H) (e : ∀ k : Nat, k < n → f k = g k) : va_at D cl (a, aJ cA n g) H := by
  have e2 : vp_cell cA (n, .inr (.inl f)) = vp_cell cA (n, .inr (.inl g)) := by
    show arrV cA n (fun j => .long (f j)) = arrV cA n (fun j => .long (g j))
    unfold arrV
    congr 1
    apply Array.ext
    · simp
    · intro i h1 h2
      simp at h1
      simp [e i h1]
  exact h.trans (congrArg some e2)
theorem va_P.arJ {D : va_G} {cl : List vw_C} {ws : va_W} {H : Heap} (h : va_P D cl ws H) (k : Nat) {a n : Nat} {cA : ClassId} {f g : Nat → Int64} (hk : ws[k]? = some (a, aJ cA n f)) (e : ∀ z : Nat, z < n → f z = g z) : va_P D cl (ws.set k (a, aJ cA n g)) H := by
  have hl := (List.getElem?_eq_some_iff.mp hk).1
  intro j q hj
  by_cases hjk : j = k
  · subst hjk
    rw [List.getElem?_set_self hl] at hj
    cases hj
    exact aJ_va (h _ _ hk) e
  · rw [List.getElem?_set_ne (Ne.symm hjk)] at hj
    exact h j q hj
/-! the keys as one number -/
theorem kL_z {S : Int → Int} : ∀ (n : Nat) (a : Int), (∀ j, a ≤ j → j < a + n → S (8 + j) = 0) → kL S a n = 0
  | 0, _, _ => rfl
  | n + 1, a, h => by
    show (S (8 + a)).toNat + 2 * kL S (a + 1) n = 0
    rw [h a (by omega) (by omega), kL_z n (a + 1) (fun j h0 h1 => h j (by omega) (by omega))]
    rfl
theorem kq_lt {S : Int → Int} (hI : Inv S) (h9 : S 0 ≤ 9) : kL S 0 40 < 512 := by
  have h1 := kL_div (S := S) 9 40 0 (by omega) (fun j h0 h1 => hI.key h0 (by omega))
  have h2 := kL_z (S := S) 31 (0 + (9 : Nat)) (fun j h0 h1 => hI.keyo (by omega) (by omega))
  rw [show (40 : Nat) - 9 = 31 from rfl, h2] at h1
  omega
theorem kq_in {S : Int → Int} (hI : Inv S) {a b : Int} (h : 0 ≤ a ∧ a ≤ b ∧ b < 10) : inL (kL S 0 40) a b = keysIn S a b := by
  have h1 := keys_in hI (a := a) (b := b) (by omega)
  have hl : kL S 0 40 / 2 ^ a.toNat % 2 ^ (b - a + 1).toNat < 2 ^ 10 := Nat.lt_of_lt_of_le (Nat.mod_lt _ (Nat.two_pow_pos _)) (pw_le (by omega))
  rw [popc_lt hl (by omega)] at h1
  exact h1
theorem kq_all {S : Int → Int} (hI : Inv S) (h9 : S 0 ≤ 9) : ((popc 10 (kL S 0 40) : Nat) : Int) = keysIn S 0 (S 0 - 1) := by
  have h1 := keys_all hI
  have hl := kq_lt hI h9
  rw [popc_lt (k := 64) (n := 10) (by omega) (by omega)] at h1
  exact h1
theorem kq_bit {S : Int → Int} (hI : Inv S) (h9 : S 0 ≤ 9) {i : Int} (h : 0 ≤ i ∧ i < 10) : ia (isr ((kL S 0 40 : Nat) : Int) i) 1 = S (8 + i) := by
  have hl := kq_lt hI h9
  have h1 := bit_e (v := ((kL S 0 40 : Nat) : Int)) (n := i.toNat) (by omega) (by omega)
  have h2 := kL_bit (S := S) (n := 40) (a := 0) (j := i.toNat) (by omega) (fun j h0 h1 => hI.key h0 (by omega))
  have hk := hI.key (j := i) h.1 (by omega)
  rw [Int.toNat_of_nonneg h.1, show (((kL S 0 40 : Nat) : Int)).toNat = kL S 0 40 by omega, h2, show (0 : Int) + ((i.toNat : Nat) : Int) = i by omega] at h1
  omega
theorem ixr_nat {a b : Nat} (ha : a < 2147483648) (hb : b < 2147483648) : ixr (a : Int) (b : Int) = ((a ^^^ b : Nat) : Int) := by
  have hl : a ^^^ b < 2 ^ 31 := Nat.xor_lt_two_pow ha hb
  refine bz_eq (ixr_r _ _) (natR hl) (fun i hi => ?_)
  rw [bz_ixr, bz_nat hi, bz_nat hi, bz_nat hi, Nat.testBit_xor]
theorem kq_flip {S : Int → Int} (hI : Inv S) (h9 : S 0 ≤ 9) {i v : Int} (h : 0 ≤ i ∧ i < 10) (hv : v = 1 - S (8 + i)) : ixr ((kL S 0 40 : Nat) : Int) (isl 1 i) = ((kL (up S (8 + i) v) 0 40 : Nat) : Int) := by
  have hl := kq_lt hI h9
  have h1 := kL_xor (S := S) (fun j h0 h1 => hI.key h0 h1) (i := i.toNat) (by omega) (v := v) (by rw [Int.toNat_of_nonneg h.1]; exact hv)
  rw [Int.toNat_of_nonneg h.1] at h1
  rw [isl_1 (by omega), ixr_nat (by omega) (pw_31 (by omega)), h1]
/-! answers forgotten, answers kept -/
theorem rc_forget2 {S g : Int → Int} (hR : Rc S g) {i : Int} (hi : 0 ≤ i ∧ i < S 4) {k : Nat} (hk : (k : Int) = 4 * S 4 - 4 - 4 * i) : Rc (forget1 S i) (shN g (4 * i) k) := by
  intro j w h0 h1 h2 h3
  have e4 : forget1 S i 4 = S 4 - 1 := rfl
  by_cases q : j < i
  · rw [shN_lo (by omega), an_forget ⟨h0, q⟩ ⟨h2, h3⟩]
    exact hR j w h0 (by omega) h2 h3
  · rw [an_forget_hi (by omega) ⟨h2, h3⟩]
    unfold shN
    rw [if_pos (by omega), ← hR (j + 1) w (by omega) (by omega) h2 h3]
    congr 1
    omega
theorem qs_f1 {S : Int → Int} {i : Int} (hi : 0 ≤ i) : ∀ z, 0 ≤ z → z < 9 → up (up (qS S) 4 (S 4 - 1)) 7 (S 7 + 1) z = qS (forget1 S i) z := by
  intro z h0 h1
  by_cases e8 : z = 8
  · have hk : kL (forget1 S i) 0 40 = kL S 0 40 := kL_c 40 0 (fun j q0 q1 => forget1_k hi (by omega) (by omega) (by omega))
    rw [e8, up_n (by omega), up_n (by omega), qS_8, qS_8, hk]
  · rw [qS_n e8, forget1_lo (by omega) hi]
    unfold up
    by_cases e7 : z = 7
    · rw [if_pos e7, if_neg (by omega), if_pos e7]
    · rw [if_neg e7]
      by_cases e4 : z = 4
      · rw [if_pos e4, if_pos e4]
      · rw [if_neg e4, if_neg e4, if_neg e7, qS_n e8]
theorem up4 {g : Int → Int} {i a b t q : Int} : up (up (up (up g (4 * i) a) (4 * i + 1) b) (4 * i + 2) t) (4 * i + 3) q = up (up (up (up g (i * 4 + 0) a) (i * 4 + 1) b) (i * 4 + 2) t) (i * 4 + 3) q := by
  rw [Int.mul_comm 4 i, Int.add_zero]
theorem qs_ask1 {S : Int → Int} (hI : Inv S) {a b : Int} (h : aboutI S a b = -1) : ∀ z, 0 ≤ z → z < 9 → up (up (up (qS (askroom S)) 4 (askroom S 4 + 1)) 5 (askroom S 5 + costOf S a b)) 6 (askroom S 6 + 1) z = qS (askd S a b) z := by
  intro z h0 h1
  by_cases e8 : z = 8
  · rw [e8, up_n (by omega), up_n (by omega), up_n (by omega), qS_8, qS_8, kL_ask hI, kL_room]
  · have h2 := ask_lo1 hI (a := a) (b := b) (z := z) h h0 (by omega)
    rw [qS_n e8, ← h2, up_n (k := 4) (j := 5) (by omega), up_n (k := 4) (j := 6) (by omega)]
    unfold up
    by_cases q6 : z = 6
    · rw [if_pos q6, if_pos q6]
    · rw [if_neg q6, if_neg q6]
      by_cases q5 : z = 5
      · rw [if_pos q5, if_pos q5]
      · rw [if_neg q5, if_neg q5]
        by_cases q4 : z = 4
        · rw [if_pos q4, if_pos q4]
        · rw [if_neg q4, if_neg q4, qS_n e8]
theorem qs_ask2 {S : Int → Int} (hI : Inv S) {a b : Int} (h : ¬ aboutI S a b = -1) : ∀ z, 0 ≤ z → z < 9 → up (up (qS S) 5 (S 5 + costOf S a b)) 6 (S 6 + 1) z = qS (askd S a b) z := by
  intro z h0 h1
  have hc : costOf S a b = 0 := if_pos h
  by_cases e8 : z = 8
  · rw [e8, up_n (by omega), up_n (by omega), qS_8, qS_8, kL_ask hI]
  · have h2 := ask_lo2 hI (a := a) (b := b) (z := z) h h0 (by omega)
    rw [qS_n e8, ← h2, hc]
    unfold up
    by_cases q6 : z = 6
    · rw [if_pos q6, if_pos q6]
    · rw [if_neg q6, if_neg q6]
      by_cases q5 : z = 5
      · rw [if_pos q5, if_pos q5]
      · rw [if_neg q5, if_neg q5, qS_n e8]
/-! what would be known behind a question -/
def cls (S : Int → Int) (a b : Int) (L : Nat) : Int := if inL L a b < S 2 then 11 else inL L a b
def Gk (G : Nat → Int) (S : Int → Int) (a b k : Int) (L : Nat) : Int := if G L = 1 ∧ cls S a b L = k then 1 else 0
def kvN (G : Nat → Int) (S : Int → Int) (a b k : Int) (M : Nat) : Int := ((popc 10 (kmI (alI (Gk G S a b k) M) (soI (Gk G S a b k) M) (S 0)).toNat : Nat) : Int)
def wlN (G : Nat → Int) (S : Int → Int) (a b : Int) (M : Nat) : Nat → Int
  | 0 => 99
  | n + 1 => if alI (Gk G S a b n) M ≠ -1 ∧ kvN G S a b n M < wlN G S a b M n then kvN G S a b n M else wlN G S a b M n
theorem gk_1 {G : Nat → Int} {S : Int → Int} {a b k : Int} {L : Nat} : Gk G S a b k L = 1 ↔ G L = 1 ∧ cls S a b L = k := by
  unfold Gk
  split
  · rename_i h
    exact ⟨fun _ => h, fun _ => rfl⟩
  · rename_i h
    exact ⟨fun q => by omega, fun q => absurd q h⟩
theorem cls_r {S : Int → Int} {a b : Int} {L : Nat} (h : 0 ≤ a ∧ a ≤ b ∧ b < 10) (hs : b - a + 1 ≤ 9) : 0 ≤ cls S a b L ∧ cls S a b L < 12 := by
  have := inL_r (L := L) h
  unfold cls
  split <;> omega
theorem ia_30 {x : Int} {m : Nat} (hm : m < 512) : ia (ia x m) 1073741823 = ia x m := by
  have e : (1073741823 : Int) = ((2 ^ 30 - 1 : Nat) : Int) := by decide +kernel
  refine bz_eq (ia_r _ _) (ia_r _ _) (fun i hi => ?_)
  rw [bz_ia, bz_ia, bz_nat hi, e, bz_nat hi, Nat.testBit_two_pow_sub_one]
  by_cases q : i < 30
  · rw [decide_eq_true q, Bool.and_true]
  · rw [Nat.testBit_lt_two_pow (Nat.lt_of_lt_of_le hm (pw_le (k := 9) (by omega))), Bool.and_false, Bool.false_and]
theorem alI_ne {G : Nat → Int} {m : Nat} (h : m ≤ 512) : alI G m ≠ -1 ↔ ∃ L, L < m ∧ G L = 1 := by
  have hb := alI_b (G := G) (i := 31) (by omega) m
  constructor
  · intro q
    refine Classical.byContradiction (fun z => q ?_)
    refine bz_eq (alI_r m) ⟨by omega, by omega⟩ (fun i hi => ?_)
    rw [bz_m1 hi]
    exact (alI_b (G := G) hi m).mpr (fun L h1 h2 => absurd ⟨L, h1, h2⟩ z)
  · rintro ⟨L, h1, h2⟩ q
    rw [q] at hb
    have h3 := hb.mp (bz_m1 (by omega)) L h1 h2
    rw [Nat.testBit_lt_two_pow (Nat.lt_of_lt_of_le (show L < 2 ^ 9 by omega) (pw_le (by omega)))] at h3
    cases h3
theorem wl_le {G : Nat → Int} {S : Int → Int} {a b : Int} {M : Nat} : ∀ (n k : Nat), k < n → alI (Gk G S a b k) M ≠ -1 → wlN G S a b M n ≤ kvN G S a b k M
  | 0, k, h, _ => by omega
  | n + 1, k, h, hk => by
    show (if alI (Gk G S a b n) M ≠ -1 ∧ kvN G S a b n M < wlN G S a b M n then kvN G S a b n M else wlN G S a b M n) ≤ _
    by_cases e : k = n
    · subst e
      split
      · omega
      · rename_i q
        have : ¬ kvN G S a b k M < wlN G S a b M k := fun z => q ⟨hk, z⟩
        omega
    · have ih := wl_le (G := G) (S := S) (a := a) (b := b) (M := M) n k (by omega) hk
      split <;> omega
theorem wl_at {G : Nat → Int} {S : Int → Int} {a b : Int} {M : Nat} : ∀ n : Nat, wlN G S a b M n = 99 ∨ ∃ k, k < n ∧ alI (Gk G S a b k) M ≠ -1 ∧ wlN G S a b M n = kvN G S a b k M
  | 0 => Or.inl rfl
  | n + 1 => by
    show (if alI (Gk G S a b n) M ≠ -1 ∧ kvN G S a b n M < wlN G S a b M n then kvN G S a b n M else wlN G S a b M n) = 99 ∨ ∃ k, k < n + 1 ∧ alI (Gk G S a b k) M ≠ -1 ∧ (if alI (Gk G S a b n) M ≠ -1 ∧ kvN G S a b n M < wlN G S a b M n then kvN G S a b n M else wlN G S a b M n) = kvN G S a b k M
    split
    · rename_i q
      exact Or.inr ⟨n, by omega, q.1, rfl⟩
    · rcases wl_at (G := G) (S := S) (a := a) (b := b) (M := M) n with e | ⟨k, h1, h2, h3⟩
      · exact Or.inl e
      · exact Or.inr ⟨k, by omega, h2, h3⟩
theorem wsN_le2 {S r : Int → Int} {a b lo : Int} : ∀ (n k : Nat), k < n → wsN S r a b lo n ≤ wsK S r a b (lo + k)
  | 0, k, h => by omega
  | n + 1, k, h => by
    show (if wsK S r a b (lo + n) < wsN S r a b lo n then wsK S r a b (lo + n) else wsN S r a b lo n) ≤ _
    by_cases e : k = n
    · subst e
      split <;> omega
    · have ih := wsN_le2 (S := S) (r := r) (a := a) (b := b) (lo := lo) n k (by omega)
      split <;> omega
theorem wsN_at {S r : Int → Int} {a b lo : Int} : ∀ n : Nat, wsN S r a b lo n = 40 ∨ ∃ k, k < n ∧ wsN S r a b lo n = wsK S r a b (lo + (k : Nat))
  | 0 => Or.inl rfl
  | n + 1 => by
    show (if wsK S r a b (lo + n) < wsN S r a b lo n then wsK S r a b (lo + n) else wsN S r a b lo n) = 40 ∨ ∃ k, k < n + 1 ∧ (if wsK S r a b (lo + n) < wsN S r a b lo n then wsK S r a b (lo + n) else wsN S r a b lo n) = wsK S r a b (lo + (k : Nat))
    split
    · exact Or.inr ⟨n, by omega, rfl⟩
    · rcases wsN_at (S := S) (r := r) (a := a) (b := b) (lo := lo) n with e | ⟨k, h1, h3⟩
      · exact Or.inl e
      · exact Or.inr ⟨k, by omega, h3⟩
/-- a class of layouts by the answer that they would get, where it holds one -/
theorem rep_gk {G : Nat → Int} {S : Int → Int} (hI : Inv S) (h9 : S 0 ≤ 9) (hG : Rep G (FB S (-1)) (S 0)) {a b k : Int} (hab : 0 ≤ a ∧ a ≤ b ∧ b < S 0) (h1 : leastI (FB S (-1)) a b ≤ k) (h2 : k ≤ mostI (FB S (-1)) a b) : Rep (Gk G S a b (if k < S 2 then 11 else k)) (bndA (FB S (-1)) a b (if k < S 2 then -2 else k) (S 2)) (S 0) := by
  have hp := hI.pl
  have hse := hI.se
  have hm := ml_r (S := S) (wo := -1) (a := a) (b := b) hp.2 hab
  have h5 := ws_h5 hI (a := a) (b := b) h1
  have h6 := ws_h6 hI (a := a) (b := b) (by omega) h1 h2 (by omega)
  have hT := hG.1.2.1
  have hT2 : Tri (bndA (FB S (-1)) a b (if k < S 2 then -2 else k) (S 2)) (S 0) := by
    by_cases e : (if k < S 2 then (-2 : Int) else k) = -2
    · unfold bndA
      rw [if_pos e]
      rw [if_pos e] at h5
      exact tri_bnd (by omega) hT (by omega) (by omega) h5
    · unfold bndA
      rw [if_neg e]
      rw [if_neg e] at h5
      exact tri_bnd (by omega) (tri_bnd (by omega) hT (by omega) (by omega) h5) (by omega) (by omega) (h6 e).2
  refine ⟨lay_sub hG.1 hT2 (fun z => bndA_le), fun L hL => ?_⟩
  have hr := inL_r (L := L) (a := a) (b := b) (by omega)
  rw [gk_1, cin_bndA h9 hT hab (fun q => by rw [if_neg q] at h5; exact h5), hG.2 L hL]
  unfold cls
  by_cases e : k < S 2
  · rw [if_pos e, if_pos e]
    constructor
    · rintro ⟨g1, g2⟩
      refine ⟨g1, Or.inl ⟨rfl, ?_⟩⟩
      split at g2 <;> omega
    · rintro ⟨g1, g2⟩
      refine ⟨g1, if_pos (by omega)⟩
  · rw [if_neg e, if_neg e]
    constructor
    · rintro ⟨g1, g2⟩
      refine ⟨g1, Or.inr ⟨by omega, ?_⟩⟩
      split at g2 <;> omega
    · rintro ⟨g1, g2⟩
      refine ⟨g1, ?_⟩
      rw [if_neg (by omega)]
      omega
theorem wl_worst {G : Nat → Int} {S : Int → Int} (hI : Inv S) (h9 : S 0 ≤ 9) (hG : Rep G (FB S (-1)) (S 0)) {a b : Int} (hab : 0 ≤ a ∧ a ≤ b ∧ b < S 0) : wlN G S a b (2 ^ (S 0).toNat) 12 = worstQ S a b := by
  have hp := hI.pl
  have hse := hI.se
  have hM : 2 ^ (S 0).toNat ≤ 512 := pw_le (n := 9) (by omega)
  have hle := most_le hI (a := a) (b := b) (by omega)
  have hm := ml_r (S := S) (wo := -1) (a := a) (b := b) hp.2 hab
  obtain ⟨lo, elo⟩ : ∃ z, z = leastI (FB S (-1)) a b := ⟨_, rfl⟩
  obtain ⟨hi, ehi⟩ : ∃ z, z = mostI (FB S (-1)) a b := ⟨_, rfl⟩
  -- a number of keys that is possible has its class
  have key : ∀ k : Int, lo ≤ k → k ≤ hi → alI (Gk G S a b (if k < S 2 then 11 else k)) (2 ^ (S 0).toNat) ≠ -1 ∧ kvN G S a b (if k < S 2 then 11 else k) (2 ^ (S 0).toNat) = wsK S (FB S (-1)) a b k := fun k h1 h2 => by
    have hR := rep_gk hI h9 hG hab (k := k) (by omega) (by omega)
    obtain ⟨L, g1, g2, -⟩ := rep_min hR hab
    exact ⟨(alI_ne hM).mpr ⟨L, g1, g2⟩, rep_kc hR⟩
  have hwk : ∀ k, 0 ≤ wsK S (FB S (-1)) a b k ∧ wsK S (FB S (-1)) a b k ≤ S 0 := fun k => wsK_r (by omega)
  have hn : (hi + 1 - lo).toNat = (mostI (FB S (-1)) a b + 1 - leastI (FB S (-1)) a b).toNat := by rw [elo, ehi]
  have e9 : worstQ S a b = wsN S (FB S (-1)) a b lo (hi + 1 - lo).toNat := by
    unfold worstQ
    rw [hn, elo]
  have klt : ∀ k : Int, lo ≤ k → k ≤ hi → ∃ c : Nat, c < 12 ∧ (if k < S 2 then 11 else k) = (c : Int) := fun k h1 h2 => by
    split
    · exact ⟨11, by omega, rfl⟩
    · exact ⟨k.toNat, by omega, by omega⟩
  rw [e9]
  apply Int.le_antisymm
  · rcases wsN_at (S := S) (r := FB S (-1)) (a := a) (b := b) (lo := lo) (hi + 1 - lo).toNat with e | ⟨k, h1, h2⟩
    · have := wsN_le2 (S := S) (r := FB S (-1)) (a := a) (b := b) (lo := lo) (hi + 1 - lo).toNat 0 (by omega)
      have := hwk (lo + (0 : Nat))
      omega
    · obtain ⟨c, c1, c2⟩ := klt (lo + k) (by omega) (by omega)
      obtain ⟨k1, k2⟩ := key (lo + k) (by omega) (by omega)
      rw [c2] at k1 k2
      have := wl_le 12 c c1 k1
      omega
  · rcases wl_at (G := G) (S := S) (a := a) (b := b) (M := 2 ^ (S 0).toNat) 12 with e | ⟨c, c1, c2, c3⟩
    · obtain ⟨c, c1, c2⟩ := klt lo (by omega) (by omega)
      obtain ⟨k1, k2⟩ := key lo (by omega) (by omega)
      rw [c2] at k1 k2
      have h8 := wl_le 12 c c1 k1
      have := hwk lo
      omega
    · obtain ⟨L, g1, g2⟩ := (alI_ne hM).mp c2
      obtain ⟨g3, g4⟩ := gk_1.mp g2
      have g5 := rep_le hG g1 g3 hab
      have hr := inL_r (L := L) (a := a) (b := b) (by omega)
      obtain ⟨k1, k2⟩ := key (inL L a b) (by omega) (by omega)
      have e8 : (if inL L a b < S 2 then 11 else inL L a b) = (c : Int) := g4
      rw [e8] at k2
      have := wsN_le2 (S := S) (r := FB S (-1)) (a := a) (b := b) (lo := lo) (hi + 1 - lo).toNat (inL L a b - lo).toNat (by omega)
      rw [show lo + ((inL L a b - lo).toNat : Int) = inL L a b by omega] at this
      omega
/-- one layout more, by the class of its answer -/
theorem gk_al {G : Nat → Int} {S : Int → Int} {a b k z : Int} {m : Nat} (hm : m < 512) (hG : G m = 1) (hk : k = cls S a b m) : (if z = k then ia (ia (alI (Gk G S a b z) m) m) 1073741823 else alI (Gk G S a b z) m) = alI (Gk G S a b z) (m + 1) := by
  show _ = if Gk G S a b z m = 1 then ia (alI (Gk G S a b z) m) m else alI (Gk G S a b z) m
  by_cases e : z = k
  · rw [if_pos e, if_pos (gk_1.mpr ⟨hG, by rw [e, hk]⟩), ia_30 hm]
  · rw [if_neg e, if_neg (fun q => e (by rw [hk]; exact (gk_1.mp q).2.symm))]
theorem gk_so {G : Nat → Int} {S : Int → Int} {a b k z : Int} {m : Nat} (hG : G m = 1) (hk : k = cls S a b m) : (if z = k then io (soI (Gk G S a b z) m) m else soI (Gk G S a b z) m) = soI (Gk G S a b z) (m + 1) := by
  show _ = if Gk G S a b z m = 1 then io (soI (Gk G S a b z) m) m else soI (Gk G S a b z) m
  by_cases e : z = k
  · rw [if_pos e, if_pos (gk_1.mpr ⟨hG, by rw [e, hk]⟩)]
  · rw [if_neg e, if_neg (fun q => e (by rw [hk]; exact (gk_1.mp q).2.symm))]
theorem gk_no {G : Nat → Int} {S : Int → Int} {a b z : Int} {m : Nat} (hG : ¬ G m = 1) : alI (Gk G S a b z) (m + 1) = alI (Gk G S a b z) m ∧ soI (Gk G S a b z) (m + 1) = soI (Gk G S a b z) m := ⟨if_neg (fun q => hG (gk_1.mp q).1), if_neg (fun q => hG (gk_1.mp q).1)⟩
