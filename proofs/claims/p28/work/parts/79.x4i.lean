theorem lw_t {S : Int → Int} {n : Nat} {y1 y2 : Int} (h : (y1, y2) = lwN S n) (c : y2 < knownIn (FB S n) (S 0)) : lwN S (n + 1) = ((n : Int), knownIn (FB S n) (S 0)) := by
  show (if (lwN S n).2 < _ then _ else _) = _
  rw [← h]
  exact if_pos c
theorem lw_f {S : Int → Int} {n : Nat} {y1 y2 : Int} (h : (y1, y2) = lwN S n) (c : ¬ y2 < knownIn (FB S n) (S 0)) : lwN S (n + 1) = (y1, y2) := by
  show (if (lwN S n).2 < _ then _ else lwN S n) = _
  rw [← h]
  exact if_neg c
theorem bq_skip {S r : Int → Int} {a y1 y2 y3 : Int} (h : 0 ≤ y2) : ∀ n : Nat, (n : Int) ≤ S 1 - 1 → bqI S r a (y1, y2, y3) n = (y1, y2, y3)
  | 0, _ => rfl
  | n + 1, hn => by
    show bqS S r a (a + n) (bqI S r a (y1, y2, y3) n) = _
    rw [bq_skip h n (by omega)]
    exact bqS_f (v := 0) (if_neg (by omega)).symm (by omega)
theorem xb_k {r : Int → Int} {pl x y a t k : Int} (hp : pl ≤ 40) (hT : Tri r pl) (hx : 0 ≤ x ∧ x ≤ pl) (hy : 0 ≤ y ∧ y ≤ pl) (ha : 0 ≤ a ∧ a ≤ pl) (ht : 0 ≤ t ∧ t ≤ pl) : bnd (bnd r a t k) t a (-k) (41 * x + y) = xb r x y a t k k := by
  have t1 := hT.1 x t y hx.1 hx.2 ht.1 ht.2 hy.1 hy.2
  have t2 := hT.1 x a y hx.1 hx.2 ha.1 ha.2 hy.1 hy.2
  have z1 := hT.2 t ht.1 ht.2
  have z2 := hT.2 a ha.1 ha.2
  have e0 := bnd_at (r := bnd r a t k) (f := t) (t := a) (w := -k) (i := x) (j := y) (by omega) (by omega)
  have e1 := bnd_at (r := r) (f := a) (t := t) (w := k) (i := x) (j := y) (by omega) (by omega)
  have e2 := bnd_at (r := r) (f := a) (t := t) (w := k) (i := x) (j := t) (by omega) (by omega)
  have e3 := bnd_at (r := r) (f := a) (t := t) (w := k) (i := a) (j := y) (by omega) (by omega)
  unfold xb
  rw [e0, e1, e2, e3]
  omega
theorem xb_m {r : Int → Int} {pl x y a t k : Int} (hp : pl ≤ 40) (hT : Tri r pl) (hx : 0 ≤ x ∧ x ≤ pl) (hy : 0 ≤ y ∧ y ≤ pl) (ha : 0 ≤ a ∧ a ≤ pl) (ht : 0 ≤ t ∧ t ≤ pl) (h0 : r (41 * t + a) ≤ 0) : bnd r a t k (41 * x + y) = xb r x y a t 0 k := by
  have t1 := hT.1 x t a hx.1 hx.2 ht.1 ht.2 ha.1 ha.2
  have t2 := hT.1 x a y hx.1 hx.2 ha.1 ha.2 hy.1 hy.2
  have e1 := bnd_at (r := r) (f := a) (t := t) (w := k) (i := x) (j := y) (by omega) (by omega)
  unfold xb
  rw [e1]
  omega
theorem cb_k {r : Int → Int} {pl a b k sec : Int} (hp : pl ≤ 40) (hT : Tri r pl) (hab : 0 ≤ a ∧ a ≤ b ∧ b < pl) (hk : k ≠ -2) : ∀ n : Nat, (n : Int) ≤ pl → cbN r a b k k n = knownC (bndA r a b k sec) n
  | 0, _ => rfl
  | n + 1, h => by
    have e1 := xb_k (x := n) (y := n + 1) (a := a) (t := b + 1) (k := k) hp hT (by omega) (by omega) (by omega) (by omega)
    have e2 := xb_k (x := n + 1) (y := n) (a := a) (t := b + 1) (k := k) hp hT (by omega) (by omega) (by omega) (by omega)
    have e3 : bndA r a b k sec = bnd (bnd r a (b + 1) k) (b + 1) a (-k) := if_neg hk
    show cbN r a b k k n + (if _ then _ else _) = knownC (bndA r a b k sec) n + (if _ then _ else _)
    rw [cb_k hp hT hab hk n (by omega), ← e1, ← e2, e3]
    unfold mostI leastI
    rw [show (41 * (n : Int) + n + 1) = 41 * n + (n + 1) by omega]
theorem cb_m {r : Int → Int} {pl a b sec : Int} (hp : pl ≤ 40) (hT : Tri r pl) (hab : 0 ≤ a ∧ a ≤ b ∧ b < pl) (h0 : r (41 * (b + 1) + a) ≤ 0) : ∀ n : Nat, (n : Int) ≤ pl → cbN r a b 0 (sec - 1) n = knownC (bndA r a b (-2) sec) n
  | 0, _ => rfl
  | n + 1, h => by
    have e1 := xb_m (x := n) (y := n + 1) (a := a) (t := b + 1) (k := sec - 1) hp hT (by omega) (by omega) (by omega) (by omega) h0
    have e2 := xb_m (x := n + 1) (y := n) (a := a) (t := b + 1) (k := sec - 1) hp hT (by omega) (by omega) (by omega) (by omega) h0
    have e3 : bndA r a b (-2) sec = bnd r a (b + 1) (sec - 1) := if_pos rfl
    show cbN r a b 0 (sec - 1) n + (if _ then _ else _) = knownC (bndA r a b (-2) sec) n + (if _ then _ else _)
    rw [cb_m hp hT hab h0 n (by omega), ← e1, ← e2, e3]
    unfold mostI leastI
    rw [show (41 * (n : Int) + n + 1) = 41 * n + (n + 1) by omega]
theorem wsK_r {S r : Int → Int} {a b k : Int} (h : 0 ≤ S 0) : 0 ≤ wsK S r a b k ∧ wsK S r a b k ≤ S 0 := knownIn_r h
theorem wsN_le {S r : Int → Int} {a b lo : Int} (h : 0 ≤ S 0) {n : Nat} (hn : 1 ≤ n) : wsN S r a b lo n ≤ S 0 := by
  obtain ⟨k, rfl⟩ : ∃ k, n = k + 1 := ⟨n - 1, by omega⟩
  have := wsK_r (S := S) (r := r) (a := a) (b := b) (k := lo + k) h
  show (if _ then _ else _) ≤ _
  split <;> omega
theorem ws_same {S r : Int → Int} {a b lo : Int} (h : 0 ≤ S 0 ∧ S 0 ≤ 40) : ∀ n : Nat, 1 ≤ n → lo + n ≤ S 2 → wsN S r a b lo n = wsK S r a b lo
  | 0, h1, _ => absurd h1 (by omega)
  | n + 1, _, h2 => by
    have e1 : wsK S r a b (lo + n) = wsK S r a b lo := by
      unfold wsK
      rw [if_pos (by omega), if_pos (by omega)]
    have hk := wsK_r (S := S) (r := r) (a := a) (b := b) (k := lo) h.1
    show (if wsK S r a b (lo + n) < wsN S r a b lo n then wsK S r a b (lo + n) else wsN S r a b lo n) = _
    rw [e1]
    by_cases q : n = 0
    · subst q
      show (if _ < (40 : Int) then _ else (40 : Int)) = _
      split <;> omega
    · rw [ws_same h n (by omega) (by omega)]
      split <;> rfl
theorem ws_e1 {S : Int → Int} (hI : Inv S) {a b : Int} (hab : 0 ≤ a ∧ a ≤ b ∧ b < S 0) (h : leastI (FB S (-1)) a b < S 2) : cbN (FB S (-1)) a b 0 (S 2 - 1) (S 0).toNat = min (S 0) (wsN S (FB S (-1)) a b (leastI (FB S (-1)) a b) (min (max (leastI (FB S (-1)) a b) (S 2)) (mostI (FB S (-1)) a b + 1) - leastI (FB S (-1)) a b).toNat) := by
  have hpl := hI.pl
  have hle := most_le hI (a := a) (b := b) (by omega)
  have hml := ml_r (wo := -1) (a := a) (b := b) hpl.2 hab
  have h0 : FB S (-1) (41 * (b + 1) + a) ≤ 0 := by
    have := hml.1
    unfold leastI at this
    omega
  rw [ws_same (by omega) _ (by omega) (by omega), cb_m hpl.2 (tri_FB hI (-1)) hab h0 _ (by omega)]
  have hk := wsK_r (S := S) (r := FB S (-1)) (a := a) (b := b) (k := leastI (FB S (-1)) a b) (by omega)
  have e : wsK S (FB S (-1)) a b (leastI (FB S (-1)) a b) = knownC (bndA (FB S (-1)) a b (-2) (S 2)) (S 0).toNat := by
    unfold wsK
    rw [if_pos h]
    rfl
  omega
theorem ws_e2 {S : Int → Int} (hI : Inv S) {a b : Int} (h : S 2 ≤ leastI (FB S (-1)) a b) : S 0 = min (S 0) (wsN S (FB S (-1)) a b (leastI (FB S (-1)) a b) (min (max (leastI (FB S (-1)) a b) (S 2)) (mostI (FB S (-1)) a b + 1) - leastI (FB S (-1)) a b).toNat) := by
  have hpl := hI.pl
  by_cases q : mostI (FB S (-1)) a b + 1 - leastI (FB S (-1)) a b ≤ 0 ∨ True
  · rw [show (min (max (leastI (FB S (-1)) a b) (S 2)) (mostI (FB S (-1)) a b + 1) - leastI (FB S (-1)) a b).toNat = 0 by omega]
    show S 0 = min (S 0) 40
    omega
  · exact absurd (Or.inr trivial) q
theorem ws_st {S : Int → Int} (hI : Inv S) {a b x5 x6 : Int} {n : Nat} (hab : 0 ≤ a ∧ a ≤ b ∧ b < S 0) (h5 : x5 = min (S 0) (wsN S (FB S (-1)) a b (leastI (FB S (-1)) a b) n)) (h6 : x6 = leastI (FB S (-1)) a b + n) (hs : S 2 ≤ x6) : min x5 (cbN (FB S (-1)) a b x6 x6 (S 0).toNat) = min (S 0) (wsN S (FB S (-1)) a b (leastI (FB S (-1)) a b) (n + 1)) := by
  have hpl := hI.pl
  have hse := hI.se
  have e : cbN (FB S (-1)) a b x6 x6 (S 0).toNat = wsK S (FB S (-1)) a b (leastI (FB S (-1)) a b + n) := by
    rw [cb_k (sec := S 2) hpl.2 (tri_FB hI (-1)) hab (by omega) _ (by omega), ← h6]
    unfold wsK
    rw [if_neg (by omega)]
    rfl
  rw [e, h5]
  show _ = min (S 0) (if wsK S (FB S (-1)) a b (leastI (FB S (-1)) a b + n) < wsN S (FB S (-1)) a b (leastI (FB S (-1)) a b) n then wsK S (FB S (-1)) a b (leastI (FB S (-1)) a b + n) else wsN S (FB S (-1)) a b (leastI (FB S (-1)) a b) n)
  split <;> omega
theorem ws_fin {S : Int → Int} (hI : Inv S) {a b x5 : Int} {n : Nat} (hab : 0 ≤ a ∧ a ≤ b ∧ b < S 0) (h5 : x5 = min (S 0) (wsN S (FB S (-1)) a b (leastI (FB S (-1)) a b) n)) (hn : (n : Int) = mostI (FB S (-1)) a b + 1 - leastI (FB S (-1)) a b) : x5 = worstQ S a b := by
  have hpl := hI.pl
  have hle := most_le hI (a := a) (b := b) (by omega)
  have h9 := wsN_le (S := S) (r := FB S (-1)) (a := a) (b := b) (lo := leastI (FB S (-1)) a b) (n := n) (by omega) (by omega)
  unfold worstQ
  rw [show (mostI (FB S (-1)) a b + 1 - leastI (FB S (-1)) a b).toNat = n by omega]
  omega
set_option maxHeartbeats 4000000 in
set_option maxRecDepth 100000 in
theorem c_X4_leastWorth (l : Launch) (D : va_G) (yI yC yD : ClassId) (x : Nat) (tx : Nat) (nw : Nat) (tr : Nat) (kn : Nat) (me : Nat) (sl : Nat) (nc : Nat) (S : Int → Int) (g : Int → Int) (ex : Nat) (pl : Int) (E : Int → Int) (hI : Inv S) (hR : Rc S g) (sz : Nat) : Met l yX4_leastWorth wsX4_leastWorth ({ frames := 4, cells := 0, slots := 0, locals := 99 }) (rwP [.ref x] D (tyz yI yC yD) [(x, oRD tx nw tr kn me sl), (nw, oDrv nc S (lN (kL (S) 0 40))), (nc, aI yI 48 g), (kn, oKn pl ex), (ex, aI yI 1681 E)] sz) (va_Qi (fun (r : Int32) (u : Int × (Int → Int)) => match u with | (p9, E9) => r = iI (leastW S) ∧ True) (fun (u : Int × (Int → Int)) (t : State) => match u with | (p9, E9) => va_P D vwCl [(x, oRD tx nw tr kn me sl), (nw, oDrv nc S (lN (kL (S) 0 40))), (nc, aI yI 48 g), (kn, oKn p9 ex), (ex, aI yI 1681 E9)] t.heap) (va_A [(x, oRD tx nw tr kn me sl), (nw, oDrv nc S (lN (kL (S) 0 40))), (nc, aI yI 48 g), (kn, oKn pl ex), (ex, aI yI 1681 E)] sz)) 0 0 (va_A [(x, oRD tx nw tr kn me sl), (nw, oDrv nc S (lN (kL (S) 0 40))), (nc, aI yI 48 g), (kn, oKn pl ex), (ex, aI yI 1681 E)] sz) := by
  refine Met.ofW (cc := cX4_leastWorth) (maxL := 5) (ret := (some .int)) (by decide) rfl ?_
  intro p e s m args below meth c s₁ B hml hv
  obtain ⟨rfl, hsz, hP, hK, hD0⟩ := hv
  have hx := B.exec
  have hb := B.bytes
  have hr := B.returns
  have hts := atoms_spec (ws := wsX4_leastWorth) B.pre
  have hown : s.vm.findClass RX4 = some m.cls := findClass_of_methodNamed B.named
  have hlocks := B.notSynchronized
  subst hsz
  have hD := hD0.self (sz := s.heap.size)
  generalize hAe : va_A [(x, oRD tx nw tr kn me sl), (nw, oDrv nc S (lN (kL (S) 0 40))), (nc, aI yI 48 g), (kn, oKn pl ex), (ex, aI yI 1681 E)] s.heap.size = A at hD ⊢
  have hA : ∀ q : Nat, s.heap.size ≤ q → A q := fun q h => by rw [← hAe]; exact Or.inr h
  have hS : va_S A s.heap s.heap [] := va_S.rf
  have hP : va_P D vwCl [(x, oRD tx nw tr kn me sl), (nw, oDrv nc S (lN (kL (S) 0 40))), (nc, aI yI 48 g), (kn, oKn pl ex), (ex, aI yI 1681 E)] s.heap := hP
  have hinX0 : ∀ w ∈ wsX00, w ∈ wsX4_leastWorth := by decide +kernel
  have hinX4 : ∀ w ∈ wsX40, w ∈ wsX4_leastWorth := by decide +kernel
  have hf19 : (Cond.fieldLink RX4 19 "RiddleDrive" "now" "LRiddleDrive$Drive;").before _ s = true := hts _ (by decide +kernel)
  have hf29 : (Cond.fieldLink RX4 29 "RiddleDrive" "knowledge" "LRiddleDrive$Knowledge;").before _ s = true := hts _ (by decide +kernel)
  have hf107 : (Cond.fieldLink RX4 107 "RiddleDrive$Drive" "answers" "I").before _ s = true := hts _ (by decide +kernel)
  have hl := lv_entry ([.ref x]) (n := 5) (Nat.le_of_ble_eq_true rfl)
  rw [lg_entry_eq]
  generalize (lg_sl ([.ref x]) ++ List.replicate (5 - (lg_sl ([.ref x])).length) Slot.unset).toArray = ls at hl ⊢
  have hl : lv_has ls 5 [(0, .ref x)] := hl
  have hpl := hI.pl
  have hna := hI.na
  have hse := hI.se
  have hwi := hI.wi
  have hfe := hI.fe
  refine lv_iconst (v := iI (-1)) hx hb dX4_leastWorth_0 (by decide +kernel) ?_
  refine lv_istore_n (lv' := [(1, .int (iI (-1))), (0, .ref x)]) hx hb dX4_leastWorth_1 rfl hl (by decide) rfl (fun ls hl => ?_)
  refine lv_iconst (v := iI (-1)) hx hb dX4_leastWorth_2 (by decide +kernel) ?_
  refine lv_istore_n (lv' := [(2, .int (iI (-1))), (1, .int (iI (-1))), (0, .ref x)]) hx hb dX4_leastWorth_3 rfl hl (by decide) rfl (fun ls hl => ?_)
  refine lv_iconst (v := iI 0) hx hb dX4_leastWorth_4 (by decide +kernel) ?_
  refine lv_istore_n (lv' := [(3, .int (iI 0)), (2, .int (iI (-1))), (1, .int (iI (-1))), (0, .ref x)]) hx hb dX4_leastWorth_5 rfl hl (by decide) rfl (fun ls hl => ?_)
  refine iv_loop (I := fun (qq : Nat × Int × Int × Int × Int × (Int → Int)) H locs ls => match qq with | (n, x1, x2, x3, pp, Ex) => ((n : Int) ≤ S 4) ∧ (x3 = n) ∧ (-1 ≤ x2 ∧ x2 ≤ 40) ∧ ((x1, x2) = lwN S n) ∧ va_P D vwCl [(x, oRD tx nw tr kn me sl), (nw, oDrv nc S (lN (kL (S) 0 40))), (nc, aI yI 48 g), (kn, oKn pp ex), (ex, aI yI 1681 Ex)] H ∧ va_D A [(x, oRD tx nw tr kn me sl), (nw, oDrv nc S (lN (kL (S) 0 40))), (nc, aI yI 48 g), (kn, oKn pp ex), (ex, aI yI 1681 Ex)] ∧ va_S A s.heap H locs ∧ lv_has ls 5 [(3, .int (iI x3)), (2, .int (iI x2)), (1, .int (iI x1)), (0, .ref x)]) (μ := fun (qq : Nat × Int × Int × Int × Int × (Int → Int)) => match qq with | (n, x1, x2, x3, pp, Ex) => (S 4).toNat - n) (0, -1, -1, 0, pl, E) ?_ ?_
  · exact ⟨by omega, by omega, by omega, rfl, hP, hD, hS, lv_sub hl [0, 1, 2, 3] rfl⟩
  · intro qq H locs ls hI ih6
    obtain ⟨n, x1, x2, x3, pp, Ex⟩ := qq
    obtain ⟨hn, h3, hx2, hlw, hP, hD, hS, hl⟩ := hI
    refine lv_iload_n hx hb dX4_leastWorth_6 rfl (lv_at hl 0 rfl) ?_
    refine lv_aload_n hx hb dX4_leastWorth_7 rfl (lv_at hl 3 rfl) ?_
    refine va_get (D := D) (ci := 4) (v := .ref nw) (C := RX4) (T := TX4) (N := 6) hx hb hts hinX4 hown hK hP 0 rfl rfl 1 (by decide) hf19 (fun _ h9 => h9) rfl dX4_leastWorth_8 ?_
    refine va_get (D := D) (ci := 0) (v := .int (iI (S 4))) (C := RX0) (T := TX0) (N := 10) hx hb hts hinX0 hown hK hP 1 rfl rfl 4 (by decide) hf107 (fun _ h9 => h9) rfl dX4_leastWorth_11 ?_
    refine iv_icmp_ge (a := x3) (b := S 4) (tgt := 55) hx hb (by omega) (by omega) dX4_leastWorth_14 (by decide) (fun c14 => ?_) (fun c14 => ?_)
    · refine lv_iload_n hx hb dX4_leastWorth_55 rfl (lv_at hl 2 rfl) ?_
      have hP9 : va_P D vwCl [(x, oRD tx nw tr kn me sl), (nw, oDrv nc S (lN (kL (S) 0 40))), (nc, aI yI 48 g), (kn, oKn pp ex), (ex, aI yI 1681 Ex)] _ := hP.sub [0, 1, 2, 3, 4] rfl
      exact W.iret hx hb hr (fun t ht hW => ⟨⟨iI x1, (pp, Ex), rfl, ⟨congrArg iI (show x1 = leastW S by rw [show x1 = (lwN S n).1 from congrArg Prod.fst hlw, show n = (S 4).toNat by omega]; rfl), trivial⟩, by show va_P D vwCl _ t.heap; rw [ht]; exact hP9⟩, hS.F ht⟩) hS.2.2 dX4_leastWorth_56
    · refine lv_aload_n hx hb dX4_leastWorth_17 rfl (lv_at hl 3 rfl) ?_
      refine va_get (D := D) (ci := 4) (v := .ref kn) (C := RX4) (T := TX4) (N := 6) hx hb hts hinX4 hown hK hP 0 rfl rfl 3 (by decide) hf29 (fun _ h9 => h9) rfl dX4_leastWorth_18 ?_
      refine lv_aload_n hx hb dX4_leastWorth_21 rfl (lv_at hl 3 rfl) ?_
      refine va_get (D := D) (ci := 4) (v := .ref nw) (C := RX4) (T := TX4) (N := 6) hx hb hts hinX4 hown hK hP 0 rfl rfl 1 (by decide) hf19 (fun _ h9 => h9) rfl dX4_leastWorth_22 ?_
      refine lv_iload_n hx hb dX4_leastWorth_25 rfl (lv_at hl 0 rfl) ?_
      refine iv_rwVv (As := [.ref nw, .int (iI x3)]) (rest := []) (C := RX1) (n := 2) ⟨hx, hb, hml, hown, hts⟩ (c_X1_learnFrom l D yI yC yD kn ex pp Ex nw nc S g x3 (by assumption) (by assumption) (by omega) _) (cwV 2 hts gX4_leastWorth_X1_learnFrom rfl rfl rfl (by decide +kernel) ⟨Nat.le_of_ble_eq_true rfl, Nat.le_of_ble_eq_true rfl⟩) hK hP hD hS hA [3, 4, 1, 2] (by decide) rfl 3 rfl rfl rfl hl.1 rfl (Nat.le_of_ble_eq_true rfl) dX4_leastWorth_26 ⟨Nat.zero_le _, Nat.zero_le _⟩ (fun _ => rfl) (fun u26 H locs hw26 hP hD hS => ?_)
      obtain ⟨G926, hu26⟩ : ∃ z, z = u26 := ⟨_, rfl⟩
      subst hu26
      have hE9_26 := hw26
      have hP : va_P D vwCl [(x, oRD tx nw tr kn me sl), (nw, oDrv nc S (lN (kL S 0 40))), (nc, aI yI 48 g), (kn, oKn (S 0) ex), (ex, aI yI 1681 G926)] H := hP
      have hD : va_D A [(x, oRD tx nw tr kn me sl), (nw, oDrv nc S (lN (kL S 0 40))), (nc, aI yI 48 g), (kn, oKn (S 0) ex), (ex, aI yI 1681 G926)] := hD
      refine lv_aload_n hx hb dX4_leastWorth_29 rfl (lv_at hl 3 rfl) ?_
      refine va_get (D := D) (ci := 4) (v := .ref kn) (C := RX4) (T := TX4) (N := 6) hx hb hts hinX4 hown hK hP 0 rfl rfl 3 (by decide) hf29 (fun _ h9 => h9) rfl dX4_leastWorth_30 ?_
      refine iv_roV (As := []) (rest := []) (C := RX1) (n := 0) ⟨hx, hb, hml, hown, hts⟩ (c_X1_countSure l D yI yC yD kn ex (S 0) G926 (FB S x3) (by omega) (by assumption) (gb_FB hI _)) (cwV 0 hts gX4_leastWorth_X1_countSure rfl rfl rfl (by decide +kernel) ⟨Nat.le_of_ble_eq_true rfl, Nat.le_of_ble_eq_true rfl⟩) hK hP [3, 4] rfl 3 rfl rfl rfl hl.1 rfl (Nat.le_of_ble_eq_true rfl) dX4_leastWorth_33 ⟨Nat.zero_le _, Nat.zero_le _⟩ ?_
      rw [show (kCnt (FB S x3) (S 0).toNat : Int) = knownIn (FB S x3) (S 0) from (kCnt_known hI)]
      have hkr := knownIn_r (r := FB S x3) (pl := S 0) (by omega)
      refine lv_istore (lv' := [(4, .int (iI (knownIn (FB S x3) (S 0)))), (3, .int (iI x3)), (2, .int (iI x2)), (1, .int (iI x1)), (0, .ref x)]) hx hb dX4_leastWorth_36 hl (by decide) rfl (fun ls hl => ?_)
      refine lv_iload hx hb dX4_leastWorth_38 (lv_at hl 0 rfl) ?_
      refine lv_iload_n hx hb dX4_leastWorth_40 rfl (lv_at hl 2 rfl) ?_
      refine iv_icmp_le (a := knownIn (FB S x3) (S 0)) (b := x2) (tgt := 49) hx hb (by omega) (by omega) dX4_leastWorth_41 (by decide) (fun c41 => ?_) (fun c41 => ?_)
      · refine iv_inc (lv' := [(3, .int (iI (x3 + 1))), (4, .int (iI (knownIn (FB S x3) (S 0)))), (2, .int (iI x2)), (1, .int (iI x1)), (0, .ref x)]) hx hb dX4_leastWorth_49 hl (k := 1) rfl (by decide) rfl (fun ls hl => ?_)
        refine lv_goto (tgt := 6) hx hb dX4_leastWorth_52 (by decide) ?_
        refine ih6 (n + 1, x1, x2, x3 + 1, S 0, G926) _ _ (by show ((S 4).toNat - (n + 1) : Nat) < (S 4).toNat - n; omega) ?_
        exact ⟨by omega, by omega, by omega, by subst h3; first | exact (lw_t hlw (by omega)).symm | exact (lw_f hlw (by omega)).symm, hP, hD, hS, lv_sub hl [0, 2, 3, 4] rfl⟩
      · refine lv_iload hx hb dX4_leastWorth_44 (lv_at hl 0 rfl) ?_
        refine lv_istore_n (lv' := [(2, .int (iI (knownIn (FB S x3) (S 0)))), (4, .int (iI (knownIn (FB S x3) (S 0)))), (3, .int (iI x3)), (1, .int (iI x1)), (0, .ref x)]) hx hb dX4_leastWorth_46 rfl hl (by decide) rfl (fun ls hl => ?_)
        refine lv_iload_n hx hb dX4_leastWorth_47 rfl (lv_at hl 2 rfl) ?_
        refine lv_istore_n (lv' := [(1, .int (iI x3)), (2, .int (iI (knownIn (FB S x3) (S 0)))), (4, .int (iI (knownIn (FB S x3) (S 0)))), (3, .int (iI x3)), (0, .ref x)]) hx hb dX4_leastWorth_48 rfl hl (by decide) rfl (fun ls hl => ?_)
        refine iv_inc (lv' := [(3, .int (iI (x3 + 1))), (1, .int (iI x3)), (2, .int (iI (knownIn (FB S x3) (S 0)))), (4, .int (iI (knownIn (FB S x3) (S 0)))), (0, .ref x)]) hx hb dX4_leastWorth_49 hl (k := 3) rfl (by decide) rfl (fun ls hl => ?_)
        refine lv_goto (tgt := 6) hx hb dX4_leastWorth_52 (by decide) ?_
        refine ih6 (n + 1, x3, knownIn (FB S x3) (S 0), x3 + 1, S 0, G926) _ _ (by show ((S 4).toNat - (n + 1) : Nat) < (S 4).toNat - n; omega) ?_
        exact ⟨by omega, by omega, by omega, by subst h3; first | exact (lw_t hlw (by omega)).symm | exact (lw_f hlw (by omega)).symm, hP, hD, hS, lv_sub hl [0, 2, 1, 4] rfl⟩
set_option maxHeartbeats 4000000 in
set_option maxRecDepth 100000 in
theorem c_X4_worst (l : Launch) (hla : l.stackTraces = false) (D : va_G) (yI yC yD : ClassId) (x : Nat) (tx : Nat) (nw : Nat) (tr : Nat) (kn : Nat) (me : Nat) (sl : Nat) (nc : Nat) (S : Int → Int) (g : Int → Int) (ex : Nat) (pl : Int) (E : Int → Int) (a : Int) (b : Int) (hI : Inv S) (hR : Rc S g) (hab9 : inR a ∧ inR b) (sz : Nat) : vx_Met l yX4_worst wsX4_worst ({ frames := 8, cells := 8, slots := 150, locals := 125 }) (vxP [.ref x, .int (iI a), .int (iI b)] D (tyz yI yC yD) [(x, oRD tx nw tr kn me sl), (nw, oDrv nc S (lN (kL (S) 0 40))), (nc, aI yI 48 g), (kn, oKn pl ex), (ex, aI yI 1681 E)] sz) (va_Qi (fun (r : Int32) (u : Int × (Int → Int)) => match u with | (p9, E9) => r = iI (if S 1 ≤ b - a + 1 then worstQ S a b else -1) ∧ whyR S a b = 0) (fun (u : Int × (Int → Int)) (t : State) => match u with | (p9, E9) => va_P D vwCl [(x, oRD tx nw tr kn me sl), (nw, oDrv nc S (lN (kL (S) 0 40))), (nc, aI yI 48 g), (kn, oKn p9 ex), (ex, aI yI 1681 E9)] t.heap) (va_A [(x, oRD tx nw tr kn me sl), (nw, oDrv nc S (lN (kL (S) 0 40))), (nc, aI yI 48 g), (kn, oKn pl ex), (ex, aI yI 1681 E)] sz)) (vxX D (fun E => (E = eI ∧ whyR S a b = 1) ∨ (E = eA ∧ whyR S a b = 2)) (fun (_ : Unit) => [(x, oRD tx nw tr kn me sl), (nw, oDrv nc S (lN (kL (S) 0 40))), (nc, aI yI 48 g), (kn, oKn pl ex), (ex, aI yI 1681 E)]) (va_A [(x, oRD tx nw tr kn me sl), (nw, oDrv nc S (lN (kL (S) 0 40))), (nc, aI yI 48 g), (kn, oKn pl ex), (ex, aI yI 1681 E)] sz)) 8 150 (va_A [(x, oRD tx nw tr kn me sl), (nw, oDrv nc S (lN (kL (S) 0 40))), (nc, aI yI 48 g), (kn, oKn pl ex), (ex, aI yI 1681 E)] sz) := by
  refine vx_ofW (cc := cX4_worst) (maxL := 7) (ret := (some .int)) (by decide) rfl ?_
  intro p e s m args below meth c s₁ B hml hno hv
  obtain ⟨rfl, hsz, hP, hK, hD0, hB⟩ := hv
  have hx := B.exec
  have hb := B.bytes
  have hr := B.returns
  have hts := atoms_spec (ws := wsX4_worst) B.pre
  have hown : s.vm.findClass RX4 = some m.cls := findClass_of_methodNamed B.named
  have hlocks := B.notSynchronized
  subst hsz
  have hD := hD0.self (sz := s.heap.size)
  generalize hAe : va_A [(x, oRD tx nw tr kn me sl), (nw, oDrv nc S (lN (kL (S) 0 40))), (nc, aI yI 48 g), (kn, oKn pl ex), (ex, aI yI 1681 E)] s.heap.size = A at hD hB ⊢
  have hA : ∀ q : Nat, s.heap.size ≤ q → A q := fun q h => by rw [← hAe]; exact Or.inr h
  have hS : va_S A s.heap s.heap [] := va_S.rf
  have hP : va_P D vwCl [(x, oRD tx nw tr kn me sl), (nw, oDrv nc S (lN (kL (S) 0 40))), (nc, aI yI 48 g), (kn, oKn pl ex), (ex, aI yI 1681 E)] s.heap := hP
  have hinX0 : ∀ w ∈ wsX00, w ∈ wsX4_worst := by decide +kernel
  have hinX4 : ∀ w ∈ wsX40, w ∈ wsX4_worst := by decide +kernel
  have hf19 : (Cond.fieldLink RX4 19 "RiddleDrive" "now" "LRiddleDrive$Drive;").before _ s = true := hts _ (by decide +kernel)
  have hf29 : (Cond.fieldLink RX4 29 "RiddleDrive" "knowledge" "LRiddleDrive$Knowledge;").before _ s = true := hts _ (by decide +kernel)
  have hf91 : (Cond.fieldLink RX4 91 "RiddleDrive$Drive" "places" "I").before _ s = true := hts _ (by decide +kernel)
  have hf101 : (Cond.fieldLink RX4 101 "RiddleDrive$Drive" "secrecy" "I").before _ s = true := hts _ (by decide +kernel)
  have hl := lv_entry ([.ref x, .int (iI a), .int (iI b)]) (n := 7) (Nat.le_of_ble_eq_true rfl)
  rw [lg_entry_eq]
  generalize (lg_sl ([.ref x, .int (iI a), .int (iI b)]) ++ List.replicate (7 - (lg_sl ([.ref x, .int (iI a), .int (iI b)])).length) Slot.unset).toArray = ls at hl ⊢
  have hl : lv_has ls 7 [(0, .ref x), (1, .int (iI a)), (2, .int (iI b))] := hl
  have hpl := hI.pl
  have hna := hI.na
  have hse := hI.se
  have hwi := hI.wi
  have hfe := hI.fe
  refine lv_aload_n hx hb dX4_worst_0 rfl (lv_at hl 0 rfl) ?_
  refine lv_iload_n hx hb dX4_worst_1 rfl (lv_at hl 1 rfl) ?_
  refine lv_iload_n hx hb dX4_worst_2 rfl (lv_at hl 2 rfl) ?_
  refine iv_vxVv (As := [.int (iI a), .int (iI b)]) (rest := []) (C := RX4) (n := 2) ⟨hx, hb, hml, hown, hts⟩ (c_X4_checkRange l hla D yI yC yD x tx nw tr kn me sl nc S g a b (by assumption) (by assumption) _) (cwV 2 hts gX4_worst_X4_checkRange rfl rfl rfl (by decide +kernel) ⟨Nat.le_of_ble_eq_true rfl, Nat.le_of_ble_eq_true rfl⟩) hK hP hD hS hA hB [0, 1, 2] (by decide) rfl 0 rfl rfl rfl hl.1 rfl (Nat.le_of_ble_eq_true rfl) dX4_worst_3 ⟨Nat.le_of_ble_eq_true rfl, Nat.le_of_ble_eq_true rfl⟩ (fun _ => rfl) (fun _ => rfl) (fun E9 ce9 q9 ux H locs hxe hP hD hS hc9 hv9 hcl9 => ?_) (fun u3 H locs hw3 hP hD hS => ?_)
  · exact iv_out hno hlocks hc9 hv9 hcl9 hS () (by exact hP) (hxe) (Nat.le_of_ble_eq_true rfl) (Nat.le_of_ble_eq_true rfl)
  have hwr9_3 := hw3
  have hP : va_P D vwCl [(x, oRD tx nw tr kn me sl), (nw, oDrv nc S (lN (kL (S) 0 40))), (nc, aI yI 48 g), (kn, oKn pl ex), (ex, aI yI 1681 E)] H := hP
  have hD : va_D A [(x, oRD tx nw tr kn me sl), (nw, oDrv nc S (lN (kL (S) 0 40))), (nc, aI yI 48 g), (kn, oKn pl ex), (ex, aI yI 1681 E)] := hD
  have hab := whyR_0.1 hwr9_3
  have hmq := ml_r (wo := -1) (a := a) (b := b) hpl.2 (by omega)
  have hle := most_le hI (a := a) (b := b) (by omega)
  refine lv_aload_n hx hb dX4_worst_6 rfl (lv_at hl 0 rfl) ?_
  refine va_get (D := D) (ci := 4) (v := .ref nw) (C := RX4) (T := TX4) (N := 6) hx hb hts hinX4 hown hK hP 0 rfl rfl 1 (by decide) hf19 (fun _ h9 => h9) rfl dX4_worst_7 ?_
  refine lv_iload_n hx hb dX4_worst_10 rfl (lv_at hl 1 rfl) ?_
  refine lv_iload_n hx hb dX4_worst_11 rfl (lv_at hl 2 rfl) ?_
  refine iv_roV (As := [.int (iI a), .int (iI b)]) (rest := []) (C := RX0) (n := 2) ⟨hx, hb, hml, hown, hts⟩ (c_X0_isNarrow l D yI yC yD nw nc S g (lN (kL (S) 0 40)) a b (by omega) (by omega)) (cwV 2 hts gX4_worst_X0_isNarrow rfl rfl rfl (by decide +kernel) ⟨Nat.le_of_ble_eq_true rfl, Nat.le_of_ble_eq_true rfl⟩) hK hP [1, 2] rfl 1 rfl rfl rfl hl.1 rfl (Nat.le_of_ble_eq_true rfl) dX4_worst_12 ⟨Nat.le_of_ble_eq_true rfl, Nat.le_of_ble_eq_true rfl⟩ ?_
  refine iv_ifb_eq (P := b - a + 1 < S 1) (tgt := 20) hx hb dX4_worst_15 (by decide) (fun c15 => ?_) (fun c15 => ?_)
  · refine lv_aload_n hx hb dX4_worst_20 rfl (lv_at hl 0 rfl) ?_
    refine va_get (D := D) (ci := 4) (v := .ref kn) (C := RX4) (T := TX4) (N := 6) hx hb hts hinX4 hown hK hP 0 rfl rfl 3 (by decide) hf29 (fun _ h9 => h9) rfl dX4_worst_21 ?_
    refine lv_aload_n hx hb dX4_worst_24 rfl (lv_at hl 0 rfl) ?_
    refine va_get (D := D) (ci := 4) (v := .ref nw) (C := RX4) (T := TX4) (N := 6) hx hb hts hinX4 hown hK hP 0 rfl rfl 1 (by decide) hf19 (fun _ h9 => h9) rfl dX4_worst_25 ?_
    refine lv_iconst (v := iI (-1)) hx hb dX4_worst_28 (by decide +kernel) ?_
    refine iv_rwVv (As := [.ref nw, .int (iI (-1))]) (rest := []) (C := RX1) (n := 2) ⟨hx, hb, hml, hown, hts⟩ (c_X1_learnFrom l D yI yC yD kn ex pl E nw nc S g (-1) (by assumption) (by assumption) (by omega) _) (cwV 2 hts gX4_worst_X1_learnFrom rfl rfl rfl (by decide +kernel) ⟨Nat.le_of_ble_eq_true rfl, Nat.le_of_ble_eq_true rfl⟩) hK hP hD hS hA [3, 4, 1, 2] (by decide) rfl 3 rfl rfl rfl hl.1 rfl (Nat.le_of_ble_eq_true rfl) dX4_worst_29 ⟨Nat.le_of_ble_eq_true rfl, Nat.le_of_ble_eq_true rfl⟩ (fun _ => rfl) (fun u29 H locs hw29 hP hD hS => ?_)
    obtain ⟨G929, hu29⟩ : ∃ z, z = u29 := ⟨_, rfl⟩
    subst hu29
    have hE9_29 := hw29
    have hP : va_P D vwCl [(x, oRD tx nw tr kn me sl), (nw, oDrv nc S (lN (kL S 0 40))), (nc, aI yI 48 g), (kn, oKn (S 0) ex), (ex, aI yI 1681 G929)] H := hP
    have hD : va_D A [(x, oRD tx nw tr kn me sl), (nw, oDrv nc S (lN (kL S 0 40))), (nc, aI yI 48 g), (kn, oKn (S 0) ex), (ex, aI yI 1681 G929)] := hD
    refine lv_aload_n hx hb dX4_worst_32 rfl (lv_at hl 0 rfl) ?_
    refine va_get (D := D) (ci := 4) (v := .ref kn) (C := RX4) (T := TX4) (N := 6) hx hb hts hinX4 hown hK hP 0 rfl rfl 3 (by decide) hf29 (fun _ h9 => h9) rfl dX4_worst_33 ?_
    refine lv_iload_n hx hb dX4_worst_36 rfl (lv_at hl 1 rfl) ?_
    refine lv_iload_n hx hb dX4_worst_37 rfl (lv_at hl 2 rfl) ?_
    refine iv_roV (As := [.int (iI a), .int (iI b)]) (rest := []) (C := RX1) (n := 2) ⟨hx, hb, hml, hown, hts⟩ (c_X1_fewestKeys l D yI yC yD kn ex (S 0) G929 (FB S (-1)) a b (by omega) (by assumption) (by omega)) (cwV 2 hts gX4_worst_X1_fewestKeys rfl rfl rfl (by decide +kernel) ⟨Nat.le_of_ble_eq_true rfl, Nat.le_of_ble_eq_true rfl⟩) hK hP [3, 4] rfl 3 rfl rfl rfl hl.1 rfl (Nat.le_of_ble_eq_true rfl) dX4_worst_38 ⟨Nat.le_of_ble_eq_true rfl, Nat.le_of_ble_eq_true rfl⟩ ?_
    refine lv_istore_n (lv' := [(3, .int (iI (leastI (FB S (-1)) a b))), (0, .ref x), (1, .int (iI a)), (2, .int (iI b))]) hx hb dX4_worst_41 rfl hl (by decide) rfl (fun ls hl => ?_)
    refine lv_aload_n hx hb dX4_worst_42 rfl (lv_at hl 1 rfl) ?_
    refine va_get (D := D) (ci := 4) (v := .ref kn) (C := RX4) (T := TX4) (N := 6) hx hb hts hinX4 hown hK hP 0 rfl rfl 3 (by decide) hf29 (fun _ h9 => h9) rfl dX4_worst_43 ?_
    refine lv_iload_n hx hb dX4_worst_46 rfl (lv_at hl 2 rfl) ?_
    refine lv_iload_n hx hb dX4_worst_47 rfl (lv_at hl 3 rfl) ?_
    refine iv_roV (As := [.int (iI a), .int (iI b)]) (rest := []) (C := RX1) (n := 2) ⟨hx, hb, hml, hown, hts⟩ (c_X1_greatestKeys l D yI yC yD kn ex (S 0) G929 (FB S (-1)) a b (by omega) (by assumption) (by omega)) (cwV 2 hts gX4_worst_X1_greatestKeys rfl rfl rfl (by decide +kernel) ⟨Nat.le_of_ble_eq_true rfl, Nat.le_of_ble_eq_true rfl⟩) hK hP [3, 4] rfl 3 rfl rfl rfl hl.1 rfl (Nat.le_of_ble_eq_true rfl) dX4_worst_48 ⟨Nat.le_of_ble_eq_true rfl, Nat.le_of_ble_eq_true rfl⟩ ?_
    refine lv_istore (lv' := [(4, .int (iI (mostI (FB S (-1)) a b))), (3, .int (iI (leastI (FB S (-1)) a b))), (0, .ref x), (1, .int (iI a)), (2, .int (iI b))]) hx hb dX4_worst_51 hl (by decide) rfl (fun ls hl => ?_)
    refine lv_aload_n hx hb dX4_worst_53 rfl (lv_at hl 2 rfl) ?_
    refine va_get (D := D) (ci := 4) (v := .ref nw) (C := RX4) (T := TX4) (N := 6) hx hb hts hinX4 hown hK hP 0 rfl rfl 1 (by decide) hf19 (fun _ h9 => h9) rfl dX4_worst_54 ?_
    refine va_get (D := D) (ci := 0) (v := .int (iI (S 0))) (C := RX0) (T := TX0) (N := 10) hx hb hts hinX0 hown hK hP 1 rfl rfl 0 (by decide) hf91 (fun _ h9 => h9) rfl dX4_worst_57 ?_
    refine lv_istore (lv' := [(5, .int (iI (S 0))), (4, .int (iI (mostI (FB S (-1)) a b))), (3, .int (iI (leastI (FB S (-1)) a b))), (0, .ref x), (1, .int (iI a)), (2, .int (iI b))]) hx hb dX4_worst_60 hl (by decide) rfl (fun ls hl => ?_)
    refine lv_iload_n hx hb dX4_worst_62 rfl (lv_at hl 2 rfl) ?_
    refine lv_aload_n hx hb dX4_worst_63 rfl (lv_at hl 3 rfl) ?_
    refine va_get (D := D) (ci := 4) (v := .ref nw) (C := RX4) (T := TX4) (N := 6) hx hb hts hinX4 hown hK hP 0 rfl rfl 1 (by decide) hf19 (fun _ h9 => h9) rfl dX4_worst_64 ?_
    refine va_get (D := D) (ci := 0) (v := .int (iI (S 2))) (C := RX0) (T := TX0) (N := 10) hx hb hts hinX0 hown hK hP 1 rfl rfl 2 (by decide) hf101 (fun _ h9 => h9) rfl dX4_worst_67 ?_
    refine iv_icmp_ge (a := leastI (FB S (-1)) a b) (b := S 2) (tgt := 94) hx hb (by omega) (by omega) dX4_worst_70 (by decide) (fun c70 => ?_) (fun c70 => ?_)
    · refine lv_iload_n hx hb dX4_worst_94 rfl (lv_at hl 2 rfl) ?_
      refine lv_aload_n hx hb dX4_worst_95 rfl (lv_at hl 3 rfl) ?_
      refine va_get (D := D) (ci := 4) (v := .ref nw) (C := RX4) (T := TX4) (N := 6) hx hb hts hinX4 hown hK hP 0 rfl rfl 1 (by decide) hf19 (fun _ h9 => h9) rfl dX4_worst_96 ?_
      refine va_get (D := D) (ci := 0) (v := .int (iI (S 2))) (C := RX0) (T := TX0) (N := 10) hx hb hts hinX0 hown hK hP 1 rfl rfl 2 (by decide) hf101 (fun _ h9 => h9) rfl dX4_worst_99 ?_
      refine iv_max hx hb (hml.trans hl.1.symm) hown (hts (.methodLink RX4 211 Lib.Math.max.name) (by decide +kernel)) (hts (.static Lib.Math.max.name) (by decide +kernel)) (hts (.initialized "java/lang/Math") (by decide +kernel)) (hts (.code Lib.Math.max.name Lib.Math.max.code 2 (some .int)) (by decide +kernel)) (Nat.le_of_ble_eq_true rfl) (Nat.le_of_ble_eq_true rfl) (Nat.le_of_ble_eq_true rfl) (Nat.le_of_ble_eq_true rfl) (by omega) (by omega) dX4_worst_102 ?_
      refine lv_istore (lv' := [(6, .int (iI (max (leastI (FB S (-1)) a b) (S 2)))), (5, .int (iI (S 0))), (4, .int (iI (mostI (FB S (-1)) a b))), (3, .int (iI (leastI (FB S (-1)) a b))), (0, .ref x), (1, .int (iI a)), (2, .int (iI b))]) hx hb dX4_worst_105 hl (by decide) rfl (fun ls hl => ?_)
      refine iv_loop (I := fun (qq : Nat × Int × Int) H locs ls => match qq with | (n, x5, x6) => ((n : Int) ≤ mostI (FB S (-1)) a b + 1 - leastI (FB S (-1)) a b) ∧ (x6 = leastI (FB S (-1)) a b + n ∨ (mostI (FB S (-1)) a b < x6 ∧ (n : Int) = mostI (FB S (-1)) a b + 1 - leastI (FB S (-1)) a b)) ∧ (S 2 ≤ x6 ∧ x6 ≤ 100) ∧ (0 ≤ x5 ∧ x5 ≤ 40) ∧ (x5 = min (S 0) (wsN S (FB S (-1)) a b (leastI (FB S (-1)) a b) n)) ∧ va_P D vwCl [(x, oRD tx nw tr kn me sl), (nw, oDrv nc S (lN (kL S 0 40))), (nc, aI yI 48 g), (kn, oKn (S 0) ex), (ex, aI yI 1681 G929)] H ∧ va_D A [(x, oRD tx nw tr kn me sl), (nw, oDrv nc S (lN (kL S 0 40))), (nc, aI yI 48 g), (kn, oKn (S 0) ex), (ex, aI yI 1681 G929)] ∧ va_S A s.heap H locs ∧ lv_has ls 7 [(6, .int (iI x6)), (5, .int (iI x5)), (4, .int (iI (mostI (FB S (-1)) a b))), (3, .int (iI (leastI (FB S (-1)) a b))), (0, .ref x), (1, .int (iI a)), (2, .int (iI b))]) (μ := fun (qq : Nat × Int × Int) => match qq with | (n, x5, x6) => (mostI (FB S (-1)) a b + 1 - x6).toNat) ((min (max (leastI (FB S (-1)) a b) (S 2)) (mostI (FB S (-1)) a b + 1) - leastI (FB S (-1)) a b).toNat, S 0, max (leastI (FB S (-1)) a b) (S 2)) ?_ ?_
      · exact ⟨by omega, by omega, by omega, by omega, by first | exact ws_e1 hI hab (by omega) | exact ws_e2 hI (by omega), hP, hD, hS, lv_sub hl [0, 1, 2, 3, 4, 5, 6] rfl⟩
      · intro qq H locs ls hI ih107
        obtain ⟨n, x5, x6⟩ := qq
        obtain ⟨hn, h6, hs6, hx5, h5, hP, hD, hS, hl⟩ := hI
        refine lv_iload hx hb dX4_worst_107 (lv_at hl 0 rfl) ?_
        refine lv_iload hx hb dX4_worst_109 (lv_at hl 2 rfl) ?_
        refine iv_icmp_gt (a := x6) (b := mostI (FB S (-1)) a b) (tgt := 140) hx hb (by omega) (by omega) dX4_worst_111 (by decide) (fun c111 => ?_) (fun c111 => ?_)
        · refine lv_iload hx hb dX4_worst_140 (lv_at hl 1 rfl) ?_
          have hP9 : va_P D vwCl [(x, oRD tx nw tr kn me sl), (nw, oDrv nc S (lN (kL (S) 0 40))), (nc, aI yI 48 g), (kn, oKn (S 0) ex), (ex, aI yI 1681 G929)] _ := hP.sub [0, 1, 2, 3, 4] rfl
          refine W.widen (k := 8) (n := 150) (Nat.le_of_ble_eq_true rfl) (Nat.le_of_ble_eq_true rfl) ?_
          refine vx_ret ?_
          exact W.iret hx hb hr (fun t ht hW => ⟨⟨iI x5, (S 0, G929), rfl, ⟨congrArg iI (show x5 = if S 1 ≤ b - a + 1 then worstQ S a b else -1 by rw [if_pos (by omega)]; exact ws_fin hI hab h5 (by omega)), (by exact hwr9_3)⟩, by show va_P D vwCl _ t.heap; rw [ht]; exact hP9⟩, hS.F ht⟩) hS.2.2 dX4_worst_142
        · refine lv_iload hx hb dX4_worst_114 (lv_at hl 1 rfl) ?_
          refine lv_aload_n hx hb dX4_worst_116 rfl (lv_at hl 4 rfl) ?_
          refine va_get (D := D) (ci := 4) (v := .ref kn) (C := RX4) (T := TX4) (N := 6) hx hb hts hinX4 hown hK hP 0 rfl rfl 3 (by decide) hf29 (fun _ h9 => h9) rfl dX4_worst_117 ?_
          refine lv_iload_n hx hb dX4_worst_120 rfl (lv_at hl 5 rfl) ?_
          refine lv_iload_n hx hb dX4_worst_121 rfl (lv_at hl 6 rfl) ?_
          refine lv_iload hx hb dX4_worst_122 (lv_at hl 0 rfl) ?_
          refine lv_iload hx hb dX4_worst_124 (lv_at hl 0 rfl) ?_
          refine iv_roV (As := [.int (iI a), .int (iI b), .int (iI x6), .int (iI x6)]) (rest := [.int (iI x5)]) (C := RX1) (n := 4) ⟨hx, hb, hml, hown, hts⟩ (c_X1_countSureBehind l D yI yC yD kn ex (S 0) G929 (FB S (-1)) a b x6 x6 (by omega) (by assumption) (gb_FB hI _) (by omega) (by omega)) (cwV 4 hts gX4_worst_X1_countSureBehind rfl rfl rfl (by decide +kernel) ⟨Nat.le_of_ble_eq_true rfl, Nat.le_of_ble_eq_true rfl⟩) hK hP [3, 4] rfl 3 rfl rfl rfl hl.1 rfl (Nat.le_of_ble_eq_true rfl) dX4_worst_126 ⟨Nat.le_of_ble_eq_true rfl, Nat.le_of_ble_eq_true rfl⟩ ?_
          have hcr := cbN_r (r := FB S (-1)) (a := a) (b := b) (few := x6) (many := x6) (S 0).toNat
          refine iv_min hx hb (hml.trans hl.1.symm) hown (hts (.methodLink RX4 216 Lib.Math.min.name) (by decide +kernel)) (hts (.static Lib.Math.min.name) (by decide +kernel)) (hts (.initialized "java/lang/Math") (by decide +kernel)) (hts (.code Lib.Math.min.name Lib.Math.min.code 2 (some .int)) (by decide +kernel)) (Nat.le_of_ble_eq_true rfl) (Nat.le_of_ble_eq_true rfl) (Nat.le_of_ble_eq_true rfl) (Nat.le_of_ble_eq_true rfl) (by omega) (by omega) dX4_worst_129 ?_
          refine lv_istore (lv' := [(5, .int (iI (min x5 (cbN (FB S (-1)) a b x6 x6 (S 0).toNat)))), (6, .int (iI x6)), (4, .int (iI (mostI (FB S (-1)) a b))), (3, .int (iI (leastI (FB S (-1)) a b))), (0, .ref x), (1, .int (iI a)), (2, .int (iI b))]) hx hb dX4_worst_132 hl (by decide) rfl (fun ls hl => ?_)
          refine iv_inc (lv' := [(6, .int (iI (x6 + 1))), (5, .int (iI (min x5 (cbN (FB S (-1)) a b x6 x6 (S 0).toNat)))), (4, .int (iI (mostI (FB S (-1)) a b))), (3, .int (iI (leastI (FB S (-1)) a b))), (0, .ref x), (1, .int (iI a)), (2, .int (iI b))]) hx hb dX4_worst_134 hl (k := 1) rfl (by decide) rfl (fun ls hl => ?_)
          refine lv_goto (tgt := 107) hx hb dX4_worst_137 (by decide) ?_
          refine ih107 (n + 1, min x5 (cbN (FB S (-1)) a b x6 x6 (S 0).toNat), x6 + 1) _ _ (by show ((mostI (FB S (-1)) a b + 1 - (x6 + 1)).toNat : Nat) < (mostI (FB S (-1)) a b + 1 - x6).toNat; omega) ?_
          exact ⟨by omega, by omega, by omega, by omega, ws_st hI hab h5 (by omega) (by omega), hP, hD, hS, lv_sub hl [0, 1, 2, 3, 4, 5, 6] rfl⟩
    · refine lv_aload_n hx hb dX4_worst_73 rfl (lv_at hl 3 rfl) ?_
      refine va_get (D := D) (ci := 4) (v := .ref kn) (C := RX4) (T := TX4) (N := 6) hx hb hts hinX4 hown hK hP 0 rfl rfl 3 (by decide) hf29 (fun _ h9 => h9) rfl dX4_worst_74 ?_
      refine lv_iload_n hx hb dX4_worst_77 rfl (lv_at hl 4 rfl) ?_
      refine lv_iload_n hx hb dX4_worst_78 rfl (lv_at hl 5 rfl) ?_
      refine lv_iconst (v := iI 0) hx hb dX4_worst_79 (by decide +kernel) ?_
      refine lv_aload_n hx hb dX4_worst_80 rfl (lv_at hl 3 rfl) ?_
      refine va_get (D := D) (ci := 4) (v := .ref nw) (C := RX4) (T := TX4) (N := 6) hx hb hts hinX4 hown hK hP 0 rfl rfl 1 (by decide) hf19 (fun _ h9 => h9) rfl dX4_worst_81 ?_
      refine va_get (D := D) (ci := 0) (v := .int (iI (S 2))) (C := RX0) (T := TX0) (N := 10) hx hb hts hinX0 hown hK hP 1 rfl rfl 2 (by decide) hf101 (fun _ h9 => h9) rfl dX4_worst_84 ?_
      refine lv_iconst (v := iI 1) hx hb dX4_worst_87 (by decide +kernel) ?_
      refine iv_sub hx hb dX4_worst_88 ?_
      refine iv_roV (As := [.int (iI a), .int (iI b), .int (iI 0), .int (iI (S 2 - 1))]) (rest := []) (C := RX1) (n := 4) ⟨hx, hb, hml, hown, hts⟩ (c_X1_countSureBehind l D yI yC yD kn ex (S 0) G929 (FB S (-1)) a b 0 (S 2 - 1) (by omega) (by assumption) (gb_FB hI _) (by omega) (by omega)) (cwV 4 hts gX4_worst_X1_countSureBehind rfl rfl rfl (by decide +kernel) ⟨Nat.le_of_ble_eq_true rfl, Nat.le_of_ble_eq_true rfl⟩) hK hP [3, 4] rfl 3 rfl rfl rfl hl.1 rfl (Nat.le_of_ble_eq_true rfl) dX4_worst_89 ⟨Nat.le_of_ble_eq_true rfl, Nat.le_of_ble_eq_true rfl⟩ ?_
      have hcr := cbN_r (r := FB S (-1)) (a := a) (b := b) (few := 0) (many := S 2 - 1) (S 0).toNat
      refine lv_istore (lv' := [(5, .int (iI (cbN (FB S (-1)) a b 0 (S 2 - 1) (S 0).toNat))), (4, .int (iI (mostI (FB S (-1)) a b))), (3, .int (iI (leastI (FB S (-1)) a b))), (0, .ref x), (1, .int (iI a)), (2, .int (iI b))]) hx hb dX4_worst_92 hl (by decide) rfl (fun ls hl => ?_)
      refine lv_iload_n hx hb dX4_worst_94 rfl (lv_at hl 2 rfl) ?_
      refine lv_aload_n hx hb dX4_worst_95 rfl (lv_at hl 3 rfl) ?_
      refine va_get (D := D) (ci := 4) (v := .ref nw) (C := RX4) (T := TX4) (N := 6) hx hb hts hinX4 hown hK hP 0 rfl rfl 1 (by decide) hf19 (fun _ h9 => h9) rfl dX4_worst_96 ?_
      refine va_get (D := D) (ci := 0) (v := .int (iI (S 2))) (C := RX0) (T := TX0) (N := 10) hx hb hts hinX0 hown hK hP 1 rfl rfl 2 (by decide) hf101 (fun _ h9 => h9) rfl dX4_worst_99 ?_
      refine iv_max hx hb (hml.trans hl.1.symm) hown (hts (.methodLink RX4 211 Lib.Math.max.name) (by decide +kernel)) (hts (.static Lib.Math.max.name) (by decide +kernel)) (hts (.initialized "java/lang/Math") (by decide +kernel)) (hts (.code Lib.Math.max.name Lib.Math.max.code 2 (some .int)) (by decide +kernel)) (Nat.le_of_ble_eq_true rfl) (Nat.le_of_ble_eq_true rfl) (Nat.le_of_ble_eq_true rfl) (Nat.le_of_ble_eq_true rfl) (by omega) (by omega) dX4_worst_102 ?_
      refine lv_istore (lv' := [(6, .int (iI (max (leastI (FB S (-1)) a b) (S 2)))), (5, .int (iI (cbN (FB S (-1)) a b 0 (S 2 - 1) (S 0).toNat))), (4, .int (iI (mostI (FB S (-1)) a b))), (3, .int (iI (leastI (FB S (-1)) a b))), (0, .ref x), (1, .int (iI a)), (2, .int (iI b))]) hx hb dX4_worst_105 hl (by decide) rfl (fun ls hl => ?_)
      refine iv_loop (I := fun (qq : Nat × Int × Int) H locs ls => match qq with | (n, x5, x6) => ((n : Int) ≤ mostI (FB S (-1)) a b + 1 - leastI (FB S (-1)) a b) ∧ (x6 = leastI (FB S (-1)) a b + n ∨ (mostI (FB S (-1)) a b < x6 ∧ (n : Int) = mostI (FB S (-1)) a b + 1 - leastI (FB S (-1)) a b)) ∧ (S 2 ≤ x6 ∧ x6 ≤ 100) ∧ (0 ≤ x5 ∧ x5 ≤ 40) ∧ (x5 = min (S 0) (wsN S (FB S (-1)) a b (leastI (FB S (-1)) a b) n)) ∧ va_P D vwCl [(x, oRD tx nw tr kn me sl), (nw, oDrv nc S (lN (kL S 0 40))), (nc, aI yI 48 g), (kn, oKn (S 0) ex), (ex, aI yI 1681 G929)] H ∧ va_D A [(x, oRD tx nw tr kn me sl), (nw, oDrv nc S (lN (kL S 0 40))), (nc, aI yI 48 g), (kn, oKn (S 0) ex), (ex, aI yI 1681 G929)] ∧ va_S A s.heap H locs ∧ lv_has ls 7 [(6, .int (iI x6)), (5, .int (iI x5)), (4, .int (iI (mostI (FB S (-1)) a b))), (3, .int (iI (leastI (FB S (-1)) a b))), (0, .ref x), (1, .int (iI a)), (2, .int (iI b))]) (μ := fun (qq : Nat × Int × Int) => match qq with | (n, x5, x6) => (mostI (FB S (-1)) a b + 1 - x6).toNat) ((min (max (leastI (FB S (-1)) a b) (S 2)) (mostI (FB S (-1)) a b + 1) - leastI (FB S (-1)) a b).toNat, cbN (FB S (-1)) a b 0 (S 2 - 1) (S 0).toNat, max (leastI (FB S (-1)) a b) (S 2)) ?_ ?_
      · exact ⟨by omega, by omega, by omega, by omega, by first | exact ws_e1 hI hab (by omega) | exact ws_e2 hI (by omega), hP, hD, hS, lv_sub hl [0, 1, 2, 3, 4, 5, 6] rfl⟩
      · intro qq H locs ls hI ih107
        obtain ⟨n, x5, x6⟩ := qq
        obtain ⟨hn, h6, hs6, hx5, h5, hP, hD, hS, hl⟩ := hI
        refine lv_iload hx hb dX4_worst_107 (lv_at hl 0 rfl) ?_
        refine lv_iload hx hb dX4_worst_109 (lv_at hl 2 rfl) ?_
        refine iv_icmp_gt (a := x6) (b := mostI (FB S (-1)) a b) (tgt := 140) hx hb (by omega) (by omega) dX4_worst_111 (by decide) (fun c111 => ?_) (fun c111 => ?_)
        · refine lv_iload hx hb dX4_worst_140 (lv_at hl 1 rfl) ?_
          have hP9 : va_P D vwCl [(x, oRD tx nw tr kn me sl), (nw, oDrv nc S (lN (kL (S) 0 40))), (nc, aI yI 48 g), (kn, oKn (S 0) ex), (ex, aI yI 1681 G929)] _ := hP.sub [0, 1, 2, 3, 4] rfl
          refine W.widen (k := 8) (n := 150) (Nat.le_of_ble_eq_true rfl) (Nat.le_of_ble_eq_true rfl) ?_
          refine vx_ret ?_
          exact W.iret hx hb hr (fun t ht hW => ⟨⟨iI x5, (S 0, G929), rfl, ⟨congrArg iI (show x5 = if S 1 ≤ b - a + 1 then worstQ S a b else -1 by rw [if_pos (by omega)]; exact ws_fin hI hab h5 (by omega)), (by exact hwr9_3)⟩, by show va_P D vwCl _ t.heap; rw [ht]; exact hP9⟩, hS.F ht⟩) hS.2.2 dX4_worst_142
        · refine lv_iload hx hb dX4_worst_114 (lv_at hl 1 rfl) ?_
          refine lv_aload_n hx hb dX4_worst_116 rfl (lv_at hl 4 rfl) ?_
          refine va_get (D := D) (ci := 4) (v := .ref kn) (C := RX4) (T := TX4) (N := 6) hx hb hts hinX4 hown hK hP 0 rfl rfl 3 (by decide) hf29 (fun _ h9 => h9) rfl dX4_worst_117 ?_
          refine lv_iload_n hx hb dX4_worst_120 rfl (lv_at hl 5 rfl) ?_
          refine lv_iload_n hx hb dX4_worst_121 rfl (lv_at hl 6 rfl) ?_
          refine lv_iload hx hb dX4_worst_122 (lv_at hl 0 rfl) ?_
          refine lv_iload hx hb dX4_worst_124 (lv_at hl 0 rfl) ?_
          refine iv_roV (As := [.int (iI a), .int (iI b), .int (iI x6), .int (iI x6)]) (rest := [.int (iI x5)]) (C := RX1) (n := 4) ⟨hx, hb, hml, hown, hts⟩ (c_X1_countSureBehind l D yI yC yD kn ex (S 0) G929 (FB S (-1)) a b x6 x6 (by omega) (by assumption) (gb_FB hI _) (by omega) (by omega)) (cwV 4 hts gX4_worst_X1_countSureBehind rfl rfl rfl (by decide +kernel) ⟨Nat.le_of_ble_eq_true rfl, Nat.le_of_ble_eq_true rfl⟩) hK hP [3, 4] rfl 3 rfl rfl rfl hl.1 rfl (Nat.le_of_ble_eq_true rfl) dX4_worst_126 ⟨Nat.le_of_ble_eq_true rfl, Nat.le_of_ble_eq_true rfl⟩ ?_
          have hcr := cbN_r (r := FB S (-1)) (a := a) (b := b) (few := x6) (many := x6) (S 0).toNat
          refine iv_min hx hb (hml.trans hl.1.symm) hown (hts (.methodLink RX4 216 Lib.Math.min.name) (by decide +kernel)) (hts (.static Lib.Math.min.name) (by decide +kernel)) (hts (.initialized "java/lang/Math") (by decide +kernel)) (hts (.code Lib.Math.min.name Lib.Math.min.code 2 (some .int)) (by decide +kernel)) (Nat.le_of_ble_eq_true rfl) (Nat.le_of_ble_eq_true rfl) (Nat.le_of_ble_eq_true rfl) (Nat.le_of_ble_eq_true rfl) (by omega) (by omega) dX4_worst_129 ?_
          refine lv_istore (lv' := [(5, .int (iI (min x5 (cbN (FB S (-1)) a b x6 x6 (S 0).toNat)))), (6, .int (iI x6)), (4, .int (iI (mostI (FB S (-1)) a b))), (3, .int (iI (leastI (FB S (-1)) a b))), (0, .ref x), (1, .int (iI a)), (2, .int (iI b))]) hx hb dX4_worst_132 hl (by decide) rfl (fun ls hl => ?_)
          refine iv_inc (lv' := [(6, .int (iI (x6 + 1))), (5, .int (iI (min x5 (cbN (FB S (-1)) a b x6 x6 (S 0).toNat)))), (4, .int (iI (mostI (FB S (-1)) a b))), (3, .int (iI (leastI (FB S (-1)) a b))), (0, .ref x), (1, .int (iI a)), (2, .int (iI b))]) hx hb dX4_worst_134 hl (k := 1) rfl (by decide) rfl (fun ls hl => ?_)
          refine lv_goto (tgt := 107) hx hb dX4_worst_137 (by decide) ?_
          refine ih107 (n + 1, min x5 (cbN (FB S (-1)) a b x6 x6 (S 0).toNat), x6 + 1) _ _ (by show ((mostI (FB S (-1)) a b + 1 - (x6 + 1)).toNat : Nat) < (mostI (FB S (-1)) a b + 1 - x6).toNat; omega) ?_
          exact ⟨by omega, by omega, by omega, by omega, ws_st hI hab h5 (by omega) (by omega), hP, hD, hS, lv_sub hl [0, 1, 2, 3, 4, 5, 6] rfl⟩
  · refine lv_iconst (v := iI (-1)) hx hb dX4_worst_18 (by decide +kernel) ?_
    have hP9 : va_P D vwCl [(x, oRD tx nw tr kn me sl), (nw, oDrv nc S (lN (kL (S) 0 40))), (nc, aI yI 48 g), (kn, oKn pl ex), (ex, aI yI 1681 E)] _ := hP.sub [0, 1, 2, 3, 4] rfl
    refine W.widen (k := 8) (n := 150) (Nat.le_of_ble_eq_true rfl) (Nat.le_of_ble_eq_true rfl) ?_
    refine vx_ret ?_
    exact W.iret hx hb hr (fun t ht hW => ⟨⟨iI (-1), (pl, E), rfl, ⟨congrArg iI (show -1 = if S 1 ≤ b - a + 1 then worstQ S a b else -1 by rw [if_neg (by omega)]), (by exact hwr9_3)⟩, by show va_P D vwCl _ t.heap; rw [ht]; exact hP9⟩, hS.F ht⟩) hS.2.2 dX4_worst_19
set_option maxHeartbeats 4000000 in
set_option maxRecDepth 100000 in
theorem c_X4_bestQuestion (l : Launch) (D : va_G) (yI yC yD : ClassId) (x : Nat) (tx : Nat) (nw : Nat) (tr : Nat) (kn : Nat) (me : Nat) (sl : Nat) (nc : Nat) (S : Int → Int) (g : Int → Int) (ex : Nat) (pl : Int) (E : Int → Int) (hI : Inv S) (hR : Rc S g) (sz : Nat) : Met l yX4_bestQuestion wsX4_bestQuestion ({ frames := 4, cells := 0, slots := 0, locals := 99 }) (rwP [.ref x] D (tyz yI yC yD) [(x, oRD tx nw tr kn me sl), (nw, oDrv nc S (lN (kL (S) 0 40))), (nc, aI yI 48 g), (kn, oKn pl ex), (ex, aI yI 1681 E)] sz) (va_Qi (fun (r : Int32) (u : Int × (Int → Int)) => match u with | (p9, E9) => r = iI (bestQ S) ∧ True) (fun (u : Int × (Int → Int)) (t : State) => match u with | (p9, E9) => va_P D vwCl [(x, oRD tx nw tr kn me sl), (nw, oDrv nc S (lN (kL (S) 0 40))), (nc, aI yI 48 g), (kn, oKn p9 ex), (ex, aI yI 1681 E9)] t.heap) (va_A [(x, oRD tx nw tr kn me sl), (nw, oDrv nc S (lN (kL (S) 0 40))), (nc, aI yI 48 g), (kn, oKn pl ex), (ex, aI yI 1681 E)] sz)) 0 0 (va_A [(x, oRD tx nw tr kn me sl), (nw, oDrv nc S (lN (kL (S) 0 40))), (nc, aI yI 48 g), (kn, oKn pl ex), (ex, aI yI 1681 E)] sz) := by
  refine Met.ofW (cc := cX4_bestQuestion) (maxL := 7) (ret := (some .int)) (by decide) rfl ?_
  intro p e s m args below meth c s₁ B hml hv
  obtain ⟨rfl, hsz, hP, hK, hD0⟩ := hv
  have hx := B.exec
  have hb := B.bytes
  have hr := B.returns
  have hts := atoms_spec (ws := wsX4_bestQuestion) B.pre
  have hown : s.vm.findClass RX4 = some m.cls := findClass_of_methodNamed B.named
  have hlocks := B.notSynchronized
  subst hsz
  have hD := hD0.self (sz := s.heap.size)
  generalize hAe : va_A [(x, oRD tx nw tr kn me sl), (nw, oDrv nc S (lN (kL (S) 0 40))), (nc, aI yI 48 g), (kn, oKn pl ex), (ex, aI yI 1681 E)] s.heap.size = A at hD ⊢
  have hA : ∀ q : Nat, s.heap.size ≤ q → A q := fun q h => by rw [← hAe]; exact Or.inr h
  have hS : va_S A s.heap s.heap [] := va_S.rf
  have hP : va_P D vwCl [(x, oRD tx nw tr kn me sl), (nw, oDrv nc S (lN (kL (S) 0 40))), (nc, aI yI 48 g), (kn, oKn pl ex), (ex, aI yI 1681 E)] s.heap := hP
  have hinX0 : ∀ w ∈ wsX00, w ∈ wsX4_bestQuestion := by decide +kernel
  have hinX4 : ∀ w ∈ wsX40, w ∈ wsX4_bestQuestion := by decide +kernel
  have hf19 : (Cond.fieldLink RX4 19 "RiddleDrive" "now" "LRiddleDrive$Drive;").before _ s = true := hts _ (by decide +kernel)
  have hf29 : (Cond.fieldLink RX4 29 "RiddleDrive" "knowledge" "LRiddleDrive$Knowledge;").before _ s = true := hts _ (by decide +kernel)
  have hf91 : (Cond.fieldLink RX4 91 "RiddleDrive$Drive" "places" "I").before _ s = true := hts _ (by decide +kernel)
  have hf98 : (Cond.fieldLink RX4 98 "RiddleDrive$Drive" "width" "I").before _ s = true := hts _ (by decide +kernel)
  have hl := lv_entry ([.ref x]) (n := 7) (Nat.le_of_ble_eq_true rfl)
  rw [lg_entry_eq]
  generalize (lg_sl ([.ref x]) ++ List.replicate (7 - (lg_sl ([.ref x])).length) Slot.unset).toArray = ls at hl ⊢
  have hl : lv_has ls 7 [(0, .ref x)] := hl
  have hpl := hI.pl
  have hna := hI.na
  have hse := hI.se
  have hwi := hI.wi
  have hfe := hI.fe
  refine lv_aload_n hx hb dX4_bestQuestion_0 rfl (lv_at hl 0 rfl) ?_
  refine va_get (D := D) (ci := 4) (v := .ref kn) (C := RX4) (T := TX4) (N := 6) hx hb hts hinX4 hown hK hP 0 rfl rfl 3 (by decide) hf29 (fun _ h9 => h9) rfl dX4_bestQuestion_1 ?_
  refine lv_aload_n hx hb dX4_bestQuestion_4 rfl (lv_at hl 0 rfl) ?_
  refine va_get (D := D) (ci := 4) (v := .ref nw) (C := RX4) (T := TX4) (N := 6) hx hb hts hinX4 hown hK hP 0 rfl rfl 1 (by decide) hf19 (fun _ h9 => h9) rfl dX4_bestQuestion_5 ?_
  refine lv_iconst (v := iI (-1)) hx hb dX4_bestQuestion_8 (by decide +kernel) ?_
  refine iv_rwVv (As := [.ref nw, .int (iI (-1))]) (rest := []) (C := RX1) (n := 2) ⟨hx, hb, hml, hown, hts⟩ (c_X1_learnFrom l D yI yC yD kn ex pl E nw nc S g (-1) (by assumption) (by assumption) (by omega) _) (cwV 2 hts gX4_bestQuestion_X1_learnFrom rfl rfl rfl (by decide +kernel) ⟨Nat.le_of_ble_eq_true rfl, Nat.le_of_ble_eq_true rfl⟩) hK hP hD hS hA [3, 4, 1, 2] (by decide) rfl 3 rfl rfl rfl hl.1 rfl (Nat.le_of_ble_eq_true rfl) dX4_bestQuestion_9 ⟨Nat.zero_le _, Nat.zero_le _⟩ (fun _ => rfl) (fun u9 H locs hw9 hP hD hS => ?_)
  obtain ⟨G99, hu9⟩ : ∃ z, z = u9 := ⟨_, rfl⟩
  subst hu9
  have hE9_9 := hw9
  have hP : va_P D vwCl [(x, oRD tx nw tr kn me sl), (nw, oDrv nc S (lN (kL S 0 40))), (nc, aI yI 48 g), (kn, oKn (S 0) ex), (ex, aI yI 1681 G99)] H := hP
  have hD : va_D A [(x, oRD tx nw tr kn me sl), (nw, oDrv nc S (lN (kL S 0 40))), (nc, aI yI 48 g), (kn, oKn (S 0) ex), (ex, aI yI 1681 G99)] := hD
  refine lv_iconst (v := iI (-1)) hx hb dX4_bestQuestion_12 (by decide +kernel) ?_
  refine lv_istore_n (lv' := [(1, .int (iI (-1))), (0, .ref x)]) hx hb dX4_bestQuestion_13 rfl hl (by decide) rfl (fun ls hl => ?_)
  refine lv_iconst (v := iI 0) hx hb dX4_bestQuestion_14 (by decide +kernel) ?_
  refine lv_istore_n (lv' := [(2, .int (iI 0)), (1, .int (iI (-1))), (0, .ref x)]) hx hb dX4_bestQuestion_15 rfl hl (by decide) rfl (fun ls hl => ?_)
  refine lv_iconst (v := iI 0) hx hb dX4_bestQuestion_16 (by decide +kernel) ?_
  refine lv_istore_n (lv' := [(3, .int (iI 0)), (2, .int (iI 0)), (1, .int (iI (-1))), (0, .ref x)]) hx hb dX4_bestQuestion_17 rfl hl (by decide) rfl (fun ls hl => ?_)
  refine lv_iconst (v := iI 0) hx hb dX4_bestQuestion_18 (by decide +kernel) ?_
  refine lv_istore (lv' := [(4, .int (iI 0)), (3, .int (iI 0)), (2, .int (iI 0)), (1, .int (iI (-1))), (0, .ref x)]) hx hb dX4_bestQuestion_19 hl (by decide) rfl (fun ls hl => ?_)
  refine iv_loop (I := fun (qq : Nat × Int × Int × Int × Int) H locs ls => match qq with | (k, x1, x2, x3, x4) => ((k : Int) ≤ S 0) ∧ (x4 = k) ∧ (0 ≤ x2 ∧ x2 ≤ 3000) ∧ (0 ≤ x3 ∧ x3 ≤ 3000) ∧ ((x1, x2, x3) = bqO S (FB S (-1)) k) ∧ va_P D vwCl [(x, oRD tx nw tr kn me sl), (nw, oDrv nc S (lN (kL S 0 40))), (nc, aI yI 48 g), (kn, oKn (S 0) ex), (ex, aI yI 1681 G99)] H ∧ va_D A [(x, oRD tx nw tr kn me sl), (nw, oDrv nc S (lN (kL S 0 40))), (nc, aI yI 48 g), (kn, oKn (S 0) ex), (ex, aI yI 1681 G99)] ∧ va_S A s.heap H locs ∧ lv_has ls 7 [(4, .int (iI x4)), (3, .int (iI x3)), (2, .int (iI x2)), (1, .int (iI x1)), (0, .ref x)]) (μ := fun (qq : Nat × Int × Int × Int × Int) => match qq with | (k, x1, x2, x3, x4) => (S 0).toNat - k) (0, -1, 0, 0, 0) ?_ ?_
  · exact ⟨by omega, by omega, by omega, by omega, rfl, hP, hD, hS, lv_sub hl [0, 1, 2, 3, 4] rfl⟩
  · intro qq H locs ls hI ih21
    obtain ⟨k, x1, x2, x3, x4⟩ := qq
    obtain ⟨hk, h4, hx2, hx3, hqo, hP, hD, hS, hl⟩ := hI
    refine lv_iload hx hb dX4_bestQuestion_21 (lv_at hl 0 rfl) ?_
    refine lv_aload_n hx hb dX4_bestQuestion_23 rfl (lv_at hl 4 rfl) ?_
    refine va_get (D := D) (ci := 4) (v := .ref nw) (C := RX4) (T := TX4) (N := 6) hx hb hts hinX4 hown hK hP 0 rfl rfl 1 (by decide) hf19 (fun _ h9 => h9) rfl dX4_bestQuestion_24 ?_
    refine va_get (D := D) (ci := 0) (v := .int (iI (S 0))) (C := RX0) (T := TX0) (N := 10) hx hb hts hinX0 hown hK hP 1 rfl rfl 0 (by decide) hf91 (fun _ h9 => h9) rfl dX4_bestQuestion_27 ?_
    refine iv_icmp_ge (a := x4) (b := S 0) (tgt := 152) hx hb (by omega) (by omega) dX4_bestQuestion_30 (by decide) (fun c30 => ?_) (fun c30 => ?_)
    · refine lv_iload_n hx hb dX4_bestQuestion_152 rfl (lv_at hl 3 rfl) ?_
      have hP9 : va_P D vwCl [(x, oRD tx nw tr kn me sl), (nw, oDrv nc S (lN (kL (S) 0 40))), (nc, aI yI 48 g), (kn, oKn (S 0) ex), (ex, aI yI 1681 G99)] _ := hP.sub [0, 1, 2, 3, 4] rfl
      exact W.iret hx hb hr (fun t ht hW => ⟨⟨iI x1, (S 0, G99), rfl, ⟨congrArg iI (show x1 = bestQ S by rw [show x1 = (bqO S (FB S (-1)) k).1 from congrArg Prod.fst hqo, show k = (S 0).toNat by omega]; rfl), trivial⟩, by show va_P D vwCl _ t.heap; rw [ht]; exact hP9⟩, hS.F ht⟩) hS.2.2 dX4_bestQuestion_153
    · refine lv_iload hx hb dX4_bestQuestion_33 (lv_at hl 0 rfl) ?_
      refine lv_aload_n hx hb dX4_bestQuestion_35 rfl (lv_at hl 4 rfl) ?_
      refine va_get (D := D) (ci := 4) (v := .ref nw) (C := RX4) (T := TX4) (N := 6) hx hb hts hinX4 hown hK hP 0 rfl rfl 1 (by decide) hf19 (fun _ h9 => h9) rfl dX4_bestQuestion_36 ?_
      refine va_get (D := D) (ci := 0) (v := .int (iI (S 1))) (C := RX0) (T := TX0) (N := 10) hx hb hts hinX0 hown hK hP 1 rfl rfl 1 (by decide) hf98 (fun _ h9 => h9) rfl dX4_bestQuestion_39 ?_
      refine iv_add hx hb dX4_bestQuestion_42 ?_
      refine lv_iconst (v := iI 1) hx hb dX4_bestQuestion_43 (by decide +kernel) ?_
      refine iv_sub hx hb dX4_bestQuestion_44 ?_
      refine lv_istore (lv' := [(5, .int (iI (x4 + (S 1) - 1))), (4, .int (iI x4)), (3, .int (iI x3)), (2, .int (iI x2)), (1, .int (iI x1)), (0, .ref x)]) hx hb dX4_bestQuestion_45 hl (by decide) rfl (fun ls hl => ?_)
      refine iv_loop (I := fun (qq : Nat × Int × Int × Int × Int) H locs ls => match qq with | (n, y1, y2, y3, x5) => ((n : Int) ≤ S 0 - x4) ∧ ((x5 = x4 + n ∨ (S 0 ≤ x5 ∧ (n : Int) = S 0 - x4)) ∧ S 1 ≤ x5 - x4 + 1 ∧ x5 ≤ 100) ∧ (0 ≤ y2 ∧ y2 ≤ 3000) ∧ (0 ≤ y3 ∧ y3 ≤ 3000) ∧ ((y1, y2, y3) = bqI S (FB S (-1)) x4 (x1, x2, x3) n) ∧ va_P D vwCl [(x, oRD tx nw tr kn me sl), (nw, oDrv nc S (lN (kL S 0 40))), (nc, aI yI 48 g), (kn, oKn (S 0) ex), (ex, aI yI 1681 G99)] H ∧ va_D A [(x, oRD tx nw tr kn me sl), (nw, oDrv nc S (lN (kL S 0 40))), (nc, aI yI 48 g), (kn, oKn (S 0) ex), (ex, aI yI 1681 G99)] ∧ va_S A s.heap H locs ∧ lv_has ls 7 [(5, .int (iI x5)), (4, .int (iI x4)), (3, .int (iI y3)), (2, .int (iI y2)), (1, .int (iI y1)), (0, .ref x)]) (μ := fun (qq : Nat × Int × Int × Int × Int) => match qq with | (n, y1, y2, y3, x5) => (S 0 - x5).toNat) ((min (S 1 - 1) (S 0 - x4)).toNat, x1, x2, x3, x4 + (S 1) - 1) ?_ ?_
      · exact ⟨by omega, by omega, by omega, by omega, (bq_skip hx2.1 _ (by omega)).symm, hP, hD, hS, lv_sub hl [0, 1, 2, 3, 4, 5] rfl⟩
      · intro qq H locs ls hI ih47
        obtain ⟨n, y1, y2, y3, x5⟩ := qq
        obtain ⟨hn, h5, hy2, hy3, hqi, hP, hD, hS, hl⟩ := hI
        refine lv_iload hx hb dX4_bestQuestion_47 (lv_at hl 0 rfl) ?_
        refine lv_aload_n hx hb dX4_bestQuestion_49 rfl (lv_at hl 5 rfl) ?_
        refine va_get (D := D) (ci := 4) (v := .ref nw) (C := RX4) (T := TX4) (N := 6) hx hb hts hinX4 hown hK hP 0 rfl rfl 1 (by decide) hf19 (fun _ h9 => h9) rfl dX4_bestQuestion_50 ?_
        refine va_get (D := D) (ci := 0) (v := .int (iI (S 0))) (C := RX0) (T := TX0) (N := 10) hx hb hts hinX0 hown hK hP 1 rfl rfl 0 (by decide) hf91 (fun _ h9 => h9) rfl dX4_bestQuestion_53 ?_
        refine iv_icmp_ge (a := x5) (b := S 0) (tgt := 146) hx hb (by omega) (by omega) dX4_bestQuestion_56 (by decide) (fun c56 => ?_) (fun c56 => ?_)
        · refine iv_inc (lv' := [(4, .int (iI (x4 + 1))), (5, .int (iI x5)), (3, .int (iI y3)), (2, .int (iI y2)), (1, .int (iI y1)), (0, .ref x)]) hx hb dX4_bestQuestion_146 hl (k := 1) rfl (by decide) rfl (fun ls hl => ?_)
          refine lv_goto (tgt := 21) hx hb dX4_bestQuestion_149 (by decide) ?_
          refine ih21 (k + 1, y1, y2, y3, x4 + 1) _ _ (by show ((S 0).toNat - (k + 1) : Nat) < (S 0).toNat - k; omega) ?_
          exact ⟨by omega, by omega, by omega, by omega, by (show _ = bqI S _ (k : Int) (bqO S _ k) (S 0 - k).toNat); rw [← hqo, ← h4, show (S 0 - x4).toNat = n by omega]; exact hqi, hP, hD, hS, lv_sub hl [0, 2, 3, 4, 5] rfl⟩
        · have hmq := ml_r (wo := -1) (a := x4) (b := x5) hpl.2 (by omega)
          have hle := most_le hI (a := x4) (b := x5) (by omega)
          have hcf := costOf_r hI (a := x4) (b := x5) (by omega)
          refine lv_aload_n hx hb dX4_bestQuestion_59 rfl (lv_at hl 5 rfl) ?_
          refine va_get (D := D) (ci := 4) (v := .ref kn) (C := RX4) (T := TX4) (N := 6) hx hb hts hinX4 hown hK hP 0 rfl rfl 3 (by decide) hf29 (fun _ h9 => h9) rfl dX4_bestQuestion_60 ?_
          refine lv_iload hx hb dX4_bestQuestion_63 (lv_at hl 1 rfl) ?_
          refine lv_iload hx hb dX4_bestQuestion_65 (lv_at hl 0 rfl) ?_
          refine iv_roV (As := [.int (iI x4), .int (iI x5)]) (rest := []) (C := RX1) (n := 2) ⟨hx, hb, hml, hown, hts⟩ (c_X1_greatestKeys l D yI yC yD kn ex (S 0) G99 (FB S (-1)) x4 x5 (by omega) (by assumption) (by omega)) (cwV 2 hts gX4_bestQuestion_X1_greatestKeys rfl rfl rfl (by decide +kernel) ⟨Nat.le_of_ble_eq_true rfl, Nat.le_of_ble_eq_true rfl⟩) hK hP [3, 4] rfl 3 rfl rfl rfl hl.1 rfl (Nat.le_of_ble_eq_true rfl) dX4_bestQuestion_67 ⟨Nat.zero_le _, Nat.zero_le _⟩ ?_
          refine lv_aload_n hx hb dX4_bestQuestion_70 rfl (lv_at hl 5 rfl) ?_
          refine va_get (D := D) (ci := 4) (v := .ref kn) (C := RX4) (T := TX4) (N := 6) hx hb hts hinX4 hown hK hP 0 rfl rfl 3 (by decide) hf29 (fun _ h9 => h9) rfl dX4_bestQuestion_71 ?_
          refine lv_iload hx hb dX4_bestQuestion_74 (lv_at hl 1 rfl) ?_
          refine lv_iload hx hb dX4_bestQuestion_76 (lv_at hl 0 rfl) ?_
          refine iv_roV (As := [.int (iI x4), .int (iI x5)]) (rest := [.int (iI (mostI (FB S (-1)) x4 x5))]) (C := RX1) (n := 2) ⟨hx, hb, hml, hown, hts⟩ (c_X1_fewestKeys l D yI yC yD kn ex (S 0) G99 (FB S (-1)) x4 x5 (by omega) (by assumption) (by omega)) (cwV 2 hts gX4_bestQuestion_X1_fewestKeys rfl rfl rfl (by decide +kernel) ⟨Nat.le_of_ble_eq_true rfl, Nat.le_of_ble_eq_true rfl⟩) hK hP [3, 4] rfl 3 rfl rfl rfl hl.1 rfl (Nat.le_of_ble_eq_true rfl) dX4_bestQuestion_78 ⟨Nat.zero_le _, Nat.zero_le _⟩ ?_
          refine iv_sub hx hb dX4_bestQuestion_81 ?_
          refine lv_istore (lv' := [(6, .int (iI (mostI (FB S (-1)) x4 x5 - (leastI (FB S (-1)) x4 x5)))), (5, .int (iI x5)), (4, .int (iI x4)), (3, .int (iI y3)), (2, .int (iI y2)), (1, .int (iI y1)), (0, .ref x)]) hx hb dX4_bestQuestion_82 hl (by decide) rfl (fun ls hl => ?_)
          refine lv_iload hx hb dX4_bestQuestion_84 (lv_at hl 0 rfl) ?_
          refine lv_iload_n hx hb dX4_bestQuestion_86 rfl (lv_at hl 4 rfl) ?_
          refine iv_icmp_gt (a := mostI (FB S (-1)) x4 x5 - (leastI (FB S (-1)) x4 x5)) (b := y2) (tgt := 116) hx hb (by omega) (by omega) dX4_bestQuestion_87 (by decide) (fun c87 => ?_) (fun c87 => ?_)
          · refine lv_bipush (v := iI 100) hx hb dX4_bestQuestion_116 (by decide +kernel) ?_
            refine lv_iload hx hb dX4_bestQuestion_118 (lv_at hl 2 rfl) ?_
            refine iv_mul hx hb dX4_bestQuestion_120 ?_
            refine lv_iload hx hb dX4_bestQuestion_121 (lv_at hl 1 rfl) ?_
            refine iv_add hx hb dX4_bestQuestion_123 ?_
            refine lv_istore_n (lv' := [(1, .int (iI (100 * x4 + x5))), (6, .int (iI (mostI (FB S (-1)) x4 x5 - (leastI (FB S (-1)) x4 x5)))), (5, .int (iI x5)), (4, .int (iI x4)), (3, .int (iI y3)), (2, .int (iI y2)), (0, .ref x)]) hx hb dX4_bestQuestion_124 rfl hl (by decide) rfl (fun ls hl => ?_)
            refine lv_iload hx hb dX4_bestQuestion_125 (lv_at hl 1 rfl) ?_
            refine lv_istore_n (lv' := [(2, .int (iI (mostI (FB S (-1)) x4 x5 - (leastI (FB S (-1)) x4 x5)))), (1, .int (iI (100 * x4 + x5))), (6, .int (iI (mostI (FB S (-1)) x4 x5 - (leastI (FB S (-1)) x4 x5)))), (5, .int (iI x5)), (4, .int (iI x4)), (3, .int (iI y3)), (0, .ref x)]) hx hb dX4_bestQuestion_127 rfl hl (by decide) rfl (fun ls hl => ?_)
            refine lv_aload_n hx hb dX4_bestQuestion_128 rfl (lv_at hl 6 rfl) ?_
            refine va_get (D := D) (ci := 4) (v := .ref nw) (C := RX4) (T := TX4) (N := 6) hx hb hts hinX4 hown hK hP 0 rfl rfl 1 (by decide) hf19 (fun _ h9 => h9) rfl dX4_bestQuestion_129 ?_
            refine lv_iload hx hb dX4_bestQuestion_132 (lv_at hl 4 rfl) ?_
            refine lv_iload hx hb dX4_bestQuestion_134 (lv_at hl 3 rfl) ?_
            refine iv_roV (As := [.int (iI x4), .int (iI x5)]) (rest := []) (C := RX0) (n := 2) ⟨hx, hb, hml, hown, hts⟩ (c_X0_price l D yI yC yD nw nc S g x4 x5 (by assumption) (by assumption) (by omega)) (cwV 2 hts gX4_bestQuestion_X0_price rfl rfl rfl (by decide +kernel) ⟨Nat.le_of_ble_eq_true rfl, Nat.le_of_ble_eq_true rfl⟩) hK hP [1, 2] rfl 1 rfl rfl rfl hl.1 rfl (Nat.le_of_ble_eq_true rfl) dX4_bestQuestion_136 ⟨Nat.zero_le _, Nat.zero_le _⟩ ?_
            refine lv_istore_n (lv' := [(3, .int (iI (costOf S x4 x5))), (2, .int (iI (mostI (FB S (-1)) x4 x5 - (leastI (FB S (-1)) x4 x5)))), (1, .int (iI (100 * x4 + x5))), (6, .int (iI (mostI (FB S (-1)) x4 x5 - (leastI (FB S (-1)) x4 x5)))), (5, .int (iI x5)), (4, .int (iI x4)), (0, .ref x)]) hx hb dX4_bestQuestion_139 rfl hl (by decide) rfl (fun ls hl => ?_)
            refine iv_inc (lv' := [(5, .int (iI (x5 + 1))), (3, .int (iI (costOf S x4 x5))), (2, .int (iI (mostI (FB S (-1)) x4 x5 - (leastI (FB S (-1)) x4 x5)))), (1, .int (iI (100 * x4 + x5))), (6, .int (iI (mostI (FB S (-1)) x4 x5 - (leastI (FB S (-1)) x4 x5)))), (4, .int (iI x4)), (0, .ref x)]) hx hb dX4_bestQuestion_140 hl (k := 4) rfl (by decide) rfl (fun ls hl => ?_)
            refine lv_goto (tgt := 47) hx hb dX4_bestQuestion_143 (by decide) ?_
            refine ih47 (n + 1, 100 * x4 + x5, mostI (FB S (-1)) x4 x5 - (leastI (FB S (-1)) x4 x5), costOf S x4 x5, x5 + 1) _ _ (by show ((S 0 - (x5 + 1)).toNat : Nat) < (S 0 - x5).toNat; omega) ?_
            exact ⟨by omega, by omega, by omega, by omega, by first | ((show _ = bqS S _ _ _ (bqI S _ _ _ n)); rw [← hqi, ← show x5 = x4 + n by omega]; exact (bqS_t (show _ = bqB S _ x4 x5 from (if_pos (by omega)).symm) (by omega)).symm) | ((show _ = bqS S _ _ _ (bqI S _ _ _ n)); rw [← hqi, ← show x5 = x4 + n by omega]; exact (bqS_f (show _ = bqB S _ x4 x5 from (if_pos (by omega)).symm) (by omega)).symm), hP, hD, hS, lv_sub hl [0, 5, 1, 2, 3, 6] rfl⟩
          · refine lv_iload hx hb dX4_bestQuestion_90 (lv_at hl 0 rfl) ?_
            refine lv_iload_n hx hb dX4_bestQuestion_92 rfl (lv_at hl 4 rfl) ?_
            refine iv_icmp_ne (a := mostI (FB S (-1)) x4 x5 - (leastI (FB S (-1)) x4 x5)) (b := y2) (tgt := 140) hx hb (by omega) (by omega) dX4_bestQuestion_93 (by decide) (fun c93 => ?_) (fun c93 => ?_)
            · refine iv_inc (lv' := [(5, .int (iI (x5 + 1))), (6, .int (iI (mostI (FB S (-1)) x4 x5 - (leastI (FB S (-1)) x4 x5)))), (4, .int (iI x4)), (3, .int (iI y3)), (2, .int (iI y2)), (1, .int (iI y1)), (0, .ref x)]) hx hb dX4_bestQuestion_140 hl (k := 1) rfl (by decide) rfl (fun ls hl => ?_)
              refine lv_goto (tgt := 47) hx hb dX4_bestQuestion_143 (by decide) ?_
              refine ih47 (n + 1, y1, y2, y3, x5 + 1) _ _ (by show ((S 0 - (x5 + 1)).toNat : Nat) < (S 0 - x5).toNat; omega) ?_
              exact ⟨by omega, by omega, by omega, by omega, by first | ((show _ = bqS S _ _ _ (bqI S _ _ _ n)); rw [← hqi, ← show x5 = x4 + n by omega]; exact (bqS_t (show _ = bqB S _ x4 x5 from (if_pos (by omega)).symm) (by omega)).symm) | ((show _ = bqS S _ _ _ (bqI S _ _ _ n)); rw [← hqi, ← show x5 = x4 + n by omega]; exact (bqS_f (show _ = bqB S _ x4 x5 from (if_pos (by omega)).symm) (by omega)).symm), hP, hD, hS, lv_sub hl [0, 2, 3, 4, 5, 6] rfl⟩
            · refine lv_iload hx hb dX4_bestQuestion_96 (lv_at hl 0 rfl) ?_
              refine iv_if_le (a := mostI (FB S (-1)) x4 x5 - (leastI (FB S (-1)) x4 x5)) (tgt := 140) hx hb (by omega) dX4_bestQuestion_98 (by decide) (fun c98 => ?_) (fun c98 => ?_)
              · refine iv_inc (lv' := [(5, .int (iI (x5 + 1))), (6, .int (iI (mostI (FB S (-1)) x4 x5 - (leastI (FB S (-1)) x4 x5)))), (4, .int (iI x4)), (3, .int (iI y3)), (2, .int (iI y2)), (1, .int (iI y1)), (0, .ref x)]) hx hb dX4_bestQuestion_140 hl (k := 1) rfl (by decide) rfl (fun ls hl => ?_)
                refine lv_goto (tgt := 47) hx hb dX4_bestQuestion_143 (by decide) ?_
                refine ih47 (n + 1, y1, y2, y3, x5 + 1) _ _ (by show ((S 0 - (x5 + 1)).toNat : Nat) < (S 0 - x5).toNat; omega) ?_
                exact ⟨by omega, by omega, by omega, by omega, by first | ((show _ = bqS S _ _ _ (bqI S _ _ _ n)); rw [← hqi, ← show x5 = x4 + n by omega]; exact (bqS_t (show _ = bqB S _ x4 x5 from (if_pos (by omega)).symm) (by omega)).symm) | ((show _ = bqS S _ _ _ (bqI S _ _ _ n)); rw [← hqi, ← show x5 = x4 + n by omega]; exact (bqS_f (show _ = bqB S _ x4 x5 from (if_pos (by omega)).symm) (by omega)).symm), hP, hD, hS, lv_sub hl [0, 2, 3, 4, 5, 6] rfl⟩
              · refine lv_aload_n hx hb dX4_bestQuestion_101 rfl (lv_at hl 6 rfl) ?_
                refine va_get (D := D) (ci := 4) (v := .ref nw) (C := RX4) (T := TX4) (N := 6) hx hb hts hinX4 hown hK hP 0 rfl rfl 1 (by decide) hf19 (fun _ h9 => h9) rfl dX4_bestQuestion_102 ?_
                refine lv_iload hx hb dX4_bestQuestion_105 (lv_at hl 2 rfl) ?_
                refine lv_iload hx hb dX4_bestQuestion_107 (lv_at hl 1 rfl) ?_
                refine iv_roV (As := [.int (iI x4), .int (iI x5)]) (rest := []) (C := RX0) (n := 2) ⟨hx, hb, hml, hown, hts⟩ (c_X0_price l D yI yC yD nw nc S g x4 x5 (by assumption) (by assumption) (by omega)) (cwV 2 hts gX4_bestQuestion_X0_price rfl rfl rfl (by decide +kernel) ⟨Nat.le_of_ble_eq_true rfl, Nat.le_of_ble_eq_true rfl⟩) hK hP [1, 2] rfl 1 rfl rfl rfl hl.1 rfl (Nat.le_of_ble_eq_true rfl) dX4_bestQuestion_109 ⟨Nat.zero_le _, Nat.zero_le _⟩ ?_
                refine lv_iload_n hx hb dX4_bestQuestion_112 rfl (lv_at hl 3 rfl) ?_
                refine iv_icmp_ge (a := costOf S x4 x5) (b := y3) (tgt := 140) hx hb (by omega) (by omega) dX4_bestQuestion_113 (by decide) (fun c113 => ?_) (fun c113 => ?_)
                · refine iv_inc (lv' := [(5, .int (iI (x5 + 1))), (6, .int (iI (mostI (FB S (-1)) x4 x5 - (leastI (FB S (-1)) x4 x5)))), (4, .int (iI x4)), (3, .int (iI y3)), (2, .int (iI y2)), (1, .int (iI y1)), (0, .ref x)]) hx hb dX4_bestQuestion_140 hl (k := 1) rfl (by decide) rfl (fun ls hl => ?_)
                  refine lv_goto (tgt := 47) hx hb dX4_bestQuestion_143 (by decide) ?_
                  refine ih47 (n + 1, y1, y2, y3, x5 + 1) _ _ (by show ((S 0 - (x5 + 1)).toNat : Nat) < (S 0 - x5).toNat; omega) ?_
                  exact ⟨by omega, by omega, by omega, by omega, by first | ((show _ = bqS S _ _ _ (bqI S _ _ _ n)); rw [← hqi, ← show x5 = x4 + n by omega]; exact (bqS_t (show _ = bqB S _ x4 x5 from (if_pos (by omega)).symm) (by omega)).symm) | ((show _ = bqS S _ _ _ (bqI S _ _ _ n)); rw [← hqi, ← show x5 = x4 + n by omega]; exact (bqS_f (show _ = bqB S _ x4 x5 from (if_pos (by omega)).symm) (by omega)).symm), hP, hD, hS, lv_sub hl [0, 2, 3, 4, 5, 6] rfl⟩
                · refine lv_bipush (v := iI 100) hx hb dX4_bestQuestion_116 (by decide +kernel) ?_
                  refine lv_iload hx hb dX4_bestQuestion_118 (lv_at hl 2 rfl) ?_
                  refine iv_mul hx hb dX4_bestQuestion_120 ?_
                  refine lv_iload hx hb dX4_bestQuestion_121 (lv_at hl 1 rfl) ?_
                  refine iv_add hx hb dX4_bestQuestion_123 ?_
                  refine lv_istore_n (lv' := [(1, .int (iI (100 * x4 + x5))), (6, .int (iI (mostI (FB S (-1)) x4 x5 - (leastI (FB S (-1)) x4 x5)))), (5, .int (iI x5)), (4, .int (iI x4)), (3, .int (iI y3)), (2, .int (iI y2)), (0, .ref x)]) hx hb dX4_bestQuestion_124 rfl hl (by decide) rfl (fun ls hl => ?_)
                  refine lv_iload hx hb dX4_bestQuestion_125 (lv_at hl 1 rfl) ?_
                  refine lv_istore_n (lv' := [(2, .int (iI (mostI (FB S (-1)) x4 x5 - (leastI (FB S (-1)) x4 x5)))), (1, .int (iI (100 * x4 + x5))), (6, .int (iI (mostI (FB S (-1)) x4 x5 - (leastI (FB S (-1)) x4 x5)))), (5, .int (iI x5)), (4, .int (iI x4)), (3, .int (iI y3)), (0, .ref x)]) hx hb dX4_bestQuestion_127 rfl hl (by decide) rfl (fun ls hl => ?_)
                  refine lv_aload_n hx hb dX4_bestQuestion_128 rfl (lv_at hl 6 rfl) ?_
                  refine va_get (D := D) (ci := 4) (v := .ref nw) (C := RX4) (T := TX4) (N := 6) hx hb hts hinX4 hown hK hP 0 rfl rfl 1 (by decide) hf19 (fun _ h9 => h9) rfl dX4_bestQuestion_129 ?_
                  refine lv_iload hx hb dX4_bestQuestion_132 (lv_at hl 4 rfl) ?_
                  refine lv_iload hx hb dX4_bestQuestion_134 (lv_at hl 3 rfl) ?_
                  refine iv_roV (As := [.int (iI x4), .int (iI x5)]) (rest := []) (C := RX0) (n := 2) ⟨hx, hb, hml, hown, hts⟩ (c_X0_price l D yI yC yD nw nc S g x4 x5 (by assumption) (by assumption) (by omega)) (cwV 2 hts gX4_bestQuestion_X0_price rfl rfl rfl (by decide +kernel) ⟨Nat.le_of_ble_eq_true rfl, Nat.le_of_ble_eq_true rfl⟩) hK hP [1, 2] rfl 1 rfl rfl rfl hl.1 rfl (Nat.le_of_ble_eq_true rfl) dX4_bestQuestion_136 ⟨Nat.zero_le _, Nat.zero_le _⟩ ?_
                  refine lv_istore_n (lv' := [(3, .int (iI (costOf S x4 x5))), (2, .int (iI (mostI (FB S (-1)) x4 x5 - (leastI (FB S (-1)) x4 x5)))), (1, .int (iI (100 * x4 + x5))), (6, .int (iI (mostI (FB S (-1)) x4 x5 - (leastI (FB S (-1)) x4 x5)))), (5, .int (iI x5)), (4, .int (iI x4)), (0, .ref x)]) hx hb dX4_bestQuestion_139 rfl hl (by decide) rfl (fun ls hl => ?_)
                  refine iv_inc (lv' := [(5, .int (iI (x5 + 1))), (3, .int (iI (costOf S x4 x5))), (2, .int (iI (mostI (FB S (-1)) x4 x5 - (leastI (FB S (-1)) x4 x5)))), (1, .int (iI (100 * x4 + x5))), (6, .int (iI (mostI (FB S (-1)) x4 x5 - (leastI (FB S (-1)) x4 x5)))), (4, .int (iI x4)), (0, .ref x)]) hx hb dX4_bestQuestion_140 hl (k := 4) rfl (by decide) rfl (fun ls hl => ?_)
                  refine lv_goto (tgt := 47) hx hb dX4_bestQuestion_143 (by decide) ?_
                  refine ih47 (n + 1, 100 * x4 + x5, mostI (FB S (-1)) x4 x5 - (leastI (FB S (-1)) x4 x5), costOf S x4 x5, x5 + 1) _ _ (by show ((S 0 - (x5 + 1)).toNat : Nat) < (S 0 - x5).toNat; omega) ?_
                  exact ⟨by omega, by omega, by omega, by omega, by first | ((show _ = bqS S _ _ _ (bqI S _ _ _ n)); rw [← hqi, ← show x5 = x4 + n by omega]; exact (bqS_t (show _ = bqB S _ x4 x5 from (if_pos (by omega)).symm) (by omega)).symm) | ((show _ = bqS S _ _ _ (bqI S _ _ _ n)); rw [← hqi, ← show x5 = x4 + n by omega]; exact (bqS_f (show _ = bqB S _ x4 x5 from (if_pos (by omega)).symm) (by omega)).symm), hP, hD, hS, lv_sub hl [0, 5, 1, 2, 3, 6] rfl⟩
