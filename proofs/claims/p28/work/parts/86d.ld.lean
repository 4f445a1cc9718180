set_option maxHeartbeats 4000000 in
set_option maxRecDepth 100000 in
theorem c_L_about (l : Launch) (D : va_G) (yI yC yD yL : ClassId) (qa : Nat) (aa : Nat) (S : Int → Int) (g : Int → Int) (a : Int) (b : Int) (hI : Inv S) (hR : Rc S g) (hab9 : inR a ∧ inR b) : Met l yL_about wsL_about ({ frames := 0, cells := 0, slots := 0, locals := 0 }) (roP [.int (iI a), .int (iI b), .ref qa, .ref aa] D (tyl yI yC yD yL) [(qa, aI yI 9 (qS S)), (aa, aI yI 48 g)]) (QcRead (iI (aboutI S a b))) 0 0 (fun _ => False) := by
  refine Met.ofW (cc := cL_about) (maxL := 5) (ret := (some .int)) (by decide) rfl ?_
  intro p e s m args below meth c s₁ B hml hv
  obtain ⟨rfl, hP, hK⟩ := hv
  have hx := B.exec
  have hb := B.bytes
  have hr := B.returns
  have hts := atoms_spec (ws := wsL_about) B.pre
  have hown : s.vm.findClass RL = some m.cls := findClass_of_methodNamed B.named
  have hlocks := B.notSynchronized
  have hP : va_P D vwCl [(qa, aI yI 9 (qS S)), (aa, aI yI 48 g)] s.heap := hP
  have hKz : va_K D vwCl (tyz yI yC yD) s := hK.sub [0, 1, 2] rfl
  have hl := lv_entry ([.int (iI a), .int (iI b), .ref qa, .ref aa]) (n := 5) (Nat.le_of_ble_eq_true rfl)
  rw [lg_entry_eq]
  generalize (lg_sl ([.int (iI a), .int (iI b), .ref qa, .ref aa]) ++ List.replicate (5 - (lg_sl ([.int (iI a), .int (iI b), .ref qa, .ref aa])).length) Slot.unset).toArray = ls at hl ⊢
  have hl : lv_has ls 5 [(0, .int (iI a)), (1, .int (iI b)), (2, .ref qa), (3, .ref aa)] := hl
  have hpl := hI.pl
  have hna := hI.na
  have hse := hI.se
  have hwi := hI.wi
  have hfe := hI.fe
  have hna := hI.na
  refine lv_iconst (v := iI 0) hx hb dL_about_0 (by decide +kernel) ?_
  refine lv_istore (lv' := [(4, .int (iI 0)), (0, .int (iI a)), (1, .int (iI b)), (2, .ref qa), (3, .ref aa)]) hx hb dL_about_1 hl (by decide) rfl (fun ls hl => ?_)
  refine iv_loopR (I := fun (qq : Nat × Int) ls => match qq with | (n, x4) => ((n : Int) ≤ S 4) ∧ (x4 = n) ∧ (∀ i : Int, 0 ≤ i → i < n → ¬ (an S i 0 = a ∧ an S i 1 = b)) ∧ lv_has ls 5 [(4, .int (iI x4)), (0, .int (iI a)), (1, .int (iI b)), (2, .ref qa), (3, .ref aa)]) (μ := fun (qq : Nat × Int) => match qq with | (n, x4) => (S 4).toNat - n) (0, 0) ?_ ?_
  · exact ⟨by omega, by omega, fun i q0 q1 => by omega, lv_sub hl [0, 1, 2, 3, 4] rfl⟩
  · intro qq ls hI ih3
    obtain ⟨n, x4⟩ := qq
    obtain ⟨hn, h4, hno, hl⟩ := hI
    refine lv_iload hx hb dL_about_3 (lv_at hl 0 rfl) ?_
    refine lv_aload_n hx hb dL_about_5 rfl (lv_at hl 3 rfl) ?_
    refine lv_iconst (v := iI 4) hx hb dL_about_6 (by decide +kernel) ?_
    refine iv_aldE hx hb hK hP 0 0 rfl rfl (z := 4) (w := S 4) (by first | exact qS_n (by omega) | exact up_s | rfl) (by omega) (by omega) (by omega) dL_about_7 ?_
    refine iv_icmp_ge (a := x4) (b := S 4) (tgt := 42) hx hb (by omega) (by omega) dL_about_8 (by decide) (fun c8 => ?_) (fun c8 => ?_)
    · refine lv_iconst (v := iI (-1)) hx hb dL_about_42 (by decide +kernel) ?_
      exact W.iret hx hb hr (fun t ht hW => ⟨congrArg (fun z => Outcome.returned (some (Value.int (iI z)))) (show -1 = aboutI S a b by exact (about_no hna.1 (fun i q0 q1 => hno i q0 (by omega))).symm), ht⟩) (fun q h => by cases h) dL_about_43
    · have hna := hI.na
      have ha := hI.ans (i := x4) (by omega) (by omega)
      have hto := told_r hI (a := an S x4 0) (b := an S x4 1) (by omega) (by omega) (by omega)
      have r0 : g (4 * x4) = an S x4 0 := by rw [show 4 * x4 = x4 * 4 + 0 by omega]; exact hR x4 0 (by omega) (by omega) (by omega) (by omega)
      have r1 : g (4 * x4 + 1) = an S x4 1 := by rw [show 4 * x4 + 1 = x4 * 4 + 1 by omega]; exact hR x4 1 (by omega) (by omega) (by omega) (by omega)
      have r2 : g (4 * x4 + 2) = an S x4 2 := by rw [show 4 * x4 + 2 = x4 * 4 + 2 by omega]; exact hR x4 2 (by omega) (by omega) (by omega) (by omega)
      refine lv_aload_n hx hb dL_about_11 rfl (lv_at hl 4 rfl) ?_
      refine lv_iconst (v := iI 4) hx hb dL_about_12 (by decide +kernel) ?_
      refine lv_iload hx hb dL_about_13 (lv_at hl 0 rfl) ?_
      refine iv_mul hx hb dL_about_15 ?_
      refine iv_ald hx hb hK hP 1 0 rfl rfl (z := 4 * x4) (by omega) (by omega) (by omega) dL_about_16 ?_
      refine lv_iload_n hx hb dL_about_17 rfl (lv_at hl 1 rfl) ?_
      refine iv_icmp_ne (a := g (4 * x4)) (b := a) (tgt := 36) hx hb (by omega) (by omega) dL_about_18 (by decide) (fun c18 => ?_) (fun c18 => ?_)
      · refine iv_inc (lv' := [(4, .int (iI (x4 + 1))), (0, .int (iI a)), (1, .int (iI b)), (2, .ref qa), (3, .ref aa)]) hx hb dL_about_36 hl (k := 0) rfl (by decide) rfl (fun ls hl => ?_)
        refine lv_goto (tgt := 3) hx hb dL_about_39 (by decide) ?_
        refine ih3 (n + 1, x4 + 1) (by show ((S 4).toNat - (n + 1) : Nat) < (S 4).toNat - n; omega) ?_
        exact ⟨by omega, by omega, fun i q0 q1 q2 => (if e : i = x4 then (by rw [e] at q2; omega) else hno i q0 (by omega) q2), lv_sub hl [0, 1, 2, 3, 4] rfl⟩
      · refine lv_aload_n hx hb dL_about_21 rfl (lv_at hl 4 rfl) ?_
        refine lv_iconst (v := iI 4) hx hb dL_about_22 (by decide +kernel) ?_
        refine lv_iload hx hb dL_about_23 (lv_at hl 0 rfl) ?_
        refine iv_mul hx hb dL_about_25 ?_
        refine lv_iconst (v := iI 1) hx hb dL_about_26 (by decide +kernel) ?_
        refine iv_add hx hb dL_about_27 ?_
        refine iv_ald hx hb hK hP 1 0 rfl rfl (z := 4 * x4 + 1) (by omega) (by omega) (by omega) dL_about_28 ?_
        refine lv_iload_n hx hb dL_about_29 rfl (lv_at hl 2 rfl) ?_
        refine iv_icmp_ne (a := g (4 * x4 + 1)) (b := b) (tgt := 36) hx hb (by omega) (by omega) dL_about_30 (by decide) (fun c30 => ?_) (fun c30 => ?_)
        · refine iv_inc (lv' := [(4, .int (iI (x4 + 1))), (0, .int (iI a)), (1, .int (iI b)), (2, .ref qa), (3, .ref aa)]) hx hb dL_about_36 hl (k := 0) rfl (by decide) rfl (fun ls hl => ?_)
          refine lv_goto (tgt := 3) hx hb dL_about_39 (by decide) ?_
          refine ih3 (n + 1, x4 + 1) (by show ((S 4).toNat - (n + 1) : Nat) < (S 4).toNat - n; omega) ?_
          exact ⟨by omega, by omega, fun i q0 q1 q2 => (if e : i = x4 then (by rw [e] at q2; omega) else hno i q0 (by omega) q2), lv_sub hl [0, 1, 2, 3, 4] rfl⟩
        · refine lv_iload hx hb dL_about_33 (lv_at hl 0 rfl) ?_
          exact W.iret hx hb hr (fun t ht hW => ⟨congrArg (fun z => Outcome.returned (some (Value.int (iI z)))) (show x4 = aboutI S a b by exact (about_is hI (by omega) (by omega) (by omega) (by omega)).symm), ht⟩) (fun q h => by cases h) dL_about_35
set_option maxHeartbeats 4000000 in
set_option maxRecDepth 100000 in
theorem c_L_cost (l : Launch) (D : va_G) (yI yC yD yL : ClassId) (qa : Nat) (aa : Nat) (S : Int → Int) (g : Int → Int) (a : Int) (b : Int) (hI : Inv S) (hR : Rc S g) (hab : 0 ≤ a ∧ a ≤ b ∧ b < 40) : Met l yL_cost wsL_cost ({ frames := 1, cells := 0, slots := 0, locals := 24 }) (roP [.int (iI a), .int (iI b), .ref qa, .ref aa] D (tyl yI yC yD yL) [(qa, aI yI 9 (qS S)), (aa, aI yI 48 g)]) (QcRead (iI (costOf S a b))) 0 0 (fun _ => False) := by
  refine Met.ofW (cc := cL_cost) (maxL := 4) (ret := (some .int)) (by decide) rfl ?_
  intro p e s m args below meth c s₁ B hml hv
  obtain ⟨rfl, hP, hK⟩ := hv
  have hx := B.exec
  have hb := B.bytes
  have hr := B.returns
  have hts := atoms_spec (ws := wsL_cost) B.pre
  have hown : s.vm.findClass RL = some m.cls := findClass_of_methodNamed B.named
  have hlocks := B.notSynchronized
  have hP : va_P D vwCl [(qa, aI yI 9 (qS S)), (aa, aI yI 48 g)] s.heap := hP
  have hKz : va_K D vwCl (tyz yI yC yD) s := hK.sub [0, 1, 2] rfl
  have hl := lv_entry ([.int (iI a), .int (iI b), .ref qa, .ref aa]) (n := 4) (Nat.le_of_ble_eq_true rfl)
  rw [lg_entry_eq]
  generalize (lg_sl ([.int (iI a), .int (iI b), .ref qa, .ref aa]) ++ List.replicate (4 - (lg_sl ([.int (iI a), .int (iI b), .ref qa, .ref aa])).length) Slot.unset).toArray = ls at hl ⊢
  have hl : lv_has ls 4 [(0, .int (iI a)), (1, .int (iI b)), (2, .ref qa), (3, .ref aa)] := hl
  have hpl := hI.pl
  have hna := hI.na
  have hse := hI.se
  have hwi := hI.wi
  have hfe := hI.fe
  have hna := hI.na
  have hfe := hI.fe
  have hbt := aboutI_b (S := S) (a := a) (b := b) hna.1
  refine lv_iload_n hx hb dL_cost_0 rfl (lv_at hl 0 rfl) ?_
  refine lv_iload_n hx hb dL_cost_1 rfl (lv_at hl 1 rfl) ?_
  refine lv_aload_n hx hb dL_cost_2 rfl (lv_at hl 2 rfl) ?_
  refine lv_aload_n hx hb dL_cost_3 rfl (lv_at hl 3 rfl) ?_
  refine iv_roS (As := [.int (iI a), .int (iI b), .ref qa, .ref aa]) (rest := []) (n := 4) ⟨hx, hb, hml, hown, hts⟩ (c_L_about l D yI yC yD yL qa aa S g a b (by assumption) (by assumption) (⟨⟨by omega, by omega⟩, ⟨by omega, by omega⟩⟩)) (va_cwS 4 hts gL_cost_L_about rfl rfl rfl (by decide +kernel) ⟨Nat.le_of_ble_eq_true rfl, Nat.le_of_ble_eq_true rfl⟩) hK hP [0, 1] rfl rfl hl.1 rfl (Nat.le_of_ble_eq_true rfl) dL_cost_4 ⟨Nat.zero_le _, Nat.zero_le _⟩ ?_
  refine iv_if_lt (a := aboutI S a b) (tgt := 14) hx hb (by omega) dL_cost_7 (by decide) (fun c7 => ?_) (fun c7 => ?_)
  · refine lv_aload_n hx hb dL_cost_14 rfl (lv_at hl 2 rfl) ?_
    refine lv_iconst (v := iI 3) hx hb dL_cost_15 (by decide +kernel) ?_
    refine iv_aldE hx hb hK hP 0 0 rfl rfl (z := 3) (w := S 3) (by first | exact qS_n (by omega) | exact up_s | rfl) (by omega) (by omega) (by omega) dL_cost_16 ?_
    refine lv_iload_n hx hb dL_cost_17 rfl (lv_at hl 1 rfl) ?_
    refine lv_iload_n hx hb dL_cost_18 rfl (lv_at hl 0 rfl) ?_
    refine iv_sub hx hb dL_cost_19 ?_
    refine lv_iconst (v := iI 1) hx hb dL_cost_20 (by decide +kernel) ?_
    refine iv_add hx hb dL_cost_21 ?_
    refine lv_iconst (v := iI 4) hx hb dL_cost_22 (by decide +kernel) ?_
    refine iv_div hx hb (by omega) (by omega) (by omega) (by omega) dL_cost_23 ?_
    refine iv_add hx hb dL_cost_24 ?_
    exact W.iret hx hb hr (fun t ht hW => ⟨congrArg (fun z => Outcome.returned (some (Value.int (iI z)))) (show S 3 + ((b - a + 1) / 4) = costOf S a b by unfold costOf; first | (rw [if_pos (by omega)]; done) | (rw [if_neg (by omega)]; done)), ht⟩) (fun q h => by cases h) dL_cost_25
  · refine lv_iconst (v := iI 0) hx hb dL_cost_10 (by decide +kernel) ?_
    refine lv_goto (tgt := 25) hx hb dL_cost_11 (by decide) ?_
    exact W.iret hx hb hr (fun t ht hW => ⟨congrArg (fun z => Outcome.returned (some (Value.int (iI z)))) (show 0 = costOf S a b by unfold costOf; first | (rw [if_pos (by omega)]; done) | (rw [if_neg (by omega)]; done)), ht⟩) (fun q h => by cases h) dL_cost_25
set_option maxHeartbeats 4000000 in
set_option maxRecDepth 100000 in
theorem c_L_drop (l : Launch) (D : va_G) (yI yC yD yL : ClassId) (qa : Nat) (aa : Nat) (S : Int → Int) (g : Int → Int) (i : Int) (hna : 0 ≤ S 4 ∧ S 4 ≤ 12) (hR : Rc S g) (hi : 0 ≤ i ∧ i < S 4) (sz : Nat) : Met l yL_drop wsL_drop ({ frames := 0, cells := 0, slots := 0, locals := 0 }) (rwP [.int (iI i), .ref qa, .ref aa] D (tyl yI yC yD yL) [(qa, aI yI 9 (qS S)), (aa, aI yI 48 g)] sz) (va_Qv (fun (G9 : (Int → Int)) => Rc (forget1 S i) G9) (fun (G9 : (Int → Int)) (t : State) => va_P D vwCl [(qa, aI yI 9 (qS (forget1 S i))), (aa, aI yI 48 G9)] t.heap) (va_A [(qa, aI yI 9 (qS S)), (aa, aI yI 48 g)] sz)) 0 0 (va_A [(qa, aI yI 9 (qS S)), (aa, aI yI 48 g)] sz) := by
  refine Met.ofW (cc := cL_drop) (maxL := 4) (ret := none) (by decide) rfl ?_
  intro p e s m args below meth c s₁ B hml hv
  obtain ⟨rfl, hsz, hP, hK, hD0⟩ := hv
  have hx := B.exec
  have hb := B.bytes
  have hr := B.returns
  have hts := atoms_spec (ws := wsL_drop) B.pre
  have hown : s.vm.findClass RL = some m.cls := findClass_of_methodNamed B.named
  have hlocks := B.notSynchronized
  subst hsz
  have hD := hD0.self (sz := s.heap.size)
  generalize hAe : va_A [(qa, aI yI 9 (qS S)), (aa, aI yI 48 g)] s.heap.size = A at hD ⊢
  have hA : ∀ q : Nat, s.heap.size ≤ q → A q := fun q h => by rw [← hAe]; exact Or.inr h
  have hS : va_S A s.heap s.heap [] := va_S.rf
  have hP : va_P D vwCl [(qa, aI yI 9 (qS S)), (aa, aI yI 48 g)] s.heap := hP
  have hKz : va_K D vwCl (tyz yI yC yD) s := hK.sub [0, 1, 2] rfl
  have hl := lv_entry ([.int (iI i), .ref qa, .ref aa]) (n := 4) (Nat.le_of_ble_eq_true rfl)
  rw [lg_entry_eq]
  generalize (lg_sl ([.int (iI i), .ref qa, .ref aa]) ++ List.replicate (4 - (lg_sl ([.int (iI i), .ref qa, .ref aa])).length) Slot.unset).toArray = ls at hl ⊢
  have hl : lv_has ls 4 [(0, .int (iI i)), (1, .ref qa), (2, .ref aa)] := hl
  refine lv_iconst (v := iI 4) hx hb dL_drop_0 (by decide +kernel) ?_
  refine lv_iload_n hx hb dL_drop_1 rfl (lv_at hl 0 rfl) ?_
  refine iv_mul hx hb dL_drop_2 ?_
  refine lv_istore_n (lv' := [(3, .int (iI (4 * i))), (0, .int (iI i)), (1, .ref qa), (2, .ref aa)]) hx hb dL_drop_3 rfl hl (by decide) rfl (fun ls hl => ?_)
  refine iv_loop (I := fun (qq : Nat × Int × (Int → Int)) H locs ls => match qq with | (n, x3, G) => ((n : Int) ≤ 4 * S 4 - 4 - 4 * i) ∧ (x3 = 4 * i + n) ∧ (G = shN g (4 * i) n) ∧ va_P D vwCl [(qa, aI yI 9 (qS S)), (aa, aI yI 48 G)] H ∧ va_D A [(qa, aI yI 9 (qS S)), (aa, aI yI 48 G)] ∧ va_S A s.heap H locs ∧ lv_has ls 4 [(3, .int (iI x3)), (0, .int (iI i)), (1, .ref qa), (2, .ref aa)]) (μ := fun (qq : Nat × Int × (Int → Int)) => match qq with | (n, x3, G) => (4 * S 4 - 4 - 4 * i).toNat - n) (0, 4 * i, g) ?_ ?_
  · exact ⟨by omega, by omega, shN_0, hP, hD, hS, lv_sub hl [0, 1, 2, 3] rfl⟩
  · intro qq H locs ls hI ih4
    obtain ⟨n, x3, G⟩ := qq
    obtain ⟨hn, h3, hG, hP, hD, hS, hl⟩ := hI
    refine lv_iload_n hx hb dL_drop_4 rfl (lv_at hl 0 rfl) ?_
    refine lv_iconst (v := iI 4) hx hb dL_drop_5 (by decide +kernel) ?_
    refine iv_add hx hb dL_drop_6 ?_
    refine lv_iconst (v := iI 4) hx hb dL_drop_7 (by decide +kernel) ?_
    refine lv_aload_n hx hb dL_drop_8 rfl (lv_at hl 2 rfl) ?_
    refine lv_iconst (v := iI 4) hx hb dL_drop_9 (by decide +kernel) ?_
    refine iv_aldE hx hb hK hP 0 0 rfl rfl (z := 4) (w := S 4) (by first | exact qS_n (by omega) | exact up_s | rfl) (by omega) (by omega) (by omega) dL_drop_10 ?_
    refine iv_mul hx hb dL_drop_11 ?_
    refine iv_icmp_ge (a := x3 + 4) (b := 4 * (S 4)) (tgt := 29) hx hb (by omega) (by omega) dL_drop_12 (by decide) (fun c12 => ?_) (fun c12 => ?_)
    · refine lv_aload_n hx hb dL_drop_29 rfl (lv_at hl 2 rfl) ?_
      refine lv_iconst (v := iI 4) hx hb dL_drop_30 (by decide +kernel) ?_
      refine lv_dup2_11 hx hb dL_drop_31 rfl rfl ?_
      refine iv_aldE hx hb hK hP 0 0 rfl rfl (z := 4) (w := S 4) (by first | exact qS_n (by omega) | exact up_s | rfl) (by omega) (by omega) (by omega) dL_drop_32 ?_
      refine lv_iconst (v := iI 1) hx hb dL_drop_33 (by decide +kernel) ?_
      refine iv_sub hx hb dL_drop_34 ?_
      refine iv_ast hx hb hK hP hD hS 0 0 rfl rfl (z := 4) (v := S 4 - 1) (by omega) (by omega) (by omega) dL_drop_35 (fun H locs hP hD hS => ?_)
      have hP : va_P D vwCl [(qa, aI yI 9 (up (qS S) 4 (S 4 - 1))), (aa, aI yI 48 G)] H := hP
      have hD : va_D A [(qa, aI yI 9 (up (qS S) 4 (S 4 - 1))), (aa, aI yI 48 G)] := hD
      refine lv_aload_n hx hb dL_drop_36 rfl (lv_at hl 2 rfl) ?_
      refine lv_bipush (v := iI 7) hx hb dL_drop_37 (by decide +kernel) ?_
      refine lv_dup2_11 hx hb dL_drop_39 rfl rfl ?_
      refine iv_aldE hx hb hK hP 0 0 rfl rfl (z := 7) (w := S 7) (by first | exact qS_n (by omega) | exact up_s | rfl) (by omega) (by omega) (by omega) dL_drop_40 ?_
      refine lv_iconst (v := iI 1) hx hb dL_drop_41 (by decide +kernel) ?_
      refine iv_add hx hb dL_drop_42 ?_
      refine iv_ast hx hb hK hP hD hS 0 0 rfl rfl (z := 7) (v := S 7 + 1) (by omega) (by omega) (by omega) dL_drop_43 (fun H locs hP hD hS => ?_)
      have hP : va_P D vwCl [(qa, aI yI 9 (up (up (qS S) 4 (S 4 - 1)) 7 (S 7 + 1))), (aa, aI yI 48 G)] H := hP
      have hD : va_D A [(qa, aI yI 9 (up (up (qS S) 4 (S 4 - 1)) 7 (S 7 + 1))), (aa, aI yI 48 G)] := hD
      have hP := va_P.arr hP 0 (g := qS (forget1 S i)) rfl (qs_f1 hi.1)
      have hD : va_D A [(qa, aI yI 9 (qS (forget1 S i))), (aa, aI yI 48 G)] := hD.set (p := 0) rfl
      have hP : va_P D vwCl [(qa, aI yI 9 (qS (forget1 S i))), (aa, aI yI 48 G)] _ := hP
      have hP9 : va_P D vwCl [(qa, aI yI 9 (qS (forget1 S i))), (aa, aI yI 48 G)] _ := hP.sub [0, 1] rfl
      exact W.vret hx hb hr (fun t ht hW => ⟨⟨G, rfl, (by rw [hG]; exact rc_forget2 hR hi (by omega)), by show va_P D vwCl _ t.heap; rw [ht]; exact hP9⟩, hS.F ht⟩) hS.2.2 dL_drop_44
    · refine lv_aload_n hx hb dL_drop_15 rfl (lv_at hl 3 rfl) ?_
      refine lv_iload_n hx hb dL_drop_16 rfl (lv_at hl 0 rfl) ?_
      refine lv_aload_n hx hb dL_drop_17 rfl (lv_at hl 3 rfl) ?_
      refine lv_iload_n hx hb dL_drop_18 rfl (lv_at hl 0 rfl) ?_
      refine lv_iconst (v := iI 4) hx hb dL_drop_19 (by decide +kernel) ?_
      refine iv_add hx hb dL_drop_20 ?_
      refine iv_ald hx hb hK hP 1 0 rfl rfl (z := x3 + 4) (by omega) (by omega) (by omega) dL_drop_21 ?_
      refine iv_ast hx hb hK hP hD hS 1 0 rfl rfl (z := x3) (v := G (x3 + 4)) (by omega) (by omega) (by omega) dL_drop_22 (fun H locs hP hD hS => ?_)
      have hP : va_P D vwCl [(qa, aI yI 9 (qS S)), (aa, aI yI 48 (up G x3 (G (x3 + 4))))] H := hP
      have hD : va_D A [(qa, aI yI 9 (qS S)), (aa, aI yI 48 (up G x3 (G (x3 + 4))))] := hD
      refine iv_inc (lv' := [(3, .int (iI (x3 + 1))), (0, .int (iI i)), (1, .ref qa), (2, .ref aa)]) hx hb dL_drop_23 hl (k := 0) rfl (by decide) rfl (fun ls hl => ?_)
      refine lv_goto (tgt := 4) hx hb dL_drop_26 (by decide) ?_
      refine ih4 (n + 1, x3 + 1, up G x3 (G (x3 + 4))) _ _ (by show ((4 * S 4 - 4 - 4 * i).toNat - (n + 1) : Nat) < (4 * S 4 - 4 - 4 * i).toNat - n; omega) ?_
      exact ⟨by omega, by omega, by rw [hG, h3]; exact shN_s, hP, hD, hS, lv_sub hl [0, 1, 2, 3] rfl⟩
