set_option maxHeartbeats 4000000 in
set_option maxRecDepth 100000 in
theorem c_X1_excessOf (l : Launch) (D : va_G) (yI yC yD : ClassId) (kn : Nat) (ex : Nat) (pl : Int) (E : Int → Int) (x : Int) (y : Int) (hxy : 0 ≤ x ∧ x ≤ 40 ∧ 0 ≤ y ∧ y ≤ 40) : Met l yX1_excessOf wsX1_excessOf ({ frames := 0, cells := 0, slots := 0, locals := 0 }) (roP [.ref kn, .int (iI x), .int (iI y)] D (tyz yI yC yD) [(kn, oKn pl ex), (ex, aI yI 1681 E)]) (QcRead (iI (E (x * 41 + y)))) 0 0 (fun _ => False) := by
  refine Met.ofW (cc := cX1_excessOf) (maxL := 4) (ret := (some .int)) (by decide) rfl ?_
  intro p e s m args below meth c s₁ B hml hv
  obtain ⟨rfl, hP, hK⟩ := hv
  have hx := B.exec
  have hb := B.bytes
  have hr := B.returns
  have hts := atoms_spec (ws := wsX1_excessOf) B.pre
  have hown : s.vm.findClass RX1 = some m.cls := findClass_of_methodNamed B.named
  have hlocks := B.notSynchronized
  have hP : va_P D vwCl [(kn, oKn pl ex), (ex, aI yI 1681 E)] s.heap := hP
  have hinX1 : ∀ w ∈ wsX10, w ∈ wsX1_excessOf := by decide +kernel
  have hf11 : (Cond.fieldLink RX1 11 "RiddleDrive$Knowledge" "excess" "[I").before _ s = true := hts _ (by decide +kernel)
  have hl := lv_entry ([.ref kn, .int (iI x), .int (iI y)]) (n := 4) (Nat.le_of_ble_eq_true rfl)
  rw [lg_entry_eq]
  generalize (lg_sl ([.ref kn, .int (iI x), .int (iI y)]) ++ List.replicate (4 - (lg_sl ([.ref kn, .int (iI x), .int (iI y)])).length) Slot.unset).toArray = ls at hl ⊢
  have hl : lv_has ls 4 [(0, .ref kn), (1, .int (iI x)), (2, .int (iI y))] := hl
  refine lv_iload_n hx hb dX1_excessOf_0 rfl (lv_at hl 1 rfl) ?_
  refine lv_bipush (v := iI 41) hx hb dX1_excessOf_1 (by decide +kernel) ?_
  refine iv_mul hx hb dX1_excessOf_3 ?_
  refine lv_iload_n hx hb dX1_excessOf_4 rfl (lv_at hl 2 rfl) ?_
  refine iv_add hx hb dX1_excessOf_5 ?_
  refine lv_istore_n (lv' := [(3, .int (iI (x * 41 + y))), (0, .ref kn), (1, .int (iI x)), (2, .int (iI y))]) hx hb dX1_excessOf_6 rfl hl (by decide) rfl (fun ls hl => ?_)
  refine lv_iload_n hx hb dX1_excessOf_7 rfl (lv_at hl 0 rfl) ?_
  refine iv_if_lt (a := x * 41 + y) (tgt := 29) hx hb (by omega) dX1_excessOf_8 (by decide) (fun c8 => ?_) (fun c8 => ?_)
  · exact absurd c8 (by omega)
  · refine lv_iload_n hx hb dX1_excessOf_11 rfl (lv_at hl 0 rfl) ?_
    refine lv_aload_n hx hb dX1_excessOf_12 rfl (lv_at hl 1 rfl) ?_
    refine va_get (D := D) (ci := 1) (v := .ref ex) (C := RX1) (T := TX1) (N := 2) hx hb hts hinX1 hown hK hP 0 rfl rfl 1 (by decide) hf11 (fun _ h9 => h9) rfl dX1_excessOf_13 ?_
    refine va_alen (v := iI 1681) hx hb hK hP 1 0 rfl rfl (by show Int32.ofNat 1681 = iI 1681; decide +kernel) dX1_excessOf_16 ?_
    refine iv_icmp_ge (a := x * 41 + y) (b := 1681) (tgt := 29) hx hb (by omega) (by omega) dX1_excessOf_17 (by decide) (fun c17 => ?_) (fun c17 => ?_)
    · exact absurd c17 (by omega)
    · refine lv_aload_n hx hb dX1_excessOf_20 rfl (lv_at hl 1 rfl) ?_
      refine va_get (D := D) (ci := 1) (v := .ref ex) (C := RX1) (T := TX1) (N := 2) hx hb hts hinX1 hown hK hP 0 rfl rfl 1 (by decide) hf11 (fun _ h9 => h9) rfl dX1_excessOf_21 ?_
      refine lv_iload_n hx hb dX1_excessOf_24 rfl (lv_at hl 0 rfl) ?_
      refine iv_ald hx hb hK hP 1 0 rfl rfl (z := x * 41 + y) (by omega) (by omega) (by omega) dX1_excessOf_25 ?_
      refine lv_goto (tgt := 30) hx hb dX1_excessOf_26 (by decide) ?_
      exact W.iret hx hb hr (fun t ht hW => ⟨rfl, ht⟩) (fun q h => by cases h) dX1_excessOf_30
set_option maxHeartbeats 4000000 in
set_option maxRecDepth 100000 in
theorem c_X1_putExcess (l : Launch) (D : va_G) (yI yC yD : ClassId) (kn : Nat) (ex : Nat) (pl : Int) (E : Int → Int) (x : Int) (y : Int) (v : Int) (hxy : 0 ≤ x ∧ x ≤ 40 ∧ 0 ≤ y ∧ y ≤ 40) (sz : Nat) : Met l yX1_putExcess wsX1_putExcess ({ frames := 0, cells := 0, slots := 0, locals := 0 }) (rwP [.ref kn, .int (iI x), .int (iI y), .int (iI v)] D (tyz yI yC yD) [(kn, oKn pl ex), (ex, aI yI 1681 E)] sz) (va_Qv (fun (_ : Unit) => True) (fun (_ : Unit) (t : State) => va_P D vwCl [(kn, oKn pl ex), (ex, aI yI 1681 (up E (x * 41 + y) v))] t.heap) (va_A [(kn, oKn pl ex), (ex, aI yI 1681 E)] sz)) 0 0 (va_A [(kn, oKn pl ex), (ex, aI yI 1681 E)] sz) := by
  refine Met.ofW (cc := cX1_putExcess) (maxL := 5) (ret := none) (by decide) rfl ?_
  intro p e s m args below meth c s₁ B hml hv
  obtain ⟨rfl, hsz, hP, hK, hD0⟩ := hv
  have hx := B.exec
  have hb := B.bytes
  have hr := B.returns
  have hts := atoms_spec (ws := wsX1_putExcess) B.pre
  have hown : s.vm.findClass RX1 = some m.cls := findClass_of_methodNamed B.named
  have hlocks := B.notSynchronized
  subst hsz
  have hD := hD0.self (sz := s.heap.size)
  generalize hAe : va_A [(kn, oKn pl ex), (ex, aI yI 1681 E)] s.heap.size = A at hD ⊢
  have hA : ∀ q : Nat, s.heap.size ≤ q → A q := fun q h => by rw [← hAe]; exact Or.inr h
  have hS : va_S A s.heap s.heap [] := va_S.rf
  have hP : va_P D vwCl [(kn, oKn pl ex), (ex, aI yI 1681 E)] s.heap := hP
  have hinX1 : ∀ w ∈ wsX10, w ∈ wsX1_putExcess := by decide +kernel
  have hf11 : (Cond.fieldLink RX1 11 "RiddleDrive$Knowledge" "excess" "[I").before _ s = true := hts _ (by decide +kernel)
  have hl := lv_entry ([.ref kn, .int (iI x), .int (iI y), .int (iI v)]) (n := 5) (Nat.le_of_ble_eq_true rfl)
  rw [lg_entry_eq]
  generalize (lg_sl ([.ref kn, .int (iI x), .int (iI y), .int (iI v)]) ++ List.replicate (5 - (lg_sl ([.ref kn, .int (iI x), .int (iI y), .int (iI v)])).length) Slot.unset).toArray = ls at hl ⊢
  have hl : lv_has ls 5 [(0, .ref kn), (1, .int (iI x)), (2, .int (iI y)), (3, .int (iI v))] := hl
  refine lv_iload_n hx hb dX1_putExcess_0 rfl (lv_at hl 1 rfl) ?_
  refine lv_bipush (v := iI 41) hx hb dX1_putExcess_1 (by decide +kernel) ?_
  refine iv_mul hx hb dX1_putExcess_3 ?_
  refine lv_iload_n hx hb dX1_putExcess_4 rfl (lv_at hl 2 rfl) ?_
  refine iv_add hx hb dX1_putExcess_5 ?_
  refine lv_istore (lv' := [(4, .int (iI (x * 41 + y))), (0, .ref kn), (1, .int (iI x)), (2, .int (iI y)), (3, .int (iI v))]) hx hb dX1_putExcess_6 hl (by decide) rfl (fun ls hl => ?_)
  refine lv_iload hx hb dX1_putExcess_8 (lv_at hl 0 rfl) ?_
  refine iv_if_lt (a := x * 41 + y) (tgt := 31) hx hb (by omega) dX1_putExcess_10 (by decide) (fun c10 => ?_) (fun c10 => ?_)
  · exact absurd c10 (by omega)
  · refine lv_iload hx hb dX1_putExcess_13 (lv_at hl 0 rfl) ?_
    refine lv_aload_n hx hb dX1_putExcess_15 rfl (lv_at hl 1 rfl) ?_
    refine va_get (D := D) (ci := 1) (v := .ref ex) (C := RX1) (T := TX1) (N := 2) hx hb hts hinX1 hown hK hP 0 rfl rfl 1 (by decide) hf11 (fun _ h9 => h9) rfl dX1_putExcess_16 ?_
    refine va_alen (v := iI 1681) hx hb hK hP 1 0 rfl rfl (by show Int32.ofNat 1681 = iI 1681; decide +kernel) dX1_putExcess_19 ?_
    refine iv_icmp_ge (a := x * 41 + y) (b := 1681) (tgt := 31) hx hb (by omega) (by omega) dX1_putExcess_20 (by decide) (fun c20 => ?_) (fun c20 => ?_)
    · exact absurd c20 (by omega)
    · refine lv_aload_n hx hb dX1_putExcess_23 rfl (lv_at hl 1 rfl) ?_
      refine va_get (D := D) (ci := 1) (v := .ref ex) (C := RX1) (T := TX1) (N := 2) hx hb hts hinX1 hown hK hP 0 rfl rfl 1 (by decide) hf11 (fun _ h9 => h9) rfl dX1_putExcess_24 ?_
      refine lv_iload hx hb dX1_putExcess_27 (lv_at hl 0 rfl) ?_
      refine lv_iload_n hx hb dX1_putExcess_29 rfl (lv_at hl 4 rfl) ?_
      refine iv_ast hx hb hK hP hD hS 1 0 rfl rfl (z := x * 41 + y) (v := v) (by omega) (by omega) (by omega) dX1_putExcess_30 (fun H locs hP hD hS => ?_)
      have hP : va_P D vwCl [(kn, oKn pl ex), (ex, aI yI 1681 (up E (x * 41 + y) v))] H := hP
      have hD : va_D A [(kn, oKn pl ex), (ex, aI yI 1681 (up E (x * 41 + y) v))] := hD
      have hP9 : va_P D vwCl [(kn, oKn pl ex), (ex, aI yI 1681 (up E (x * 41 + y) v))] _ := hP.sub [0, 1] rfl
      exact W.vret hx hb hr (fun t ht hW => ⟨⟨(), rfl, trivial, by show va_P D vwCl _ t.heap; rw [ht]; exact hP9⟩, hS.F ht⟩) hS.2.2 dX1_putExcess_31
set_option maxHeartbeats 4000000 in
set_option maxRecDepth 100000 in
theorem c_X1_fewestKeys (l : Launch) (D : va_G) (yI yC yD : ClassId) (kn : Nat) (ex : Nat) (pl : Int) (E : Int → Int) (r : Int → Int) (a : Int) (b : Int) (hp : 0 ≤ pl ∧ pl ≤ 40) (hE : Ek E r pl) (hab : 0 ≤ a ∧ a ≤ b ∧ b < pl) : Met l yX1_fewestKeys wsX1_fewestKeys ({ frames := 1, cells := 0, slots := 0, locals := 23 }) (roP [.ref kn, .int (iI a), .int (iI b)] D (tyz yI yC yD) [(kn, oKn pl ex), (ex, aI yI 1681 E)]) (QcRead (iI (leastI r a b))) 0 0 (fun _ => False) := by
  refine Met.ofW (cc := cX1_fewestKeys) (maxL := 3) (ret := (some .int)) (by decide) rfl ?_
  intro p e s m args below meth c s₁ B hml hv
  obtain ⟨rfl, hP, hK⟩ := hv
  have hx := B.exec
  have hb := B.bytes
  have hr := B.returns
  have hts := atoms_spec (ws := wsX1_fewestKeys) B.pre
  have hown : s.vm.findClass RX1 = some m.cls := findClass_of_methodNamed B.named
  have hlocks := B.notSynchronized
  have hP : va_P D vwCl [(kn, oKn pl ex), (ex, aI yI 1681 E)] s.heap := hP
  have hl := lv_entry ([.ref kn, .int (iI a), .int (iI b)]) (n := 3) (Nat.le_of_ble_eq_true rfl)
  rw [lg_entry_eq]
  generalize (lg_sl ([.ref kn, .int (iI a), .int (iI b)]) ++ List.replicate (3 - (lg_sl ([.ref kn, .int (iI a), .int (iI b)])).length) Slot.unset).toArray = ls at hl ⊢
  have hl : lv_has ls 3 [(0, .ref kn), (1, .int (iI a)), (2, .int (iI b))] := hl
  have h9 := hE (b + 1) a (by omega) (by omega) (by omega) (by omega)
  refine lv_aload_n hx hb dX1_fewestKeys_0 rfl (lv_at hl 0 rfl) ?_
  refine lv_iload_n hx hb dX1_fewestKeys_1 rfl (lv_at hl 2 rfl) ?_
  refine lv_iconst (v := iI 1) hx hb dX1_fewestKeys_2 (by decide +kernel) ?_
  refine iv_add hx hb dX1_fewestKeys_3 ?_
  refine lv_iload_n hx hb dX1_fewestKeys_4 rfl (lv_at hl 1 rfl) ?_
  refine iv_roV (As := [.int (iI (b + 1)), .int (iI a)]) (rest := []) (C := RX1) (n := 2) ⟨hx, hb, hml, hown, hts⟩ (c_X1_excessOf l D yI yC yD kn ex pl E (b + 1) a (by omega)) (cwV 2 hts gX1_fewestKeys_X1_excessOf rfl rfl rfl (by decide +kernel) ⟨Nat.le_of_ble_eq_true rfl, Nat.le_of_ble_eq_true rfl⟩) hK hP [0, 1] rfl 0 rfl rfl rfl hl.1 rfl (Nat.le_of_ble_eq_true rfl) dX1_fewestKeys_5 ⟨Nat.zero_le _, Nat.zero_le _⟩ ?_
  refine iv_neg hx hb dX1_fewestKeys_8 ?_
  exact W.iret hx hb hr (fun t ht hW => ⟨congrArg (fun z => Outcome.returned (some (Value.int (iI z)))) (show -(E ((b + 1) * 41 + a)) = leastI r a b by rw [h9]; rfl), ht⟩) (fun q h => by cases h) dX1_fewestKeys_9
set_option maxHeartbeats 4000000 in
set_option maxRecDepth 100000 in
theorem c_X1_greatestKeys (l : Launch) (D : va_G) (yI yC yD : ClassId) (kn : Nat) (ex : Nat) (pl : Int) (E : Int → Int) (r : Int → Int) (a : Int) (b : Int) (hp : 0 ≤ pl ∧ pl ≤ 40) (hE : Ek E r pl) (hab : 0 ≤ a ∧ a ≤ b ∧ b < pl) : Met l yX1_greatestKeys wsX1_greatestKeys ({ frames := 1, cells := 0, slots := 0, locals := 23 }) (roP [.ref kn, .int (iI a), .int (iI b)] D (tyz yI yC yD) [(kn, oKn pl ex), (ex, aI yI 1681 E)]) (QcRead (iI (mostI r a b))) 0 0 (fun _ => False) := by
  refine Met.ofW (cc := cX1_greatestKeys) (maxL := 3) (ret := (some .int)) (by decide) rfl ?_
  intro p e s m args below meth c s₁ B hml hv
  obtain ⟨rfl, hP, hK⟩ := hv
  have hx := B.exec
  have hb := B.bytes
  have hr := B.returns
  have hts := atoms_spec (ws := wsX1_greatestKeys) B.pre
  have hown : s.vm.findClass RX1 = some m.cls := findClass_of_methodNamed B.named
  have hlocks := B.notSynchronized
  have hP : va_P D vwCl [(kn, oKn pl ex), (ex, aI yI 1681 E)] s.heap := hP
  have hl := lv_entry ([.ref kn, .int (iI a), .int (iI b)]) (n := 3) (Nat.le_of_ble_eq_true rfl)
  rw [lg_entry_eq]
  generalize (lg_sl ([.ref kn, .int (iI a), .int (iI b)]) ++ List.replicate (3 - (lg_sl ([.ref kn, .int (iI a), .int (iI b)])).length) Slot.unset).toArray = ls at hl ⊢
  have hl : lv_has ls 3 [(0, .ref kn), (1, .int (iI a)), (2, .int (iI b))] := hl
  have h9 := hE a (b + 1) (by omega) (by omega) (by omega) (by omega)
  refine lv_aload_n hx hb dX1_greatestKeys_0 rfl (lv_at hl 0 rfl) ?_
  refine lv_iload_n hx hb dX1_greatestKeys_1 rfl (lv_at hl 1 rfl) ?_
  refine lv_iload_n hx hb dX1_greatestKeys_2 rfl (lv_at hl 2 rfl) ?_
  refine lv_iconst (v := iI 1) hx hb dX1_greatestKeys_3 (by decide +kernel) ?_
  refine iv_add hx hb dX1_greatestKeys_4 ?_
  refine iv_roV (As := [.int (iI a), .int (iI (b + 1))]) (rest := []) (C := RX1) (n := 2) ⟨hx, hb, hml, hown, hts⟩ (c_X1_excessOf l D yI yC yD kn ex pl E a (b + 1) (by omega)) (cwV 2 hts gX1_greatestKeys_X1_excessOf rfl rfl rfl (by decide +kernel) ⟨Nat.le_of_ble_eq_true rfl, Nat.le_of_ble_eq_true rfl⟩) hK hP [0, 1] rfl 0 rfl rfl rfl hl.1 rfl (Nat.le_of_ble_eq_true rfl) dX1_greatestKeys_5 ⟨Nat.zero_le _, Nat.zero_le _⟩ ?_
  exact W.iret hx hb hr (fun t ht hW => ⟨congrArg (fun z => Outcome.returned (some (Value.int (iI z)))) (show E (a * 41 + (b + 1)) = mostI r a b by rw [h9]; unfold mostI; congr 1; omega), ht⟩) (fun q h => by cases h) dX1_greatestKeys_8
set_option maxHeartbeats 4000000 in
set_option maxRecDepth 100000 in
theorem c_X1_sure (l : Launch) (D : va_G) (yI yC yD : ClassId) (kn : Nat) (ex : Nat) (pl : Int) (E : Int → Int) (r : Int → Int) (i : Int) (hp : 0 ≤ pl ∧ pl ≤ 40) (hE : Ek E r pl) (hG : GB r) (hi : 0 ≤ i ∧ i < pl) : Met l yX1_sure wsX1_sure ({ frames := 2, cells := 0, slots := 0, locals := 45 }) (roP [.ref kn, .int (iI i)] D (tyz yI yC yD) [(kn, oKn pl ex), (ex, aI yI 1681 E)]) (QcRead (iI (knownOf r i))) 0 0 (fun _ => False) := by
  refine Met.ofW (cc := cX1_sure) (maxL := 3) (ret := (some .int)) (by decide) rfl ?_
  intro p e s m args below meth c s₁ B hml hv
  obtain ⟨rfl, hP, hK⟩ := hv
  have hx := B.exec
  have hb := B.bytes
  have hr := B.returns
  have hts := atoms_spec (ws := wsX1_sure) B.pre
  have hown : s.vm.findClass RX1 = some m.cls := findClass_of_methodNamed B.named
  have hlocks := B.notSynchronized
  have hP : va_P D vwCl [(kn, oKn pl ex), (ex, aI yI 1681 E)] s.heap := hP
  have hl := lv_entry ([.ref kn, .int (iI i)]) (n := 3) (Nat.le_of_ble_eq_true rfl)
  rw [lg_entry_eq]
  generalize (lg_sl ([.ref kn, .int (iI i)]) ++ List.replicate (3 - (lg_sl ([.ref kn, .int (iI i)])).length) Slot.unset).toArray = ls at hl ⊢
  have hl : lv_has ls 3 [(0, .ref kn), (1, .int (iI i))] := hl
  have b1 := mostI_r hG (a := i) (b := i) (by omega)
  have b2 := leastI_r hG (a := i) (b := i) (by omega)
  refine lv_aload_n hx hb dX1_sure_0 rfl (lv_at hl 0 rfl) ?_
  refine lv_iload_n hx hb dX1_sure_1 rfl (lv_at hl 1 rfl) ?_
  refine lv_iload_n hx hb dX1_sure_2 rfl (lv_at hl 1 rfl) ?_
  refine iv_roV (As := [.int (iI i), .int (iI i)]) (rest := []) (C := RX1) (n := 2) ⟨hx, hb, hml, hown, hts⟩ (c_X1_fewestKeys l D yI yC yD kn ex pl E r i i (by omega) (by assumption) (by omega)) (cwV 2 hts gX1_sure_X1_fewestKeys rfl rfl rfl (by decide +kernel) ⟨Nat.le_of_ble_eq_true rfl, Nat.le_of_ble_eq_true rfl⟩) hK hP [0, 1] rfl 0 rfl rfl rfl hl.1 rfl (Nat.le_of_ble_eq_true rfl) dX1_sure_3 ⟨Nat.zero_le _, Nat.zero_le _⟩ ?_
  refine lv_istore_n (lv' := [(2, .int (iI (leastI r i i))), (0, .ref kn), (1, .int (iI i))]) hx hb dX1_sure_6 rfl hl (by decide) rfl (fun ls hl => ?_)
  refine lv_iload_n hx hb dX1_sure_7 rfl (lv_at hl 0 rfl) ?_
  refine lv_aload_n hx hb dX1_sure_8 rfl (lv_at hl 1 rfl) ?_
  refine lv_iload_n hx hb dX1_sure_9 rfl (lv_at hl 2 rfl) ?_
  refine lv_iload_n hx hb dX1_sure_10 rfl (lv_at hl 2 rfl) ?_
  refine iv_roV (As := [.int (iI i), .int (iI i)]) (rest := [.int (iI (leastI r i i))]) (C := RX1) (n := 2) ⟨hx, hb, hml, hown, hts⟩ (c_X1_greatestKeys l D yI yC yD kn ex pl E r i i (by omega) (by assumption) (by omega)) (cwV 2 hts gX1_sure_X1_greatestKeys rfl rfl rfl (by decide +kernel) ⟨Nat.le_of_ble_eq_true rfl, Nat.le_of_ble_eq_true rfl⟩) hK hP [0, 1] rfl 0 rfl rfl rfl hl.1 rfl (Nat.le_of_ble_eq_true rfl) dX1_sure_11 ⟨Nat.zero_le _, Nat.zero_le _⟩ ?_
  refine iv_icmp_ne (a := leastI r i i) (b := mostI r i i) (tgt := 21) hx hb (by omega) (by omega) dX1_sure_14 (by decide) (fun c14 => ?_) (fun c14 => ?_)
  · refine lv_iconst (v := iI (-1)) hx hb dX1_sure_21 (by decide +kernel) ?_
    exact W.iret hx hb hr (fun t ht hW => ⟨congrArg (fun z => Outcome.returned (some (Value.int (iI z)))) (show -1 = knownOf r i by unfold knownOf; split <;> omega), ht⟩) (fun q h => by cases h) dX1_sure_22
  · refine lv_iload_n hx hb dX1_sure_17 rfl (lv_at hl 0 rfl) ?_
    refine lv_goto (tgt := 22) hx hb dX1_sure_18 (by decide) ?_
    exact W.iret hx hb hr (fun t ht hW => ⟨congrArg (fun z => Outcome.returned (some (Value.int (iI z)))) (show leastI r i i = knownOf r i by unfold knownOf; split <;> omega), ht⟩) (fun q h => by cases h) dX1_sure_22
set_option maxHeartbeats 4000000 in
set_option maxRecDepth 100000 in
theorem c_X1_countSure (l : Launch) (D : va_G) (yI yC yD : ClassId) (kn : Nat) (ex : Nat) (pl : Int) (E : Int → Int) (r : Int → Int) (hp : 0 ≤ pl ∧ pl ≤ 40) (hE : Ek E r pl) (hG : GB r) : Met l yX1_countSure wsX1_countSure ({ frames := 3, cells := 0, slots := 0, locals := 67 }) (roP [.ref kn] D (tyz yI yC yD) [(kn, oKn pl ex), (ex, aI yI 1681 E)]) (QcRead (iI (kCnt r pl.toNat))) 0 0 (fun _ => False) := by
  refine Met.ofW (cc := cX1_countSure) (maxL := 3) (ret := (some .int)) (by decide) rfl ?_
  intro p e s m args below meth c s₁ B hml hv
  obtain ⟨rfl, hP, hK⟩ := hv
  have hx := B.exec
  have hb := B.bytes
  have hr := B.returns
  have hts := atoms_spec (ws := wsX1_countSure) B.pre
  have hown : s.vm.findClass RX1 = some m.cls := findClass_of_methodNamed B.named
  have hlocks := B.notSynchronized
  have hP : va_P D vwCl [(kn, oKn pl ex), (ex, aI yI 1681 E)] s.heap := hP
  have hinX1 : ∀ w ∈ wsX10, w ∈ wsX1_countSure := by decide +kernel
  have hf21 : (Cond.fieldLink RX1 21 "RiddleDrive$Knowledge" "places" "I").before _ s = true := hts _ (by decide +kernel)
  have hl := lv_entry ([.ref kn]) (n := 3) (Nat.le_of_ble_eq_true rfl)
  rw [lg_entry_eq]
  generalize (lg_sl ([.ref kn]) ++ List.replicate (3 - (lg_sl ([.ref kn])).length) Slot.unset).toArray = ls at hl ⊢
  have hl : lv_has ls 3 [(0, .ref kn)] := hl
  refine lv_iconst (v := iI 0) hx hb dX1_countSure_0 (by decide +kernel) ?_
  refine lv_istore_n (lv' := [(1, .int (iI 0)), (0, .ref kn)]) hx hb dX1_countSure_1 rfl hl (by decide) rfl (fun ls hl => ?_)
  refine lv_iconst (v := iI 0) hx hb dX1_countSure_2 (by decide +kernel) ?_
  refine lv_istore_n (lv' := [(2, .int (iI 0)), (1, .int (iI 0)), (0, .ref kn)]) hx hb dX1_countSure_3 rfl hl (by decide) rfl (fun ls hl => ?_)
  refine iv_loopR (I := fun (qq : Nat × Int × Int) ls => match qq with | (n, x1, x2) => ((n : Int) ≤ pl) ∧ (x2 = n) ∧ (x1 = kCnt r n) ∧ lv_has ls 3 [(2, .int (iI x2)), (1, .int (iI x1)), (0, .ref kn)]) (μ := fun (qq : Nat × Int × Int) => match qq with | (n, x1, x2) => pl.toNat - n) (0, 0, 0) ?_ ?_
  · exact ⟨by omega, by omega, rfl, lv_sub hl [0, 1, 2] rfl⟩
  · intro qq ls hI ih4
    obtain ⟨n, x1, x2⟩ := qq
    obtain ⟨hn, h2, h1, hl⟩ := hI
    refine lv_iload_n hx hb dX1_countSure_4 rfl (lv_at hl 0 rfl) ?_
    refine lv_aload_n hx hb dX1_countSure_5 rfl (lv_at hl 2 rfl) ?_
    refine va_get (D := D) (ci := 1) (v := .int (iI pl)) (C := RX1) (T := TX1) (N := 2) hx hb hts hinX1 hown hK hP 0 rfl rfl 0 (by decide) hf21 (fun _ h9 => h9) rfl dX1_countSure_6 ?_
    refine iv_icmp_ge (a := x2) (b := pl) (tgt := 30) hx hb (by omega) (by omega) dX1_countSure_9 (by decide) (fun c9 => ?_) (fun c9 => ?_)
    · refine lv_iload_n hx hb dX1_countSure_30 rfl (lv_at hl 1 rfl) ?_
      exact W.iret hx hb hr (fun t ht hW => ⟨congrArg (fun z => Outcome.returned (some (Value.int (iI z)))) (show x1 = kCnt r pl.toNat by rw [h1]; congr 1; omega), ht⟩) (fun q h => by cases h) dX1_countSure_31
    · have hko := knownOf_r hG (i := x2) (by omega)
      have hkc := kCnt_r (r := r) n
      refine lv_aload_n hx hb dX1_countSure_12 rfl (lv_at hl 2 rfl) ?_
      refine lv_iload_n hx hb dX1_countSure_13 rfl (lv_at hl 0 rfl) ?_
      refine iv_roV (As := [.int (iI x2)]) (rest := []) (C := RX1) (n := 1) ⟨hx, hb, hml, hown, hts⟩ (c_X1_sure l D yI yC yD kn ex pl E r x2 (by omega) (by assumption) (by assumption) (by omega)) (cwV 1 hts gX1_countSure_X1_sure rfl rfl rfl (by decide +kernel) ⟨Nat.le_of_ble_eq_true rfl, Nat.le_of_ble_eq_true rfl⟩) hK hP [0, 1] rfl 0 rfl rfl rfl hl.1 rfl (Nat.le_of_ble_eq_true rfl) dX1_countSure_14 ⟨Nat.zero_le _, Nat.zero_le _⟩ ?_
      refine lv_iconst (v := iI (-1)) hx hb dX1_countSure_17 (by decide +kernel) ?_
      refine iv_icmp_eq (a := knownOf r x2) (b := -1) (tgt := 24) hx hb (by omega) (by omega) dX1_countSure_18 (by decide) (fun c18 => ?_) (fun c18 => ?_)
      · refine iv_inc (lv' := [(2, .int (iI (x2 + 1))), (1, .int (iI x1)), (0, .ref kn)]) hx hb dX1_countSure_24 hl (k := 0) rfl (by decide) rfl (fun ls hl => ?_)
        refine lv_goto (tgt := 4) hx hb dX1_countSure_27 (by decide) ?_
        refine ih4 (n + 1, x1, x2 + 1) (by show (pl.toNat - (n + 1) : Nat) < pl.toNat - n; omega) ?_
        exact ⟨by omega, by omega, by subst h2; show _ = _ + (if _ then _ else _); split <;> omega, lv_sub hl [0, 1, 2] rfl⟩
      · refine iv_inc (lv' := [(1, .int (iI (x1 + 1))), (2, .int (iI x2)), (0, .ref kn)]) hx hb dX1_countSure_21 hl (k := 1) rfl (by decide) rfl (fun ls hl => ?_)
        refine iv_inc (lv' := [(2, .int (iI (x2 + 1))), (1, .int (iI (x1 + 1))), (0, .ref kn)]) hx hb dX1_countSure_24 hl (k := 1) rfl (by decide) rfl (fun ls hl => ?_)
        refine lv_goto (tgt := 4) hx hb dX1_countSure_27 (by decide) ?_
        refine ih4 (n + 1, x1 + 1, x2 + 1) (by show (pl.toNat - (n + 1) : Nat) < pl.toNat - n; omega) ?_
        exact ⟨by omega, by omega, by subst h2; show _ = _ + (if _ then _ else _); split <;> omega, lv_sub hl [0, 1, 2] rfl⟩
set_option maxHeartbeats 4000000 in
set_option maxRecDepth 100000 in
theorem c_X1_surePlace (l : Launch) (D : va_G) (yI yC yD : ClassId) (kn : Nat) (ex : Nat) (pl : Int) (E : Int → Int) (r : Int → Int) (q : Int) (hp : 0 ≤ pl ∧ pl ≤ 40) (hE : Ek E r pl) (hG : GB r) (hq : 0 ≤ q ∧ q < 2147483648) : Met l yX1_surePlace wsX1_surePlace ({ frames := 3, cells := 0, slots := 0, locals := 67 }) (roP [.ref kn, .int (iI q)] D (tyz yI yC yD) [(kn, oKn pl ex), (ex, aI yI 1681 E)]) (QcRead (iI (kAt r q pl.toNat))) 0 0 (fun _ => False) := by
  refine Met.ofW (cc := cX1_surePlace) (maxL := 4) (ret := (some .int)) (by decide) rfl ?_
  intro p e s m args below meth c s₁ B hml hv
  obtain ⟨rfl, hP, hK⟩ := hv
  have hx := B.exec
  have hb := B.bytes
  have hr := B.returns
  have hts := atoms_spec (ws := wsX1_surePlace) B.pre
  have hown : s.vm.findClass RX1 = some m.cls := findClass_of_methodNamed B.named
  have hlocks := B.notSynchronized
  have hP : va_P D vwCl [(kn, oKn pl ex), (ex, aI yI 1681 E)] s.heap := hP
  have hinX1 : ∀ w ∈ wsX10, w ∈ wsX1_surePlace := by decide +kernel
  have hf21 : (Cond.fieldLink RX1 21 "RiddleDrive$Knowledge" "places" "I").before _ s = true := hts _ (by decide +kernel)
  have hl := lv_entry ([.ref kn, .int (iI q)]) (n := 4) (Nat.le_of_ble_eq_true rfl)
  rw [lg_entry_eq]
  generalize (lg_sl ([.ref kn, .int (iI q)]) ++ List.replicate (4 - (lg_sl ([.ref kn, .int (iI q)])).length) Slot.unset).toArray = ls at hl ⊢
  have hl : lv_has ls 4 [(0, .ref kn), (1, .int (iI q))] := hl
  refine lv_iload_n hx hb dX1_surePlace_0 rfl (lv_at hl 1 rfl) ?_
  refine lv_istore_n (lv' := [(2, .int (iI q)), (0, .ref kn), (1, .int (iI q))]) hx hb dX1_surePlace_1 rfl hl (by decide) rfl (fun ls hl => ?_)
  refine lv_iconst (v := iI 0) hx hb dX1_surePlace_2 (by decide +kernel) ?_
  refine lv_istore_n (lv' := [(3, .int (iI 0)), (2, .int (iI q)), (0, .ref kn), (1, .int (iI q))]) hx hb dX1_surePlace_3 rfl hl (by decide) rfl (fun ls hl => ?_)
  refine iv_loopR (I := fun (qq : Nat × Int × Int) ls => match qq with | (n, x2, x3) => ((n : Int) ≤ pl) ∧ (x3 = n) ∧ (x2 = q - kCnt r n) ∧ (kAt r q n = -1) ∧ lv_has ls 4 [(3, .int (iI x3)), (2, .int (iI x2)), (0, .ref kn), (1, .int (iI q))]) (μ := fun (qq : Nat × Int × Int) => match qq with | (n, x2, x3) => pl.toNat - n) (0, q, 0) ?_ ?_
  · exact ⟨by omega, by omega, by show q = q - 0; omega, rfl, lv_sub hl [0, 1, 2, 3] rfl⟩
  · intro qq ls hI ih4
    obtain ⟨n, x2, x3⟩ := qq
    obtain ⟨hn, h3, h2, h1, hl⟩ := hI
    refine lv_iload_n hx hb dX1_surePlace_4 rfl (lv_at hl 0 rfl) ?_
    refine lv_aload_n hx hb dX1_surePlace_5 rfl (lv_at hl 2 rfl) ?_
    refine va_get (D := D) (ci := 1) (v := .int (iI pl)) (C := RX1) (T := TX1) (N := 2) hx hb hts hinX1 hown hK hP 0 rfl rfl 0 (by decide) hf21 (fun _ h9 => h9) rfl dX1_surePlace_6 ?_
    refine iv_icmp_ge (a := x3) (b := pl) (tgt := 36) hx hb (by omega) (by omega) dX1_surePlace_9 (by decide) (fun c9 => ?_) (fun c9 => ?_)
    · refine lv_iconst (v := iI (-1)) hx hb dX1_surePlace_36 (by decide +kernel) ?_
      exact W.iret hx hb hr (fun t ht hW => ⟨congrArg (fun z => Outcome.returned (some (Value.int (iI z)))) (show -1 = kAt r q pl.toNat by rw [← h1]; congr 1; omega), ht⟩) (fun q h => by cases h) dX1_surePlace_37
    · have hko := knownOf_r hG (i := x3) (by omega)
      have hkc := kCnt_r (r := r) n
      refine lv_aload_n hx hb dX1_surePlace_12 rfl (lv_at hl 2 rfl) ?_
      refine lv_iload_n hx hb dX1_surePlace_13 rfl (lv_at hl 0 rfl) ?_
      refine iv_roV (As := [.int (iI x3)]) (rest := []) (C := RX1) (n := 1) ⟨hx, hb, hml, hown, hts⟩ (c_X1_sure l D yI yC yD kn ex pl E r x3 (by omega) (by assumption) (by assumption) (by omega)) (cwV 1 hts gX1_surePlace_X1_sure rfl rfl rfl (by decide +kernel) ⟨Nat.le_of_ble_eq_true rfl, Nat.le_of_ble_eq_true rfl⟩) hK hP [0, 1] rfl 0 rfl rfl rfl hl.1 rfl (Nat.le_of_ble_eq_true rfl) dX1_surePlace_14 ⟨Nat.zero_le _, Nat.zero_le _⟩ ?_
      refine lv_iconst (v := iI (-1)) hx hb dX1_surePlace_17 (by decide +kernel) ?_
      refine iv_icmp_eq (a := knownOf r x3) (b := -1) (tgt := 30) hx hb (by omega) (by omega) dX1_surePlace_18 (by decide) (fun c18 => ?_) (fun c18 => ?_)
      · refine iv_inc (lv' := [(3, .int (iI (x3 + 1))), (2, .int (iI x2)), (0, .ref kn), (1, .int (iI q))]) hx hb dX1_surePlace_30 hl (k := 0) rfl (by decide) rfl (fun ls hl => ?_)
        refine lv_goto (tgt := 4) hx hb dX1_surePlace_33 (by decide) ?_
        refine ih4 (n + 1, x2, x3 + 1) (by show (pl.toNat - (n + 1) : Nat) < pl.toNat - n; omega) ?_
        exact ⟨by omega, by omega, by subst h3; show _ = q - (kCnt r n + (if _ then _ else _)); split <;> omega, by subst h3; show (if _ then _ else _) = _; split <;> omega, lv_sub hl [0, 1, 2, 3] rfl⟩
      · refine lv_iload_n hx hb dX1_surePlace_21 rfl (lv_at hl 1 rfl) ?_
        refine iv_if_ne (a := x2) (tgt := 27) hx hb (by omega) dX1_surePlace_22 (by decide) (fun c22 => ?_) (fun c22 => ?_)
        · refine iv_inc (lv' := [(2, .int (iI (x2 + (-1)))), (3, .int (iI x3)), (0, .ref kn), (1, .int (iI q))]) hx hb dX1_surePlace_27 hl (k := 1) rfl (by decide) rfl (fun ls hl => ?_)
          refine iv_inc (lv' := [(3, .int (iI (x3 + 1))), (2, .int (iI (x2 + (-1)))), (0, .ref kn), (1, .int (iI q))]) hx hb dX1_surePlace_30 hl (k := 1) rfl (by decide) rfl (fun ls hl => ?_)
          refine lv_goto (tgt := 4) hx hb dX1_surePlace_33 (by decide) ?_
          refine ih4 (n + 1, x2 + (-1), x3 + 1) (by show (pl.toNat - (n + 1) : Nat) < pl.toNat - n; omega) ?_
          exact ⟨by omega, by omega, by subst h3; show _ = q - (kCnt r n + (if _ then _ else _)); split <;> omega, by subst h3; show (if _ then _ else _) = _; split <;> omega, lv_sub hl [0, 1, 2, 3] rfl⟩
        · refine lv_iload_n hx hb dX1_surePlace_25 rfl (lv_at hl 0 rfl) ?_
          exact W.iret hx hb hr (fun t ht hW => ⟨congrArg (fun z => Outcome.returned (some (Value.int (iI z)))) (show x3 = kAt r q pl.toNat by rw [kAt_found (r := r) (i := q) (k := n) (by rw [← h3]; exact c18) (by omega) pl.toNat (by omega)]; exact h3), ht⟩) (fun q h => by cases h) dX1_surePlace_26
