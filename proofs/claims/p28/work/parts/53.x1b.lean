set_option maxHeartbeats 4000000 in
set_option maxRecDepth 100000 in
theorem c_X1_excessBehind (l : Launch) (D : va_G) (yI yC yD : ClassId) (kn : Nat) (ex : Nat) (pl : Int) (E : Int → Int) (r : Int → Int) (x : Int) (y : Int) (f : Int) (tt : Int) (few : Int) (many : Int) (hp : 0 ≤ pl ∧ pl ≤ 40) (hE : Ek E r pl) (hG : GB r) (hx9 : 0 ≤ x ∧ x ≤ pl ∧ 0 ≤ y ∧ y ≤ pl ∧ 0 ≤ f ∧ f ≤ pl ∧ 0 ≤ tt ∧ tt ≤ pl) (hm : -1000 ≤ few ∧ few ≤ 1000 ∧ -1000 ≤ many ∧ many ≤ 1000) : Met l yX1_excessBehind wsX1_excessBehind ({ frames := 1, cells := 0, slots := 0, locals := 23 }) (roP [.ref kn, .int (iI x), .int (iI y), .int (iI f), .int (iI tt), .int (iI few), .int (iI many)] D (tyz yI yC yD) [(kn, oKn pl ex), (ex, aI yI 1681 E)]) (QcRead (iI (xb r x y f tt few many))) 0 0 (fun _ => False) := by
  refine Met.ofW (cc := cX1_excessBehind) (maxL := 9) (ret := (some .int)) (by decide) rfl ?_
  intro p e s m args below meth c s₁ B hml hv
  obtain ⟨rfl, hP, hK⟩ := hv
  have hx := B.exec
  have hb := B.bytes
  have hr := B.returns
  have hts := atoms_spec (ws := wsX1_excessBehind) B.pre
  have hown : s.vm.findClass RX1 = some m.cls := findClass_of_methodNamed B.named
  have hlocks := B.notSynchronized
  have hP : va_P D vwCl [(kn, oKn pl ex), (ex, aI yI 1681 E)] s.heap := hP
  have hl := lv_entry ([.ref kn, .int (iI x), .int (iI y), .int (iI f), .int (iI tt), .int (iI few), .int (iI many)]) (n := 9) (Nat.le_of_ble_eq_true rfl)
  rw [lg_entry_eq]
  generalize (lg_sl ([.ref kn, .int (iI x), .int (iI y), .int (iI f), .int (iI tt), .int (iI few), .int (iI many)]) ++ List.replicate (9 - (lg_sl ([.ref kn, .int (iI x), .int (iI y), .int (iI f), .int (iI tt), .int (iI few), .int (iI many)])).length) Slot.unset).toArray = ls at hl ⊢
  have hl : lv_has ls 9 [(0, .ref kn), (1, .int (iI x)), (2, .int (iI y)), (3, .int (iI f)), (4, .int (iI tt)), (5, .int (iI few)), (6, .int (iI many))] := hl
  have e0 := hE x y (by omega) (by omega) (by omega) (by omega)
  have b0 := hG (41 * x + y) (by omega) (by omega)
  have e1 := hE x f (by omega) (by omega) (by omega) (by omega)
  have b1 := hG (41 * x + f) (by omega) (by omega)
  have e2 := hE tt y (by omega) (by omega) (by omega) (by omega)
  have b2 := hG (41 * tt + y) (by omega) (by omega)
  have e3 := hE x tt (by omega) (by omega) (by omega) (by omega)
  have b3 := hG (41 * x + tt) (by omega) (by omega)
  have e4 := hE f y (by omega) (by omega) (by omega) (by omega)
  have b4 := hG (41 * f + y) (by omega) (by omega)
  refine lv_aload_n hx hb dX1_excessBehind_0 rfl (lv_at hl 0 rfl) ?_
  refine lv_iload_n hx hb dX1_excessBehind_1 rfl (lv_at hl 1 rfl) ?_
  refine lv_iload_n hx hb dX1_excessBehind_2 rfl (lv_at hl 3 rfl) ?_
  refine iv_roV (As := [.int (iI x), .int (iI f)]) (rest := []) (C := RX1) (n := 2) ⟨hx, hb, hml, hown, hts⟩ (c_X1_excessOf l D yI yC yD kn ex pl E x f (by omega)) (cwV 2 hts gX1_excessBehind_X1_excessOf rfl rfl rfl (by decide +kernel) ⟨Nat.le_of_ble_eq_true rfl, Nat.le_of_ble_eq_true rfl⟩) hK hP [0, 1] rfl 0 rfl rfl rfl hl.1 rfl (Nat.le_of_ble_eq_true rfl) dX1_excessBehind_3 ⟨Nat.zero_le _, Nat.zero_le _⟩ ?_
  refine lv_iload hx hb dX1_excessBehind_6 (lv_at hl 6 rfl) ?_
  refine iv_add hx hb dX1_excessBehind_8 ?_
  refine lv_aload_n hx hb dX1_excessBehind_9 rfl (lv_at hl 0 rfl) ?_
  refine lv_iload hx hb dX1_excessBehind_10 (lv_at hl 4 rfl) ?_
  refine lv_iload_n hx hb dX1_excessBehind_12 rfl (lv_at hl 2 rfl) ?_
  refine iv_roV (As := [.int (iI tt), .int (iI y)]) (rest := [.int (iI (E (x * 41 + f) + many))]) (C := RX1) (n := 2) ⟨hx, hb, hml, hown, hts⟩ (c_X1_excessOf l D yI yC yD kn ex pl E tt y (by omega)) (cwV 2 hts gX1_excessBehind_X1_excessOf rfl rfl rfl (by decide +kernel) ⟨Nat.le_of_ble_eq_true rfl, Nat.le_of_ble_eq_true rfl⟩) hK hP [0, 1] rfl 0 rfl rfl rfl hl.1 rfl (Nat.le_of_ble_eq_true rfl) dX1_excessBehind_13 ⟨Nat.zero_le _, Nat.zero_le _⟩ ?_
  refine iv_add hx hb dX1_excessBehind_16 ?_
  refine lv_istore (lv' := [(7, .int (iI (E (x * 41 + f) + many + (E (tt * 41 + y))))), (0, .ref kn), (1, .int (iI x)), (2, .int (iI y)), (3, .int (iI f)), (4, .int (iI tt)), (5, .int (iI few)), (6, .int (iI many))]) hx hb dX1_excessBehind_17 hl (by decide) rfl (fun ls hl => ?_)
  refine lv_aload_n hx hb dX1_excessBehind_19 rfl (lv_at hl 1 rfl) ?_
  refine lv_iload_n hx hb dX1_excessBehind_20 rfl (lv_at hl 2 rfl) ?_
  refine lv_iload hx hb dX1_excessBehind_21 (lv_at hl 5 rfl) ?_
  refine iv_roV (As := [.int (iI x), .int (iI tt)]) (rest := []) (C := RX1) (n := 2) ⟨hx, hb, hml, hown, hts⟩ (c_X1_excessOf l D yI yC yD kn ex pl E x tt (by omega)) (cwV 2 hts gX1_excessBehind_X1_excessOf rfl rfl rfl (by decide +kernel) ⟨Nat.le_of_ble_eq_true rfl, Nat.le_of_ble_eq_true rfl⟩) hK hP [0, 1] rfl 0 rfl rfl rfl hl.1 rfl (Nat.le_of_ble_eq_true rfl) dX1_excessBehind_23 ⟨Nat.zero_le _, Nat.zero_le _⟩ ?_
  refine lv_iload hx hb dX1_excessBehind_26 (lv_at hl 6 rfl) ?_
  refine iv_sub hx hb dX1_excessBehind_28 ?_
  refine lv_aload_n hx hb dX1_excessBehind_29 rfl (lv_at hl 1 rfl) ?_
  refine lv_iload_n hx hb dX1_excessBehind_30 rfl (lv_at hl 4 rfl) ?_
  refine lv_iload_n hx hb dX1_excessBehind_31 rfl (lv_at hl 3 rfl) ?_
  refine iv_roV (As := [.int (iI f), .int (iI y)]) (rest := [.int (iI (E (x * 41 + tt) - few))]) (C := RX1) (n := 2) ⟨hx, hb, hml, hown, hts⟩ (c_X1_excessOf l D yI yC yD kn ex pl E f y (by omega)) (cwV 2 hts gX1_excessBehind_X1_excessOf rfl rfl rfl (by decide +kernel) ⟨Nat.le_of_ble_eq_true rfl, Nat.le_of_ble_eq_true rfl⟩) hK hP [0, 1] rfl 0 rfl rfl rfl hl.1 rfl (Nat.le_of_ble_eq_true rfl) dX1_excessBehind_32 ⟨Nat.zero_le _, Nat.zero_le _⟩ ?_
  refine iv_add hx hb dX1_excessBehind_35 ?_
  refine lv_istore (lv' := [(8, .int (iI (E (x * 41 + tt) - few + (E (f * 41 + y))))), (7, .int (iI (E (x * 41 + f) + many + (E (tt * 41 + y))))), (0, .ref kn), (1, .int (iI x)), (2, .int (iI y)), (3, .int (iI f)), (4, .int (iI tt)), (5, .int (iI few)), (6, .int (iI many))]) hx hb dX1_excessBehind_36 hl (by decide) rfl (fun ls hl => ?_)
  refine lv_aload_n hx hb dX1_excessBehind_38 rfl (lv_at hl 2 rfl) ?_
  refine lv_iload_n hx hb dX1_excessBehind_39 rfl (lv_at hl 3 rfl) ?_
  refine lv_iload_n hx hb dX1_excessBehind_40 rfl (lv_at hl 4 rfl) ?_
  refine iv_roV (As := [.int (iI x), .int (iI y)]) (rest := []) (C := RX1) (n := 2) ⟨hx, hb, hml, hown, hts⟩ (c_X1_excessOf l D yI yC yD kn ex pl E x y (by omega)) (cwV 2 hts gX1_excessBehind_X1_excessOf rfl rfl rfl (by decide +kernel) ⟨Nat.le_of_ble_eq_true rfl, Nat.le_of_ble_eq_true rfl⟩) hK hP [0, 1] rfl 0 rfl rfl rfl hl.1 rfl (Nat.le_of_ble_eq_true rfl) dX1_excessBehind_41 ⟨Nat.zero_le _, Nat.zero_le _⟩ ?_
  refine lv_iload hx hb dX1_excessBehind_44 (lv_at hl 1 rfl) ?_
  refine lv_iload hx hb dX1_excessBehind_46 (lv_at hl 0 rfl) ?_
  refine iv_min hx hb (hml.trans hl.1.symm) hown (hts (.methodLink RX1 70 Lib.Math.min.name) (by decide +kernel)) (hts (.static Lib.Math.min.name) (by decide +kernel)) (hts (.initialized "java/lang/Math") (by decide +kernel)) (hts (.code Lib.Math.min.name Lib.Math.min.code 2 (some .int)) (by decide +kernel)) (Nat.le_of_ble_eq_true rfl) (Nat.le_of_ble_eq_true rfl) (Nat.zero_le _) (Nat.zero_le _) (by omega) (by omega) dX1_excessBehind_48 ?_
  refine iv_min hx hb (hml.trans hl.1.symm) hown (hts (.methodLink RX1 70 Lib.Math.min.name) (by decide +kernel)) (hts (.static Lib.Math.min.name) (by decide +kernel)) (hts (.initialized "java/lang/Math") (by decide +kernel)) (hts (.code Lib.Math.min.name Lib.Math.min.code 2 (some .int)) (by decide +kernel)) (Nat.le_of_ble_eq_true rfl) (Nat.le_of_ble_eq_true rfl) (Nat.zero_le _) (Nat.zero_le _) (by omega) (by omega) dX1_excessBehind_51 ?_
  exact W.iret hx hb hr (fun t ht hW => ⟨congrArg (fun z => Outcome.returned (some (Value.int (iI z)))) (show min (E (x * 41 + y)) (min (E (x * 41 + f) + many + (E (tt * 41 + y))) (E (x * 41 + tt) - few + (E (f * 41 + y)))) = xb r x y f tt few many by rw [e0, e1, e2, e3, e4]; rfl), ht⟩) (fun q h => by cases h) dX1_excessBehind_54
set_option maxHeartbeats 4000000 in
set_option maxRecDepth 100000 in
theorem c_X1_countSureBehind (l : Launch) (D : va_G) (yI yC yD : ClassId) (kn : Nat) (ex : Nat) (pl : Int) (E : Int → Int) (r : Int → Int) (a : Int) (b : Int) (few : Int) (many : Int) (hp : 0 ≤ pl ∧ pl ≤ 40) (hE : Ek E r pl) (hG : GB r) (hab : 0 ≤ a ∧ a ≤ b ∧ b < pl) (hm : -1000 ≤ few ∧ few ≤ 1000 ∧ -1000 ≤ many ∧ many ≤ 1000) : Met l yX1_countSureBehind wsX1_countSureBehind ({ frames := 2, cells := 0, slots := 0, locals := 51 }) (roP [.ref kn, .int (iI a), .int (iI b), .int (iI few), .int (iI many)] D (tyz yI yC yD) [(kn, oKn pl ex), (ex, aI yI 1681 E)]) (QcRead (iI (cbN r a b few many pl.toNat))) 0 0 (fun _ => False) := by
  refine Met.ofW (cc := cX1_countSureBehind) (maxL := 9) (ret := (some .int)) (by decide) rfl ?_
  intro p e s m args below meth c s₁ B hml hv
  obtain ⟨rfl, hP, hK⟩ := hv
  have hx := B.exec
  have hb := B.bytes
  have hr := B.returns
  have hts := atoms_spec (ws := wsX1_countSureBehind) B.pre
  have hown : s.vm.findClass RX1 = some m.cls := findClass_of_methodNamed B.named
  have hlocks := B.notSynchronized
  have hP : va_P D vwCl [(kn, oKn pl ex), (ex, aI yI 1681 E)] s.heap := hP
  have hinX1 : ∀ w ∈ wsX10, w ∈ wsX1_countSureBehind := by decide +kernel
  have hf21 : (Cond.fieldLink RX1 21 "RiddleDrive$Knowledge" "places" "I").before _ s = true := hts _ (by decide +kernel)
  have hl := lv_entry ([.ref kn, .int (iI a), .int (iI b), .int (iI few), .int (iI many)]) (n := 9) (Nat.le_of_ble_eq_true rfl)
  rw [lg_entry_eq]
  generalize (lg_sl ([.ref kn, .int (iI a), .int (iI b), .int (iI few), .int (iI many)]) ++ List.replicate (9 - (lg_sl ([.ref kn, .int (iI a), .int (iI b), .int (iI few), .int (iI many)])).length) Slot.unset).toArray = ls at hl ⊢
  have hl : lv_has ls 9 [(0, .ref kn), (1, .int (iI a)), (2, .int (iI b)), (3, .int (iI few)), (4, .int (iI many))] := hl
  refine lv_iconst (v := iI 0) hx hb dX1_countSureBehind_0 (by decide +kernel) ?_
  refine lv_istore (lv' := [(5, .int (iI 0)), (0, .ref kn), (1, .int (iI a)), (2, .int (iI b)), (3, .int (iI few)), (4, .int (iI many))]) hx hb dX1_countSureBehind_1 hl (by decide) rfl (fun ls hl => ?_)
  refine lv_iconst (v := iI 0) hx hb dX1_countSureBehind_3 (by decide +kernel) ?_
  refine lv_istore (lv' := [(6, .int (iI 0)), (5, .int (iI 0)), (0, .ref kn), (1, .int (iI a)), (2, .int (iI b)), (3, .int (iI few)), (4, .int (iI many))]) hx hb dX1_countSureBehind_4 hl (by decide) rfl (fun ls hl => ?_)
  refine iv_loopR (I := fun (qq : Nat × Int × Int) ls => match qq with | (n, x5, x6) => ((n : Int) ≤ pl) ∧ (x6 = n) ∧ (x5 = cbN r a b few many n) ∧ lv_has ls 9 [(6, .int (iI x6)), (5, .int (iI x5)), (0, .ref kn), (1, .int (iI a)), (2, .int (iI b)), (3, .int (iI few)), (4, .int (iI many))]) (μ := fun (qq : Nat × Int × Int) => match qq with | (n, x5, x6) => pl.toNat - n) (0, 0, 0) ?_ ?_
  · exact ⟨by omega, by omega, rfl, lv_sub hl [0, 1, 2, 3, 4, 5, 6] rfl⟩
  · intro qq ls hI ih6
    obtain ⟨n, x5, x6⟩ := qq
    obtain ⟨hn, h6, h5, hl⟩ := hI
    refine lv_iload hx hb dX1_countSureBehind_6 (lv_at hl 0 rfl) ?_
    refine lv_aload_n hx hb dX1_countSureBehind_8 rfl (lv_at hl 2 rfl) ?_
    refine va_get (D := D) (ci := 1) (v := .int (iI pl)) (C := RX1) (T := TX1) (N := 2) hx hb hts hinX1 hown hK hP 0 rfl rfl 0 (by decide) hf21 (fun _ h9 => h9) rfl dX1_countSureBehind_9 ?_
    refine iv_icmp_ge (a := x6) (b := pl) (tgt := 70) hx hb (by omega) (by omega) dX1_countSureBehind_12 (by decide) (fun c12 => ?_) (fun c12 => ?_)
    · refine lv_iload hx hb dX1_countSureBehind_70 (lv_at hl 1 rfl) ?_
      exact W.iret hx hb hr (fun t ht hW => ⟨congrArg (fun z => Outcome.returned (some (Value.int (iI z)))) (show x5 = cbN r a b few many pl.toNat by rw [h5]; congr 1; omega), ht⟩) (fun q h => by cases h) dX1_countSureBehind_72
    · have q1 := xb_r hG (x := x6) (y := x6 + 1) (f := a) (t := b + 1) (few := few) (many := many) (by omega) hm
      have q2 := xb_r hG (x := x6 + 1) (y := x6) (f := a) (t := b + 1) (few := few) (many := many) (by omega) hm
      have q3 := cbN_r (r := r) (a := a) (b := b) (few := few) (many := many) n
      refine lv_aload_n hx hb dX1_countSureBehind_15 rfl (lv_at hl 2 rfl) ?_
      refine lv_iload hx hb dX1_countSureBehind_16 (lv_at hl 0 rfl) ?_
      refine lv_iload hx hb dX1_countSureBehind_18 (lv_at hl 0 rfl) ?_
      refine lv_iconst (v := iI 1) hx hb dX1_countSureBehind_20 (by decide +kernel) ?_
      refine iv_add hx hb dX1_countSureBehind_21 ?_
      refine lv_iload_n hx hb dX1_countSureBehind_22 rfl (lv_at hl 3 rfl) ?_
      refine lv_iload_n hx hb dX1_countSureBehind_23 rfl (lv_at hl 4 rfl) ?_
      refine lv_iconst (v := iI 1) hx hb dX1_countSureBehind_24 (by decide +kernel) ?_
      refine iv_add hx hb dX1_countSureBehind_25 ?_
      refine lv_iload_n hx hb dX1_countSureBehind_26 rfl (lv_at hl 5 rfl) ?_
      refine lv_iload hx hb dX1_countSureBehind_27 (lv_at hl 6 rfl) ?_
      refine iv_roV (As := [.int (iI x6), .int (iI (x6 + 1)), .int (iI a), .int (iI (b + 1)), .int (iI few), .int (iI many)]) (rest := []) (C := RX1) (n := 6) ⟨hx, hb, hml, hown, hts⟩ (c_X1_excessBehind l D yI yC yD kn ex pl E r x6 (x6 + 1) a (b + 1) few many (by omega) (by assumption) (by assumption) (by omega) (by omega)) (cwV 6 hts gX1_countSureBehind_X1_excessBehind rfl rfl rfl (by decide +kernel) ⟨Nat.le_of_ble_eq_true rfl, Nat.le_of_ble_eq_true rfl⟩) hK hP [0, 1] rfl 0 rfl rfl rfl hl.1 rfl (Nat.le_of_ble_eq_true rfl) dX1_countSureBehind_29 ⟨Nat.zero_le _, Nat.zero_le _⟩ ?_
      refine lv_istore (lv' := [(7, .int (iI (xb r x6 (x6 + 1) a (b + 1) few many))), (6, .int (iI x6)), (5, .int (iI x5)), (0, .ref kn), (1, .int (iI a)), (2, .int (iI b)), (3, .int (iI few)), (4, .int (iI many))]) hx hb dX1_countSureBehind_32 hl (by decide) rfl (fun ls hl => ?_)
      refine lv_aload_n hx hb dX1_countSureBehind_34 rfl (lv_at hl 3 rfl) ?_
      refine lv_iload hx hb dX1_countSureBehind_35 (lv_at hl 1 rfl) ?_
      refine lv_iconst (v := iI 1) hx hb dX1_countSureBehind_37 (by decide +kernel) ?_
      refine iv_add hx hb dX1_countSureBehind_38 ?_
      refine lv_iload hx hb dX1_countSureBehind_39 (lv_at hl 1 rfl) ?_
      refine lv_iload_n hx hb dX1_countSureBehind_41 rfl (lv_at hl 4 rfl) ?_
      refine lv_iload_n hx hb dX1_countSureBehind_42 rfl (lv_at hl 5 rfl) ?_
      refine lv_iconst (v := iI 1) hx hb dX1_countSureBehind_43 (by decide +kernel) ?_
      refine iv_add hx hb dX1_countSureBehind_44 ?_
      refine lv_iload_n hx hb dX1_countSureBehind_45 rfl (lv_at hl 6 rfl) ?_
      refine lv_iload hx hb dX1_countSureBehind_46 (lv_at hl 7 rfl) ?_
      refine iv_roV (As := [.int (iI (x6 + 1)), .int (iI x6), .int (iI a), .int (iI (b + 1)), .int (iI few), .int (iI many)]) (rest := []) (C := RX1) (n := 6) ⟨hx, hb, hml, hown, hts⟩ (c_X1_excessBehind l D yI yC yD kn ex pl E r (x6 + 1) x6 a (b + 1) few many (by omega) (by assumption) (by assumption) (by omega) (by omega)) (cwV 6 hts gX1_countSureBehind_X1_excessBehind rfl rfl rfl (by decide +kernel) ⟨Nat.le_of_ble_eq_true rfl, Nat.le_of_ble_eq_true rfl⟩) hK hP [0, 1] rfl 0 rfl rfl rfl hl.1 rfl (Nat.le_of_ble_eq_true rfl) dX1_countSureBehind_48 ⟨Nat.zero_le _, Nat.zero_le _⟩ ?_
      refine iv_neg hx hb dX1_countSureBehind_51 ?_
      refine lv_istore (lv' := [(8, .int (iI (-(xb r (x6 + 1) x6 a (b + 1) few many)))), (7, .int (iI (xb r x6 (x6 + 1) a (b + 1) few many))), (6, .int (iI x6)), (5, .int (iI x5)), (0, .ref kn), (1, .int (iI a)), (2, .int (iI b)), (3, .int (iI few)), (4, .int (iI many))]) hx hb dX1_countSureBehind_52 hl (by decide) rfl (fun ls hl => ?_)
      refine lv_iload hx hb dX1_countSureBehind_54 (lv_at hl 1 rfl) ?_
      refine lv_iload hx hb dX1_countSureBehind_56 (lv_at hl 0 rfl) ?_
      refine iv_icmp_ne (a := xb r x6 (x6 + 1) a (b + 1) few many) (b := -(xb r (x6 + 1) x6 a (b + 1) few many)) (tgt := 64) hx hb (by omega) (by omega) dX1_countSureBehind_58 (by decide) (fun c58 => ?_) (fun c58 => ?_)
      · refine iv_inc (lv' := [(6, .int (iI (x6 + 1))), (8, .int (iI (-(xb r (x6 + 1) x6 a (b + 1) few many)))), (7, .int (iI (xb r x6 (x6 + 1) a (b + 1) few many))), (5, .int (iI x5)), (0, .ref kn), (1, .int (iI a)), (2, .int (iI b)), (3, .int (iI few)), (4, .int (iI many))]) hx hb dX1_countSureBehind_64 hl (k := 2) rfl (by decide) rfl (fun ls hl => ?_)
        refine lv_goto (tgt := 6) hx hb dX1_countSureBehind_67 (by decide) ?_
        refine ih6 (n + 1, x5, x6 + 1) (by show (pl.toNat - (n + 1) : Nat) < pl.toNat - n; omega) ?_
        exact ⟨by omega, by omega, by subst h6; show _ = _ + (if _ then _ else _); split <;> omega, lv_sub hl [0, 3, 4, 5, 6, 7, 8] rfl⟩
      · refine iv_inc (lv' := [(5, .int (iI (x5 + 1))), (8, .int (iI (-(xb r (x6 + 1) x6 a (b + 1) few many)))), (7, .int (iI (xb r x6 (x6 + 1) a (b + 1) few many))), (6, .int (iI x6)), (0, .ref kn), (1, .int (iI a)), (2, .int (iI b)), (3, .int (iI few)), (4, .int (iI many))]) hx hb dX1_countSureBehind_61 hl (k := 3) rfl (by decide) rfl (fun ls hl => ?_)
        refine iv_inc (lv' := [(6, .int (iI (x6 + 1))), (5, .int (iI (x5 + 1))), (8, .int (iI (-(xb r (x6 + 1) x6 a (b + 1) few many)))), (7, .int (iI (xb r x6 (x6 + 1) a (b + 1) few many))), (0, .ref kn), (1, .int (iI a)), (2, .int (iI b)), (3, .int (iI few)), (4, .int (iI many))]) hx hb dX1_countSureBehind_64 hl (k := 3) rfl (by decide) rfl (fun ls hl => ?_)
        refine lv_goto (tgt := 6) hx hb dX1_countSureBehind_67 (by decide) ?_
        refine ih6 (n + 1, x5 + 1, x6 + 1) (by show (pl.toNat - (n + 1) : Nat) < pl.toNat - n; omega) ?_
        exact ⟨by omega, by omega, by subst h6; show _ = _ + (if _ then _ else _); split <;> omega, lv_sub hl [0, 1, 4, 5, 6, 7, 8] rfl⟩
