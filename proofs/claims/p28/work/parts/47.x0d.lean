set_option maxHeartbeats 4000000 in
set_option maxRecDepth 100000 in
theorem c_X0_makeRoom (l : Launch) (D : va_G) (yI yC yD : ClassId) (d : Nat) (dc : Nat) (S : Int → Int) (g : Int → Int) (hI : Inv S) (hR : Rc S g) (sz : Nat) : Met l yX0_makeRoom wsX0_makeRoom ({ frames := 2, cells := 0, slots := 0, locals := 35 }) (rwP [.ref d] D (tyz yI yC yD) [(d, oDrv dc S (lN (kL S 0 40))), (dc, aI yI 48 g)] sz) (va_Qi (fun (r : Int32) (G9 : (Int → Int)) => r = iI (askroom S 4) ∧ Rc (askroom S) G9) (fun (G9 : (Int → Int)) (t : State) => va_P D vwCl [(d, oDrv dc (up (askroom S) 4 (askroom S 4 + 1)) (lN (kL S 0 40))), (dc, aI yI 48 G9)] t.heap) (va_A [(d, oDrv dc S (lN (kL S 0 40))), (dc, aI yI 48 g)] sz)) 0 0 (va_A [(d, oDrv dc S (lN (kL S 0 40))), (dc, aI yI 48 g)] sz) := by
  refine Met.ofW (cc := cX0_makeRoom) (maxL := 1) (ret := (some .int)) (by decide) rfl ?_
  intro p e s m args below meth c s₁ B hml hv
  obtain ⟨rfl, hsz, hP, hK, hD0⟩ := hv
  have hx := B.exec
  have hb := B.bytes
  have hr := B.returns
  have hts := atoms_spec (ws := wsX0_makeRoom) B.pre
  have hown : s.vm.findClass RX0 = some m.cls := findClass_of_methodNamed B.named
  have hlocks := B.notSynchronized
  subst hsz
  have hD := hD0.self (sz := s.heap.size)
  generalize hAe : va_A [(d, oDrv dc S (lN (kL S 0 40))), (dc, aI yI 48 g)] s.heap.size = A at hD ⊢
  have hA : ∀ q : Nat, s.heap.size ≤ q → A q := fun q h => by rw [← hAe]; exact Or.inr h
  have hS : va_S A s.heap s.heap [] := va_S.rf
  have hP : va_P D vwCl [(d, oDrv dc S (lN (kL S 0 40))), (dc, aI yI 48 g)] s.heap := hP
  have hinX0 : ∀ w ∈ wsX00, w ∈ wsX0_makeRoom := by decide +kernel
  have hf28 : (Cond.fieldLink RX0 28 "RiddleDrive$Drive" "answers" "I").before _ s = true := hts _ (by decide +kernel)
  have hl := lv_entry ([.ref d]) (n := 1) (Nat.le_of_ble_eq_true rfl)
  rw [lg_entry_eq]
  generalize (lg_sl ([.ref d]) ++ List.replicate (1 - (lg_sl ([.ref d])).length) Slot.unset).toArray = ls at hl ⊢
  have hl : lv_has ls 1 [(0, .ref d)] := hl
  have hpl := hI.pl
  have hna := hI.na
  have hse := hI.se
  have hwi := hI.wi
  have hfe := hI.fe
  refine lv_aload_n hx hb dX0_makeRoom_0 rfl (lv_at hl 0 rfl) ?_
  refine va_get (D := D) (ci := 0) (v := .int (iI (S 4))) (C := RX0) (T := TX0) (N := 10) hx hb hts hinX0 hown hK hP 0 rfl rfl 4 (by decide) hf28 (fun _ h9 => h9) rfl dX0_makeRoom_1 ?_
  refine lv_bipush (v := iI 12) hx hb dX0_makeRoom_4 (by decide +kernel) ?_
  refine iv_icmp_lt (a := S 4) (b := 12) (tgt := 14) hx hb (by omega) (by omega) dX0_makeRoom_6 (by decide) (fun c6 => ?_) (fun c6 => ?_)
  · have hro : askroom S = S := by first | exact room_f (by omega) | exact room_t (by omega)
    refine lv_aload_n hx hb dX0_makeRoom_14 rfl (lv_at hl 0 rfl) ?_
    refine lv_dup hx hb dX0_makeRoom_15 rfl ?_
    refine va_get (D := D) (ci := 0) (v := .int (iI (S 4))) (C := RX0) (T := TX0) (N := 10) hx hb hts hinX0 hown hK hP 0 rfl rfl 4 (by decide) hf28 (fun _ h9 => h9) rfl dX0_makeRoom_16 ?_
    refine lv_iconst (v := iI 1) hx hb dX0_makeRoom_19 (by decide +kernel) ?_
    refine iv_add hx hb dX0_makeRoom_20 ?_
    refine va_put (D := D) (ci := 0) (v := .int (iI (S 4 + 1))) (ty := .int) (C := RX0) (T := TX0) (N := 10) hx hb hts hinX0 tyX0 tyX0_ok nmX0 hown hK hP hD hS 0 rfl rfl 4 (by decide) hf28 (fun _ h9 => h9) rfl (by decide +kernel) rfl rfl (Nat.le_of_ble_eq_true rfl) dX0_makeRoom_21 (fun H locs hP hD hS => ?_)
    have hP : va_P D vwCl [(d, oDrv dc (up S 4 (S 4 + 1)) (lN (kL S 0 40))), (dc, aI yI 48 g)] H := hP
    have hD : va_D A [(d, oDrv dc (up S 4 (S 4 + 1)) (lN (kL S 0 40))), (dc, aI yI 48 g)] := hD
    refine lv_aload_n hx hb dX0_makeRoom_24 rfl (lv_at hl 0 rfl) ?_
    refine va_get (D := D) (ci := 0) (v := .int (iI (S 4 + 1))) (C := RX0) (T := TX0) (N := 10) hx hb hts hinX0 hown hK hP 0 rfl rfl 4 (by decide) hf28 (fun _ h9 => h9) rfl dX0_makeRoom_25 ?_
    refine lv_iconst (v := iI 1) hx hb dX0_makeRoom_28 (by decide +kernel) ?_
    refine iv_sub hx hb dX0_makeRoom_29 ?_
    have hP9 : va_P D vwCl [(d, oDrv dc (up (askroom S) 4 (askroom S 4 + 1)) (lN (kL S 0 40))), (dc, aI yI 48 g)] _ := (hP.sub (ws' := [(d, oDrv dc (up S 4 (S 4 + 1)) (lN (kL S 0 40))), (dc, aI yI 48 g)]) [0, 1] rfl).cv (by rw [hro] <;> (first | rfl | rw [← kL_f1 (by omega)]))
    exact W.iret hx hb hr (fun t ht hW => ⟨⟨iI (S 4 + 1 - 1), g, rfl, ⟨congrArg iI (show S 4 + 1 - 1 = askroom S 4 by rw [hro]; omega), (by rw [hro]; first | exact hR | assumption)⟩, by show va_P D vwCl _ t.heap; rw [ht]; exact hP9⟩, hS.F ht⟩) hS.2.2 dX0_makeRoom_30
  · refine lv_aload_n hx hb dX0_makeRoom_9 rfl (lv_at hl 0 rfl) ?_
    refine lv_iconst (v := iI 0) hx hb dX0_makeRoom_10 (by decide +kernel) ?_
    refine iv_rwVv (As := [.int (iI 0)]) (rest := []) (C := RX0) (n := 1) ⟨hx, hb, hml, hown, hts⟩ (c_X0_drop l D yI yC yD d dc S g 0 (by omega) (by assumption) (by omega) _) (cwV 1 hts gX0_makeRoom_X0_drop rfl rfl rfl (by decide +kernel) ⟨Nat.le_of_ble_eq_true rfl, Nat.le_of_ble_eq_true rfl⟩) hK hP hD hS hA [0, 1] (by decide) rfl 0 rfl rfl rfl hl.1 rfl (Nat.le_of_ble_eq_true rfl) dX0_makeRoom_11 ⟨Nat.zero_le _, Nat.zero_le _⟩ (fun _ => rfl) (fun u11 H locs hw11 hP hD hS => ?_)
    obtain ⟨G911, hu11⟩ : ∃ z, z = u11 := ⟨_, rfl⟩
    subst hu11
    have hR2_11 := hw11
    have hP : va_P D vwCl [(d, oDrv dc (forget1 S 0) (lN (kL (forget1 S 0) 0 40))), (dc, aI yI 48 G911)] H := hP
    have hD : va_D A [(d, oDrv dc (forget1 S 0) (lN (kL (forget1 S 0) 0 40))), (dc, aI yI 48 G911)] := hD
    have hro : askroom S = forget1 S 0 := by first | exact room_f (by omega) | exact room_t (by omega)
    refine lv_aload_n hx hb dX0_makeRoom_14 rfl (lv_at hl 0 rfl) ?_
    refine lv_dup hx hb dX0_makeRoom_15 rfl ?_
    refine va_get (D := D) (ci := 0) (v := .int (iI ((forget1 S 0) 4))) (C := RX0) (T := TX0) (N := 10) hx hb hts hinX0 hown hK hP 0 rfl rfl 4 (by decide) hf28 (fun _ h9 => h9) rfl dX0_makeRoom_16 ?_
    refine lv_iconst (v := iI 1) hx hb dX0_makeRoom_19 (by decide +kernel) ?_
    refine iv_add hx hb dX0_makeRoom_20 ?_
    refine va_put (D := D) (ci := 0) (v := .int (iI ((forget1 S 0) 4 + 1))) (ty := .int) (C := RX0) (T := TX0) (N := 10) hx hb hts hinX0 tyX0 tyX0_ok nmX0 hown hK hP hD hS 0 rfl rfl 4 (by decide) hf28 (fun _ h9 => h9) rfl (by decide +kernel) rfl rfl (Nat.le_of_ble_eq_true rfl) dX0_makeRoom_21 (fun H locs hP hD hS => ?_)
    have hP : va_P D vwCl [(d, oDrv dc (up (forget1 S 0) 4 ((forget1 S 0) 4 + 1)) (lN (kL (forget1 S 0) 0 40))), (dc, aI yI 48 G911)] H := hP
    have hD : va_D A [(d, oDrv dc (up (forget1 S 0) 4 ((forget1 S 0) 4 + 1)) (lN (kL (forget1 S 0) 0 40))), (dc, aI yI 48 G911)] := hD
    refine lv_aload_n hx hb dX0_makeRoom_24 rfl (lv_at hl 0 rfl) ?_
    refine va_get (D := D) (ci := 0) (v := .int (iI ((forget1 S 0) 4 + 1))) (C := RX0) (T := TX0) (N := 10) hx hb hts hinX0 hown hK hP 0 rfl rfl 4 (by decide) hf28 (fun _ h9 => h9) rfl dX0_makeRoom_25 ?_
    refine lv_iconst (v := iI 1) hx hb dX0_makeRoom_28 (by decide +kernel) ?_
    refine iv_sub hx hb dX0_makeRoom_29 ?_
    have hP9 : va_P D vwCl [(d, oDrv dc (up (askroom S) 4 (askroom S 4 + 1)) (lN (kL S 0 40))), (dc, aI yI 48 G911)] _ := (hP.sub (ws' := [(d, oDrv dc (up (forget1 S 0) 4 ((forget1 S 0) 4 + 1)) (lN (kL (forget1 S 0) 0 40))), (dc, aI yI 48 G911)]) [0, 1] rfl).cv (by rw [hro] <;> (first | rfl | rw [← kL_f1 (by omega)]))
    exact W.iret hx hb hr (fun t ht hW => ⟨⟨iI ((forget1 S 0) 4 + 1 - 1), G911, rfl, ⟨congrArg iI (show (forget1 S 0) 4 + 1 - 1 = askroom S 4 by rw [hro]; omega), (by rw [hro]; first | exact hR | assumption)⟩, by show va_P D vwCl _ t.heap; rw [ht]; exact hP9⟩, hS.F ht⟩) hS.2.2 dX0_makeRoom_30
set_option maxHeartbeats 4000000 in
set_option maxRecDepth 100000 in
theorem c_X0_question (l : Launch) (D : va_G) (yI yC yD : ClassId) (d : Nat) (dc : Nat) (S : Int → Int) (g : Int → Int) (a : Int) (b : Int) (hI : Inv S) (hR : Rc S g) (hab : 0 ≤ a ∧ a ≤ b ∧ b < S 0) (sz : Nat) : Met l yX0_question wsX0_question ({ frames := 3, cells := 0, slots := 0, locals := 55 }) (rwP [.ref d, .int (iI a), .int (iI b)] D (tyz yI yC yD) [(d, oDrv dc S (lN (kL S 0 40))), (dc, aI yI 48 g)] sz) (va_Qi (fun (r : Int32) (G9 : (Int → Int)) => r = iI (told S a b) ∧ Rc (askd S a b) G9) (fun (G9 : (Int → Int)) (t : State) => va_P D vwCl [(d, oDrv dc (askd S a b) (lN (kL (askd S a b) 0 40))), (dc, aI yI 48 G9)] t.heap) (va_A [(d, oDrv dc S (lN (kL S 0 40))), (dc, aI yI 48 g)] sz)) 0 0 (va_A [(d, oDrv dc S (lN (kL S 0 40))), (dc, aI yI 48 g)] sz) := by
  refine Met.ofW (cc := cX0_question) (maxL := 6) (ret := (some .int)) (by decide) rfl ?_
  intro p e s m args below meth c s₁ B hml hv
  obtain ⟨rfl, hsz, hP, hK, hD0⟩ := hv
  have hx := B.exec
  have hb := B.bytes
  have hr := B.returns
  have hts := atoms_spec (ws := wsX0_question) B.pre
  have hown : s.vm.findClass RX0 = some m.cls := findClass_of_methodNamed B.named
  have hlocks := B.notSynchronized
  subst hsz
  have hD := hD0.self (sz := s.heap.size)
  generalize hAe : va_A [(d, oDrv dc S (lN (kL S 0 40))), (dc, aI yI 48 g)] s.heap.size = A at hD ⊢
  have hA : ∀ q : Nat, s.heap.size ≤ q → A q := fun q h => by rw [← hAe]; exact Or.inr h
  have hS : va_S A s.heap s.heap [] := va_S.rf
  have hP : va_P D vwCl [(d, oDrv dc S (lN (kL S 0 40))), (dc, aI yI 48 g)] s.heap := hP
  have hinX0 : ∀ w ∈ wsX00, w ∈ wsX0_question := by decide +kernel
  have hf31 : (Cond.fieldLink RX0 31 "RiddleDrive$Drive" "paid" "I").before _ s = true := hts _ (by decide +kernel)
  have hf34 : (Cond.fieldLink RX0 34 "RiddleDrive$Drive" "asked" "I").before _ s = true := hts _ (by decide +kernel)
  have hl := lv_entry ([.ref d, .int (iI a), .int (iI b)]) (n := 6) (Nat.le_of_ble_eq_true rfl)
  rw [lg_entry_eq]
  generalize (lg_sl ([.ref d, .int (iI a), .int (iI b)]) ++ List.replicate (6 - (lg_sl ([.ref d, .int (iI a), .int (iI b)])).length) Slot.unset).toArray = ls at hl ⊢
  have hl : lv_has ls 6 [(0, .ref d), (1, .int (iI a)), (2, .int (iI b))] := hl
  have hpl := hI.pl
  have hna := hI.na
  have hse := hI.se
  have hwi := hI.wi
  have hfe := hI.fe
  have hai := aboutI_b (S := S) (a := a) (b := b) (by omega)
  have hrm := (inv_room hI).1.na
  have hrl := (inv_room hI).2.1
  refine lv_aload_n hx hb dX0_question_0 rfl (lv_at hl 0 rfl) ?_
  refine lv_iload_n hx hb dX0_question_1 rfl (lv_at hl 1 rfl) ?_
  refine lv_iload_n hx hb dX0_question_2 rfl (lv_at hl 2 rfl) ?_
  refine iv_roV (As := [.int (iI a), .int (iI b)]) (rest := []) (C := RX0) (n := 2) ⟨hx, hb, hml, hown, hts⟩ (c_X0_tell l D yI yC yD d dc S g a b (by assumption) (by omega)) (cwV 2 hts gX0_question_X0_tell rfl rfl rfl (by decide +kernel) ⟨Nat.le_of_ble_eq_true rfl, Nat.le_of_ble_eq_true rfl⟩) hK hP [0, 1] rfl 0 rfl rfl rfl hl.1 rfl (Nat.le_of_ble_eq_true rfl) dX0_question_3 ⟨Nat.zero_le _, Nat.zero_le _⟩ ?_
  refine lv_istore_n (lv' := [(3, .int (iI (told S a b))), (0, .ref d), (1, .int (iI a)), (2, .int (iI b))]) hx hb dX0_question_6 rfl hl (by decide) rfl (fun ls hl => ?_)
  refine lv_iconst (v := iI 0) hx hb dX0_question_7 (by decide +kernel) ?_
  refine lv_istore (lv' := [(4, .int (iI 0)), (3, .int (iI (told S a b))), (0, .ref d), (1, .int (iI a)), (2, .int (iI b))]) hx hb dX0_question_8 hl (by decide) rfl (fun ls hl => ?_)
  refine lv_aload_n hx hb dX0_question_10 rfl (lv_at hl 2 rfl) ?_
  refine lv_iload_n hx hb dX0_question_11 rfl (lv_at hl 3 rfl) ?_
  refine lv_iload_n hx hb dX0_question_12 rfl (lv_at hl 4 rfl) ?_
  refine iv_roV (As := [.int (iI a), .int (iI b)]) (rest := []) (C := RX0) (n := 2) ⟨hx, hb, hml, hown, hts⟩ (c_X0_answerAbout l D yI yC yD d dc S g a b (by assumption) (by assumption) (by constructor <;> constructor <;> omega)) (cwV 2 hts gX0_question_X0_answerAbout rfl rfl rfl (by decide +kernel) ⟨Nat.le_of_ble_eq_true rfl, Nat.le_of_ble_eq_true rfl⟩) hK hP [0, 1] rfl 0 rfl rfl rfl hl.1 rfl (Nat.le_of_ble_eq_true rfl) dX0_question_13 ⟨Nat.zero_le _, Nat.zero_le _⟩ ?_
  refine lv_istore (lv' := [(5, .int (iI (aboutI S a b))), (4, .int (iI 0)), (3, .int (iI (told S a b))), (0, .ref d), (1, .int (iI a)), (2, .int (iI b))]) hx hb dX0_question_16 hl (by decide) rfl (fun ls hl => ?_)
  refine lv_iload hx hb dX0_question_18 (lv_at hl 0 rfl) ?_
  refine lv_iconst (v := iI (-1)) hx hb dX0_question_20 (by decide +kernel) ?_
  refine iv_icmp_ne (a := aboutI S a b) (b := -1) (tgt := 38) hx hb (by omega) (by omega) dX0_question_21 (by decide) (fun c21 => ?_) (fun c21 => ?_)
  · refine lv_aload_n hx hb dX0_question_38 rfl (lv_at hl 3 rfl) ?_
    refine lv_iload hx hb dX0_question_39 (lv_at hl 0 rfl) ?_
    refine lv_iconst (v := iI 0) hx hb dX0_question_41 (by decide +kernel) ?_
    refine lv_iload_n hx hb dX0_question_42 rfl (lv_at hl 4 rfl) ?_
    refine iv_rwVv (As := [.int (iI (aboutI S a b)), .int (iI 0), .int (iI a)]) (rest := []) (C := RX0) (n := 3) ⟨hx, hb, hml, hown, hts⟩ (c_X0_putCell l D yI yC yD d dc S g (lN (kL S 0 40)) (aboutI S a b) 0 a (by omega) (by omega) _) (cwV 3 hts gX0_question_X0_putCell rfl rfl rfl (by decide +kernel) ⟨Nat.le_of_ble_eq_true rfl, Nat.le_of_ble_eq_true rfl⟩) hK hP hD hS hA [0, 1] (by decide) rfl 0 rfl rfl rfl hl.1 rfl (Nat.le_of_ble_eq_true rfl) dX0_question_43 ⟨Nat.zero_le _, Nat.zero_le _⟩ (fun _ => rfl) (fun u43 H locs hw43 hP hD hS => ?_)
    have hP : va_P D vwCl [(d, oDrv dc S (lN (kL S 0 40))), (dc, aI yI 48 (up g ((aboutI S a b) * 4 + 0) a))] H := hP
    have hD : va_D A [(d, oDrv dc S (lN (kL S 0 40))), (dc, aI yI 48 (up g ((aboutI S a b) * 4 + 0) a))] := hD
    refine lv_aload_n hx hb dX0_question_46 rfl (lv_at hl 3 rfl) ?_
    refine lv_iload hx hb dX0_question_47 (lv_at hl 0 rfl) ?_
    refine lv_iconst (v := iI 1) hx hb dX0_question_49 (by decide +kernel) ?_
    refine lv_iload_n hx hb dX0_question_50 rfl (lv_at hl 5 rfl) ?_
    refine iv_rwVv (As := [.int (iI (aboutI S a b)), .int (iI 1), .int (iI b)]) (rest := []) (C := RX0) (n := 3) ⟨hx, hb, hml, hown, hts⟩ (c_X0_putCell l D yI yC yD d dc S (up g ((aboutI S a b) * 4 + 0) a) (lN (kL S 0 40)) (aboutI S a b) 1 b (by omega) (by omega) _) (cwV 3 hts gX0_question_X0_putCell rfl rfl rfl (by decide +kernel) ⟨Nat.le_of_ble_eq_true rfl, Nat.le_of_ble_eq_true rfl⟩) hK hP hD hS hA [0, 1] (by decide) rfl 0 rfl rfl rfl hl.1 rfl (Nat.le_of_ble_eq_true rfl) dX0_question_51 ⟨Nat.zero_le _, Nat.zero_le _⟩ (fun _ => rfl) (fun u51 H locs hw51 hP hD hS => ?_)
    have hP : va_P D vwCl [(d, oDrv dc S (lN (kL S 0 40))), (dc, aI yI 48 (up (up g ((aboutI S a b) * 4 + 0) a) ((aboutI S a b) * 4 + 1) b))] H := hP
    have hD : va_D A [(d, oDrv dc S (lN (kL S 0 40))), (dc, aI yI 48 (up (up g ((aboutI S a b) * 4 + 0) a) ((aboutI S a b) * 4 + 1) b))] := hD
    refine lv_aload_n hx hb dX0_question_54 rfl (lv_at hl 3 rfl) ?_
    refine lv_iload hx hb dX0_question_55 (lv_at hl 0 rfl) ?_
    refine lv_iconst (v := iI 2) hx hb dX0_question_57 (by decide +kernel) ?_
    refine lv_iload_n hx hb dX0_question_58 rfl (lv_at hl 2 rfl) ?_
    refine iv_rwVv (As := [.int (iI (aboutI S a b)), .int (iI 2), .int (iI (told S a b))]) (rest := []) (C := RX0) (n := 3) ⟨hx, hb, hml, hown, hts⟩ (c_X0_putCell l D yI yC yD d dc S (up (up g ((aboutI S a b) * 4 + 0) a) ((aboutI S a b) * 4 + 1) b) (lN (kL S 0 40)) (aboutI S a b) 2 (told S a b) (by omega) (by omega) _) (cwV 3 hts gX0_question_X0_putCell rfl rfl rfl (by decide +kernel) ⟨Nat.le_of_ble_eq_true rfl, Nat.le_of_ble_eq_true rfl⟩) hK hP hD hS hA [0, 1] (by decide) rfl 0 rfl rfl rfl hl.1 rfl (Nat.le_of_ble_eq_true rfl) dX0_question_59 ⟨Nat.zero_le _, Nat.zero_le _⟩ (fun _ => rfl) (fun u59 H locs hw59 hP hD hS => ?_)
    have hP : va_P D vwCl [(d, oDrv dc S (lN (kL S 0 40))), (dc, aI yI 48 (up (up (up g ((aboutI S a b) * 4 + 0) a) ((aboutI S a b) * 4 + 1) b) ((aboutI S a b) * 4 + 2) (told S a b)))] H := hP
    have hD : va_D A [(d, oDrv dc S (lN (kL S 0 40))), (dc, aI yI 48 (up (up (up g ((aboutI S a b) * 4 + 0) a) ((aboutI S a b) * 4 + 1) b) ((aboutI S a b) * 4 + 2) (told S a b)))] := hD
    refine lv_aload_n hx hb dX0_question_62 rfl (lv_at hl 3 rfl) ?_
    refine lv_iload hx hb dX0_question_63 (lv_at hl 0 rfl) ?_
    refine lv_iconst (v := iI 3) hx hb dX0_question_65 (by decide +kernel) ?_
    refine lv_iload hx hb dX0_question_66 (lv_at hl 1 rfl) ?_
    refine iv_rwVv (As := [.int (iI (aboutI S a b)), .int (iI 3), .int (iI 0)]) (rest := []) (C := RX0) (n := 3) ⟨hx, hb, hml, hown, hts⟩ (c_X0_putCell l D yI yC yD d dc S (up (up (up g ((aboutI S a b) * 4 + 0) a) ((aboutI S a b) * 4 + 1) b) ((aboutI S a b) * 4 + 2) (told S a b)) (lN (kL S 0 40)) (aboutI S a b) 3 0 (by omega) (by omega) _) (cwV 3 hts gX0_question_X0_putCell rfl rfl rfl (by decide +kernel) ⟨Nat.le_of_ble_eq_true rfl, Nat.le_of_ble_eq_true rfl⟩) hK hP hD hS hA [0, 1] (by decide) rfl 0 rfl rfl rfl hl.1 rfl (Nat.le_of_ble_eq_true rfl) dX0_question_68 ⟨Nat.zero_le _, Nat.zero_le _⟩ (fun _ => rfl) (fun u68 H locs hw68 hP hD hS => ?_)
    have hP : va_P D vwCl [(d, oDrv dc S (lN (kL S 0 40))), (dc, aI yI 48 (up (up (up (up g ((aboutI S a b) * 4 + 0) a) ((aboutI S a b) * 4 + 1) b) ((aboutI S a b) * 4 + 2) (told S a b)) ((aboutI S a b) * 4 + 3) 0))] H := hP
    have hD : va_D A [(d, oDrv dc S (lN (kL S 0 40))), (dc, aI yI 48 (up (up (up (up g ((aboutI S a b) * 4 + 0) a) ((aboutI S a b) * 4 + 1) b) ((aboutI S a b) * 4 + 2) (told S a b)) ((aboutI S a b) * 4 + 3) 0))] := hD
    refine lv_aload_n hx hb dX0_question_71 rfl (lv_at hl 3 rfl) ?_
    refine lv_dup hx hb dX0_question_72 rfl ?_
    refine va_get (D := D) (ci := 0) (v := .int (iI (S 5))) (C := RX0) (T := TX0) (N := 10) hx hb hts hinX0 hown hK hP 0 rfl rfl 5 (by decide) hf31 (fun _ h9 => h9) rfl dX0_question_73 ?_
    refine lv_iload hx hb dX0_question_76 (lv_at hl 1 rfl) ?_
    refine iv_add hx hb dX0_question_78 ?_
    refine va_put (D := D) (ci := 0) (v := .int (iI (S 5 + 0))) (ty := .int) (C := RX0) (T := TX0) (N := 10) hx hb hts hinX0 tyX0 tyX0_ok nmX0 hown hK hP hD hS 0 rfl rfl 5 (by decide) hf31 (fun _ h9 => h9) rfl (by decide +kernel) rfl rfl (Nat.le_of_ble_eq_true rfl) dX0_question_79 (fun H locs hP hD hS => ?_)
    have hP : va_P D vwCl [(d, oDrv dc (up S 5 (S 5 + 0)) (lN (kL S 0 40))), (dc, aI yI 48 (up (up (up (up g ((aboutI S a b) * 4 + 0) a) ((aboutI S a b) * 4 + 1) b) ((aboutI S a b) * 4 + 2) (told S a b)) ((aboutI S a b) * 4 + 3) 0))] H := hP
    have hD : va_D A [(d, oDrv dc (up S 5 (S 5 + 0)) (lN (kL S 0 40))), (dc, aI yI 48 (up (up (up (up g ((aboutI S a b) * 4 + 0) a) ((aboutI S a b) * 4 + 1) b) ((aboutI S a b) * 4 + 2) (told S a b)) ((aboutI S a b) * 4 + 3) 0))] := hD
    refine lv_aload_n hx hb dX0_question_82 rfl (lv_at hl 3 rfl) ?_
    refine lv_dup hx hb dX0_question_83 rfl ?_
    refine va_get (D := D) (ci := 0) (v := .int (iI (S 6))) (C := RX0) (T := TX0) (N := 10) hx hb hts hinX0 hown hK hP 0 rfl rfl 6 (by decide) hf34 (fun _ h9 => h9) rfl dX0_question_84 ?_
    refine lv_iconst (v := iI 1) hx hb dX0_question_87 (by decide +kernel) ?_
    refine iv_add hx hb dX0_question_88 ?_
    refine va_put (D := D) (ci := 0) (v := .int (iI (S 6 + 1))) (ty := .int) (C := RX0) (T := TX0) (N := 10) hx hb hts hinX0 tyX0 tyX0_ok nmX0 hown hK hP hD hS 0 rfl rfl 6 (by decide) hf34 (fun _ h9 => h9) rfl (by decide +kernel) rfl rfl (Nat.le_of_ble_eq_true rfl) dX0_question_89 (fun H locs hP hD hS => ?_)
    have hP : va_P D vwCl [(d, oDrv dc (up (up S 5 (S 5 + 0)) 6 (S 6 + 1)) (lN (kL S 0 40))), (dc, aI yI 48 (up (up (up (up g ((aboutI S a b) * 4 + 0) a) ((aboutI S a b) * 4 + 1) b) ((aboutI S a b) * 4 + 2) (told S a b)) ((aboutI S a b) * 4 + 3) 0))] H := hP
    have hD : va_D A [(d, oDrv dc (up (up S 5 (S 5 + 0)) 6 (S 6 + 1)) (lN (kL S 0 40))), (dc, aI yI 48 (up (up (up (up g ((aboutI S a b) * 4 + 0) a) ((aboutI S a b) * 4 + 1) b) ((aboutI S a b) * 4 + 2) (told S a b)) ((aboutI S a b) * 4 + 3) 0))] := hD
    refine lv_iload_n hx hb dX0_question_92 rfl (lv_at hl 2 rfl) ?_
    have hP9 : va_P D vwCl [(d, oDrv dc (askd S a b) (lN (kL (askd S a b) 0 40))), (dc, aI yI 48 (up (up (up (up g ((aboutI S a b) * 4 + 0) a) ((aboutI S a b) * 4 + 1) b) ((aboutI S a b) * 4 + 2) (told S a b)) ((aboutI S a b) * 4 + 3) 0))] _ := (hP.sub (ws' := [(d, oDrv dc (up (up S 5 (S 5 + 0)) 6 (S 6 + 1)) (lN (kL S 0 40))), (dc, aI yI 48 (up (up (up (up g ((aboutI S a b) * 4 + 0) a) ((aboutI S a b) * 4 + 1) b) ((aboutI S a b) * 4 + 2) (told S a b)) ((aboutI S a b) * 4 + 3) 0))]) [0, 1] rfl).cv (by first | exact congrArg (fun z => [(d, z), (dc, aI yI 48 _)]) (oDrv_e (fun z h0 h1 => ask_lo1 hI (by omega) h0 h1) (by rw [kL_ask hI])) | exact congrArg (fun z => [(d, z), (dc, aI yI 48 _)]) (oDrv_e (fun z h0 h1 => ask_lo2 hI (by omega) h0 h1) (by rw [kL_ask hI])))
    exact W.iret hx hb hr (fun t ht hW => ⟨⟨iI (told S a b), (up (up (up (up g ((aboutI S a b) * 4 + 0) a) ((aboutI S a b) * 4 + 1) b) ((aboutI S a b) * 4 + 2) (told S a b)) ((aboutI S a b) * 4 + 3) 0), rfl, ⟨rfl, (by first | exact rc_ask1 hI hR2_33 (by omega) | exact rc_ask2 hI hR (by omega))⟩, by show va_P D vwCl _ t.heap; rw [ht]; exact hP9⟩, hS.F ht⟩) hS.2.2 dX0_question_93
  · refine lv_aload_n hx hb dX0_question_24 rfl (lv_at hl 3 rfl) ?_
    refine lv_iload_n hx hb dX0_question_25 rfl (lv_at hl 4 rfl) ?_
    refine lv_iload_n hx hb dX0_question_26 rfl (lv_at hl 5 rfl) ?_
    refine iv_roV (As := [.int (iI a), .int (iI b)]) (rest := []) (C := RX0) (n := 2) ⟨hx, hb, hml, hown, hts⟩ (c_X0_fullPrice l D yI yC yD d dc S g (lN (kL S 0 40)) a b (by omega) (by omega)) (cwV 2 hts gX0_question_X0_fullPrice rfl rfl rfl (by decide +kernel) ⟨Nat.le_of_ble_eq_true rfl, Nat.le_of_ble_eq_true rfl⟩) hK hP [0, 1] rfl 0 rfl rfl rfl hl.1 rfl (Nat.le_of_ble_eq_true rfl) dX0_question_27 ⟨Nat.zero_le _, Nat.zero_le _⟩ ?_
    rw [show (S 3 + (b - a + 1) / 4 : Int) = costOf S a b from (if_neg (by omega)).symm]
    refine lv_istore (lv' := [(4, .int (iI (costOf S a b))), (5, .int (iI (aboutI S a b))), (3, .int (iI (told S a b))), (0, .ref d), (1, .int (iI a)), (2, .int (iI b))]) hx hb dX0_question_30 hl (by decide) rfl (fun ls hl => ?_)
    refine lv_aload_n hx hb dX0_question_32 rfl (lv_at hl 3 rfl) ?_
    refine iv_rwV (As := []) (rest := []) (C := RX0) (n := 0) ⟨hx, hb, hml, hown, hts⟩ (c_X0_makeRoom l D yI yC yD d dc S g (by assumption) (by assumption) _) (cwV 0 hts gX0_question_X0_makeRoom rfl rfl rfl (by decide +kernel) ⟨Nat.le_of_ble_eq_true rfl, Nat.le_of_ble_eq_true rfl⟩) hK hP hD hS hA [0, 1] (by decide) rfl 0 rfl rfl rfl hl.1 rfl (Nat.le_of_ble_eq_true rfl) dX0_question_33 ⟨Nat.zero_le _, Nat.zero_le _⟩ (fun _ => rfl) (fun r33 u33 H locs hw33 hP hD hS => ?_)
    obtain ⟨G933, hu33⟩ : ∃ z, z = u33 := ⟨_, rfl⟩
    subst hu33
    obtain ⟨hr33, hR2_33⟩ := hw33
    subst hr33
    have hP : va_P D vwCl [(d, oDrv dc (up (askroom S) 4 (askroom S 4 + 1)) (lN (kL S 0 40))), (dc, aI yI 48 G933)] H := hP
    have hD : va_D A [(d, oDrv dc (up (askroom S) 4 (askroom S 4 + 1)) (lN (kL S 0 40))), (dc, aI yI 48 G933)] := hD
    refine lv_istore (lv' := [(5, .int (iI (askroom S 4))), (4, .int (iI (costOf S a b))), (3, .int (iI (told S a b))), (0, .ref d), (1, .int (iI a)), (2, .int (iI b))]) hx hb dX0_question_36 hl (by decide) rfl (fun ls hl => ?_)
    refine lv_aload_n hx hb dX0_question_38 rfl (lv_at hl 3 rfl) ?_
    refine lv_iload hx hb dX0_question_39 (lv_at hl 0 rfl) ?_
    refine lv_iconst (v := iI 0) hx hb dX0_question_41 (by decide +kernel) ?_
    refine lv_iload_n hx hb dX0_question_42 rfl (lv_at hl 4 rfl) ?_
    refine iv_rwVv (As := [.int (iI (askroom S 4)), .int (iI 0), .int (iI a)]) (rest := []) (C := RX0) (n := 3) ⟨hx, hb, hml, hown, hts⟩ (c_X0_putCell l D yI yC yD d dc (up (askroom S) 4 (askroom S 4 + 1)) G933 (lN (kL S 0 40)) (askroom S 4) 0 a (by omega) (by omega) _) (cwV 3 hts gX0_question_X0_putCell rfl rfl rfl (by decide +kernel) ⟨Nat.le_of_ble_eq_true rfl, Nat.le_of_ble_eq_true rfl⟩) hK hP hD hS hA [0, 1] (by decide) rfl 0 rfl rfl rfl hl.1 rfl (Nat.le_of_ble_eq_true rfl) dX0_question_43 ⟨Nat.zero_le _, Nat.zero_le _⟩ (fun _ => rfl) (fun u43 H locs hw43 hP hD hS => ?_)
    have hP : va_P D vwCl [(d, oDrv dc (up (askroom S) 4 (askroom S 4 + 1)) (lN (kL S 0 40))), (dc, aI yI 48 (up G933 ((askroom S 4) * 4 + 0) a))] H := hP
    have hD : va_D A [(d, oDrv dc (up (askroom S) 4 (askroom S 4 + 1)) (lN (kL S 0 40))), (dc, aI yI 48 (up G933 ((askroom S 4) * 4 + 0) a))] := hD
    refine lv_aload_n hx hb dX0_question_46 rfl (lv_at hl 3 rfl) ?_
    refine lv_iload hx hb dX0_question_47 (lv_at hl 0 rfl) ?_
    refine lv_iconst (v := iI 1) hx hb dX0_question_49 (by decide +kernel) ?_
    refine lv_iload_n hx hb dX0_question_50 rfl (lv_at hl 5 rfl) ?_
    refine iv_rwVv (As := [.int (iI (askroom S 4)), .int (iI 1), .int (iI b)]) (rest := []) (C := RX0) (n := 3) ⟨hx, hb, hml, hown, hts⟩ (c_X0_putCell l D yI yC yD d dc (up (askroom S) 4 (askroom S 4 + 1)) (up G933 ((askroom S 4) * 4 + 0) a) (lN (kL S 0 40)) (askroom S 4) 1 b (by omega) (by omega) _) (cwV 3 hts gX0_question_X0_putCell rfl rfl rfl (by decide +kernel) ⟨Nat.le_of_ble_eq_true rfl, Nat.le_of_ble_eq_true rfl⟩) hK hP hD hS hA [0, 1] (by decide) rfl 0 rfl rfl rfl hl.1 rfl (Nat.le_of_ble_eq_true rfl) dX0_question_51 ⟨Nat.zero_le _, Nat.zero_le _⟩ (fun _ => rfl) (fun u51 H locs hw51 hP hD hS => ?_)
    have hP : va_P D vwCl [(d, oDrv dc (up (askroom S) 4 (askroom S 4 + 1)) (lN (kL S 0 40))), (dc, aI yI 48 (up (up G933 ((askroom S 4) * 4 + 0) a) ((askroom S 4) * 4 + 1) b))] H := hP
    have hD : va_D A [(d, oDrv dc (up (askroom S) 4 (askroom S 4 + 1)) (lN (kL S 0 40))), (dc, aI yI 48 (up (up G933 ((askroom S 4) * 4 + 0) a) ((askroom S 4) * 4 + 1) b))] := hD
    refine lv_aload_n hx hb dX0_question_54 rfl (lv_at hl 3 rfl) ?_
    refine lv_iload hx hb dX0_question_55 (lv_at hl 0 rfl) ?_
    refine lv_iconst (v := iI 2) hx hb dX0_question_57 (by decide +kernel) ?_
    refine lv_iload_n hx hb dX0_question_58 rfl (lv_at hl 2 rfl) ?_
    refine iv_rwVv (As := [.int (iI (askroom S 4)), .int (iI 2), .int (iI (told S a b))]) (rest := []) (C := RX0) (n := 3) ⟨hx, hb, hml, hown, hts⟩ (c_X0_putCell l D yI yC yD d dc (up (askroom S) 4 (askroom S 4 + 1)) (up (up G933 ((askroom S 4) * 4 + 0) a) ((askroom S 4) * 4 + 1) b) (lN (kL S 0 40)) (askroom S 4) 2 (told S a b) (by omega) (by omega) _) (cwV 3 hts gX0_question_X0_putCell rfl rfl rfl (by decide +kernel) ⟨Nat.le_of_ble_eq_true rfl, Nat.le_of_ble_eq_true rfl⟩) hK hP hD hS hA [0, 1] (by decide) rfl 0 rfl rfl rfl hl.1 rfl (Nat.le_of_ble_eq_true rfl) dX0_question_59 ⟨Nat.zero_le _, Nat.zero_le _⟩ (fun _ => rfl) (fun u59 H locs hw59 hP hD hS => ?_)
    have hP : va_P D vwCl [(d, oDrv dc (up (askroom S) 4 (askroom S 4 + 1)) (lN (kL S 0 40))), (dc, aI yI 48 (up (up (up G933 ((askroom S 4) * 4 + 0) a) ((askroom S 4) * 4 + 1) b) ((askroom S 4) * 4 + 2) (told S a b)))] H := hP
    have hD : va_D A [(d, oDrv dc (up (askroom S) 4 (askroom S 4 + 1)) (lN (kL S 0 40))), (dc, aI yI 48 (up (up (up G933 ((askroom S 4) * 4 + 0) a) ((askroom S 4) * 4 + 1) b) ((askroom S 4) * 4 + 2) (told S a b)))] := hD
    refine lv_aload_n hx hb dX0_question_62 rfl (lv_at hl 3 rfl) ?_
    refine lv_iload hx hb dX0_question_63 (lv_at hl 0 rfl) ?_
    refine lv_iconst (v := iI 3) hx hb dX0_question_65 (by decide +kernel) ?_
    refine lv_iload hx hb dX0_question_66 (lv_at hl 1 rfl) ?_
    refine iv_rwVv (As := [.int (iI (askroom S 4)), .int (iI 3), .int (iI (costOf S a b))]) (rest := []) (C := RX0) (n := 3) ⟨hx, hb, hml, hown, hts⟩ (c_X0_putCell l D yI yC yD d dc (up (askroom S) 4 (askroom S 4 + 1)) (up (up (up G933 ((askroom S 4) * 4 + 0) a) ((askroom S 4) * 4 + 1) b) ((askroom S 4) * 4 + 2) (told S a b)) (lN (kL S 0 40)) (askroom S 4) 3 (costOf S a b) (by omega) (by omega) _) (cwV 3 hts gX0_question_X0_putCell rfl rfl rfl (by decide +kernel) ⟨Nat.le_of_ble_eq_true rfl, Nat.le_of_ble_eq_true rfl⟩) hK hP hD hS hA [0, 1] (by decide) rfl 0 rfl rfl rfl hl.1 rfl (Nat.le_of_ble_eq_true rfl) dX0_question_68 ⟨Nat.zero_le _, Nat.zero_le _⟩ (fun _ => rfl) (fun u68 H locs hw68 hP hD hS => ?_)
    have hP : va_P D vwCl [(d, oDrv dc (up (askroom S) 4 (askroom S 4 + 1)) (lN (kL S 0 40))), (dc, aI yI 48 (up (up (up (up G933 ((askroom S 4) * 4 + 0) a) ((askroom S 4) * 4 + 1) b) ((askroom S 4) * 4 + 2) (told S a b)) ((askroom S 4) * 4 + 3) (costOf S a b)))] H := hP
    have hD : va_D A [(d, oDrv dc (up (askroom S) 4 (askroom S 4 + 1)) (lN (kL S 0 40))), (dc, aI yI 48 (up (up (up (up G933 ((askroom S 4) * 4 + 0) a) ((askroom S 4) * 4 + 1) b) ((askroom S 4) * 4 + 2) (told S a b)) ((askroom S 4) * 4 + 3) (costOf S a b)))] := hD
    refine lv_aload_n hx hb dX0_question_71 rfl (lv_at hl 3 rfl) ?_
    refine lv_dup hx hb dX0_question_72 rfl ?_
    refine va_get (D := D) (ci := 0) (v := .int (iI ((up (askroom S) 4 (askroom S 4 + 1)) 5))) (C := RX0) (T := TX0) (N := 10) hx hb hts hinX0 hown hK hP 0 rfl rfl 5 (by decide) hf31 (fun _ h9 => h9) rfl dX0_question_73 ?_
    refine lv_iload hx hb dX0_question_76 (lv_at hl 1 rfl) ?_
    refine iv_add hx hb dX0_question_78 ?_
    refine va_put (D := D) (ci := 0) (v := .int (iI ((up (askroom S) 4 (askroom S 4 + 1)) 5 + (costOf S a b)))) (ty := .int) (C := RX0) (T := TX0) (N := 10) hx hb hts hinX0 tyX0 tyX0_ok nmX0 hown hK hP hD hS 0 rfl rfl 5 (by decide) hf31 (fun _ h9 => h9) rfl (by decide +kernel) rfl rfl (Nat.le_of_ble_eq_true rfl) dX0_question_79 (fun H locs hP hD hS => ?_)
    have hP : va_P D vwCl [(d, oDrv dc (up (up (askroom S) 4 (askroom S 4 + 1)) 5 ((up (askroom S) 4 (askroom S 4 + 1)) 5 + (costOf S a b))) (lN (kL S 0 40))), (dc, aI yI 48 (up (up (up (up G933 ((askroom S 4) * 4 + 0) a) ((askroom S 4) * 4 + 1) b) ((askroom S 4) * 4 + 2) (told S a b)) ((askroom S 4) * 4 + 3) (costOf S a b)))] H := hP
    have hD : va_D A [(d, oDrv dc (up (up (askroom S) 4 (askroom S 4 + 1)) 5 ((up (askroom S) 4 (askroom S 4 + 1)) 5 + (costOf S a b))) (lN (kL S 0 40))), (dc, aI yI 48 (up (up (up (up G933 ((askroom S 4) * 4 + 0) a) ((askroom S 4) * 4 + 1) b) ((askroom S 4) * 4 + 2) (told S a b)) ((askroom S 4) * 4 + 3) (costOf S a b)))] := hD
    refine lv_aload_n hx hb dX0_question_82 rfl (lv_at hl 3 rfl) ?_
    refine lv_dup hx hb dX0_question_83 rfl ?_
    refine va_get (D := D) (ci := 0) (v := .int (iI ((up (askroom S) 4 (askroom S 4 + 1)) 6))) (C := RX0) (T := TX0) (N := 10) hx hb hts hinX0 hown hK hP 0 rfl rfl 6 (by decide) hf34 (fun _ h9 => h9) rfl dX0_question_84 ?_
    refine lv_iconst (v := iI 1) hx hb dX0_question_87 (by decide +kernel) ?_
    refine iv_add hx hb dX0_question_88 ?_
    refine va_put (D := D) (ci := 0) (v := .int (iI ((up (askroom S) 4 (askroom S 4 + 1)) 6 + 1))) (ty := .int) (C := RX0) (T := TX0) (N := 10) hx hb hts hinX0 tyX0 tyX0_ok nmX0 hown hK hP hD hS 0 rfl rfl 6 (by decide) hf34 (fun _ h9 => h9) rfl (by decide +kernel) rfl rfl (Nat.le_of_ble_eq_true rfl) dX0_question_89 (fun H locs hP hD hS => ?_)
    have hP : va_P D vwCl [(d, oDrv dc (up (up (up (askroom S) 4 (askroom S 4 + 1)) 5 ((up (askroom S) 4 (askroom S 4 + 1)) 5 + (costOf S a b))) 6 ((up (askroom S) 4 (askroom S 4 + 1)) 6 + 1)) (lN (kL S 0 40))), (dc, aI yI 48 (up (up (up (up G933 ((askroom S 4) * 4 + 0) a) ((askroom S 4) * 4 + 1) b) ((askroom S 4) * 4 + 2) (told S a b)) ((askroom S 4) * 4 + 3) (costOf S a b)))] H := hP
    have hD : va_D A [(d, oDrv dc (up (up (up (askroom S) 4 (askroom S 4 + 1)) 5 ((up (askroom S) 4 (askroom S 4 + 1)) 5 + (costOf S a b))) 6 ((up (askroom S) 4 (askroom S 4 + 1)) 6 + 1)) (lN (kL S 0 40))), (dc, aI yI 48 (up (up (up (up G933 ((askroom S 4) * 4 + 0) a) ((askroom S 4) * 4 + 1) b) ((askroom S 4) * 4 + 2) (told S a b)) ((askroom S 4) * 4 + 3) (costOf S a b)))] := hD
    refine lv_iload_n hx hb dX0_question_92 rfl (lv_at hl 2 rfl) ?_
    have hP9 : va_P D vwCl [(d, oDrv dc (askd S a b) (lN (kL (askd S a b) 0 40))), (dc, aI yI 48 (up (up (up (up G933 ((askroom S 4) * 4 + 0) a) ((askroom S 4) * 4 + 1) b) ((askroom S 4) * 4 + 2) (told S a b)) ((askroom S 4) * 4 + 3) (costOf S a b)))] _ := (hP.sub (ws' := [(d, oDrv dc (up (up (up (askroom S) 4 (askroom S 4 + 1)) 5 ((up (askroom S) 4 (askroom S 4 + 1)) 5 + (costOf S a b))) 6 ((up (askroom S) 4 (askroom S 4 + 1)) 6 + 1)) (lN (kL S 0 40))), (dc, aI yI 48 (up (up (up (up G933 ((askroom S 4) * 4 + 0) a) ((askroom S 4) * 4 + 1) b) ((askroom S 4) * 4 + 2) (told S a b)) ((askroom S 4) * 4 + 3) (costOf S a b)))]) [0, 1] rfl).cv (by first | exact congrArg (fun z => [(d, z), (dc, aI yI 48 _)]) (oDrv_e (fun z h0 h1 => ask_lo1 hI (by omega) h0 h1) (by rw [kL_ask hI])) | exact congrArg (fun z => [(d, z), (dc, aI yI 48 _)]) (oDrv_e (fun z h0 h1 => ask_lo2 hI (by omega) h0 h1) (by rw [kL_ask hI])))
    exact W.iret hx hb hr (fun t ht hW => ⟨⟨iI (told S a b), (up (up (up (up G933 ((askroom S 4) * 4 + 0) a) ((askroom S 4) * 4 + 1) b) ((askroom S 4) * 4 + 2) (told S a b)) ((askroom S 4) * 4 + 3) (costOf S a b)), rfl, ⟨rfl, (by first | exact rc_ask1 hI hR2_33 (by omega) | exact rc_ask2 hI hR (by omega))⟩, by show va_P D vwCl _ t.heap; rw [ht]; exact hP9⟩, hS.F ht⟩) hS.2.2 dX0_question_93
