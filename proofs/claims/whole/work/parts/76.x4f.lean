set_option maxHeartbeats 4000000 in
set_option maxRecDepth 100000 in
theorem c_X4_tryQuestion (l : Launch) (D : va_G) (yI yC yD : ClassId) (x : Nat) (tx : Nat) (nw : Nat) (tr : Nat) (kn : Nat) (me : Nat) (sl : Nat) (tc : Nat) (S : Int → Int) (g : Int → Int) (a : Int) (b : Int) (hI : Inv S) (hR : Rc S g) (hab9 : inR a ∧ inR b) (sz : Nat) : Met l yX4_tryQuestion wsX4_tryQuestion ({ frames := 4, cells := 0, slots := 0, locals := 80 }) (rwP [.ref x, .int (iI a), .int (iI b)] D (tyz yI yC yD) [(x, oRD tx nw tr kn me sl), (tr, oDrv tc S (lN (kL (S) 0 40))), (tc, aI yI 48 g)] sz) (va_Qi (fun (r : Int32) (G9 : (Int → Int)) => r = iI (bI (whyA S a b = 0)) ∧ Rc (if whyA S a b = 0 then askd S a b else S) G9) (fun (G9 : (Int → Int)) (t : State) => va_P D vwCl [(x, oRD tx nw tr kn me sl), (tr, oDrv tc (if whyA S a b = 0 then askd S a b else S) (lN (kL (if whyA S a b = 0 then askd S a b else S) 0 40))), (tc, aI yI 48 G9)] t.heap) (va_A [(x, oRD tx nw tr kn me sl), (tr, oDrv tc S (lN (kL (S) 0 40))), (tc, aI yI 48 g)] sz)) 0 0 (va_A [(x, oRD tx nw tr kn me sl), (tr, oDrv tc S (lN (kL (S) 0 40))), (tc, aI yI 48 g)] sz) := by
  refine Met.ofW (cc := cX4_tryQuestion) (maxL := 3) (ret := (some .boolean)) (by decide) rfl ?_
  intro p e s m args below meth c s₁ B hml hv
  obtain ⟨rfl, hsz, hP, hK, hD0⟩ := hv
  have hx := B.exec
  have hb := B.bytes
  have hr := B.returns
  have hts := atoms_spec (ws := wsX4_tryQuestion) B.pre
  have hown : s.vm.findClass RX4 = some m.cls := findClass_of_methodNamed B.named
  have hlocks := B.notSynchronized
  subst hsz
  have hD := hD0.self (sz := s.heap.size)
  generalize hAe : va_A [(x, oRD tx nw tr kn me sl), (tr, oDrv tc S (lN (kL (S) 0 40))), (tc, aI yI 48 g)] s.heap.size = A at hD ⊢
  have hA : ∀ q : Nat, s.heap.size ≤ q → A q := fun q h => by rw [← hAe]; exact Or.inr h
  have hS : va_S A s.heap s.heap [] := va_S.rf
  have hP : va_P D vwCl [(x, oRD tx nw tr kn me sl), (tr, oDrv tc S (lN (kL (S) 0 40))), (tc, aI yI 48 g)] s.heap := hP
  have hinX4 : ∀ w ∈ wsX40, w ∈ wsX4_tryQuestion := by decide +kernel
  have hf23 : (Cond.fieldLink RX4 23 "RiddleDrive" "trial" "LRiddleDrive$Drive;").before _ s = true := hts _ (by decide +kernel)
  have hl := lv_entry ([.ref x, .int (iI a), .int (iI b)]) (n := 3) (Nat.le_of_ble_eq_true rfl)
  rw [lg_entry_eq]
  generalize (lg_sl ([.ref x, .int (iI a), .int (iI b)]) ++ List.replicate (3 - (lg_sl ([.ref x, .int (iI a), .int (iI b)])).length) Slot.unset).toArray = ls at hl ⊢
  have hl : lv_has ls 3 [(0, .ref x), (1, .int (iI a)), (2, .int (iI b))] := hl
  have hpl := hI.pl
  have hna := hI.na
  have hse := hI.se
  have hwi := hI.wi
  have hfe := hI.fe
  refine lv_aload_n hx hb dX4_tryQuestion_0 rfl (lv_at hl 0 rfl) ?_
  refine va_get (D := D) (ci := 4) (v := .ref tr) (C := RX4) (T := TX4) (N := 6) hx hb hts hinX4 hown hK hP 0 rfl rfl 2 (by decide) hf23 (fun _ h9 => h9) rfl dX4_tryQuestion_1 ?_
  refine lv_iload_n hx hb dX4_tryQuestion_4 rfl (lv_at hl 1 rfl) ?_
  refine iv_roV (As := [.int (iI a)]) (rest := []) (C := RX0) (n := 1) ⟨hx, hb, hml, hown, hts⟩ (c_X0_isPlace l D yI yC yD tr tc S g (lN (kL (S) 0 40)) a (hab9.1) (by omega)) (cwV 1 hts gX4_tryQuestion_X0_isPlace rfl rfl rfl (by decide +kernel) ⟨Nat.le_of_ble_eq_true rfl, Nat.le_of_ble_eq_true rfl⟩) hK hP [1, 2] rfl 1 rfl rfl rfl hl.1 rfl (Nat.le_of_ble_eq_true rfl) dX4_tryQuestion_5 ⟨Nat.zero_le _, Nat.zero_le _⟩ ?_
  refine iv_ifb_eq (P := 0 ≤ a ∧ a < S 0) (tgt := 39) hx hb dX4_tryQuestion_8 (by decide) (fun c8 => ?_) (fun c8 => ?_)
  · refine lv_iconst (v := iI 0) hx hb dX4_tryQuestion_39 (by decide +kernel) ?_
    have hq : ¬ (whyA S a b = 0) := by rw [whyA_0, whyR_0]; omega
    have hP9 : va_P D vwCl [(x, oRD tx nw tr kn me sl), (tr, oDrv tc (if whyA S a b = 0 then askd S a b else S) (lN (kL (if whyA S a b = 0 then askd S a b else S) 0 40))), (tc, aI yI 48 g)] _ := (hP.sub (ws' := [(x, oRD tx nw tr kn me sl), (tr, oDrv tc S (lN (kL (S) 0 40))), (tc, aI yI 48 g)]) [0, 1, 2] rfl).cv (by simp only [if_neg hq])
    exact W.zret hx hb hr (by decide +kernel) (fun t ht hW => ⟨⟨iI 0, g, rfl, ⟨congrArg iI (show 0 = bI (whyA S a b = 0) by exact (bI_f hq).symm), (by rw [if_neg hq]; exact hR)⟩, by show va_P D vwCl _ t.heap; rw [ht]; exact hP9⟩, hS.F ht⟩) hS.2.2 dX4_tryQuestion_40
  · refine lv_aload_n hx hb dX4_tryQuestion_11 rfl (lv_at hl 0 rfl) ?_
    refine va_get (D := D) (ci := 4) (v := .ref tr) (C := RX4) (T := TX4) (N := 6) hx hb hts hinX4 hown hK hP 0 rfl rfl 2 (by decide) hf23 (fun _ h9 => h9) rfl dX4_tryQuestion_12 ?_
    refine lv_iload_n hx hb dX4_tryQuestion_15 rfl (lv_at hl 2 rfl) ?_
    refine iv_roV (As := [.int (iI b)]) (rest := []) (C := RX0) (n := 1) ⟨hx, hb, hml, hown, hts⟩ (c_X0_isPlace l D yI yC yD tr tc S g (lN (kL (S) 0 40)) b (hab9.2) (by omega)) (cwV 1 hts gX4_tryQuestion_X0_isPlace rfl rfl rfl (by decide +kernel) ⟨Nat.le_of_ble_eq_true rfl, Nat.le_of_ble_eq_true rfl⟩) hK hP [1, 2] rfl 1 rfl rfl rfl hl.1 rfl (Nat.le_of_ble_eq_true rfl) dX4_tryQuestion_16 ⟨Nat.zero_le _, Nat.zero_le _⟩ ?_
    refine iv_ifb_eq (P := 0 ≤ b ∧ b < S 0) (tgt := 39) hx hb dX4_tryQuestion_19 (by decide) (fun c19 => ?_) (fun c19 => ?_)
    · refine lv_iconst (v := iI 0) hx hb dX4_tryQuestion_39 (by decide +kernel) ?_
      have hq : ¬ (whyA S a b = 0) := by rw [whyA_0, whyR_0]; omega
      have hP9 : va_P D vwCl [(x, oRD tx nw tr kn me sl), (tr, oDrv tc (if whyA S a b = 0 then askd S a b else S) (lN (kL (if whyA S a b = 0 then askd S a b else S) 0 40))), (tc, aI yI 48 g)] _ := (hP.sub (ws' := [(x, oRD tx nw tr kn me sl), (tr, oDrv tc S (lN (kL (S) 0 40))), (tc, aI yI 48 g)]) [0, 1, 2] rfl).cv (by simp only [if_neg hq])
      exact W.zret hx hb hr (by decide +kernel) (fun t ht hW => ⟨⟨iI 0, g, rfl, ⟨congrArg iI (show 0 = bI (whyA S a b = 0) by exact (bI_f hq).symm), (by rw [if_neg hq]; exact hR)⟩, by show va_P D vwCl _ t.heap; rw [ht]; exact hP9⟩, hS.F ht⟩) hS.2.2 dX4_tryQuestion_40
    · refine lv_iload_n hx hb dX4_tryQuestion_22 rfl (lv_at hl 2 rfl) ?_
      refine lv_iload_n hx hb dX4_tryQuestion_23 rfl (lv_at hl 1 rfl) ?_
      refine iv_icmp_lt (a := b) (b := a) (tgt := 39) hx hb (by omega) (by omega) dX4_tryQuestion_24 (by decide) (fun c24 => ?_) (fun c24 => ?_)
      · refine lv_iconst (v := iI 0) hx hb dX4_tryQuestion_39 (by decide +kernel) ?_
        have hq : ¬ (whyA S a b = 0) := by rw [whyA_0, whyR_0]; omega
        have hP9 : va_P D vwCl [(x, oRD tx nw tr kn me sl), (tr, oDrv tc (if whyA S a b = 0 then askd S a b else S) (lN (kL (if whyA S a b = 0 then askd S a b else S) 0 40))), (tc, aI yI 48 g)] _ := (hP.sub (ws' := [(x, oRD tx nw tr kn me sl), (tr, oDrv tc S (lN (kL (S) 0 40))), (tc, aI yI 48 g)]) [0, 1, 2] rfl).cv (by simp only [if_neg hq])
        exact W.zret hx hb hr (by decide +kernel) (fun t ht hW => ⟨⟨iI 0, g, rfl, ⟨congrArg iI (show 0 = bI (whyA S a b = 0) by exact (bI_f hq).symm), (by rw [if_neg hq]; exact hR)⟩, by show va_P D vwCl _ t.heap; rw [ht]; exact hP9⟩, hS.F ht⟩) hS.2.2 dX4_tryQuestion_40
      · refine lv_aload_n hx hb dX4_tryQuestion_27 rfl (lv_at hl 0 rfl) ?_
        refine va_get (D := D) (ci := 4) (v := .ref tr) (C := RX4) (T := TX4) (N := 6) hx hb hts hinX4 hown hK hP 0 rfl rfl 2 (by decide) hf23 (fun _ h9 => h9) rfl dX4_tryQuestion_28 ?_
        refine lv_iload_n hx hb dX4_tryQuestion_31 rfl (lv_at hl 1 rfl) ?_
        refine lv_iload_n hx hb dX4_tryQuestion_32 rfl (lv_at hl 2 rfl) ?_
        refine iv_roV (As := [.int (iI a), .int (iI b)]) (rest := []) (C := RX0) (n := 2) ⟨hx, hb, hml, hown, hts⟩ (c_X0_isNarrow l D yI yC yD tr tc S g (lN (kL (S) 0 40)) a b (by omega) (by omega)) (cwV 2 hts gX4_tryQuestion_X0_isNarrow rfl rfl rfl (by decide +kernel) ⟨Nat.le_of_ble_eq_true rfl, Nat.le_of_ble_eq_true rfl⟩) hK hP [1, 2] rfl 1 rfl rfl rfl hl.1 rfl (Nat.le_of_ble_eq_true rfl) dX4_tryQuestion_33 ⟨Nat.zero_le _, Nat.zero_le _⟩ ?_
        refine iv_ifb_eq (P := b - a + 1 < S 1) (tgt := 41) hx hb dX4_tryQuestion_36 (by decide) (fun c36 => ?_) (fun c36 => ?_)
        · refine lv_aload_n hx hb dX4_tryQuestion_41 rfl (lv_at hl 0 rfl) ?_
          refine va_get (D := D) (ci := 4) (v := .ref tr) (C := RX4) (T := TX4) (N := 6) hx hb hts hinX4 hown hK hP 0 rfl rfl 2 (by decide) hf23 (fun _ h9 => h9) rfl dX4_tryQuestion_42 ?_
          refine lv_iload_n hx hb dX4_tryQuestion_45 rfl (lv_at hl 1 rfl) ?_
          refine lv_iload_n hx hb dX4_tryQuestion_46 rfl (lv_at hl 2 rfl) ?_
          refine iv_rwV (As := [.int (iI a), .int (iI b)]) (rest := []) (C := RX0) (n := 2) ⟨hx, hb, hml, hown, hts⟩ (c_X0_question l D yI yC yD tr tc S g a b (by assumption) (by assumption) (by omega) _) (cwV 2 hts gX4_tryQuestion_X0_question rfl rfl rfl (by decide +kernel) ⟨Nat.le_of_ble_eq_true rfl, Nat.le_of_ble_eq_true rfl⟩) hK hP hD hS hA [1, 2] (by decide) rfl 1 rfl rfl rfl hl.1 rfl (Nat.le_of_ble_eq_true rfl) dX4_tryQuestion_47 ⟨Nat.zero_le _, Nat.zero_le _⟩ (fun _ => rfl) (fun r47 u47 H locs hw47 hP hD hS => ?_)
          obtain ⟨G947, hu47⟩ : ∃ z, z = u47 := ⟨_, rfl⟩
          subst hu47
          obtain ⟨hr47, hR2_47⟩ := hw47
          subst hr47
          have hP : va_P D vwCl [(x, oRD tx nw tr kn me sl), (tr, oDrv tc (askd S a b) (lN (kL (askd S a b) 0 40))), (tc, aI yI 48 G947)] H := hP
          have hD : va_D A [(x, oRD tx nw tr kn me sl), (tr, oDrv tc (askd S a b) (lN (kL (askd S a b) 0 40))), (tc, aI yI 48 G947)] := hD
          refine lv_pop hx hb dX4_tryQuestion_50 rfl ?_
          refine lv_iconst (v := iI 1) hx hb dX4_tryQuestion_51 (by decide +kernel) ?_
          have hq : whyA S a b = 0 := whyA_0.2 ⟨whyR_0.2 (by omega), by omega⟩
          have hP9 : va_P D vwCl [(x, oRD tx nw tr kn me sl), (tr, oDrv tc (if whyA S a b = 0 then askd S a b else S) (lN (kL (if whyA S a b = 0 then askd S a b else S) 0 40))), (tc, aI yI 48 G947)] _ := (hP.sub (ws' := [(x, oRD tx nw tr kn me sl), (tr, oDrv tc (askd S a b) (lN (kL (askd S a b) 0 40))), (tc, aI yI 48 G947)]) [0, 1, 2] rfl).cv (by simp only [if_pos hq])
          exact W.zret hx hb hr (by decide +kernel) (fun t ht hW => ⟨⟨iI 1, G947, rfl, ⟨congrArg iI (show 1 = bI (whyA S a b = 0) by exact (bI_t hq).symm), (by rw [if_pos hq]; exact hR2_47)⟩, by show va_P D vwCl _ t.heap; rw [ht]; exact hP9⟩, hS.F ht⟩) hS.2.2 dX4_tryQuestion_52
        · refine lv_iconst (v := iI 0) hx hb dX4_tryQuestion_39 (by decide +kernel) ?_
          have hq : ¬ (whyA S a b = 0) := by rw [whyA_0, whyR_0]; omega
          have hP9 : va_P D vwCl [(x, oRD tx nw tr kn me sl), (tr, oDrv tc (if whyA S a b = 0 then askd S a b else S) (lN (kL (if whyA S a b = 0 then askd S a b else S) 0 40))), (tc, aI yI 48 g)] _ := (hP.sub (ws' := [(x, oRD tx nw tr kn me sl), (tr, oDrv tc S (lN (kL (S) 0 40))), (tc, aI yI 48 g)]) [0, 1, 2] rfl).cv (by simp only [if_neg hq])
          exact W.zret hx hb hr (by decide +kernel) (fun t ht hW => ⟨⟨iI 0, g, rfl, ⟨congrArg iI (show 0 = bI (whyA S a b = 0) by exact (bI_f hq).symm), (by rw [if_neg hq]; exact hR)⟩, by show va_P D vwCl _ t.heap; rw [ht]; exact hP9⟩, hS.F ht⟩) hS.2.2 dX4_tryQuestion_40
set_option maxHeartbeats 4000000 in
set_option maxRecDepth 100000 in
theorem c_X4_tryKey (l : Launch) (D : va_G) (yI yC yD : ClassId) (x : Nat) (tx : Nat) (nw : Nat) (tr : Nat) (kn : Nat) (me : Nat) (sl : Nat) (tc : Nat) (S : Int → Int) (g : Int → Int) (i : Int) (w : Int) (hI : Inv S) (hR : Rc S g) (hi9 : inR i) (hw9 : 0 ≤ w ∧ w ≤ 99) (sz : Nat) : Met l yX4_tryKey wsX4_tryKey ({ frames := 3, cells := 0, slots := 0, locals := 59 }) (rwP [.ref x, .int (iI i), .int (iI w)] D (tyz yI yC yD) [(x, oRD tx nw tr kn me sl), (tr, oDrv tc S (lN (kL (S) 0 40))), (tc, aI yI 48 g)] sz) (va_Qi (fun (r : Int32) (G9 : (Int → Int)) => r = iI (bI (w % 10 = 0 ∧ (0 ≤ i ∧ i < S 0) ∧ w / 10 < 2)) ∧ Rc (if w % 10 = 0 ∧ (0 ≤ i ∧ i < S 0) ∧ w / 10 < 2 then wr S i (w / 10) else S) G9) (fun (G9 : (Int → Int)) (t : State) => va_P D vwCl [(x, oRD tx nw tr kn me sl), (tr, oDrv tc (if w % 10 = 0 ∧ (0 ≤ i ∧ i < S 0) ∧ w / 10 < 2 then wr S i (w / 10) else S) (lN (kL (if w % 10 = 0 ∧ (0 ≤ i ∧ i < S 0) ∧ w / 10 < 2 then wr S i (w / 10) else S) 0 40))), (tc, aI yI 48 G9)] t.heap) (va_A [(x, oRD tx nw tr kn me sl), (tr, oDrv tc S (lN (kL (S) 0 40))), (tc, aI yI 48 g)] sz)) 0 0 (va_A [(x, oRD tx nw tr kn me sl), (tr, oDrv tc S (lN (kL (S) 0 40))), (tc, aI yI 48 g)] sz) := by
  refine Met.ofW (cc := cX4_tryKey) (maxL := 3) (ret := (some .boolean)) (by decide) rfl ?_
  intro p e s m args below meth c s₁ B hml hv
  obtain ⟨rfl, hsz, hP, hK, hD0⟩ := hv
  have hx := B.exec
  have hb := B.bytes
  have hr := B.returns
  have hts := atoms_spec (ws := wsX4_tryKey) B.pre
  have hown : s.vm.findClass RX4 = some m.cls := findClass_of_methodNamed B.named
  have hlocks := B.notSynchronized
  subst hsz
  have hD := hD0.self (sz := s.heap.size)
  generalize hAe : va_A [(x, oRD tx nw tr kn me sl), (tr, oDrv tc S (lN (kL (S) 0 40))), (tc, aI yI 48 g)] s.heap.size = A at hD ⊢
  have hA : ∀ q : Nat, s.heap.size ≤ q → A q := fun q h => by rw [← hAe]; exact Or.inr h
  have hS : va_S A s.heap s.heap [] := va_S.rf
  have hP : va_P D vwCl [(x, oRD tx nw tr kn me sl), (tr, oDrv tc S (lN (kL (S) 0 40))), (tc, aI yI 48 g)] s.heap := hP
  have hinX4 : ∀ w ∈ wsX40, w ∈ wsX4_tryKey := by decide +kernel
  have hf23 : (Cond.fieldLink RX4 23 "RiddleDrive" "trial" "LRiddleDrive$Drive;").before _ s = true := hts _ (by decide +kernel)
  have hl := lv_entry ([.ref x, .int (iI i), .int (iI w)]) (n := 3) (Nat.le_of_ble_eq_true rfl)
  rw [lg_entry_eq]
  generalize (lg_sl ([.ref x, .int (iI i), .int (iI w)]) ++ List.replicate (3 - (lg_sl ([.ref x, .int (iI i), .int (iI w)])).length) Slot.unset).toArray = ls at hl ⊢
  have hl : lv_has ls 3 [(0, .ref x), (1, .int (iI i)), (2, .int (iI w))] := hl
  have hpl := hI.pl
  have hna := hI.na
  have hse := hI.se
  have hwi := hI.wi
  have hfe := hI.fe
  refine lv_aload_n hx hb dX4_tryKey_0 rfl (lv_at hl 0 rfl) ?_
  refine va_get (D := D) (ci := 4) (v := .ref tr) (C := RX4) (T := TX4) (N := 6) hx hb hts hinX4 hown hK hP 0 rfl rfl 2 (by decide) hf23 (fun _ h9 => h9) rfl dX4_tryKey_1 ?_
  refine lv_iload_n hx hb dX4_tryKey_4 rfl (lv_at hl 1 rfl) ?_
  refine iv_roV (As := [.int (iI i)]) (rest := []) (C := RX0) (n := 1) ⟨hx, hb, hml, hown, hts⟩ (c_X0_isPlace l D yI yC yD tr tc S g (lN (kL (S) 0 40)) i (by omega) (by omega)) (cwV 1 hts gX4_tryKey_X0_isPlace rfl rfl rfl (by decide +kernel) ⟨Nat.le_of_ble_eq_true rfl, Nat.le_of_ble_eq_true rfl⟩) hK hP [1, 2] rfl 1 rfl rfl rfl hl.1 rfl (Nat.le_of_ble_eq_true rfl) dX4_tryKey_5 ⟨Nat.zero_le _, Nat.zero_le _⟩ ?_
  refine iv_ifb_eq (P := 0 ≤ i ∧ i < S 0) (tgt := 21) hx hb dX4_tryKey_8 (by decide) (fun c8 => ?_) (fun c8 => ?_)
  · refine lv_iconst (v := iI 0) hx hb dX4_tryKey_21 (by decide +kernel) ?_
    have hq : ¬ (w % 10 = 0 ∧ (0 ≤ i ∧ i < S 0) ∧ w / 10 < 2) := by omega
    have hP9 : va_P D vwCl [(x, oRD tx nw tr kn me sl), (tr, oDrv tc (if w % 10 = 0 ∧ (0 ≤ i ∧ i < S 0) ∧ w / 10 < 2 then wr S i (w / 10) else S) (lN (kL (if w % 10 = 0 ∧ (0 ≤ i ∧ i < S 0) ∧ w / 10 < 2 then wr S i (w / 10) else S) 0 40))), (tc, aI yI 48 g)] _ := (hP.sub (ws' := [(x, oRD tx nw tr kn me sl), (tr, oDrv tc S (lN (kL (S) 0 40))), (tc, aI yI 48 g)]) [0, 1, 2] rfl).cv (by simp only [if_neg hq])
    exact W.zret hx hb hr (by decide +kernel) (fun t ht hW => ⟨⟨iI 0, g, rfl, ⟨congrArg iI (show 0 = bI (w % 10 = 0 ∧ (0 ≤ i ∧ i < S 0) ∧ w / 10 < 2) by exact (bI_f hq).symm), (by rw [if_neg hq]; exact hR)⟩, by show va_P D vwCl _ t.heap; rw [ht]; exact hP9⟩, hS.F ht⟩) hS.2.2 dX4_tryKey_22
  · refine lv_iload_n hx hb dX4_tryKey_11 rfl (lv_at hl 2 rfl) ?_
    refine iv_if_eq (a := w) (tgt := 23) hx hb (by omega) dX4_tryKey_12 (by decide) (fun c12 => ?_) (fun c12 => ?_)
    · refine lv_aload_n hx hb dX4_tryKey_23 rfl (lv_at hl 0 rfl) ?_
      refine va_get (D := D) (ci := 4) (v := .ref tr) (C := RX4) (T := TX4) (N := 6) hx hb hts hinX4 hown hK hP 0 rfl rfl 2 (by decide) hf23 (fun _ h9 => h9) rfl dX4_tryKey_24 ?_
      refine lv_iload_n hx hb dX4_tryKey_27 rfl (lv_at hl 1 rfl) ?_
      refine lv_iload_n hx hb dX4_tryKey_28 rfl (lv_at hl 2 rfl) ?_
      refine lv_bipush (v := iI 10) hx hb dX4_tryKey_29 (by decide +kernel) ?_
      refine iv_icmp_ne (a := w) (b := 10) (tgt := 38) hx hb (by omega) (by omega) dX4_tryKey_31 (by decide) (fun c31 => ?_) (fun c31 => ?_)
      · refine lv_iconst (v := iI 0) hx hb dX4_tryKey_38 (by decide +kernel) ?_
        refine iv_rwV (As := [.int (iI i), .int (iI 0)]) (rest := []) (C := RX0) (n := 2) ⟨hx, hb, hml, hown, hts⟩ (c_X0_putKey l D yI yC yD tr tc S g i 0 (by assumption) (by assumption) (by omega) (by omega) _) (cwV 2 hts gX4_tryKey_X0_putKey rfl rfl rfl (by decide +kernel) ⟨Nat.le_of_ble_eq_true rfl, Nat.le_of_ble_eq_true rfl⟩) hK hP hD hS hA [1, 2] (by decide) rfl 1 rfl rfl rfl hl.1 rfl (Nat.le_of_ble_eq_true rfl) dX4_tryKey_39 ⟨Nat.zero_le _, Nat.zero_le _⟩ (fun _ => rfl) (fun r39 u39 H locs hw39 hP hD hS => ?_)
        obtain ⟨G939, hu39⟩ : ∃ z, z = u39 := ⟨_, rfl⟩
        subst hu39
        obtain ⟨hr39, hR2_39⟩ := hw39
        subst hr39
        have hP : va_P D vwCl [(x, oRD tx nw tr kn me sl), (tr, oDrv tc (wr S i 0) (lN (kL (wr S i 0) 0 40))), (tc, aI yI 48 G939)] H := hP
        have hD : va_D A [(x, oRD tx nw tr kn me sl), (tr, oDrv tc (wr S i 0) (lN (kL (wr S i 0) 0 40))), (tc, aI yI 48 G939)] := hD
        refine lv_pop hx hb dX4_tryKey_42 rfl ?_
        refine lv_iconst (v := iI 1) hx hb dX4_tryKey_43 (by decide +kernel) ?_
        have hq : w % 10 = 0 ∧ (0 ≤ i ∧ i < S 0) ∧ w / 10 < 2 := by omega
        have hP9 : va_P D vwCl [(x, oRD tx nw tr kn me sl), (tr, oDrv tc (if w % 10 = 0 ∧ (0 ≤ i ∧ i < S 0) ∧ w / 10 < 2 then wr S i (w / 10) else S) (lN (kL (if w % 10 = 0 ∧ (0 ≤ i ∧ i < S 0) ∧ w / 10 < 2 then wr S i (w / 10) else S) 0 40))), (tc, aI yI 48 G939)] _ := (hP.sub (ws' := [(x, oRD tx nw tr kn me sl), (tr, oDrv tc (wr S i 0) (lN (kL (wr S i 0) 0 40))), (tc, aI yI 48 G939)]) [0, 1, 2] rfl).cv (by first | (exfalso; omega; done) | (rw [if_pos hq, show w / 10 = 0 by omega]; done) | (rw [if_pos hq, show w / 10 = 1 by omega]; done))
        exact W.zret hx hb hr (by decide +kernel) (fun t ht hW => ⟨⟨iI 1, G939, rfl, ⟨congrArg iI (show 1 = bI (w % 10 = 0 ∧ (0 ≤ i ∧ i < S 0) ∧ w / 10 < 2) by exact (bI_t hq).symm), (by first | (exfalso; omega) | (rw [if_pos hq, show w / 10 = 0 by omega]; exact hR2_39) | (rw [if_pos hq, show w / 10 = 1 by omega]; exact hR2_39))⟩, by show va_P D vwCl _ t.heap; rw [ht]; exact hP9⟩, hS.F ht⟩) hS.2.2 dX4_tryKey_44
      · refine lv_iconst (v := iI 1) hx hb dX4_tryKey_34 (by decide +kernel) ?_
        refine lv_goto (tgt := 39) hx hb dX4_tryKey_35 (by decide) ?_
        refine iv_rwV (As := [.int (iI i), .int (iI 1)]) (rest := []) (C := RX0) (n := 2) ⟨hx, hb, hml, hown, hts⟩ (c_X0_putKey l D yI yC yD tr tc S g i 1 (by assumption) (by assumption) (by omega) (by omega) _) (cwV 2 hts gX4_tryKey_X0_putKey rfl rfl rfl (by decide +kernel) ⟨Nat.le_of_ble_eq_true rfl, Nat.le_of_ble_eq_true rfl⟩) hK hP hD hS hA [1, 2] (by decide) rfl 1 rfl rfl rfl hl.1 rfl (Nat.le_of_ble_eq_true rfl) dX4_tryKey_39 ⟨Nat.zero_le _, Nat.zero_le _⟩ (fun _ => rfl) (fun r39 u39 H locs hw39 hP hD hS => ?_)
        obtain ⟨G939, hu39⟩ : ∃ z, z = u39 := ⟨_, rfl⟩
        subst hu39
        obtain ⟨hr39, hR2_39⟩ := hw39
        subst hr39
        have hP : va_P D vwCl [(x, oRD tx nw tr kn me sl), (tr, oDrv tc (wr S i 1) (lN (kL (wr S i 1) 0 40))), (tc, aI yI 48 G939)] H := hP
        have hD : va_D A [(x, oRD tx nw tr kn me sl), (tr, oDrv tc (wr S i 1) (lN (kL (wr S i 1) 0 40))), (tc, aI yI 48 G939)] := hD
        refine lv_pop hx hb dX4_tryKey_42 rfl ?_
        refine lv_iconst (v := iI 1) hx hb dX4_tryKey_43 (by decide +kernel) ?_
        have hq : w % 10 = 0 ∧ (0 ≤ i ∧ i < S 0) ∧ w / 10 < 2 := by omega
        have hP9 : va_P D vwCl [(x, oRD tx nw tr kn me sl), (tr, oDrv tc (if w % 10 = 0 ∧ (0 ≤ i ∧ i < S 0) ∧ w / 10 < 2 then wr S i (w / 10) else S) (lN (kL (if w % 10 = 0 ∧ (0 ≤ i ∧ i < S 0) ∧ w / 10 < 2 then wr S i (w / 10) else S) 0 40))), (tc, aI yI 48 G939)] _ := (hP.sub (ws' := [(x, oRD tx nw tr kn me sl), (tr, oDrv tc (wr S i 1) (lN (kL (wr S i 1) 0 40))), (tc, aI yI 48 G939)]) [0, 1, 2] rfl).cv (by first | (exfalso; omega; done) | (rw [if_pos hq, show w / 10 = 0 by omega]; done) | (rw [if_pos hq, show w / 10 = 1 by omega]; done))
        exact W.zret hx hb hr (by decide +kernel) (fun t ht hW => ⟨⟨iI 1, G939, rfl, ⟨congrArg iI (show 1 = bI (w % 10 = 0 ∧ (0 ≤ i ∧ i < S 0) ∧ w / 10 < 2) by exact (bI_t hq).symm), (by first | (exfalso; omega) | (rw [if_pos hq, show w / 10 = 0 by omega]; exact hR2_39) | (rw [if_pos hq, show w / 10 = 1 by omega]; exact hR2_39))⟩, by show va_P D vwCl _ t.heap; rw [ht]; exact hP9⟩, hS.F ht⟩) hS.2.2 dX4_tryKey_44
    · refine lv_iload_n hx hb dX4_tryKey_15 rfl (lv_at hl 2 rfl) ?_
      refine lv_bipush (v := iI 10) hx hb dX4_tryKey_16 (by decide +kernel) ?_
      refine iv_icmp_eq (a := w) (b := 10) (tgt := 23) hx hb (by omega) (by omega) dX4_tryKey_18 (by decide) (fun c18 => ?_) (fun c18 => ?_)
      · refine lv_aload_n hx hb dX4_tryKey_23 rfl (lv_at hl 0 rfl) ?_
        refine va_get (D := D) (ci := 4) (v := .ref tr) (C := RX4) (T := TX4) (N := 6) hx hb hts hinX4 hown hK hP 0 rfl rfl 2 (by decide) hf23 (fun _ h9 => h9) rfl dX4_tryKey_24 ?_
        refine lv_iload_n hx hb dX4_tryKey_27 rfl (lv_at hl 1 rfl) ?_
        refine lv_iload_n hx hb dX4_tryKey_28 rfl (lv_at hl 2 rfl) ?_
        refine lv_bipush (v := iI 10) hx hb dX4_tryKey_29 (by decide +kernel) ?_
        refine iv_icmp_ne (a := w) (b := 10) (tgt := 38) hx hb (by omega) (by omega) dX4_tryKey_31 (by decide) (fun c31 => ?_) (fun c31 => ?_)
        · exact absurd c31 (by omega)
        · refine lv_iconst (v := iI 1) hx hb dX4_tryKey_34 (by decide +kernel) ?_
          refine lv_goto (tgt := 39) hx hb dX4_tryKey_35 (by decide) ?_
          refine iv_rwV (As := [.int (iI i), .int (iI 1)]) (rest := []) (C := RX0) (n := 2) ⟨hx, hb, hml, hown, hts⟩ (c_X0_putKey l D yI yC yD tr tc S g i 1 (by assumption) (by assumption) (by omega) (by omega) _) (cwV 2 hts gX4_tryKey_X0_putKey rfl rfl rfl (by decide +kernel) ⟨Nat.le_of_ble_eq_true rfl, Nat.le_of_ble_eq_true rfl⟩) hK hP hD hS hA [1, 2] (by decide) rfl 1 rfl rfl rfl hl.1 rfl (Nat.le_of_ble_eq_true rfl) dX4_tryKey_39 ⟨Nat.zero_le _, Nat.zero_le _⟩ (fun _ => rfl) (fun r39 u39 H locs hw39 hP hD hS => ?_)
          obtain ⟨G939, hu39⟩ : ∃ z, z = u39 := ⟨_, rfl⟩
          subst hu39
          obtain ⟨hr39, hR2_39⟩ := hw39
          subst hr39
          have hP : va_P D vwCl [(x, oRD tx nw tr kn me sl), (tr, oDrv tc (wr S i 1) (lN (kL (wr S i 1) 0 40))), (tc, aI yI 48 G939)] H := hP
          have hD : va_D A [(x, oRD tx nw tr kn me sl), (tr, oDrv tc (wr S i 1) (lN (kL (wr S i 1) 0 40))), (tc, aI yI 48 G939)] := hD
          refine lv_pop hx hb dX4_tryKey_42 rfl ?_
          refine lv_iconst (v := iI 1) hx hb dX4_tryKey_43 (by decide +kernel) ?_
          have hq : w % 10 = 0 ∧ (0 ≤ i ∧ i < S 0) ∧ w / 10 < 2 := by omega
          have hP9 : va_P D vwCl [(x, oRD tx nw tr kn me sl), (tr, oDrv tc (if w % 10 = 0 ∧ (0 ≤ i ∧ i < S 0) ∧ w / 10 < 2 then wr S i (w / 10) else S) (lN (kL (if w % 10 = 0 ∧ (0 ≤ i ∧ i < S 0) ∧ w / 10 < 2 then wr S i (w / 10) else S) 0 40))), (tc, aI yI 48 G939)] _ := (hP.sub (ws' := [(x, oRD tx nw tr kn me sl), (tr, oDrv tc (wr S i 1) (lN (kL (wr S i 1) 0 40))), (tc, aI yI 48 G939)]) [0, 1, 2] rfl).cv (by first | (exfalso; omega; done) | (rw [if_pos hq, show w / 10 = 0 by omega]; done) | (rw [if_pos hq, show w / 10 = 1 by omega]; done))
          exact W.zret hx hb hr (by decide +kernel) (fun t ht hW => ⟨⟨iI 1, G939, rfl, ⟨congrArg iI (show 1 = bI (w % 10 = 0 ∧ (0 ≤ i ∧ i < S 0) ∧ w / 10 < 2) by exact (bI_t hq).symm), (by first | (exfalso; omega) | (rw [if_pos hq, show w / 10 = 0 by omega]; exact hR2_39) | (rw [if_pos hq, show w / 10 = 1 by omega]; exact hR2_39))⟩, by show va_P D vwCl _ t.heap; rw [ht]; exact hP9⟩, hS.F ht⟩) hS.2.2 dX4_tryKey_44
      · refine lv_iconst (v := iI 0) hx hb dX4_tryKey_21 (by decide +kernel) ?_
        have hq : ¬ (w % 10 = 0 ∧ (0 ≤ i ∧ i < S 0) ∧ w / 10 < 2) := by omega
        have hP9 : va_P D vwCl [(x, oRD tx nw tr kn me sl), (tr, oDrv tc (if w % 10 = 0 ∧ (0 ≤ i ∧ i < S 0) ∧ w / 10 < 2 then wr S i (w / 10) else S) (lN (kL (if w % 10 = 0 ∧ (0 ≤ i ∧ i < S 0) ∧ w / 10 < 2 then wr S i (w / 10) else S) 0 40))), (tc, aI yI 48 g)] _ := (hP.sub (ws' := [(x, oRD tx nw tr kn me sl), (tr, oDrv tc S (lN (kL (S) 0 40))), (tc, aI yI 48 g)]) [0, 1, 2] rfl).cv (by simp only [if_neg hq])
        exact W.zret hx hb hr (by decide +kernel) (fun t ht hW => ⟨⟨iI 0, g, rfl, ⟨congrArg iI (show 0 = bI (w % 10 = 0 ∧ (0 ≤ i ∧ i < S 0) ∧ w / 10 < 2) by exact (bI_f hq).symm), (by rw [if_neg hq]; exact hR)⟩, by show va_P D vwCl _ t.heap; rw [ht]; exact hP9⟩, hS.F ht⟩) hS.2.2 dX4_tryKey_22
set_option maxHeartbeats 4000000 in
set_option maxRecDepth 100000 in
theorem c_X4_trySetting (l : Launch) (D : va_G) (yI yC yD : ClassId) (x : Nat) (tx : Nat) (nw : Nat) (tr : Nat) (kn : Nat) (me : Nat) (sl : Nat) (tc : Nat) (S : Int → Int) (g : Int → Int) (w : Int) (v : Int) (hI : Inv S) (hR : Rc S g) (hw9 : inR w ∧ inR v) (sz : Nat) : Met l yX4_trySetting wsX4_trySetting ({ frames := 2, cells := 0, slots := 0, locals := 43 }) (rwP [.ref x, .int (iI w), .int (iI v)] D (tyz yI yC yD) [(x, oRD tx nw tr kn me sl), (tr, oDrv tc S (lN (kL (S) 0 40))), (tc, aI yI 48 g)] sz) (va_Qi (fun (r : Int32) (_ : Unit) => r = iI (bI (okS w v)) ∧ Rc (if okS w v then setg S w v else S) g) (fun (_ : Unit) (t : State) => va_P D vwCl [(x, oRD tx nw tr kn me sl), (tr, oDrv tc (if okS w v then setg S w v else S) (lN (kL (if okS w v then setg S w v else S) 0 40))), (tc, aI yI 48 g)] t.heap) (va_A [(x, oRD tx nw tr kn me sl), (tr, oDrv tc S (lN (kL (S) 0 40))), (tc, aI yI 48 g)] sz)) 0 0 (va_A [(x, oRD tx nw tr kn me sl), (tr, oDrv tc S (lN (kL (S) 0 40))), (tc, aI yI 48 g)] sz) := by
  refine Met.ofW (cc := cX4_trySetting) (maxL := 3) (ret := (some .boolean)) (by decide) rfl ?_
  intro p e s m args below meth c s₁ B hml hv
  obtain ⟨rfl, hsz, hP, hK, hD0⟩ := hv
  have hx := B.exec
  have hb := B.bytes
  have hr := B.returns
  have hts := atoms_spec (ws := wsX4_trySetting) B.pre
  have hown : s.vm.findClass RX4 = some m.cls := findClass_of_methodNamed B.named
  have hlocks := B.notSynchronized
  subst hsz
  have hD := hD0.self (sz := s.heap.size)
  generalize hAe : va_A [(x, oRD tx nw tr kn me sl), (tr, oDrv tc S (lN (kL (S) 0 40))), (tc, aI yI 48 g)] s.heap.size = A at hD ⊢
  have hA : ∀ q : Nat, s.heap.size ≤ q → A q := fun q h => by rw [← hAe]; exact Or.inr h
  have hS : va_S A s.heap s.heap [] := va_S.rf
  have hP : va_P D vwCl [(x, oRD tx nw tr kn me sl), (tr, oDrv tc S (lN (kL (S) 0 40))), (tc, aI yI 48 g)] s.heap := hP
  have hinX4 : ∀ w ∈ wsX40, w ∈ wsX4_trySetting := by decide +kernel
  have hf23 : (Cond.fieldLink RX4 23 "RiddleDrive" "trial" "LRiddleDrive$Drive;").before _ s = true := hts _ (by decide +kernel)
  have hl := lv_entry ([.ref x, .int (iI w), .int (iI v)]) (n := 3) (Nat.le_of_ble_eq_true rfl)
  rw [lg_entry_eq]
  generalize (lg_sl ([.ref x, .int (iI w), .int (iI v)]) ++ List.replicate (3 - (lg_sl ([.ref x, .int (iI w), .int (iI v)])).length) Slot.unset).toArray = ls at hl ⊢
  have hl : lv_has ls 3 [(0, .ref x), (1, .int (iI w)), (2, .int (iI v))] := hl
  have hpl := hI.pl
  have hna := hI.na
  have hse := hI.se
  have hwi := hI.wi
  have hfe := hI.fe
  refine lv_iload_n hx hb dX4_trySetting_0 rfl (lv_at hl 1 rfl) ?_
  refine lv_iload_n hx hb dX4_trySetting_1 rfl (lv_at hl 2 rfl) ?_
  refine iv_roS (As := [.int (iI w), .int (iI v)]) (rest := []) (n := 2) ⟨hx, hb, hml, hown, hts⟩ (c_X4_isSetting l D yI yC yD w v (by assumption)) (va_cwS 2 hts gX4_trySetting_X4_isSetting rfl rfl rfl (by decide +kernel) ⟨Nat.le_of_ble_eq_true rfl, Nat.le_of_ble_eq_true rfl⟩) hK hP [] rfl rfl hl.1 rfl (Nat.le_of_ble_eq_true rfl) dX4_trySetting_2 ⟨Nat.zero_le _, Nat.zero_le _⟩ ?_
  refine iv_ifb_ne (P := okS w v) (tgt := 10) hx hb dX4_trySetting_5 (by decide) (fun c5 => ?_) (fun c5 => ?_)
  · refine lv_aload_n hx hb dX4_trySetting_10 rfl (lv_at hl 0 rfl) ?_
    refine va_get (D := D) (ci := 4) (v := .ref tr) (C := RX4) (T := TX4) (N := 6) hx hb hts hinX4 hown hK hP 0 rfl rfl 2 (by decide) hf23 (fun _ h9 => h9) rfl dX4_trySetting_11 ?_
    refine lv_iload_n hx hb dX4_trySetting_14 rfl (lv_at hl 1 rfl) ?_
    refine lv_iload_n hx hb dX4_trySetting_15 rfl (lv_at hl 2 rfl) ?_
    refine iv_rwV (As := [.int (iI w), .int (iI v)]) (rest := []) (C := RX0) (n := 2) ⟨hx, hb, hml, hown, hts⟩ (c_X0_change l D yI yC yD tr tc S g w v (by assumption) (by assumption) (by assumption) _) (cwV 2 hts gX4_trySetting_X0_change rfl rfl rfl (by decide +kernel) ⟨Nat.le_of_ble_eq_true rfl, Nat.le_of_ble_eq_true rfl⟩) hK hP hD hS hA [1, 2] (by decide) rfl 1 rfl rfl rfl hl.1 rfl (Nat.le_of_ble_eq_true rfl) dX4_trySetting_16 ⟨Nat.zero_le _, Nat.zero_le _⟩ (fun _ => rfl) (fun r16 u16 H locs hw16 hP hD hS => ?_)
    obtain ⟨hr16, hR2_16⟩ := hw16
    subst hr16
    have hP : va_P D vwCl [(x, oRD tx nw tr kn me sl), (tr, oDrv tc (setg S w v) (lN (kL (setg S w v) 0 40))), (tc, aI yI 48 g)] H := hP
    have hD : va_D A [(x, oRD tx nw tr kn me sl), (tr, oDrv tc (setg S w v) (lN (kL (setg S w v) 0 40))), (tc, aI yI 48 g)] := hD
    refine lv_pop hx hb dX4_trySetting_19 rfl ?_
    refine lv_iconst (v := iI 1) hx hb dX4_trySetting_20 (by decide +kernel) ?_
    have hq : okS w v := by assumption
    have hP9 : va_P D vwCl [(x, oRD tx nw tr kn me sl), (tr, oDrv tc (if okS w v then setg S w v else S) (lN (kL (if okS w v then setg S w v else S) 0 40))), (tc, aI yI 48 g)] _ := (hP.sub (ws' := [(x, oRD tx nw tr kn me sl), (tr, oDrv tc (setg S w v) (lN (kL (setg S w v) 0 40))), (tc, aI yI 48 g)]) [0, 1, 2] rfl).cv (by simp only [if_pos hq])
    exact W.zret hx hb hr (by decide +kernel) (fun t ht hW => ⟨⟨iI 1, (), rfl, ⟨congrArg iI (show 1 = bI (okS w v) by exact (bI_t hq).symm), (by rw [if_pos hq]; exact hR2_16)⟩, by show va_P D vwCl _ t.heap; rw [ht]; exact hP9⟩, hS.F ht⟩) hS.2.2 dX4_trySetting_21
  · refine lv_iconst (v := iI 0) hx hb dX4_trySetting_8 (by decide +kernel) ?_
    have hq : ¬ (okS w v) := by assumption
    have hP9 : va_P D vwCl [(x, oRD tx nw tr kn me sl), (tr, oDrv tc (if okS w v then setg S w v else S) (lN (kL (if okS w v then setg S w v else S) 0 40))), (tc, aI yI 48 g)] _ := (hP.sub (ws' := [(x, oRD tx nw tr kn me sl), (tr, oDrv tc S (lN (kL (S) 0 40))), (tc, aI yI 48 g)]) [0, 1, 2] rfl).cv (by simp only [if_neg hq])
    exact W.zret hx hb hr (by decide +kernel) (fun t ht hW => ⟨⟨iI 0, (), rfl, ⟨congrArg iI (show 0 = bI (okS w v) by exact (bI_f hq).symm), (by rw [if_neg hq]; exact hR)⟩, by show va_P D vwCl _ t.heap; rw [ht]; exact hP9⟩, hS.F ht⟩) hS.2.2 dX4_trySetting_9
set_option maxHeartbeats 4000000 in
set_option maxRecDepth 100000 in
theorem c_X4_tryDrop (l : Launch) (D : va_G) (yI yC yD : ClassId) (x : Nat) (tx : Nat) (nw : Nat) (tr : Nat) (kn : Nat) (me : Nat) (sl : Nat) (tc : Nat) (S : Int → Int) (g : Int → Int) (i : Int) (hI : Inv S) (hR : Rc S g) (hi9 : inR i) (sz : Nat) : Met l yX4_tryDrop wsX4_tryDrop ({ frames := 2, cells := 0, slots := 0, locals := 35 }) (rwP [.ref x, .int (iI i)] D (tyz yI yC yD) [(x, oRD tx nw tr kn me sl), (tr, oDrv tc S (lN (kL (S) 0 40))), (tc, aI yI 48 g)] sz) (va_Qi (fun (r : Int32) (G9 : (Int → Int)) => r = iI (bI (0 ≤ i ∧ i < S 4)) ∧ Rc (if 0 ≤ i ∧ i < S 4 then forget1 S i else S) G9) (fun (G9 : (Int → Int)) (t : State) => va_P D vwCl [(x, oRD tx nw tr kn me sl), (tr, oDrv tc (if 0 ≤ i ∧ i < S 4 then forget1 S i else S) (lN (kL (if 0 ≤ i ∧ i < S 4 then forget1 S i else S) 0 40))), (tc, aI yI 48 G9)] t.heap) (va_A [(x, oRD tx nw tr kn me sl), (tr, oDrv tc S (lN (kL (S) 0 40))), (tc, aI yI 48 g)] sz)) 0 0 (va_A [(x, oRD tx nw tr kn me sl), (tr, oDrv tc S (lN (kL (S) 0 40))), (tc, aI yI 48 g)] sz) := by
  refine Met.ofW (cc := cX4_tryDrop) (maxL := 2) (ret := (some .boolean)) (by decide) rfl ?_
  intro p e s m args below meth c s₁ B hml hv
  obtain ⟨rfl, hsz, hP, hK, hD0⟩ := hv
  have hx := B.exec
  have hb := B.bytes
  have hr := B.returns
  have hts := atoms_spec (ws := wsX4_tryDrop) B.pre
  have hown : s.vm.findClass RX4 = some m.cls := findClass_of_methodNamed B.named
  have hlocks := B.notSynchronized
  subst hsz
  have hD := hD0.self (sz := s.heap.size)
  generalize hAe : va_A [(x, oRD tx nw tr kn me sl), (tr, oDrv tc S (lN (kL (S) 0 40))), (tc, aI yI 48 g)] s.heap.size = A at hD ⊢
  have hA : ∀ q : Nat, s.heap.size ≤ q → A q := fun q h => by rw [← hAe]; exact Or.inr h
  have hS : va_S A s.heap s.heap [] := va_S.rf
  have hP : va_P D vwCl [(x, oRD tx nw tr kn me sl), (tr, oDrv tc S (lN (kL (S) 0 40))), (tc, aI yI 48 g)] s.heap := hP
  have hinX4 : ∀ w ∈ wsX40, w ∈ wsX4_tryDrop := by decide +kernel
  have hf23 : (Cond.fieldLink RX4 23 "RiddleDrive" "trial" "LRiddleDrive$Drive;").before _ s = true := hts _ (by decide +kernel)
  have hl := lv_entry ([.ref x, .int (iI i)]) (n := 2) (Nat.le_of_ble_eq_true rfl)
  rw [lg_entry_eq]
  generalize (lg_sl ([.ref x, .int (iI i)]) ++ List.replicate (2 - (lg_sl ([.ref x, .int (iI i)])).length) Slot.unset).toArray = ls at hl ⊢
  have hl : lv_has ls 2 [(0, .ref x), (1, .int (iI i))] := hl
  have hpl := hI.pl
  have hna := hI.na
  have hse := hI.se
  have hwi := hI.wi
  have hfe := hI.fe
  refine lv_aload_n hx hb dX4_tryDrop_0 rfl (lv_at hl 0 rfl) ?_
  refine va_get (D := D) (ci := 4) (v := .ref tr) (C := RX4) (T := TX4) (N := 6) hx hb hts hinX4 hown hK hP 0 rfl rfl 2 (by decide) hf23 (fun _ h9 => h9) rfl dX4_tryDrop_1 ?_
  refine lv_iload_n hx hb dX4_tryDrop_4 rfl (lv_at hl 1 rfl) ?_
  refine iv_roV (As := [.int (iI i)]) (rest := []) (C := RX0) (n := 1) ⟨hx, hb, hml, hown, hts⟩ (c_X0_isAnswer l D yI yC yD tr tc S g (lN (kL (S) 0 40)) i (by omega) (by omega)) (cwV 1 hts gX4_tryDrop_X0_isAnswer rfl rfl rfl (by decide +kernel) ⟨Nat.le_of_ble_eq_true rfl, Nat.le_of_ble_eq_true rfl⟩) hK hP [1, 2] rfl 1 rfl rfl rfl hl.1 rfl (Nat.le_of_ble_eq_true rfl) dX4_tryDrop_5 ⟨Nat.zero_le _, Nat.zero_le _⟩ ?_
  refine iv_ifb_ne (P := 0 ≤ i ∧ i < S 4) (tgt := 13) hx hb dX4_tryDrop_8 (by decide) (fun c8 => ?_) (fun c8 => ?_)
  · refine lv_aload_n hx hb dX4_tryDrop_13 rfl (lv_at hl 0 rfl) ?_
    refine va_get (D := D) (ci := 4) (v := .ref tr) (C := RX4) (T := TX4) (N := 6) hx hb hts hinX4 hown hK hP 0 rfl rfl 2 (by decide) hf23 (fun _ h9 => h9) rfl dX4_tryDrop_14 ?_
    refine lv_iload_n hx hb dX4_tryDrop_17 rfl (lv_at hl 1 rfl) ?_
    refine iv_rwVv (As := [.int (iI i)]) (rest := []) (C := RX0) (n := 1) ⟨hx, hb, hml, hown, hts⟩ (c_X0_drop l D yI yC yD tr tc S g i (by omega) (by assumption) (by omega) _) (cwV 1 hts gX4_tryDrop_X0_drop rfl rfl rfl (by decide +kernel) ⟨Nat.le_of_ble_eq_true rfl, Nat.le_of_ble_eq_true rfl⟩) hK hP hD hS hA [1, 2] (by decide) rfl 1 rfl rfl rfl hl.1 rfl (Nat.le_of_ble_eq_true rfl) dX4_tryDrop_18 ⟨Nat.zero_le _, Nat.zero_le _⟩ (fun _ => rfl) (fun u18 H locs hw18 hP hD hS => ?_)
    obtain ⟨G918, hu18⟩ : ∃ z, z = u18 := ⟨_, rfl⟩
    subst hu18
    have hR2_18 := hw18
    have hP : va_P D vwCl [(x, oRD tx nw tr kn me sl), (tr, oDrv tc (forget1 S i) (lN (kL (forget1 S i) 0 40))), (tc, aI yI 48 G918)] H := hP
    have hD : va_D A [(x, oRD tx nw tr kn me sl), (tr, oDrv tc (forget1 S i) (lN (kL (forget1 S i) 0 40))), (tc, aI yI 48 G918)] := hD
    refine lv_iconst (v := iI 1) hx hb dX4_tryDrop_21 (by decide +kernel) ?_
    have hq : 0 ≤ i ∧ i < S 4 := by omega
    have hP9 : va_P D vwCl [(x, oRD tx nw tr kn me sl), (tr, oDrv tc (if 0 ≤ i ∧ i < S 4 then forget1 S i else S) (lN (kL (if 0 ≤ i ∧ i < S 4 then forget1 S i else S) 0 40))), (tc, aI yI 48 G918)] _ := (hP.sub (ws' := [(x, oRD tx nw tr kn me sl), (tr, oDrv tc (forget1 S i) (lN (kL (forget1 S i) 0 40))), (tc, aI yI 48 G918)]) [0, 1, 2] rfl).cv (by simp only [if_pos hq])
    exact W.zret hx hb hr (by decide +kernel) (fun t ht hW => ⟨⟨iI 1, G918, rfl, ⟨congrArg iI (show 1 = bI (0 ≤ i ∧ i < S 4) by exact (bI_t hq).symm), (by rw [if_pos hq]; exact hR2_18)⟩, by show va_P D vwCl _ t.heap; rw [ht]; exact hP9⟩, hS.F ht⟩) hS.2.2 dX4_tryDrop_22
  · refine lv_iconst (v := iI 0) hx hb dX4_tryDrop_11 (by decide +kernel) ?_
    have hq : ¬ (0 ≤ i ∧ i < S 4) := by omega
    have hP9 : va_P D vwCl [(x, oRD tx nw tr kn me sl), (tr, oDrv tc (if 0 ≤ i ∧ i < S 4 then forget1 S i else S) (lN (kL (if 0 ≤ i ∧ i < S 4 then forget1 S i else S) 0 40))), (tc, aI yI 48 g)] _ := (hP.sub (ws' := [(x, oRD tx nw tr kn me sl), (tr, oDrv tc S (lN (kL (S) 0 40))), (tc, aI yI 48 g)]) [0, 1, 2] rfl).cv (by simp only [if_neg hq])
    exact W.zret hx hb hr (by decide +kernel) (fun t ht hW => ⟨⟨iI 0, g, rfl, ⟨congrArg iI (show 0 = bI (0 ≤ i ∧ i < S 4) by exact (bI_f hq).symm), (by rw [if_neg hq]; exact hR)⟩, by show va_P D vwCl _ t.heap; rw [ht]; exact hP9⟩, hS.F ht⟩) hS.2.2 dX4_tryDrop_12
set_option maxHeartbeats 4000000 in
set_option maxRecDepth 100000 in
theorem c_X4_isSure (l : Launch) (D : va_G) (yI yC yD : ClassId) (x : Nat) (tx : Nat) (nw : Nat) (tr : Nat) (kn : Nat) (me : Nat) (sl : Nat) (tc : Nat) (S : Int → Int) (g : Int → Int) (ex : Nat) (pl : Int) (E : Int → Int) (i : Int) (v : Int) (hI : Inv S) (hR : Rc S g) (hi9 : inR i) (hv9 : 0 ≤ v ∧ v ≤ 99) (sz : Nat) : Met l yX4_isSure wsX4_isSure ({ frames := 4, cells := 0, slots := 0, locals := 99 }) (rwP [.ref x, .int (iI i), .int (iI v)] D (tyz yI yC yD) [(x, oRD tx nw tr kn me sl), (kn, oKn pl ex), (ex, aI yI 1681 E), (tr, oDrv tc S (lN (kL (S) 0 40))), (tc, aI yI 48 g)] sz) (va_Qi (fun (r : Int32) (u : Int × (Int → Int)) => match u with | (p9, E9) => r = iI (pI (c5Ok S i v)) ∧ True) (fun (u : Int × (Int → Int)) (t : State) => match u with | (p9, E9) => va_P D vwCl [(x, oRD tx nw tr kn me sl), (kn, oKn p9 ex), (ex, aI yI 1681 E9), (tr, oDrv tc S (lN (kL (S) 0 40))), (tc, aI yI 48 g)] t.heap) (va_A [(x, oRD tx nw tr kn me sl), (kn, oKn pl ex), (ex, aI yI 1681 E), (tr, oDrv tc S (lN (kL (S) 0 40))), (tc, aI yI 48 g)] sz)) 0 0 (va_A [(x, oRD tx nw tr kn me sl), (kn, oKn pl ex), (ex, aI yI 1681 E), (tr, oDrv tc S (lN (kL (S) 0 40))), (tc, aI yI 48 g)] sz) := by
  refine Met.ofW (cc := cX4_isSure) (maxL := 3) (ret := (some .boolean)) (by decide) rfl ?_
  intro p e s m args below meth c s₁ B hml hv
  obtain ⟨rfl, hsz, hP, hK, hD0⟩ := hv
  have hx := B.exec
  have hb := B.bytes
  have hr := B.returns
  have hts := atoms_spec (ws := wsX4_isSure) B.pre
  have hown : s.vm.findClass RX4 = some m.cls := findClass_of_methodNamed B.named
  have hlocks := B.notSynchronized
  subst hsz
  have hD := hD0.self (sz := s.heap.size)
  generalize hAe : va_A [(x, oRD tx nw tr kn me sl), (kn, oKn pl ex), (ex, aI yI 1681 E), (tr, oDrv tc S (lN (kL (S) 0 40))), (tc, aI yI 48 g)] s.heap.size = A at hD ⊢
  have hA : ∀ q : Nat, s.heap.size ≤ q → A q := fun q h => by rw [← hAe]; exact Or.inr h
  have hS : va_S A s.heap s.heap [] := va_S.rf
  have hP : va_P D vwCl [(x, oRD tx nw tr kn me sl), (kn, oKn pl ex), (ex, aI yI 1681 E), (tr, oDrv tc S (lN (kL (S) 0 40))), (tc, aI yI 48 g)] s.heap := hP
  have hinX4 : ∀ w ∈ wsX40, w ∈ wsX4_isSure := by decide +kernel
  have hf23 : (Cond.fieldLink RX4 23 "RiddleDrive" "trial" "LRiddleDrive$Drive;").before _ s = true := hts _ (by decide +kernel)
  have hf29 : (Cond.fieldLink RX4 29 "RiddleDrive" "knowledge" "LRiddleDrive$Knowledge;").before _ s = true := hts _ (by decide +kernel)
  have hl := lv_entry ([.ref x, .int (iI i), .int (iI v)]) (n := 3) (Nat.le_of_ble_eq_true rfl)
  rw [lg_entry_eq]
  generalize (lg_sl ([.ref x, .int (iI i), .int (iI v)]) ++ List.replicate (3 - (lg_sl ([.ref x, .int (iI i), .int (iI v)])).length) Slot.unset).toArray = ls at hl ⊢
  have hl : lv_has ls 3 [(0, .ref x), (1, .int (iI i)), (2, .int (iI v))] := hl
  have hpl := hI.pl
  have hna := hI.na
  have hse := hI.se
  have hwi := hI.wi
  have hfe := hI.fe
  refine lv_aload_n hx hb dX4_isSure_0 rfl (lv_at hl 0 rfl) ?_
  refine va_get (D := D) (ci := 4) (v := .ref tr) (C := RX4) (T := TX4) (N := 6) hx hb hts hinX4 hown hK hP 0 rfl rfl 2 (by decide) hf23 (fun _ h9 => h9) rfl dX4_isSure_1 ?_
  refine lv_iload_n hx hb dX4_isSure_4 rfl (lv_at hl 1 rfl) ?_
  refine iv_roV (As := [.int (iI i)]) (rest := []) (C := RX0) (n := 1) ⟨hx, hb, hml, hown, hts⟩ (c_X0_isPlace l D yI yC yD tr tc S g (lN (kL (S) 0 40)) i (by omega) (by omega)) (cwV 1 hts gX4_isSure_X0_isPlace rfl rfl rfl (by decide +kernel) ⟨Nat.le_of_ble_eq_true rfl, Nat.le_of_ble_eq_true rfl⟩) hK hP [3, 4] rfl 3 rfl rfl rfl hl.1 rfl (Nat.le_of_ble_eq_true rfl) dX4_isSure_5 ⟨Nat.zero_le _, Nat.zero_le _⟩ ?_
  refine iv_ifb_eq (P := 0 ≤ i ∧ i < S 0) (tgt := 16) hx hb dX4_isSure_8 (by decide) (fun c8 => ?_) (fun c8 => ?_)
  · refine lv_iconst (v := iI 0) hx hb dX4_isSure_16 (by decide +kernel) ?_
    have hP9 : va_P D vwCl [(x, oRD tx nw tr kn me sl), (kn, oKn pl ex), (ex, aI yI 1681 E), (tr, oDrv tc S (lN (kL (S) 0 40))), (tc, aI yI 48 g)] _ := hP.sub [0, 1, 2, 3, 4] rfl
    exact W.zret hx hb hr (by decide +kernel) (fun t ht hW => ⟨⟨iI 0, (pl, E), rfl, ⟨congrArg iI (show 0 = pI (c5Ok S i v) by first | exact (pI_t ⟨by omega, by omega, by omega⟩).symm | (refine (pI_f (fun z => ?_)).symm; obtain ⟨z1, z2, z3⟩ := z; omega)), trivial⟩, by show va_P D vwCl _ t.heap; rw [ht]; exact hP9⟩, hS.F ht⟩) hS.2.2 dX4_isSure_17
  · refine lv_iload_n hx hb dX4_isSure_11 rfl (lv_at hl 2 rfl) ?_
    refine lv_iconst (v := iI 1) hx hb dX4_isSure_12 (by decide +kernel) ?_
    refine iv_icmp_le (a := v) (b := 1) (tgt := 18) hx hb (by omega) (by omega) dX4_isSure_13 (by decide) (fun c13 => ?_) (fun c13 => ?_)
    · refine lv_aload_n hx hb dX4_isSure_18 rfl (lv_at hl 0 rfl) ?_
      refine va_get (D := D) (ci := 4) (v := .ref kn) (C := RX4) (T := TX4) (N := 6) hx hb hts hinX4 hown hK hP 0 rfl rfl 3 (by decide) hf29 (fun _ h9 => h9) rfl dX4_isSure_19 ?_
      refine lv_aload_n hx hb dX4_isSure_22 rfl (lv_at hl 0 rfl) ?_
      refine va_get (D := D) (ci := 4) (v := .ref tr) (C := RX4) (T := TX4) (N := 6) hx hb hts hinX4 hown hK hP 0 rfl rfl 2 (by decide) hf23 (fun _ h9 => h9) rfl dX4_isSure_23 ?_
      refine lv_iconst (v := iI (-1)) hx hb dX4_isSure_26 (by decide +kernel) ?_
      refine iv_rwVv (As := [.ref tr, .int (iI (-1))]) (rest := []) (C := RX1) (n := 2) ⟨hx, hb, hml, hown, hts⟩ (c_X1_learnFrom l D yI yC yD kn ex pl E tr tc S g (-1) (by assumption) (by assumption) (by omega) _) (cwV 2 hts gX4_isSure_X1_learnFrom rfl rfl rfl (by decide +kernel) ⟨Nat.le_of_ble_eq_true rfl, Nat.le_of_ble_eq_true rfl⟩) hK hP hD hS hA [1, 2, 3, 4] (by decide) rfl 1 rfl rfl rfl hl.1 rfl (Nat.le_of_ble_eq_true rfl) dX4_isSure_27 ⟨Nat.zero_le _, Nat.zero_le _⟩ (fun _ => rfl) (fun u27 H locs hw27 hP hD hS => ?_)
      obtain ⟨G927, hu27⟩ : ∃ z, z = u27 := ⟨_, rfl⟩
      subst hu27
      have hE9_27 := hw27
      have hP : va_P D vwCl [(x, oRD tx nw tr kn me sl), (kn, oKn (S 0) ex), (ex, aI yI 1681 G927), (tr, oDrv tc S (lN (kL S 0 40))), (tc, aI yI 48 g)] H := hP
      have hD : va_D A [(x, oRD tx nw tr kn me sl), (kn, oKn (S 0) ex), (ex, aI yI 1681 G927), (tr, oDrv tc S (lN (kL S 0 40))), (tc, aI yI 48 g)] := hD
      refine lv_aload_n hx hb dX4_isSure_30 rfl (lv_at hl 0 rfl) ?_
      refine va_get (D := D) (ci := 4) (v := .ref kn) (C := RX4) (T := TX4) (N := 6) hx hb hts hinX4 hown hK hP 0 rfl rfl 3 (by decide) hf29 (fun _ h9 => h9) rfl dX4_isSure_31 ?_
      have hkr := knownOf_r (gb_FB hI (-1)) (i := i) (by omega)
      refine lv_iload_n hx hb dX4_isSure_34 rfl (lv_at hl 1 rfl) ?_
      refine iv_roV (As := [.int (iI i)]) (rest := []) (C := RX1) (n := 1) ⟨hx, hb, hml, hown, hts⟩ (c_X1_sure l D yI yC yD kn ex (S 0) G927 (FB S (-1)) i (by omega) (by assumption) (gb_FB hI _) (by omega)) (cwV 1 hts gX4_isSure_X1_sure rfl rfl rfl (by decide +kernel) ⟨Nat.le_of_ble_eq_true rfl, Nat.le_of_ble_eq_true rfl⟩) hK hP [1, 2] rfl 1 rfl rfl rfl hl.1 rfl (Nat.le_of_ble_eq_true rfl) dX4_isSure_35 ⟨Nat.zero_le _, Nat.zero_le _⟩ ?_
      refine lv_iload_n hx hb dX4_isSure_38 rfl (lv_at hl 2 rfl) ?_
      refine iv_icmp_ne (a := knownOf (FB S (-1)) i) (b := v) (tgt := 46) hx hb (by omega) (by omega) dX4_isSure_39 (by decide) (fun c39 => ?_) (fun c39 => ?_)
      · refine lv_iconst (v := iI 0) hx hb dX4_isSure_46 (by decide +kernel) ?_
        have hP9 : va_P D vwCl [(x, oRD tx nw tr kn me sl), (kn, oKn (S 0) ex), (ex, aI yI 1681 G927), (tr, oDrv tc S (lN (kL (S) 0 40))), (tc, aI yI 48 g)] _ := hP.sub [0, 1, 2, 3, 4] rfl
        exact W.zret hx hb hr (by decide +kernel) (fun t ht hW => ⟨⟨iI 0, (S 0, G927), rfl, ⟨congrArg iI (show 0 = pI (c5Ok S i v) by first | exact (pI_t ⟨by omega, by omega, by omega⟩).symm | (refine (pI_f (fun z => ?_)).symm; obtain ⟨z1, z2, z3⟩ := z; omega)), trivial⟩, by show va_P D vwCl _ t.heap; rw [ht]; exact hP9⟩, hS.F ht⟩) hS.2.2 dX4_isSure_47
      · refine lv_iconst (v := iI 1) hx hb dX4_isSure_42 (by decide +kernel) ?_
        refine lv_goto (tgt := 47) hx hb dX4_isSure_43 (by decide) ?_
        have hP9 : va_P D vwCl [(x, oRD tx nw tr kn me sl), (kn, oKn (S 0) ex), (ex, aI yI 1681 G927), (tr, oDrv tc S (lN (kL (S) 0 40))), (tc, aI yI 48 g)] _ := hP.sub [0, 1, 2, 3, 4] rfl
        exact W.zret hx hb hr (by decide +kernel) (fun t ht hW => ⟨⟨iI 1, (S 0, G927), rfl, ⟨congrArg iI (show 1 = pI (c5Ok S i v) by first | exact (pI_t ⟨by omega, by omega, by omega⟩).symm | (refine (pI_f (fun z => ?_)).symm; obtain ⟨z1, z2, z3⟩ := z; omega)), trivial⟩, by show va_P D vwCl _ t.heap; rw [ht]; exact hP9⟩, hS.F ht⟩) hS.2.2 dX4_isSure_47
    · refine lv_iconst (v := iI 0) hx hb dX4_isSure_16 (by decide +kernel) ?_
      have hP9 : va_P D vwCl [(x, oRD tx nw tr kn me sl), (kn, oKn pl ex), (ex, aI yI 1681 E), (tr, oDrv tc S (lN (kL (S) 0 40))), (tc, aI yI 48 g)] _ := hP.sub [0, 1, 2, 3, 4] rfl
      exact W.zret hx hb hr (by decide +kernel) (fun t ht hW => ⟨⟨iI 0, (pl, E), rfl, ⟨congrArg iI (show 0 = pI (c5Ok S i v) by first | exact (pI_t ⟨by omega, by omega, by omega⟩).symm | (refine (pI_f (fun z => ?_)).symm; obtain ⟨z1, z2, z3⟩ := z; omega)), trivial⟩, by show va_P D vwCl _ t.heap; rw [ht]; exact hP9⟩, hS.F ht⟩) hS.2.2 dX4_isSure_17
set_option maxHeartbeats 4000000 in
set_option maxRecDepth 100000 in
theorem c_X4_countSureOfTrial (l : Launch) (D : va_G) (yI yC yD : ClassId) (x : Nat) (tx : Nat) (nw : Nat) (tr : Nat) (kn : Nat) (me : Nat) (sl : Nat) (tc : Nat) (S : Int → Int) (g : Int → Int) (ex : Nat) (pl : Int) (E : Int → Int) (hI : Inv S) (hR : Rc S g) (sz : Nat) : Met l yX4_countSureOfTrial wsX4_countSureOfTrial ({ frames := 4, cells := 0, slots := 0, locals := 99 }) (rwP [.ref x] D (tyz yI yC yD) [(x, oRD tx nw tr kn me sl), (kn, oKn pl ex), (ex, aI yI 1681 E), (tr, oDrv tc S (lN (kL (S) 0 40))), (tc, aI yI 48 g)] sz) (va_Qi (fun (r : Int32) (u : Int × (Int → Int)) => match u with | (p9, E9) => r = iI (knownIn (FB S (-1)) (S 0)) ∧ True) (fun (u : Int × (Int → Int)) (t : State) => match u with | (p9, E9) => va_P D vwCl [(x, oRD tx nw tr kn me sl), (kn, oKn p9 ex), (ex, aI yI 1681 E9), (tr, oDrv tc S (lN (kL (S) 0 40))), (tc, aI yI 48 g)] t.heap) (va_A [(x, oRD tx nw tr kn me sl), (kn, oKn pl ex), (ex, aI yI 1681 E), (tr, oDrv tc S (lN (kL (S) 0 40))), (tc, aI yI 48 g)] sz)) 0 0 (va_A [(x, oRD tx nw tr kn me sl), (kn, oKn pl ex), (ex, aI yI 1681 E), (tr, oDrv tc S (lN (kL (S) 0 40))), (tc, aI yI 48 g)] sz) := by
  refine Met.ofW (cc := cX4_countSureOfTrial) (maxL := 1) (ret := (some .int)) (by decide) rfl ?_
  intro p e s m args below meth c s₁ B hml hv
  obtain ⟨rfl, hsz, hP, hK, hD0⟩ := hv
  have hx := B.exec
  have hb := B.bytes
  have hr := B.returns
  have hts := atoms_spec (ws := wsX4_countSureOfTrial) B.pre
  have hown : s.vm.findClass RX4 = some m.cls := findClass_of_methodNamed B.named
  have hlocks := B.notSynchronized
  subst hsz
  have hD := hD0.self (sz := s.heap.size)
  generalize hAe : va_A [(x, oRD tx nw tr kn me sl), (kn, oKn pl ex), (ex, aI yI 1681 E), (tr, oDrv tc S (lN (kL (S) 0 40))), (tc, aI yI 48 g)] s.heap.size = A at hD ⊢
  have hA : ∀ q : Nat, s.heap.size ≤ q → A q := fun q h => by rw [← hAe]; exact Or.inr h
  have hS : va_S A s.heap s.heap [] := va_S.rf
  have hP : va_P D vwCl [(x, oRD tx nw tr kn me sl), (kn, oKn pl ex), (ex, aI yI 1681 E), (tr, oDrv tc S (lN (kL (S) 0 40))), (tc, aI yI 48 g)] s.heap := hP
  have hinX4 : ∀ w ∈ wsX40, w ∈ wsX4_countSureOfTrial := by decide +kernel
  have hf23 : (Cond.fieldLink RX4 23 "RiddleDrive" "trial" "LRiddleDrive$Drive;").before _ s = true := hts _ (by decide +kernel)
  have hf29 : (Cond.fieldLink RX4 29 "RiddleDrive" "knowledge" "LRiddleDrive$Knowledge;").before _ s = true := hts _ (by decide +kernel)
  have hl := lv_entry ([.ref x]) (n := 1) (Nat.le_of_ble_eq_true rfl)
  rw [lg_entry_eq]
  generalize (lg_sl ([.ref x]) ++ List.replicate (1 - (lg_sl ([.ref x])).length) Slot.unset).toArray = ls at hl ⊢
  have hl : lv_has ls 1 [(0, .ref x)] := hl
  have hpl := hI.pl
  have hna := hI.na
  have hse := hI.se
  have hwi := hI.wi
  have hfe := hI.fe
  refine lv_aload_n hx hb dX4_countSureOfTrial_0 rfl (lv_at hl 0 rfl) ?_
  refine va_get (D := D) (ci := 4) (v := .ref kn) (C := RX4) (T := TX4) (N := 6) hx hb hts hinX4 hown hK hP 0 rfl rfl 3 (by decide) hf29 (fun _ h9 => h9) rfl dX4_countSureOfTrial_1 ?_
  refine lv_aload_n hx hb dX4_countSureOfTrial_4 rfl (lv_at hl 0 rfl) ?_
  refine va_get (D := D) (ci := 4) (v := .ref tr) (C := RX4) (T := TX4) (N := 6) hx hb hts hinX4 hown hK hP 0 rfl rfl 2 (by decide) hf23 (fun _ h9 => h9) rfl dX4_countSureOfTrial_5 ?_
  refine lv_iconst (v := iI (-1)) hx hb dX4_countSureOfTrial_8 (by decide +kernel) ?_
  refine iv_rwVv (As := [.ref tr, .int (iI (-1))]) (rest := []) (C := RX1) (n := 2) ⟨hx, hb, hml, hown, hts⟩ (c_X1_learnFrom l D yI yC yD kn ex pl E tr tc S g (-1) (by assumption) (by assumption) (by omega) _) (cwV 2 hts gX4_countSureOfTrial_X1_learnFrom rfl rfl rfl (by decide +kernel) ⟨Nat.le_of_ble_eq_true rfl, Nat.le_of_ble_eq_true rfl⟩) hK hP hD hS hA [1, 2, 3, 4] (by decide) rfl 1 rfl rfl rfl hl.1 rfl (Nat.le_of_ble_eq_true rfl) dX4_countSureOfTrial_9 ⟨Nat.zero_le _, Nat.zero_le _⟩ (fun _ => rfl) (fun u9 H locs hw9 hP hD hS => ?_)
  obtain ⟨G99, hu9⟩ : ∃ z, z = u9 := ⟨_, rfl⟩
  subst hu9
  have hE9_9 := hw9
  have hP : va_P D vwCl [(x, oRD tx nw tr kn me sl), (kn, oKn (S 0) ex), (ex, aI yI 1681 G99), (tr, oDrv tc S (lN (kL S 0 40))), (tc, aI yI 48 g)] H := hP
  have hD : va_D A [(x, oRD tx nw tr kn me sl), (kn, oKn (S 0) ex), (ex, aI yI 1681 G99), (tr, oDrv tc S (lN (kL S 0 40))), (tc, aI yI 48 g)] := hD
  refine lv_aload_n hx hb dX4_countSureOfTrial_12 rfl (lv_at hl 0 rfl) ?_
  refine va_get (D := D) (ci := 4) (v := .ref kn) (C := RX4) (T := TX4) (N := 6) hx hb hts hinX4 hown hK hP 0 rfl rfl 3 (by decide) hf29 (fun _ h9 => h9) rfl dX4_countSureOfTrial_13 ?_
  refine iv_roV (As := []) (rest := []) (C := RX1) (n := 0) ⟨hx, hb, hml, hown, hts⟩ (c_X1_countSure l D yI yC yD kn ex (S 0) G99 (FB S (-1)) (by omega) (by assumption) (gb_FB hI _)) (cwV 0 hts gX4_countSureOfTrial_X1_countSure rfl rfl rfl (by decide +kernel) ⟨Nat.le_of_ble_eq_true rfl, Nat.le_of_ble_eq_true rfl⟩) hK hP [1, 2] rfl 1 rfl rfl rfl hl.1 rfl (Nat.le_of_ble_eq_true rfl) dX4_countSureOfTrial_16 ⟨Nat.zero_le _, Nat.zero_le _⟩ ?_
  have hP9 : va_P D vwCl [(x, oRD tx nw tr kn me sl), (kn, oKn (S 0) ex), (ex, aI yI 1681 G99), (tr, oDrv tc S (lN (kL (S) 0 40))), (tc, aI yI 48 g)] _ := hP.sub [0, 1, 2, 3, 4] rfl
  exact W.iret hx hb hr (fun t ht hW => ⟨⟨iI (kCnt (FB S (-1)) (S 0).toNat), (S 0, G99), rfl, ⟨congrArg iI (show kCnt (FB S (-1)) (S 0).toNat = knownIn (FB S (-1)) (S 0) by exact kCnt_known hI), trivial⟩, by show va_P D vwCl _ t.heap; rw [ht]; exact hP9⟩, hS.F ht⟩) hS.2.2 dX4_countSureOfTrial_19
