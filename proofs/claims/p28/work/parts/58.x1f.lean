set_option maxHeartbeats 4000000 in
set_option maxRecDepth 100000 in
theorem c_X1_learnFrom (l : Launch) (D : va_G) (yI yC yD : ClassId) (kn : Nat) (ex : Nat) (pl : Int) (E : Int → Int) (d : Nat) (dc : Nat) (S : Int → Int) (g : Int → Int) (wo : Int) (hI : Inv S) (hR : Rc S g) (hwo : inR wo) (sz : Nat) : Met l yX1_learnFrom wsX1_learnFrom ({ frames := 3, cells := 0, slots := 0, locals := 74 }) (rwP [.ref kn, .ref d, .int (iI wo)] D (tyz yI yC yD) [(kn, oKn pl ex), (ex, aI yI 1681 E), (d, oDrv dc S (lN (kL S 0 40))), (dc, aI yI 48 g)] sz) (va_Qv (fun (G9 : (Int → Int)) => Ek G9 (FB S wo) (S 0)) (fun (G9 : (Int → Int)) (t : State) => va_P D vwCl [(kn, oKn (S 0) ex), (ex, aI yI 1681 G9), (d, oDrv dc S (lN (kL S 0 40))), (dc, aI yI 48 g)] t.heap) (va_A [(kn, oKn pl ex), (ex, aI yI 1681 E), (d, oDrv dc S (lN (kL S 0 40))), (dc, aI yI 48 g)] sz)) 0 0 (va_A [(kn, oKn pl ex), (ex, aI yI 1681 E), (d, oDrv dc S (lN (kL S 0 40))), (dc, aI yI 48 g)] sz) := by
  refine Met.ofW (cc := cX1_learnFrom) (maxL := 6) (ret := none) (by decide) rfl ?_
  intro p e s m args below meth c s₁ B hml hv
  obtain ⟨rfl, hsz, hP, hK, hD0⟩ := hv
  have hx := B.exec
  have hb := B.bytes
  have hr := B.returns
  have hts := atoms_spec (ws := wsX1_learnFrom) B.pre
  have hown : s.vm.findClass RX1 = some m.cls := findClass_of_methodNamed B.named
  have hlocks := B.notSynchronized
  subst hsz
  have hD := hD0.self (sz := s.heap.size)
  generalize hAe : va_A [(kn, oKn pl ex), (ex, aI yI 1681 E), (d, oDrv dc S (lN (kL S 0 40))), (dc, aI yI 48 g)] s.heap.size = A at hD ⊢
  have hA : ∀ q : Nat, s.heap.size ≤ q → A q := fun q h => by rw [← hAe]; exact Or.inr h
  have hS : va_S A s.heap s.heap [] := va_S.rf
  have hP : va_P D vwCl [(kn, oKn pl ex), (ex, aI yI 1681 E), (d, oDrv dc S (lN (kL S 0 40))), (dc, aI yI 48 g)] s.heap := hP
  have hinX0 : ∀ w ∈ wsX00, w ∈ wsX1_learnFrom := by decide +kernel
  have hinX1 : ∀ w ∈ wsX10, w ∈ wsX1_learnFrom := by decide +kernel
  have hf15 : (Cond.fieldLink RX1 15 "RiddleDrive$Drive" "places" "I").before _ s = true := hts _ (by decide +kernel)
  have hf21 : (Cond.fieldLink RX1 21 "RiddleDrive$Knowledge" "places" "I").before _ s = true := hts _ (by decide +kernel)
  have hf25 : (Cond.fieldLink RX1 25 "RiddleDrive$Drive" "answers" "I").before _ s = true := hts _ (by decide +kernel)
  have hl := lv_entry ([.ref kn, .ref d, .int (iI wo)]) (n := 6) (Nat.le_of_ble_eq_true rfl)
  rw [lg_entry_eq]
  generalize (lg_sl ([.ref kn, .ref d, .int (iI wo)]) ++ List.replicate (6 - (lg_sl ([.ref kn, .ref d, .int (iI wo)])).length) Slot.unset).toArray = ls at hl ⊢
  have hl : lv_has ls 6 [(0, .ref kn), (1, .ref d), (2, .int (iI wo))] := hl
  have hpl := hI.pl
  have hna := hI.na
  have hse := hI.se
  have hwi := hI.wi
  have hfe := hI.fe
  refine lv_aload_n hx hb dX1_learnFrom_0 rfl (lv_at hl 0 rfl) ?_
  refine lv_aload_n hx hb dX1_learnFrom_1 rfl (lv_at hl 1 rfl) ?_
  refine va_get (D := D) (ci := 0) (v := .int (iI (S 0))) (C := RX0) (T := TX0) (N := 10) hx hb hts hinX0 hown hK hP 2 rfl rfl 0 (by decide) hf15 (fun _ h9 => h9) rfl dX1_learnFrom_2 ?_
  refine va_put (D := D) (ci := 1) (v := .int (iI (S 0))) (ty := .int) (C := RX1) (T := TX1) (N := 2) hx hb hts hinX1 tyX1 tyX1_ok nmX1 hown hK hP hD hS 0 rfl rfl 0 (by decide) hf21 (fun _ h9 => h9) rfl (by decide +kernel) rfl rfl (Nat.le_of_ble_eq_true rfl) dX1_learnFrom_5 (fun H locs hP hD hS => ?_)
  have hP : va_P D vwCl [(kn, oKn (S 0) ex), (ex, aI yI 1681 E), (d, oDrv dc S (lN (kL S 0 40))), (dc, aI yI 48 g)] H := hP
  have hD : va_D A [(kn, oKn (S 0) ex), (ex, aI yI 1681 E), (d, oDrv dc S (lN (kL S 0 40))), (dc, aI yI 48 g)] := hD
  refine lv_aload_n hx hb dX1_learnFrom_8 rfl (lv_at hl 0 rfl) ?_
  refine iv_rwVv (As := []) (rest := []) (C := RX1) (n := 0) ⟨hx, hb, hml, hown, hts⟩ (c_X1_learnNothing l D yI yC yD kn ex (S 0) E (by omega) _) (cwV 0 hts gX1_learnFrom_X1_learnNothing rfl rfl rfl (by decide +kernel) ⟨Nat.le_of_ble_eq_true rfl, Nat.le_of_ble_eq_true rfl⟩) hK hP hD hS hA [0, 1] (by decide) rfl 0 rfl rfl rfl hl.1 rfl (Nat.le_of_ble_eq_true rfl) dX1_learnFrom_9 ⟨Nat.zero_le _, Nat.zero_le _⟩ (fun _ => rfl) (fun u9 H locs hw9 hP hD hS => ?_)
  obtain ⟨G99, hu9⟩ : ∃ z, z = u9 := ⟨_, rfl⟩
  subst hu9
  have hE9_9 := hw9
  have hP : va_P D vwCl [(kn, oKn (S 0) ex), (ex, aI yI 1681 G99), (d, oDrv dc S (lN (kL S 0 40))), (dc, aI yI 48 g)] H := hP
  have hD : va_D A [(kn, oKn (S 0) ex), (ex, aI yI 1681 G99), (d, oDrv dc S (lN (kL S 0 40))), (dc, aI yI 48 g)] := hD
  refine lv_iconst (v := iI 0) hx hb dX1_learnFrom_12 (by decide +kernel) ?_
  refine lv_istore_n (lv' := [(3, .int (iI 0)), (0, .ref kn), (1, .ref d), (2, .int (iI wo))]) hx hb dX1_learnFrom_13 rfl hl (by decide) rfl (fun ls hl => ?_)
  refine iv_loop (I := fun (qq : Nat × Int × (Int → Int)) H locs ls => match qq with | (n, x3, G) => ((n : Int) ≤ S 4) ∧ (x3 = n) ∧ (Ek G (fb S wo n) (S 0)) ∧ va_P D vwCl [(kn, oKn (S 0) ex), (ex, aI yI 1681 G), (d, oDrv dc S (lN (kL S 0 40))), (dc, aI yI 48 g)] H ∧ va_D A [(kn, oKn (S 0) ex), (ex, aI yI 1681 G), (d, oDrv dc S (lN (kL S 0 40))), (dc, aI yI 48 g)] ∧ va_S A s.heap H locs ∧ lv_has ls 6 [(3, .int (iI x3)), (0, .ref kn), (1, .ref d), (2, .int (iI wo))]) (μ := fun (qq : Nat × Int × (Int → Int)) => match qq with | (n, x3, G) => (S 4).toNat - n) (0, 0, G99) ?_ ?_
  · exact ⟨by omega, by omega, by assumption, hP, hD, hS, lv_sub hl [0, 1, 2, 3] rfl⟩
  · intro qq H locs ls hI ih14
    obtain ⟨n, x3, G⟩ := qq
    obtain ⟨hn, h3, hAA, hP, hD, hS, hl⟩ := hI
    refine lv_iload_n hx hb dX1_learnFrom_14 rfl (lv_at hl 0 rfl) ?_
    refine lv_aload_n hx hb dX1_learnFrom_15 rfl (lv_at hl 2 rfl) ?_
    refine va_get (D := D) (ci := 0) (v := .int (iI (S 4))) (C := RX0) (T := TX0) (N := 10) hx hb hts hinX0 hown hK hP 2 rfl rfl 4 (by decide) hf25 (fun _ h9 => h9) rfl dX1_learnFrom_16 ?_
    refine iv_icmp_ge (a := x3) (b := S 4) (tgt := 78) hx hb (by omega) (by omega) dX1_learnFrom_19 (by decide) (fun c19 => ?_) (fun c19 => ?_)
    · have hP9 : va_P D vwCl [(kn, oKn (S 0) ex), (ex, aI yI 1681 G), (d, oDrv dc S (lN (kL S 0 40))), (dc, aI yI 48 g)] _ := hP.sub [0, 1, 2, 3] rfl
      exact W.vret hx hb hr (fun t ht hW => ⟨⟨G, rfl, (by rw [show FB S wo = fb S wo n from congrArg (fb S wo) (by omega)]; exact hAA), by show va_P D vwCl _ t.heap; rw [ht]; exact hP9⟩, hS.F ht⟩) hS.2.2 dX1_learnFrom_78
    · refine lv_iload_n hx hb dX1_learnFrom_22 rfl (lv_at hl 0 rfl) ?_
      refine lv_iload_n hx hb dX1_learnFrom_23 rfl (lv_at hl 3 rfl) ?_
      refine iv_icmp_eq (a := x3) (b := wo) (tgt := 72) hx hb (by omega) (by omega) dX1_learnFrom_24 (by decide) (fun c24 => ?_) (fun c24 => ?_)
      · refine iv_inc (lv' := [(3, .int (iI (x3 + 1))), (0, .ref kn), (1, .ref d), (2, .int (iI wo))]) hx hb dX1_learnFrom_72 hl (k := 0) rfl (by decide) rfl (fun ls hl => ?_)
        refine lv_goto (tgt := 14) hx hb dX1_learnFrom_75 (by decide) ?_
        refine ih14 (n + 1, x3 + 1, G) _ _ (by show ((S 4).toNat - (n + 1) : Nat) < (S 4).toNat - n; omega) ?_
        exact ⟨by omega, by omega, by first | (refine ek_lf hI (by omega) (by omega) ?_; assumption) | (rw [show fb S wo (n + 1) = fb S wo n from if_pos (by omega)]; exact hAA), hP, hD, hS, lv_sub hl [0, 1, 2, 3] rfl⟩
      · have hns : (n : Int) < S 4 := by omega
        have hT0 := tri_fb hI wo n (by omega)
        have hGn : GB (fb S wo n) := gb_fb hI wo (by omega)
        obtain ⟨haw, haw2, _, _⟩ := ans_w hI (n := n) (by omega) hns
        have han := hI.ans (i := n) (by omega) hns
        have hwT : -1000 ≤ lwT S n ∧ lwT S n ≤ 1000 := by unfold lwT; split <;> omega
        have hwF : -1000 ≤ lwF S n ∧ lwF S n ≤ 1000 := by unfold lwF; split <;> omega
        have q5 : 0 ≤ lwT S n + fb S wo n (41 * (an S n 1 + 1) + an S n 0) := fb_h5 hI wo hns
        have g5 : GB (bnd (fb S wo n) (an S n 0) (an S n 1 + 1) (lwT S n)) := (lf_pot hI wo hns).GB hI
        have t5 : Tri (bnd (fb S wo n) (an S n 0) (an S n 1 + 1) (lwT S n)) (S 0) := tri_bnd (by omega) hT0 (by omega) (by omega) q5
        have q6 : 0 ≤ -lwF S n + (bnd (fb S wo n) (an S n 0) (an S n 1 + 1) (lwT S n)) (41 * an S n 0 + (an S n 1 + 1)) := lf_cyc hI wo hns
        have g6 : GB (bnd (bnd (fb S wo n) (an S n 0) (an S n 1 + 1) (lwT S n)) (an S n 1 + 1) (an S n 0) (-lwF S n)) := lf_gb hI wo hns
        have r0 : g (x3 * 4 + 0) = an S n 0 := by rw [h3]; exact hR n 0 (by omega) (by omega) (by omega) (by omega)
        have r1 : g (x3 * 4 + 1) = an S n 1 := by rw [h3]; exact hR n 1 (by omega) (by omega) (by omega) (by omega)
        have rT : (if an S x3 2 = -2 then S 2 - 1 else an S x3 2) = lwT S n := by rw [h3]; rfl
        have rF : (if an S x3 2 = -2 then 0 else an S x3 2) = lwF S n := by rw [h3]; rfl
        refine lv_aload_n hx hb dX1_learnFrom_27 rfl (lv_at hl 2 rfl) ?_
        refine lv_iload_n hx hb dX1_learnFrom_28 rfl (lv_at hl 0 rfl) ?_
        refine lv_iconst (v := iI 0) hx hb dX1_learnFrom_29 (by decide +kernel) ?_
        refine iv_roV (As := [.int (iI x3), .int (iI 0)]) (rest := []) (C := RX0) (n := 2) ⟨hx, hb, hml, hown, hts⟩ (c_X0_cell l D yI yC yD d dc S g (lN (kL S 0 40)) x3 0 (by omega) (by omega)) (cwV 2 hts gX1_learnFrom_X0_cell rfl rfl rfl (by decide +kernel) ⟨Nat.le_of_ble_eq_true rfl, Nat.le_of_ble_eq_true rfl⟩) hK hP [2, 3] rfl 2 rfl rfl rfl hl.1 rfl (Nat.le_of_ble_eq_true rfl) dX1_learnFrom_30 ⟨Nat.zero_le _, Nat.zero_le _⟩ ?_
        rw [show (g (x3 * 4 + 0) : Int) = an S n 0 from (r0)]
        refine lv_istore (lv' := [(4, .int (iI (an S n 0))), (3, .int (iI x3)), (0, .ref kn), (1, .ref d), (2, .int (iI wo))]) hx hb dX1_learnFrom_33 hl (by decide) rfl (fun ls hl => ?_)
        refine lv_aload_n hx hb dX1_learnFrom_35 rfl (lv_at hl 3 rfl) ?_
        refine lv_iload_n hx hb dX1_learnFrom_36 rfl (lv_at hl 1 rfl) ?_
        refine lv_iconst (v := iI 1) hx hb dX1_learnFrom_37 (by decide +kernel) ?_
        refine iv_roV (As := [.int (iI x3), .int (iI 1)]) (rest := []) (C := RX0) (n := 2) ⟨hx, hb, hml, hown, hts⟩ (c_X0_cell l D yI yC yD d dc S g (lN (kL S 0 40)) x3 1 (by omega) (by omega)) (cwV 2 hts gX1_learnFrom_X0_cell rfl rfl rfl (by decide +kernel) ⟨Nat.le_of_ble_eq_true rfl, Nat.le_of_ble_eq_true rfl⟩) hK hP [2, 3] rfl 2 rfl rfl rfl hl.1 rfl (Nat.le_of_ble_eq_true rfl) dX1_learnFrom_38 ⟨Nat.zero_le _, Nat.zero_le _⟩ ?_
        rw [show (g (x3 * 4 + 1) : Int) = an S n 1 from (r1)]
        refine lv_iconst (v := iI 1) hx hb dX1_learnFrom_41 (by decide +kernel) ?_
        refine iv_add hx hb dX1_learnFrom_42 ?_
        refine lv_istore (lv' := [(5, .int (iI (an S n 1 + 1))), (4, .int (iI (an S n 0))), (3, .int (iI x3)), (0, .ref kn), (1, .ref d), (2, .int (iI wo))]) hx hb dX1_learnFrom_43 hl (by decide) rfl (fun ls hl => ?_)
        refine lv_aload_n hx hb dX1_learnFrom_45 rfl (lv_at hl 3 rfl) ?_
        refine lv_iload hx hb dX1_learnFrom_46 (lv_at hl 1 rfl) ?_
        refine lv_iload hx hb dX1_learnFrom_48 (lv_at hl 0 rfl) ?_
        refine lv_aload_n hx hb dX1_learnFrom_50 rfl (lv_at hl 4 rfl) ?_
        refine lv_iload_n hx hb dX1_learnFrom_51 rfl (lv_at hl 2 rfl) ?_
        refine iv_roV (As := [.int (iI x3)]) (rest := [.int (iI (an S n 1 + 1)), .int (iI (an S n 0)), .ref kn]) (C := RX0) (n := 1) ⟨hx, hb, hml, hown, hts⟩ (c_X0_greatestTold l D yI yC yD d dc S g x3 (by assumption) (by assumption) (by omega)) (cwV 1 hts gX1_learnFrom_X0_greatestTold rfl rfl rfl (by decide +kernel) ⟨Nat.le_of_ble_eq_true rfl, Nat.le_of_ble_eq_true rfl⟩) hK hP [2, 3] rfl 2 rfl rfl rfl hl.1 rfl (Nat.le_of_ble_eq_true rfl) dX1_learnFrom_52 ⟨Nat.zero_le _, Nat.zero_le _⟩ ?_
        rw [show (if an S x3 2 = -2 then S 2 - 1 else an S x3 2 : Int) = lwT S n from (rT)]
        refine iv_rwVv (As := [.int (iI (an S n 0)), .int (iI (an S n 1 + 1)), .int (iI (lwT S n))]) (rest := []) (C := RX1) (n := 3) ⟨hx, hb, hml, hown, hts⟩ (c_X1_bound l D yI yC yD kn ex (S 0) G (fb S wo n) (an S n 0) (an S n 1 + 1) (lwT S n) (by omega) (by assumption) (by assumption) (by omega) (by assumption) (by assumption) _) (cwV 3 hts gX1_learnFrom_X1_bound rfl rfl rfl (by decide +kernel) ⟨Nat.le_of_ble_eq_true rfl, Nat.le_of_ble_eq_true rfl⟩) hK hP hD hS hA [0, 1] (by decide) rfl 0 rfl rfl rfl hl.1 rfl (Nat.le_of_ble_eq_true rfl) dX1_learnFrom_55 ⟨Nat.zero_le _, Nat.zero_le _⟩ (fun _ => rfl) (fun u55 H locs hw55 hP hD hS => ?_)
        obtain ⟨G955, hu55⟩ : ∃ z, z = u55 := ⟨_, rfl⟩
        subst hu55
        have hE9_55 := hw55
        have hP : va_P D vwCl [(kn, oKn (S 0) ex), (ex, aI yI 1681 G955), (d, oDrv dc S (lN (kL S 0 40))), (dc, aI yI 48 g)] H := hP
        have hD : va_D A [(kn, oKn (S 0) ex), (ex, aI yI 1681 G955), (d, oDrv dc S (lN (kL S 0 40))), (dc, aI yI 48 g)] := hD
        refine lv_aload_n hx hb dX1_learnFrom_58 rfl (lv_at hl 3 rfl) ?_
        refine lv_iload hx hb dX1_learnFrom_59 (lv_at hl 0 rfl) ?_
        refine lv_iload hx hb dX1_learnFrom_61 (lv_at hl 1 rfl) ?_
        refine lv_aload_n hx hb dX1_learnFrom_63 rfl (lv_at hl 4 rfl) ?_
        refine lv_iload_n hx hb dX1_learnFrom_64 rfl (lv_at hl 2 rfl) ?_
        refine iv_roV (As := [.int (iI x3)]) (rest := [.int (iI (an S n 0)), .int (iI (an S n 1 + 1)), .ref kn]) (C := RX0) (n := 1) ⟨hx, hb, hml, hown, hts⟩ (c_X0_fewestTold l D yI yC yD d dc S g x3 (by assumption) (by assumption) (by omega)) (cwV 1 hts gX1_learnFrom_X0_fewestTold rfl rfl rfl (by decide +kernel) ⟨Nat.le_of_ble_eq_true rfl, Nat.le_of_ble_eq_true rfl⟩) hK hP [2, 3] rfl 2 rfl rfl rfl hl.1 rfl (Nat.le_of_ble_eq_true rfl) dX1_learnFrom_65 ⟨Nat.zero_le _, Nat.zero_le _⟩ ?_
        rw [show (if an S x3 2 = -2 then 0 else an S x3 2 : Int) = lwF S n from (rF)]
        refine iv_neg hx hb dX1_learnFrom_68 ?_
        refine iv_rwVv (As := [.int (iI (an S n 1 + 1)), .int (iI (an S n 0)), .int (iI (-(lwF S n)))]) (rest := []) (C := RX1) (n := 3) ⟨hx, hb, hml, hown, hts⟩ (c_X1_bound l D yI yC yD kn ex (S 0) G955 (bnd (fb S wo n) (an S n 0) (an S n 1 + 1) (lwT S n)) (an S n 1 + 1) (an S n 0) (-(lwF S n)) (by omega) (by assumption) (by assumption) (by omega) (by assumption) (by assumption) _) (cwV 3 hts gX1_learnFrom_X1_bound rfl rfl rfl (by decide +kernel) ⟨Nat.le_of_ble_eq_true rfl, Nat.le_of_ble_eq_true rfl⟩) hK hP hD hS hA [0, 1] (by decide) rfl 0 rfl rfl rfl hl.1 rfl (Nat.le_of_ble_eq_true rfl) dX1_learnFrom_69 ⟨Nat.zero_le _, Nat.zero_le _⟩ (fun _ => rfl) (fun u69 H locs hw69 hP hD hS => ?_)
        obtain ⟨G969, hu69⟩ : ∃ z, z = u69 := ⟨_, rfl⟩
        subst hu69
        have hE9_69 := hw69
        have hP : va_P D vwCl [(kn, oKn (S 0) ex), (ex, aI yI 1681 G969), (d, oDrv dc S (lN (kL S 0 40))), (dc, aI yI 48 g)] H := hP
        have hD : va_D A [(kn, oKn (S 0) ex), (ex, aI yI 1681 G969), (d, oDrv dc S (lN (kL S 0 40))), (dc, aI yI 48 g)] := hD
        refine iv_inc (lv' := [(3, .int (iI (x3 + 1))), (5, .int (iI (an S n 1 + 1))), (4, .int (iI (an S n 0))), (0, .ref kn), (1, .ref d), (2, .int (iI wo))]) hx hb dX1_learnFrom_72 hl (k := 2) rfl (by decide) rfl (fun ls hl => ?_)
        refine lv_goto (tgt := 14) hx hb dX1_learnFrom_75 (by decide) ?_
        refine ih14 (n + 1, x3 + 1, G969) _ _ (by show ((S 4).toNat - (n + 1) : Nat) < (S 4).toNat - n; omega) ?_
        exact ⟨by omega, by omega, by first | (refine ek_lf hI (by omega) (by omega) ?_; assumption) | (rw [show fb S wo (n + 1) = fb S wo n from if_pos (by omega)]; exact hAA), hP, hD, hS, lv_sub hl [0, 3, 4, 5] rfl⟩
