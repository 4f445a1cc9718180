theorem kCnt_c {S : Int → Int} (hI : Inv S) (wo : Int) : ∀ n : Nat, (n : Int) ≤ S 0 → kCnt (FB S wo) n = knownC (FB S wo) n
  | 0, _ => rfl
  | n + 1, h => by
    have hpl := hI.pl
    have ih := kCnt_c hI wo n (by omega)
    have h1 := ml_r (wo := wo) (a := n) (b := n) hpl.2 (by omega)
    show kCnt (FB S wo) n + (if _ then _ else _) = knownC (FB S wo) n + (if _ then _ else _)
    rw [ih]
    congr 1
    by_cases h2 : mostI (FB S wo) n n = leastI (FB S wo) n n
    · simp only [knownOf, if_pos h2]
      exact if_pos (by omega)
    · simp only [knownOf, if_neg h2]
      exact if_neg (fun q => q rfl)
theorem kCnt_known {S : Int → Int} (hI : Inv S) {wo : Int} : kCnt (FB S wo) (S 0).toNat = knownIn (FB S wo) (S 0) := by
  have hpl := hI.pl
  exact kCnt_c hI wo _ (by omega)
set_option maxHeartbeats 4000000 in
set_option maxRecDepth 100000 in
theorem c_X4_about (l : Launch) (hla : l.stackTraces = false) (D : va_G) (yI yC yD : ClassId) (x : Nat) (tx : Nat) (nw : Nat) (tr : Nat) (kn : Nat) (me : Nat) (sl : Nat) (nc : Nat) (S : Int → Int) (g : Int → Int) (ex : Nat) (pl : Int) (E : Int → Int) (w : Int) (hI : Inv S) (hR : Rc S g) (hw9 : inR w) (sz : Nat) : vx_Met l yX4_about wsX4_about ({ frames := 6, cells := 8, slots := 150, locals := 99 }) (vxP [.ref x, .int (iI w)] D (tyz yI yC yD) [(x, oRD tx nw tr kn me sl), (nw, oDrv nc S (lN (kL (S) 0 40))), (nc, aI yI 48 g), (kn, oKn pl ex), (ex, aI yI 1681 E)] sz) (va_Qi (fun (r : Int32) (u : Int × (Int → Int)) => match u with | (p9, E9) => r = iI (abt S w) ∧ 0 ≤ w ∧ w ≤ 9) (fun (u : Int × (Int → Int)) (t : State) => match u with | (p9, E9) => va_P D vwCl [(x, oRD tx nw tr kn me sl), (nw, oDrv nc S (lN (kL (S) 0 40))), (nc, aI yI 48 g), (kn, oKn p9 ex), (ex, aI yI 1681 E9)] t.heap) (va_A [(x, oRD tx nw tr kn me sl), (nw, oDrv nc S (lN (kL (S) 0 40))), (nc, aI yI 48 g), (kn, oKn pl ex), (ex, aI yI 1681 E)] sz)) (vxX D (fun E => E = eA ∧ ¬ (0 ≤ w ∧ w ≤ 9)) (fun (_ : Unit) => [(x, oRD tx nw tr kn me sl), (nw, oDrv nc S (lN (kL (S) 0 40))), (nc, aI yI 48 g), (kn, oKn pl ex), (ex, aI yI 1681 E)]) (va_A [(x, oRD tx nw tr kn me sl), (nw, oDrv nc S (lN (kL (S) 0 40))), (nc, aI yI 48 g), (kn, oKn pl ex), (ex, aI yI 1681 E)] sz)) 8 150 (va_A [(x, oRD tx nw tr kn me sl), (nw, oDrv nc S (lN (kL (S) 0 40))), (nc, aI yI 48 g), (kn, oKn pl ex), (ex, aI yI 1681 E)] sz) := by
  refine vx_ofW (cc := cX4_about) (maxL := 2) (ret := (some .int)) (by decide) rfl ?_
  intro p e s m args below meth c s₁ B hml hno hv
  obtain ⟨rfl, hsz, hP, hK, hD0, hB⟩ := hv
  have hx := B.exec
  have hb := B.bytes
  have hr := B.returns
  have hts := atoms_spec (ws := wsX4_about) B.pre
  have hown : s.vm.findClass RX4 = some m.cls := findClass_of_methodNamed B.named
  have hlocks := B.notSynchronized
  subst hsz
  have hD := hD0.self (sz := s.heap.size)
  generalize hAe : va_A [(x, oRD tx nw tr kn me sl), (nw, oDrv nc S (lN (kL (S) 0 40))), (nc, aI yI 48 g), (kn, oKn pl ex), (ex, aI yI 1681 E)] s.heap.size = A at hD hB ⊢
  have hA : ∀ q : Nat, s.heap.size ≤ q → A q := fun q h => by rw [← hAe]; exact Or.inr h
  have hS : va_S A s.heap s.heap [] := va_S.rf
  have hP : va_P D vwCl [(x, oRD tx nw tr kn me sl), (nw, oDrv nc S (lN (kL (S) 0 40))), (nc, aI yI 48 g), (kn, oKn pl ex), (ex, aI yI 1681 E)] s.heap := hP
  have hinX0 : ∀ w ∈ wsX00, w ∈ wsX4_about := by decide +kernel
  have hinX4 : ∀ w ∈ wsX40, w ∈ wsX4_about := by decide +kernel
  have hf19 : (Cond.fieldLink RX4 19 "RiddleDrive" "now" "LRiddleDrive$Drive;").before _ s = true := hts _ (by decide +kernel)
  have hf29 : (Cond.fieldLink RX4 29 "RiddleDrive" "knowledge" "LRiddleDrive$Knowledge;").before _ s = true := hts _ (by decide +kernel)
  have hf91 : (Cond.fieldLink RX4 91 "RiddleDrive$Drive" "places" "I").before _ s = true := hts _ (by decide +kernel)
  have hf98 : (Cond.fieldLink RX4 98 "RiddleDrive$Drive" "width" "I").before _ s = true := hts _ (by decide +kernel)
  have hf101 : (Cond.fieldLink RX4 101 "RiddleDrive$Drive" "secrecy" "I").before _ s = true := hts _ (by decide +kernel)
  have hf104 : (Cond.fieldLink RX4 104 "RiddleDrive$Drive" "fee" "I").before _ s = true := hts _ (by decide +kernel)
  have hf107 : (Cond.fieldLink RX4 107 "RiddleDrive$Drive" "answers" "I").before _ s = true := hts _ (by decide +kernel)
  have hf110 : (Cond.fieldLink RX4 110 "RiddleDrive$Drive" "paid" "I").before _ s = true := hts _ (by decide +kernel)
  have hf113 : (Cond.fieldLink RX4 113 "RiddleDrive$Drive" "asked" "I").before _ s = true := hts _ (by decide +kernel)
  have hf116 : (Cond.fieldLink RX4 116 "RiddleDrive$Drive" "forgotten" "I").before _ s = true := hts _ (by decide +kernel)
  have hl := lv_entry ([.ref x, .int (iI w)]) (n := 2) (Nat.le_of_ble_eq_true rfl)
  rw [lg_entry_eq]
  generalize (lg_sl ([.ref x, .int (iI w)]) ++ List.replicate (2 - (lg_sl ([.ref x, .int (iI w)])).length) Slot.unset).toArray = ls at hl ⊢
  have hl : lv_has ls 2 [(0, .ref x), (1, .int (iI w))] := hl
  have hpl := hI.pl
  have hna := hI.na
  have hse := hI.se
  have hwi := hI.wi
  have hfe := hI.fe
  refine lv_iload_n hx hb dX4_about_0 rfl (lv_at hl 1 rfl) ?_
  have hsw : (iI w).toInt = w := iI_toInt (by omega)
  rcases (show w < 0 ∨ 9 < w ∨ w = 0 ∨ w = 1 ∨ w = 2 ∨ w = 3 ∨ w = 4 ∨ w = 5 ∨ w = 6 ∨ w = 7 ∨ w = 8 ∨ w = 9 by omega) with csw | csw | csw | csw | csw | csw | csw | csw | csw | csw | csw | csw
  · refine lv_tableOut (tgt := 148) hx hb dX4_about_1 (by rw [hsw]; exact Or.inl csw) (by decide) ?_
    exact iv_thrG (ic := 52) (ik := 48) (is := 126) (cls := eA) (text := "no such number") hx hb hla hown bfA xfA xgA hB.1.1 hts (fun w h => List.mem_cons_of_mem _ (List.mem_append_right _ h)) (by decide +kernel) (by decide +kernel) hB hS (()) (by exact hP) (⟨rfl, by omega⟩) (hl.1.trans hml.symm) hlocks hno (by decide +kernel) ⟨Nat.le_of_ble_eq_true rfl, Nat.le_of_ble_eq_true rfl, Nat.le_of_ble_eq_true rfl, Nat.le_of_ble_eq_true rfl⟩ (Nat.le_of_ble_eq_true rfl) (Nat.le_of_ble_eq_true rfl) dX4_about_148 dX4_about_151 (Or.inl ⟨dX4_about_152, dX4_about_154, dX4_about_157⟩)
  · refine lv_tableOut (tgt := 148) hx hb dX4_about_1 (by rw [hsw]; exact Or.inr csw) (by decide) ?_
    exact iv_thrG (ic := 52) (ik := 48) (is := 126) (cls := eA) (text := "no such number") hx hb hla hown bfA xfA xgA hB.1.1 hts (fun w h => List.mem_cons_of_mem _ (List.mem_append_right _ h)) (by decide +kernel) (by decide +kernel) hB hS (()) (by exact hP) (⟨rfl, by omega⟩) (hl.1.trans hml.symm) hlocks hno (by decide +kernel) ⟨Nat.le_of_ble_eq_true rfl, Nat.le_of_ble_eq_true rfl, Nat.le_of_ble_eq_true rfl, Nat.le_of_ble_eq_true rfl⟩ (Nat.le_of_ble_eq_true rfl) (Nat.le_of_ble_eq_true rfl) dX4_about_148 dX4_about_151 (Or.inl ⟨dX4_about_152, dX4_about_154, dX4_about_157⟩)
  · refine lv_tableIn (off := 55) (tgt := 56) hx hb dX4_about_1 (by rw [hsw]; omega) (by rw [hsw]; omega) (by rw [hsw, csw]; rfl) (by decide) ?_
    refine lv_aload_n hx hb dX4_about_56 rfl (lv_at hl 0 rfl) ?_
    refine va_get (D := D) (ci := 4) (v := .ref nw) (C := RX4) (T := TX4) (N := 6) hx hb hts hinX4 hown hK hP 0 rfl rfl 1 (by decide) hf19 (fun _ h9 => h9) rfl dX4_about_57 ?_
    refine va_get (D := D) (ci := 0) (v := .int (iI (S 0))) (C := RX0) (T := TX0) (N := 10) hx hb hts hinX0 hown hK hP 1 rfl rfl 0 (by decide) hf91 (fun _ h9 => h9) rfl dX4_about_60 ?_
    have hP9 : va_P D vwCl [(x, oRD tx nw tr kn me sl), (nw, oDrv nc S (lN (kL (S) 0 40))), (nc, aI yI 48 g), (kn, oKn pl ex), (ex, aI yI 1681 E)] _ := hP.sub [0, 1, 2, 3, 4] rfl
    refine W.widen (k := 8) (n := 150) (Nat.le_of_ble_eq_true rfl) (Nat.le_of_ble_eq_true rfl) ?_
    refine vx_ret ?_
    exact W.iret hx hb hr (fun t ht hW => ⟨⟨iI (S 0), (pl, E), rfl, ⟨congrArg iI (show S 0 = abt S w by rw [csw]; rfl), (by omega)⟩, by show va_P D vwCl _ t.heap; rw [ht]; exact hP9⟩, hS.F ht⟩) hS.2.2 dX4_about_63
  · refine lv_tableIn (off := 63) (tgt := 64) hx hb dX4_about_1 (by rw [hsw]; omega) (by rw [hsw]; omega) (by rw [hsw, csw]; rfl) (by decide) ?_
    refine lv_aload_n hx hb dX4_about_64 rfl (lv_at hl 0 rfl) ?_
    refine va_get (D := D) (ci := 4) (v := .ref nw) (C := RX4) (T := TX4) (N := 6) hx hb hts hinX4 hown hK hP 0 rfl rfl 1 (by decide) hf19 (fun _ h9 => h9) rfl dX4_about_65 ?_
    refine iv_roV (As := []) (rest := []) (C := RX0) (n := 0) ⟨hx, hb, hml, hown, hts⟩ (c_X0_countKeys l D yI yC yD nw nc S g (by assumption)) (cwV 0 hts gX4_about_X0_countKeys rfl rfl rfl (by decide +kernel) ⟨Nat.le_of_ble_eq_true rfl, Nat.le_of_ble_eq_true rfl⟩) hK hP [1, 2] rfl 1 rfl rfl rfl hl.1 rfl (Nat.le_of_ble_eq_true rfl) dX4_about_68 ⟨Nat.le_of_ble_eq_true rfl, Nat.le_of_ble_eq_true rfl⟩ ?_
    have hP9 : va_P D vwCl [(x, oRD tx nw tr kn me sl), (nw, oDrv nc S (lN (kL (S) 0 40))), (nc, aI yI 48 g), (kn, oKn pl ex), (ex, aI yI 1681 E)] _ := hP.sub [0, 1, 2, 3, 4] rfl
    refine W.widen (k := 8) (n := 150) (Nat.le_of_ble_eq_true rfl) (Nat.le_of_ble_eq_true rfl) ?_
    refine vx_ret ?_
    exact W.iret hx hb hr (fun t ht hW => ⟨⟨iI (keysIn S 0 (S 0 - 1)), (pl, E), rfl, ⟨congrArg iI (show keysIn S 0 (S 0 - 1) = abt S w by rw [csw]; rfl), (by omega)⟩, by show va_P D vwCl _ t.heap; rw [ht]; exact hP9⟩, hS.F ht⟩) hS.2.2 dX4_about_71
  · refine lv_tableIn (off := 71) (tgt := 72) hx hb dX4_about_1 (by rw [hsw]; omega) (by rw [hsw]; omega) (by rw [hsw, csw]; rfl) (by decide) ?_
    refine lv_aload_n hx hb dX4_about_72 rfl (lv_at hl 0 rfl) ?_
    refine va_get (D := D) (ci := 4) (v := .ref nw) (C := RX4) (T := TX4) (N := 6) hx hb hts hinX4 hown hK hP 0 rfl rfl 1 (by decide) hf19 (fun _ h9 => h9) rfl dX4_about_73 ?_
    refine va_get (D := D) (ci := 0) (v := .int (iI (S 1))) (C := RX0) (T := TX0) (N := 10) hx hb hts hinX0 hown hK hP 1 rfl rfl 1 (by decide) hf98 (fun _ h9 => h9) rfl dX4_about_76 ?_
    have hP9 : va_P D vwCl [(x, oRD tx nw tr kn me sl), (nw, oDrv nc S (lN (kL (S) 0 40))), (nc, aI yI 48 g), (kn, oKn pl ex), (ex, aI yI 1681 E)] _ := hP.sub [0, 1, 2, 3, 4] rfl
    refine W.widen (k := 8) (n := 150) (Nat.le_of_ble_eq_true rfl) (Nat.le_of_ble_eq_true rfl) ?_
    refine vx_ret ?_
    exact W.iret hx hb hr (fun t ht hW => ⟨⟨iI (S 1), (pl, E), rfl, ⟨congrArg iI (show S 1 = abt S w by rw [csw]; rfl), (by omega)⟩, by show va_P D vwCl _ t.heap; rw [ht]; exact hP9⟩, hS.F ht⟩) hS.2.2 dX4_about_79
  · refine lv_tableIn (off := 79) (tgt := 80) hx hb dX4_about_1 (by rw [hsw]; omega) (by rw [hsw]; omega) (by rw [hsw, csw]; rfl) (by decide) ?_
    refine lv_aload_n hx hb dX4_about_80 rfl (lv_at hl 0 rfl) ?_
    refine va_get (D := D) (ci := 4) (v := .ref nw) (C := RX4) (T := TX4) (N := 6) hx hb hts hinX4 hown hK hP 0 rfl rfl 1 (by decide) hf19 (fun _ h9 => h9) rfl dX4_about_81 ?_
    refine va_get (D := D) (ci := 0) (v := .int (iI (S 2))) (C := RX0) (T := TX0) (N := 10) hx hb hts hinX0 hown hK hP 1 rfl rfl 2 (by decide) hf101 (fun _ h9 => h9) rfl dX4_about_84 ?_
    have hP9 : va_P D vwCl [(x, oRD tx nw tr kn me sl), (nw, oDrv nc S (lN (kL (S) 0 40))), (nc, aI yI 48 g), (kn, oKn pl ex), (ex, aI yI 1681 E)] _ := hP.sub [0, 1, 2, 3, 4] rfl
    refine W.widen (k := 8) (n := 150) (Nat.le_of_ble_eq_true rfl) (Nat.le_of_ble_eq_true rfl) ?_
    refine vx_ret ?_
    exact W.iret hx hb hr (fun t ht hW => ⟨⟨iI (S 2), (pl, E), rfl, ⟨congrArg iI (show S 2 = abt S w by rw [csw]; rfl), (by omega)⟩, by show va_P D vwCl _ t.heap; rw [ht]; exact hP9⟩, hS.F ht⟩) hS.2.2 dX4_about_87
  · refine lv_tableIn (off := 87) (tgt := 88) hx hb dX4_about_1 (by rw [hsw]; omega) (by rw [hsw]; omega) (by rw [hsw, csw]; rfl) (by decide) ?_
    refine lv_aload_n hx hb dX4_about_88 rfl (lv_at hl 0 rfl) ?_
    refine va_get (D := D) (ci := 4) (v := .ref nw) (C := RX4) (T := TX4) (N := 6) hx hb hts hinX4 hown hK hP 0 rfl rfl 1 (by decide) hf19 (fun _ h9 => h9) rfl dX4_about_89 ?_
    refine va_get (D := D) (ci := 0) (v := .int (iI (S 3))) (C := RX0) (T := TX0) (N := 10) hx hb hts hinX0 hown hK hP 1 rfl rfl 3 (by decide) hf104 (fun _ h9 => h9) rfl dX4_about_92 ?_
    have hP9 : va_P D vwCl [(x, oRD tx nw tr kn me sl), (nw, oDrv nc S (lN (kL (S) 0 40))), (nc, aI yI 48 g), (kn, oKn pl ex), (ex, aI yI 1681 E)] _ := hP.sub [0, 1, 2, 3, 4] rfl
    refine W.widen (k := 8) (n := 150) (Nat.le_of_ble_eq_true rfl) (Nat.le_of_ble_eq_true rfl) ?_
    refine vx_ret ?_
    exact W.iret hx hb hr (fun t ht hW => ⟨⟨iI (S 3), (pl, E), rfl, ⟨congrArg iI (show S 3 = abt S w by rw [csw]; rfl), (by omega)⟩, by show va_P D vwCl _ t.heap; rw [ht]; exact hP9⟩, hS.F ht⟩) hS.2.2 dX4_about_95
  · refine lv_tableIn (off := 95) (tgt := 96) hx hb dX4_about_1 (by rw [hsw]; omega) (by rw [hsw]; omega) (by rw [hsw, csw]; rfl) (by decide) ?_
    refine lv_aload_n hx hb dX4_about_96 rfl (lv_at hl 0 rfl) ?_
    refine va_get (D := D) (ci := 4) (v := .ref nw) (C := RX4) (T := TX4) (N := 6) hx hb hts hinX4 hown hK hP 0 rfl rfl 1 (by decide) hf19 (fun _ h9 => h9) rfl dX4_about_97 ?_
    refine va_get (D := D) (ci := 0) (v := .int (iI (S 4))) (C := RX0) (T := TX0) (N := 10) hx hb hts hinX0 hown hK hP 1 rfl rfl 4 (by decide) hf107 (fun _ h9 => h9) rfl dX4_about_100 ?_
    have hP9 : va_P D vwCl [(x, oRD tx nw tr kn me sl), (nw, oDrv nc S (lN (kL (S) 0 40))), (nc, aI yI 48 g), (kn, oKn pl ex), (ex, aI yI 1681 E)] _ := hP.sub [0, 1, 2, 3, 4] rfl
    refine W.widen (k := 8) (n := 150) (Nat.le_of_ble_eq_true rfl) (Nat.le_of_ble_eq_true rfl) ?_
    refine vx_ret ?_
    exact W.iret hx hb hr (fun t ht hW => ⟨⟨iI (S 4), (pl, E), rfl, ⟨congrArg iI (show S 4 = abt S w by rw [csw]; rfl), (by omega)⟩, by show va_P D vwCl _ t.heap; rw [ht]; exact hP9⟩, hS.F ht⟩) hS.2.2 dX4_about_103
  · refine lv_tableIn (off := 103) (tgt := 104) hx hb dX4_about_1 (by rw [hsw]; omega) (by rw [hsw]; omega) (by rw [hsw, csw]; rfl) (by decide) ?_
    refine lv_aload_n hx hb dX4_about_104 rfl (lv_at hl 0 rfl) ?_
    refine va_get (D := D) (ci := 4) (v := .ref nw) (C := RX4) (T := TX4) (N := 6) hx hb hts hinX4 hown hK hP 0 rfl rfl 1 (by decide) hf19 (fun _ h9 => h9) rfl dX4_about_105 ?_
    refine va_get (D := D) (ci := 0) (v := .int (iI (S 5))) (C := RX0) (T := TX0) (N := 10) hx hb hts hinX0 hown hK hP 1 rfl rfl 5 (by decide) hf110 (fun _ h9 => h9) rfl dX4_about_108 ?_
    have hP9 : va_P D vwCl [(x, oRD tx nw tr kn me sl), (nw, oDrv nc S (lN (kL (S) 0 40))), (nc, aI yI 48 g), (kn, oKn pl ex), (ex, aI yI 1681 E)] _ := hP.sub [0, 1, 2, 3, 4] rfl
    refine W.widen (k := 8) (n := 150) (Nat.le_of_ble_eq_true rfl) (Nat.le_of_ble_eq_true rfl) ?_
    refine vx_ret ?_
    exact W.iret hx hb hr (fun t ht hW => ⟨⟨iI (S 5), (pl, E), rfl, ⟨congrArg iI (show S 5 = abt S w by rw [csw]; rfl), (by omega)⟩, by show va_P D vwCl _ t.heap; rw [ht]; exact hP9⟩, hS.F ht⟩) hS.2.2 dX4_about_111
  · refine lv_tableIn (off := 111) (tgt := 112) hx hb dX4_about_1 (by rw [hsw]; omega) (by rw [hsw]; omega) (by rw [hsw, csw]; rfl) (by decide) ?_
    refine lv_aload_n hx hb dX4_about_112 rfl (lv_at hl 0 rfl) ?_
    refine va_get (D := D) (ci := 4) (v := .ref nw) (C := RX4) (T := TX4) (N := 6) hx hb hts hinX4 hown hK hP 0 rfl rfl 1 (by decide) hf19 (fun _ h9 => h9) rfl dX4_about_113 ?_
    refine va_get (D := D) (ci := 0) (v := .int (iI (S 6))) (C := RX0) (T := TX0) (N := 10) hx hb hts hinX0 hown hK hP 1 rfl rfl 6 (by decide) hf113 (fun _ h9 => h9) rfl dX4_about_116 ?_
    have hP9 : va_P D vwCl [(x, oRD tx nw tr kn me sl), (nw, oDrv nc S (lN (kL (S) 0 40))), (nc, aI yI 48 g), (kn, oKn pl ex), (ex, aI yI 1681 E)] _ := hP.sub [0, 1, 2, 3, 4] rfl
    refine W.widen (k := 8) (n := 150) (Nat.le_of_ble_eq_true rfl) (Nat.le_of_ble_eq_true rfl) ?_
    refine vx_ret ?_
    exact W.iret hx hb hr (fun t ht hW => ⟨⟨iI (S 6), (pl, E), rfl, ⟨congrArg iI (show S 6 = abt S w by rw [csw]; rfl), (by omega)⟩, by show va_P D vwCl _ t.heap; rw [ht]; exact hP9⟩, hS.F ht⟩) hS.2.2 dX4_about_119
  · refine lv_tableIn (off := 119) (tgt := 120) hx hb dX4_about_1 (by rw [hsw]; omega) (by rw [hsw]; omega) (by rw [hsw, csw]; rfl) (by decide) ?_
    refine lv_aload_n hx hb dX4_about_120 rfl (lv_at hl 0 rfl) ?_
    refine va_get (D := D) (ci := 4) (v := .ref nw) (C := RX4) (T := TX4) (N := 6) hx hb hts hinX4 hown hK hP 0 rfl rfl 1 (by decide) hf19 (fun _ h9 => h9) rfl dX4_about_121 ?_
    refine va_get (D := D) (ci := 0) (v := .int (iI (S 7))) (C := RX0) (T := TX0) (N := 10) hx hb hts hinX0 hown hK hP 1 rfl rfl 7 (by decide) hf116 (fun _ h9 => h9) rfl dX4_about_124 ?_
    have hP9 : va_P D vwCl [(x, oRD tx nw tr kn me sl), (nw, oDrv nc S (lN (kL (S) 0 40))), (nc, aI yI 48 g), (kn, oKn pl ex), (ex, aI yI 1681 E)] _ := hP.sub [0, 1, 2, 3, 4] rfl
    refine W.widen (k := 8) (n := 150) (Nat.le_of_ble_eq_true rfl) (Nat.le_of_ble_eq_true rfl) ?_
    refine vx_ret ?_
    exact W.iret hx hb hr (fun t ht hW => ⟨⟨iI (S 7), (pl, E), rfl, ⟨congrArg iI (show S 7 = abt S w by rw [csw]; rfl), (by omega)⟩, by show va_P D vwCl _ t.heap; rw [ht]; exact hP9⟩, hS.F ht⟩) hS.2.2 dX4_about_127
  · refine lv_tableIn (off := 127) (tgt := 128) hx hb dX4_about_1 (by rw [hsw]; omega) (by rw [hsw]; omega) (by rw [hsw, csw]; rfl) (by decide) ?_
    refine lv_aload_n hx hb dX4_about_128 rfl (lv_at hl 0 rfl) ?_
    refine va_get (D := D) (ci := 4) (v := .ref kn) (C := RX4) (T := TX4) (N := 6) hx hb hts hinX4 hown hK hP 0 rfl rfl 3 (by decide) hf29 (fun _ h9 => h9) rfl dX4_about_129 ?_
    refine lv_aload_n hx hb dX4_about_132 rfl (lv_at hl 0 rfl) ?_
    refine va_get (D := D) (ci := 4) (v := .ref nw) (C := RX4) (T := TX4) (N := 6) hx hb hts hinX4 hown hK hP 0 rfl rfl 1 (by decide) hf19 (fun _ h9 => h9) rfl dX4_about_133 ?_
    refine lv_iconst (v := iI (-1)) hx hb dX4_about_136 (by decide +kernel) ?_
    refine iv_rwVv (As := [.ref nw, .int (iI (-1))]) (rest := []) (C := RX1) (n := 2) ⟨hx, hb, hml, hown, hts⟩ (c_X1_learnFrom l D yI yC yD kn ex pl E nw nc S g (-1) (by assumption) (by assumption) (by omega) _) (cwV 2 hts gX4_about_X1_learnFrom rfl rfl rfl (by decide +kernel) ⟨Nat.le_of_ble_eq_true rfl, Nat.le_of_ble_eq_true rfl⟩) hK hP hD hS hA [3, 4, 1, 2] (by decide) rfl 3 rfl rfl rfl hl.1 rfl (Nat.le_of_ble_eq_true rfl) dX4_about_137 ⟨Nat.le_of_ble_eq_true rfl, Nat.le_of_ble_eq_true rfl⟩ (fun _ => rfl) (fun u137 H locs hw137 hP hD hS => ?_)
    obtain ⟨G9137, hu137⟩ : ∃ z, z = u137 := ⟨_, rfl⟩
    subst hu137
    have hE9_137 := hw137
    have hP : va_P D vwCl [(x, oRD tx nw tr kn me sl), (nw, oDrv nc S (lN (kL S 0 40))), (nc, aI yI 48 g), (kn, oKn (S 0) ex), (ex, aI yI 1681 G9137)] H := hP
    have hD : va_D A [(x, oRD tx nw tr kn me sl), (nw, oDrv nc S (lN (kL S 0 40))), (nc, aI yI 48 g), (kn, oKn (S 0) ex), (ex, aI yI 1681 G9137)] := hD
    refine lv_aload_n hx hb dX4_about_140 rfl (lv_at hl 0 rfl) ?_
    refine va_get (D := D) (ci := 4) (v := .ref kn) (C := RX4) (T := TX4) (N := 6) hx hb hts hinX4 hown hK hP 0 rfl rfl 3 (by decide) hf29 (fun _ h9 => h9) rfl dX4_about_141 ?_
    refine iv_roV (As := []) (rest := []) (C := RX1) (n := 0) ⟨hx, hb, hml, hown, hts⟩ (c_X1_countSure l D yI yC yD kn ex (S 0) G9137 (FB S (-1)) (by omega) (by assumption) (gb_FB hI _)) (cwV 0 hts gX4_about_X1_countSure rfl rfl rfl (by decide +kernel) ⟨Nat.le_of_ble_eq_true rfl, Nat.le_of_ble_eq_true rfl⟩) hK hP [3, 4] rfl 3 rfl rfl rfl hl.1 rfl (Nat.le_of_ble_eq_true rfl) dX4_about_144 ⟨Nat.le_of_ble_eq_true rfl, Nat.le_of_ble_eq_true rfl⟩ ?_
    have hP9 : va_P D vwCl [(x, oRD tx nw tr kn me sl), (nw, oDrv nc S (lN (kL (S) 0 40))), (nc, aI yI 48 g), (kn, oKn (S 0) ex), (ex, aI yI 1681 G9137)] _ := hP.sub [0, 1, 2, 3, 4] rfl
    refine W.widen (k := 8) (n := 150) (Nat.le_of_ble_eq_true rfl) (Nat.le_of_ble_eq_true rfl) ?_
    refine vx_ret ?_
    exact W.iret hx hb hr (fun t ht hW => ⟨⟨iI (kCnt (FB S (-1)) (S 0).toNat), (S 0, G9137), rfl, ⟨congrArg iI (show kCnt (FB S (-1)) (S 0).toNat = abt S w by rw [csw, kCnt_known hI]; rfl), (by omega)⟩, by show va_P D vwCl _ t.heap; rw [ht]; exact hP9⟩, hS.F ht⟩) hS.2.2 dX4_about_147
set_option maxHeartbeats 4000000 in
set_option maxRecDepth 100000 in
theorem c_X4_has (l : Launch) (hla : l.stackTraces = false) (D : va_G) (yI yC yD : ClassId) (x : Nat) (tx : Nat) (nw : Nat) (tr : Nat) (kn : Nat) (me : Nat) (sl : Nat) (nc : Nat) (S : Int → Int) (g : Int → Int) (i : Int) (hI : Inv S) (hi9 : inR i) (sz : Nat) : vx_Met l yX4_has wsX4_has ({ frames := 7, cells := 8, slots := 150, locals := 103 }) (vxP [.ref x, .int (iI i)] D (tyz yI yC yD) [(x, oRD tx nw tr kn me sl), (nw, oDrv nc S (lN (kL (S) 0 40))), (nc, aI yI 48 g)] sz) (va_Qi (fun (r : Int32) (_ : Unit) => r = iI (bI (S (8 + i) = 1)) ∧ 0 ≤ i ∧ i < S 0) (fun (_ : Unit) (t : State) => va_P D vwCl [(x, oRD tx nw tr kn me sl), (nw, oDrv nc S (lN (kL (S) 0 40))), (nc, aI yI 48 g)] t.heap) (va_A [(x, oRD tx nw tr kn me sl), (nw, oDrv nc S (lN (kL (S) 0 40))), (nc, aI yI 48 g)] sz)) (vxX D (fun E => E = eI ∧ ¬ (0 ≤ i ∧ i < S 0)) (fun (_ : Unit) => [(x, oRD tx nw tr kn me sl), (nw, oDrv nc S (lN (kL (S) 0 40))), (nc, aI yI 48 g)]) (va_A [(x, oRD tx nw tr kn me sl), (nw, oDrv nc S (lN (kL (S) 0 40))), (nc, aI yI 48 g)] sz)) 8 150 (va_A [(x, oRD tx nw tr kn me sl), (nw, oDrv nc S (lN (kL (S) 0 40))), (nc, aI yI 48 g)] sz) := by
  refine vx_ofW (cc := cX4_has) (maxL := 2) (ret := (some .boolean)) (by decide) rfl ?_
  intro p e s m args below meth c s₁ B hml hno hv
  obtain ⟨rfl, hsz, hP, hK, hD0, hB⟩ := hv
  have hx := B.exec
  have hb := B.bytes
  have hr := B.returns
  have hts := atoms_spec (ws := wsX4_has) B.pre
  have hown : s.vm.findClass RX4 = some m.cls := findClass_of_methodNamed B.named
  have hlocks := B.notSynchronized
  subst hsz
  have hD := hD0.self (sz := s.heap.size)
  generalize hAe : va_A [(x, oRD tx nw tr kn me sl), (nw, oDrv nc S (lN (kL (S) 0 40))), (nc, aI yI 48 g)] s.heap.size = A at hD hB ⊢
  have hA : ∀ q : Nat, s.heap.size ≤ q → A q := fun q h => by rw [← hAe]; exact Or.inr h
  have hS : va_S A s.heap s.heap [] := va_S.rf
  have hP : va_P D vwCl [(x, oRD tx nw tr kn me sl), (nw, oDrv nc S (lN (kL (S) 0 40))), (nc, aI yI 48 g)] s.heap := hP
  have hinX4 : ∀ w ∈ wsX40, w ∈ wsX4_has := by decide +kernel
  have hf19 : (Cond.fieldLink RX4 19 "RiddleDrive" "now" "LRiddleDrive$Drive;").before _ s = true := hts _ (by decide +kernel)
  have hl := lv_entry ([.ref x, .int (iI i)]) (n := 2) (Nat.le_of_ble_eq_true rfl)
  rw [lg_entry_eq]
  generalize (lg_sl ([.ref x, .int (iI i)]) ++ List.replicate (2 - (lg_sl ([.ref x, .int (iI i)])).length) Slot.unset).toArray = ls at hl ⊢
  have hl : lv_has ls 2 [(0, .ref x), (1, .int (iI i))] := hl
  have hpl := hI.pl
  have hna := hI.na
  have hse := hI.se
  have hwi := hI.wi
  have hfe := hI.fe
  refine lv_aload_n hx hb dX4_has_0 rfl (lv_at hl 0 rfl) ?_
  refine lv_iload_n hx hb dX4_has_1 rfl (lv_at hl 1 rfl) ?_
  refine iv_vxVv (As := [.int (iI i)]) (rest := []) (C := RX4) (n := 1) ⟨hx, hb, hml, hown, hts⟩ (c_X4_checkPlace l hla D yI yC yD x tx nw tr kn me sl nc S g i (by assumption) (by assumption) _) (cwV 1 hts gX4_has_X4_checkPlace rfl rfl rfl (by decide +kernel) ⟨Nat.le_of_ble_eq_true rfl, Nat.le_of_ble_eq_true rfl⟩) hK hP hD hS hA hB [0, 1, 2] (by decide) rfl 0 rfl rfl rfl hl.1 rfl (Nat.le_of_ble_eq_true rfl) dX4_has_2 ⟨Nat.le_of_ble_eq_true rfl, Nat.le_of_ble_eq_true rfl⟩ (fun _ => rfl) (fun _ => rfl) (fun E9 ce9 q9 ux H locs hxe hP hD hS hc9 hv9 hcl9 => ?_) (fun u2 H locs hw2 hP hD hS => ?_)
  · exact iv_out hno hlocks hc9 hv9 hcl9 hS () (by exact hP) (hxe) (Nat.le_of_ble_eq_true rfl) (Nat.le_of_ble_eq_true rfl)
  have hpl9_2 := hw2
  have hP : va_P D vwCl [(x, oRD tx nw tr kn me sl), (nw, oDrv nc S (lN (kL (S) 0 40))), (nc, aI yI 48 g)] H := hP
  have hD : va_D A [(x, oRD tx nw tr kn me sl), (nw, oDrv nc S (lN (kL (S) 0 40))), (nc, aI yI 48 g)] := hD
  refine lv_aload_n hx hb dX4_has_5 rfl (lv_at hl 0 rfl) ?_
  refine va_get (D := D) (ci := 4) (v := .ref nw) (C := RX4) (T := TX4) (N := 6) hx hb hts hinX4 hown hK hP 0 rfl rfl 1 (by decide) hf19 (fun _ h9 => h9) rfl dX4_has_6 ?_
  refine lv_iload_n hx hb dX4_has_9 rfl (lv_at hl 1 rfl) ?_
  refine iv_roV (As := [.int (iI i)]) (rest := []) (C := RX0) (n := 1) ⟨hx, hb, hml, hown, hts⟩ (c_X0_hasKey l D yI yC yD nw nc S g i (by assumption) (by omega)) (cwV 1 hts gX4_has_X0_hasKey rfl rfl rfl (by decide +kernel) ⟨Nat.le_of_ble_eq_true rfl, Nat.le_of_ble_eq_true rfl⟩) hK hP [1, 2] rfl 1 rfl rfl rfl hl.1 rfl (Nat.le_of_ble_eq_true rfl) dX4_has_10 ⟨Nat.le_of_ble_eq_true rfl, Nat.le_of_ble_eq_true rfl⟩ ?_
  have hP9 : va_P D vwCl [(x, oRD tx nw tr kn me sl), (nw, oDrv nc S (lN (kL (S) 0 40))), (nc, aI yI 48 g)] _ := hP.sub [0, 1, 2] rfl
  refine W.widen (k := 8) (n := 150) (Nat.le_of_ble_eq_true rfl) (Nat.le_of_ble_eq_true rfl) ?_
  refine vx_ret ?_
  exact W.zret hx hb hr (narB _) (fun t ht hW => ⟨⟨iI (bI (S (8 + i) = 1)), (), rfl, ⟨rfl, (by exact hpl9_2)⟩, by show va_P D vwCl _ t.heap; rw [ht]; exact hP9⟩, hS.F ht⟩) hS.2.2 dX4_has_13
set_option maxHeartbeats 4000000 in
set_option maxRecDepth 100000 in
theorem c_X4_answer (l : Launch) (hla : l.stackTraces = false) (D : va_G) (yI yC yD : ClassId) (x : Nat) (tx : Nat) (nw : Nat) (tr : Nat) (kn : Nat) (me : Nat) (sl : Nat) (nc : Nat) (S : Int → Int) (g : Int → Int) (i : Int) (w : Int) (hI : Inv S) (hR : Rc S g) (hi9 : inR i) (hw9 : inR w) (sz : Nat) : vx_Met l yX4_answer wsX4_answer ({ frames := 7, cells := 8, slots := 150, locals := 103 }) (vxP [.ref x, .int (iI i), .int (iI w)] D (tyz yI yC yD) [(x, oRD tx nw tr kn me sl), (nw, oDrv nc S (lN (kL (S) 0 40))), (nc, aI yI 48 g)] sz) (va_Qi (fun (r : Int32) (_ : Unit) => r = iI (an S i w) ∧ whyAn S i w = 0) (fun (_ : Unit) (t : State) => va_P D vwCl [(x, oRD tx nw tr kn me sl), (nw, oDrv nc S (lN (kL (S) 0 40))), (nc, aI yI 48 g)] t.heap) (va_A [(x, oRD tx nw tr kn me sl), (nw, oDrv nc S (lN (kL (S) 0 40))), (nc, aI yI 48 g)] sz)) (vxX D (fun E => (E = eI ∧ whyAn S i w = 1) ∨ (E = eA ∧ whyAn S i w = 2)) (fun (_ : Unit) => [(x, oRD tx nw tr kn me sl), (nw, oDrv nc S (lN (kL (S) 0 40))), (nc, aI yI 48 g)]) (va_A [(x, oRD tx nw tr kn me sl), (nw, oDrv nc S (lN (kL (S) 0 40))), (nc, aI yI 48 g)] sz)) 8 150 (va_A [(x, oRD tx nw tr kn me sl), (nw, oDrv nc S (lN (kL (S) 0 40))), (nc, aI yI 48 g)] sz) := by
  refine vx_ofW (cc := cX4_answer) (maxL := 3) (ret := (some .int)) (by decide) rfl ?_
  intro p e s m args below meth c s₁ B hml hno hv
  obtain ⟨rfl, hsz, hP, hK, hD0, hB⟩ := hv
  have hx := B.exec
  have hb := B.bytes
  have hr := B.returns
  have hts := atoms_spec (ws := wsX4_answer) B.pre
  have hown : s.vm.findClass RX4 = some m.cls := findClass_of_methodNamed B.named
  have hlocks := B.notSynchronized
  subst hsz
  have hD := hD0.self (sz := s.heap.size)
  generalize hAe : va_A [(x, oRD tx nw tr kn me sl), (nw, oDrv nc S (lN (kL (S) 0 40))), (nc, aI yI 48 g)] s.heap.size = A at hD hB ⊢
  have hA : ∀ q : Nat, s.heap.size ≤ q → A q := fun q h => by rw [← hAe]; exact Or.inr h
  have hS : va_S A s.heap s.heap [] := va_S.rf
  have hP : va_P D vwCl [(x, oRD tx nw tr kn me sl), (nw, oDrv nc S (lN (kL (S) 0 40))), (nc, aI yI 48 g)] s.heap := hP
  have hinX4 : ∀ w ∈ wsX40, w ∈ wsX4_answer := by decide +kernel
  have hf19 : (Cond.fieldLink RX4 19 "RiddleDrive" "now" "LRiddleDrive$Drive;").before _ s = true := hts _ (by decide +kernel)
  have hl := lv_entry ([.ref x, .int (iI i), .int (iI w)]) (n := 3) (Nat.le_of_ble_eq_true rfl)
  rw [lg_entry_eq]
  generalize (lg_sl ([.ref x, .int (iI i), .int (iI w)]) ++ List.replicate (3 - (lg_sl ([.ref x, .int (iI i), .int (iI w)])).length) Slot.unset).toArray = ls at hl ⊢
  have hl : lv_has ls 3 [(0, .ref x), (1, .int (iI i)), (2, .int (iI w))] := hl
  have hpl := hI.pl
  have hna := hI.na
  have hse := hI.se
  have hwi := hI.wi
  have hfe := hI.fe
  refine lv_aload_n hx hb dX4_answer_0 rfl (lv_at hl 0 rfl) ?_
  refine lv_iload_n hx hb dX4_answer_1 rfl (lv_at hl 1 rfl) ?_
  refine iv_vxVv (As := [.int (iI i)]) (rest := []) (C := RX4) (n := 1) ⟨hx, hb, hml, hown, hts⟩ (c_X4_checkAnswer l hla D yI yC yD x tx nw tr kn me sl nc S g i (by assumption) (by assumption) _) (cwV 1 hts gX4_answer_X4_checkAnswer rfl rfl rfl (by decide +kernel) ⟨Nat.le_of_ble_eq_true rfl, Nat.le_of_ble_eq_true rfl⟩) hK hP hD hS hA hB [0, 1, 2] (by decide) rfl 0 rfl rfl rfl hl.1 rfl (Nat.le_of_ble_eq_true rfl) dX4_answer_2 ⟨Nat.le_of_ble_eq_true rfl, Nat.le_of_ble_eq_true rfl⟩ (fun _ => rfl) (fun _ => rfl) (fun E9 ce9 q9 ux H locs hxe hP hD hS hc9 hv9 hcl9 => ?_) (fun u2 H locs hw2 hP hD hS => ?_)
  · exact iv_out hno hlocks hc9 hv9 hcl9 hS () (by exact hP) (Or.inl ⟨hxe.1, if_pos hxe.2⟩) (Nat.le_of_ble_eq_true rfl) (Nat.le_of_ble_eq_true rfl)
  have hpa9_2 := hw2
  have hP : va_P D vwCl [(x, oRD tx nw tr kn me sl), (nw, oDrv nc S (lN (kL (S) 0 40))), (nc, aI yI 48 g)] H := hP
  have hD : va_D A [(x, oRD tx nw tr kn me sl), (nw, oDrv nc S (lN (kL (S) 0 40))), (nc, aI yI 48 g)] := hD
  refine lv_iload_n hx hb dX4_answer_5 rfl (lv_at hl 2 rfl) ?_
  refine iv_if_lt (a := w) (tgt := 14) hx hb (by omega) dX4_answer_6 (by decide) (fun c6 => ?_) (fun c6 => ?_)
  · exact iv_thrG (ic := 52) (ik := 48) (is := 138) (cls := eA) (text := "no such number of an answer") hx hb hla hown bfA xfA xgA hB.1.1 hts (fun w h => List.mem_cons_of_mem _ (List.mem_append_left _ (List.mem_append_right _ h))) (by decide +kernel) (by decide +kernel) hB hS (()) (by exact hP) (Or.inr ⟨rfl, (if_neg (by omega)).trans (if_neg (by omega))⟩) (hl.1.trans hml.symm) hlocks hno (by decide +kernel) ⟨Nat.le_of_ble_eq_true rfl, Nat.le_of_ble_eq_true rfl, Nat.le_of_ble_eq_true rfl, Nat.le_of_ble_eq_true rfl⟩ (Nat.le_of_ble_eq_true rfl) (Nat.le_of_ble_eq_true rfl) dX4_answer_14 dX4_answer_17 (Or.inl ⟨dX4_answer_18, dX4_answer_20, dX4_answer_23⟩)
  · refine lv_iload_n hx hb dX4_answer_9 rfl (lv_at hl 2 rfl) ?_
    refine lv_iconst (v := iI 4) hx hb dX4_answer_10 (by decide +kernel) ?_
    refine iv_icmp_lt (a := w) (b := 4) (tgt := 24) hx hb (by omega) (by omega) dX4_answer_11 (by decide) (fun c11 => ?_) (fun c11 => ?_)
    · refine lv_aload_n hx hb dX4_answer_24 rfl (lv_at hl 0 rfl) ?_
      refine va_get (D := D) (ci := 4) (v := .ref nw) (C := RX4) (T := TX4) (N := 6) hx hb hts hinX4 hown hK hP 0 rfl rfl 1 (by decide) hf19 (fun _ h9 => h9) rfl dX4_answer_25 ?_
      refine lv_iload_n hx hb dX4_answer_28 rfl (lv_at hl 1 rfl) ?_
      refine lv_iload_n hx hb dX4_answer_29 rfl (lv_at hl 2 rfl) ?_
      refine iv_roV (As := [.int (iI i), .int (iI w)]) (rest := []) (C := RX0) (n := 2) ⟨hx, hb, hml, hown, hts⟩ (c_X0_cell l D yI yC yD nw nc S g (lN (kL (S) 0 40)) i w (by omega) (by omega)) (cwV 2 hts gX4_answer_X0_cell rfl rfl rfl (by decide +kernel) ⟨Nat.le_of_ble_eq_true rfl, Nat.le_of_ble_eq_true rfl⟩) hK hP [1, 2] rfl 1 rfl rfl rfl hl.1 rfl (Nat.le_of_ble_eq_true rfl) dX4_answer_30 ⟨Nat.le_of_ble_eq_true rfl, Nat.le_of_ble_eq_true rfl⟩ ?_
      have hP9 : va_P D vwCl [(x, oRD tx nw tr kn me sl), (nw, oDrv nc S (lN (kL (S) 0 40))), (nc, aI yI 48 g)] _ := hP.sub [0, 1, 2] rfl
      refine W.widen (k := 8) (n := 150) (Nat.le_of_ble_eq_true rfl) (Nat.le_of_ble_eq_true rfl) ?_
      refine vx_ret ?_
      exact W.iret hx hb hr (fun t ht hW => ⟨⟨iI (g (i * 4 + w)), (), rfl, ⟨congrArg iI (show g (i * 4 + w) = an S i w by exact hR i w (by omega) (by omega) (by omega) (by omega)), (by exact (if_neg (by omega)).trans (if_pos (by omega)))⟩, by show va_P D vwCl _ t.heap; rw [ht]; exact hP9⟩, hS.F ht⟩) hS.2.2 dX4_answer_33
    · exact iv_thrG (ic := 52) (ik := 48) (is := 138) (cls := eA) (text := "no such number of an answer") hx hb hla hown bfA xfA xgA hB.1.1 hts (fun w h => List.mem_cons_of_mem _ (List.mem_append_left _ (List.mem_append_right _ h))) (by decide +kernel) (by decide +kernel) hB hS (()) (by exact hP) (Or.inr ⟨rfl, (if_neg (by omega)).trans (if_neg (by omega))⟩) (hl.1.trans hml.symm) hlocks hno (by decide +kernel) ⟨Nat.le_of_ble_eq_true rfl, Nat.le_of_ble_eq_true rfl, Nat.le_of_ble_eq_true rfl, Nat.le_of_ble_eq_true rfl⟩ (Nat.le_of_ble_eq_true rfl) (Nat.le_of_ble_eq_true rfl) dX4_answer_14 dX4_answer_17 (Or.inl ⟨dX4_answer_18, dX4_answer_20, dX4_answer_23⟩)
set_option maxHeartbeats 4000000 in
set_option maxRecDepth 100000 in
theorem c_X4_least (l : Launch) (hla : l.stackTraces = false) (D : va_G) (yI yC yD : ClassId) (x : Nat) (tx : Nat) (nw : Nat) (tr : Nat) (kn : Nat) (me : Nat) (sl : Nat) (nc : Nat) (S : Int → Int) (g : Int → Int) (ex : Nat) (pl : Int) (E : Int → Int) (a : Int) (b : Int) (hI : Inv S) (hR : Rc S g) (hab9 : inR a ∧ inR b) (sz : Nat) : vx_Met l yX4_least wsX4_least ({ frames := 8, cells := 8, slots := 150, locals := 125 }) (vxP [.ref x, .int (iI a), .int (iI b)] D (tyz yI yC yD) [(x, oRD tx nw tr kn me sl), (nw, oDrv nc S (lN (kL (S) 0 40))), (nc, aI yI 48 g), (kn, oKn pl ex), (ex, aI yI 1681 E)] sz) (va_Qi (fun (r : Int32) (u : Int × (Int → Int)) => match u with | (p9, E9) => r = iI (leastI (FB S (-1)) a b) ∧ whyR S a b = 0) (fun (u : Int × (Int → Int)) (t : State) => match u with | (p9, E9) => va_P D vwCl [(x, oRD tx nw tr kn me sl), (nw, oDrv nc S (lN (kL (S) 0 40))), (nc, aI yI 48 g), (kn, oKn p9 ex), (ex, aI yI 1681 E9)] t.heap) (va_A [(x, oRD tx nw tr kn me sl), (nw, oDrv nc S (lN (kL (S) 0 40))), (nc, aI yI 48 g), (kn, oKn pl ex), (ex, aI yI 1681 E)] sz)) (vxX D (fun E => (E = eI ∧ whyR S a b = 1) ∨ (E = eA ∧ whyR S a b = 2)) (fun (_ : Unit) => [(x, oRD tx nw tr kn me sl), (nw, oDrv nc S (lN (kL (S) 0 40))), (nc, aI yI 48 g), (kn, oKn pl ex), (ex, aI yI 1681 E)]) (va_A [(x, oRD tx nw tr kn me sl), (nw, oDrv nc S (lN (kL (S) 0 40))), (nc, aI yI 48 g), (kn, oKn pl ex), (ex, aI yI 1681 E)] sz)) 8 150 (va_A [(x, oRD tx nw tr kn me sl), (nw, oDrv nc S (lN (kL (S) 0 40))), (nc, aI yI 48 g), (kn, oKn pl ex), (ex, aI yI 1681 E)] sz) := by
  refine vx_ofW (cc := cX4_least) (maxL := 3) (ret := (some .int)) (by decide) rfl ?_
  intro p e s m args below meth c s₁ B hml hno hv
  obtain ⟨rfl, hsz, hP, hK, hD0, hB⟩ := hv
  have hx := B.exec
  have hb := B.bytes
  have hr := B.returns
  have hts := atoms_spec (ws := wsX4_least) B.pre
  have hown : s.vm.findClass RX4 = some m.cls := findClass_of_methodNamed B.named
  have hlocks := B.notSynchronized
  subst hsz
  have hD := hD0.self (sz := s.heap.size)
  generalize hAe : va_A [(x, oRD tx nw tr kn me sl), (nw, oDrv nc S (lN (kL (S) 0 40))), (nc, aI yI 48 g), (kn, oKn pl ex), (ex, aI yI 1681 E)] s.heap.size = A at hD hB ⊢
  have hA : ∀ q : Nat, s.heap.size ≤ q → A q := fun q h => by rw [← hAe]; exact Or.inr h
  have hS : va_S A s.heap s.heap [] := va_S.rf
  have hP : va_P D vwCl [(x, oRD tx nw tr kn me sl), (nw, oDrv nc S (lN (kL (S) 0 40))), (nc, aI yI 48 g), (kn, oKn pl ex), (ex, aI yI 1681 E)] s.heap := hP
  have hinX4 : ∀ w ∈ wsX40, w ∈ wsX4_least := by decide +kernel
  have hf19 : (Cond.fieldLink RX4 19 "RiddleDrive" "now" "LRiddleDrive$Drive;").before _ s = true := hts _ (by decide +kernel)
  have hf29 : (Cond.fieldLink RX4 29 "RiddleDrive" "knowledge" "LRiddleDrive$Knowledge;").before _ s = true := hts _ (by decide +kernel)
  have hl := lv_entry ([.ref x, .int (iI a), .int (iI b)]) (n := 3) (Nat.le_of_ble_eq_true rfl)
  rw [lg_entry_eq]
  generalize (lg_sl ([.ref x, .int (iI a), .int (iI b)]) ++ List.replicate (3 - (lg_sl ([.ref x, .int (iI a), .int (iI b)])).length) Slot.unset).toArray = ls at hl ⊢
  have hl : lv_has ls 3 [(0, .ref x), (1, .int (iI a)), (2, .int (iI b))] := hl
  have hpl := hI.pl
  have hna := hI.na
  have hse := hI.se
  have hwi := hI.wi
  have hfe := hI.fe
  refine lv_aload_n hx hb dX4_least_0 rfl (lv_at hl 0 rfl) ?_
  refine lv_iload_n hx hb dX4_least_1 rfl (lv_at hl 1 rfl) ?_
  refine lv_iload_n hx hb dX4_least_2 rfl (lv_at hl 2 rfl) ?_
  refine iv_vxVv (As := [.int (iI a), .int (iI b)]) (rest := []) (C := RX4) (n := 2) ⟨hx, hb, hml, hown, hts⟩ (c_X4_checkRange l hla D yI yC yD x tx nw tr kn me sl nc S g a b (by assumption) (by assumption) _) (cwV 2 hts gX4_least_X4_checkRange rfl rfl rfl (by decide +kernel) ⟨Nat.le_of_ble_eq_true rfl, Nat.le_of_ble_eq_true rfl⟩) hK hP hD hS hA hB [0, 1, 2] (by decide) rfl 0 rfl rfl rfl hl.1 rfl (Nat.le_of_ble_eq_true rfl) dX4_least_3 ⟨Nat.le_of_ble_eq_true rfl, Nat.le_of_ble_eq_true rfl⟩ (fun _ => rfl) (fun _ => rfl) (fun E9 ce9 q9 ux H locs hxe hP hD hS hc9 hv9 hcl9 => ?_) (fun u3 H locs hw3 hP hD hS => ?_)
  · exact iv_out hno hlocks hc9 hv9 hcl9 hS () (by exact hP) (hxe) (Nat.le_of_ble_eq_true rfl) (Nat.le_of_ble_eq_true rfl)
  have hwr9_3 := hw3
  have hP : va_P D vwCl [(x, oRD tx nw tr kn me sl), (nw, oDrv nc S (lN (kL (S) 0 40))), (nc, aI yI 48 g), (kn, oKn pl ex), (ex, aI yI 1681 E)] H := hP
  have hD : va_D A [(x, oRD tx nw tr kn me sl), (nw, oDrv nc S (lN (kL (S) 0 40))), (nc, aI yI 48 g), (kn, oKn pl ex), (ex, aI yI 1681 E)] := hD
  have hab := whyR_0.1 hwr9_3
  refine lv_aload_n hx hb dX4_least_6 rfl (lv_at hl 0 rfl) ?_
  refine va_get (D := D) (ci := 4) (v := .ref kn) (C := RX4) (T := TX4) (N := 6) hx hb hts hinX4 hown hK hP 0 rfl rfl 3 (by decide) hf29 (fun _ h9 => h9) rfl dX4_least_7 ?_
  refine lv_aload_n hx hb dX4_least_10 rfl (lv_at hl 0 rfl) ?_
  refine va_get (D := D) (ci := 4) (v := .ref nw) (C := RX4) (T := TX4) (N := 6) hx hb hts hinX4 hown hK hP 0 rfl rfl 1 (by decide) hf19 (fun _ h9 => h9) rfl dX4_least_11 ?_
  refine lv_iconst (v := iI (-1)) hx hb dX4_least_14 (by decide +kernel) ?_
  refine iv_rwVv (As := [.ref nw, .int (iI (-1))]) (rest := []) (C := RX1) (n := 2) ⟨hx, hb, hml, hown, hts⟩ (c_X1_learnFrom l D yI yC yD kn ex pl E nw nc S g (-1) (by assumption) (by assumption) (by omega) _) (cwV 2 hts gX4_least_X1_learnFrom rfl rfl rfl (by decide +kernel) ⟨Nat.le_of_ble_eq_true rfl, Nat.le_of_ble_eq_true rfl⟩) hK hP hD hS hA [3, 4, 1, 2] (by decide) rfl 3 rfl rfl rfl hl.1 rfl (Nat.le_of_ble_eq_true rfl) dX4_least_15 ⟨Nat.le_of_ble_eq_true rfl, Nat.le_of_ble_eq_true rfl⟩ (fun _ => rfl) (fun u15 H locs hw15 hP hD hS => ?_)
  obtain ⟨G915, hu15⟩ : ∃ z, z = u15 := ⟨_, rfl⟩
  subst hu15
  have hE9_15 := hw15
  have hP : va_P D vwCl [(x, oRD tx nw tr kn me sl), (nw, oDrv nc S (lN (kL S 0 40))), (nc, aI yI 48 g), (kn, oKn (S 0) ex), (ex, aI yI 1681 G915)] H := hP
  have hD : va_D A [(x, oRD tx nw tr kn me sl), (nw, oDrv nc S (lN (kL S 0 40))), (nc, aI yI 48 g), (kn, oKn (S 0) ex), (ex, aI yI 1681 G915)] := hD
  refine lv_aload_n hx hb dX4_least_18 rfl (lv_at hl 0 rfl) ?_
  refine va_get (D := D) (ci := 4) (v := .ref kn) (C := RX4) (T := TX4) (N := 6) hx hb hts hinX4 hown hK hP 0 rfl rfl 3 (by decide) hf29 (fun _ h9 => h9) rfl dX4_least_19 ?_
  refine lv_iload_n hx hb dX4_least_22 rfl (lv_at hl 1 rfl) ?_
  refine lv_iload_n hx hb dX4_least_23 rfl (lv_at hl 2 rfl) ?_
  refine iv_roV (As := [.int (iI a), .int (iI b)]) (rest := []) (C := RX1) (n := 2) ⟨hx, hb, hml, hown, hts⟩ (c_X1_fewestKeys l D yI yC yD kn ex (S 0) G915 (FB S (-1)) a b (by omega) (by assumption) (by omega)) (cwV 2 hts gX4_least_X1_fewestKeys rfl rfl rfl (by decide +kernel) ⟨Nat.le_of_ble_eq_true rfl, Nat.le_of_ble_eq_true rfl⟩) hK hP [3, 4] rfl 3 rfl rfl rfl hl.1 rfl (Nat.le_of_ble_eq_true rfl) dX4_least_24 ⟨Nat.le_of_ble_eq_true rfl, Nat.le_of_ble_eq_true rfl⟩ ?_
  have hP9 : va_P D vwCl [(x, oRD tx nw tr kn me sl), (nw, oDrv nc S (lN (kL (S) 0 40))), (nc, aI yI 48 g), (kn, oKn (S 0) ex), (ex, aI yI 1681 G915)] _ := hP.sub [0, 1, 2, 3, 4] rfl
  refine W.widen (k := 8) (n := 150) (Nat.le_of_ble_eq_true rfl) (Nat.le_of_ble_eq_true rfl) ?_
  refine vx_ret ?_
  exact W.iret hx hb hr (fun t ht hW => ⟨⟨iI (leastI (FB S (-1)) a b), (S 0, G915), rfl, ⟨rfl, (by exact hwr9_3)⟩, by show va_P D vwCl _ t.heap; rw [ht]; exact hP9⟩, hS.F ht⟩) hS.2.2 dX4_least_27
set_option maxHeartbeats 4000000 in
set_option maxRecDepth 100000 in
theorem c_X4_most (l : Launch) (hla : l.stackTraces = false) (D : va_G) (yI yC yD : ClassId) (x : Nat) (tx : Nat) (nw : Nat) (tr : Nat) (kn : Nat) (me : Nat) (sl : Nat) (nc : Nat) (S : Int → Int) (g : Int → Int) (ex : Nat) (pl : Int) (E : Int → Int) (a : Int) (b : Int) (hI : Inv S) (hR : Rc S g) (hab9 : inR a ∧ inR b) (sz : Nat) : vx_Met l yX4_most wsX4_most ({ frames := 8, cells := 8, slots := 150, locals := 125 }) (vxP [.ref x, .int (iI a), .int (iI b)] D (tyz yI yC yD) [(x, oRD tx nw tr kn me sl), (nw, oDrv nc S (lN (kL (S) 0 40))), (nc, aI yI 48 g), (kn, oKn pl ex), (ex, aI yI 1681 E)] sz) (va_Qi (fun (r : Int32) (u : Int × (Int → Int)) => match u with | (p9, E9) => r = iI (mostI (FB S (-1)) a b) ∧ whyR S a b = 0) (fun (u : Int × (Int → Int)) (t : State) => match u with | (p9, E9) => va_P D vwCl [(x, oRD tx nw tr kn me sl), (nw, oDrv nc S (lN (kL (S) 0 40))), (nc, aI yI 48 g), (kn, oKn p9 ex), (ex, aI yI 1681 E9)] t.heap) (va_A [(x, oRD tx nw tr kn me sl), (nw, oDrv nc S (lN (kL (S) 0 40))), (nc, aI yI 48 g), (kn, oKn pl ex), (ex, aI yI 1681 E)] sz)) (vxX D (fun E => (E = eI ∧ whyR S a b = 1) ∨ (E = eA ∧ whyR S a b = 2)) (fun (_ : Unit) => [(x, oRD tx nw tr kn me sl), (nw, oDrv nc S (lN (kL (S) 0 40))), (nc, aI yI 48 g), (kn, oKn pl ex), (ex, aI yI 1681 E)]) (va_A [(x, oRD tx nw tr kn me sl), (nw, oDrv nc S (lN (kL (S) 0 40))), (nc, aI yI 48 g), (kn, oKn pl ex), (ex, aI yI 1681 E)] sz)) 8 150 (va_A [(x, oRD tx nw tr kn me sl), (nw, oDrv nc S (lN (kL (S) 0 40))), (nc, aI yI 48 g), (kn, oKn pl ex), (ex, aI yI 1681 E)] sz) := by
  refine vx_ofW (cc := cX4_most) (maxL := 3) (ret := (some .int)) (by decide) rfl ?_
  intro p e s m args below meth c s₁ B hml hno hv
  obtain ⟨rfl, hsz, hP, hK, hD0, hB⟩ := hv
  have hx := B.exec
  have hb := B.bytes
  have hr := B.returns
  have hts := atoms_spec (ws := wsX4_most) B.pre
  have hown : s.vm.findClass RX4 = some m.cls := findClass_of_methodNamed B.named
  have hlocks := B.notSynchronized
  subst hsz
  have hD := hD0.self (sz := s.heap.size)
  generalize hAe : va_A [(x, oRD tx nw tr kn me sl), (nw, oDrv nc S (lN (kL (S) 0 40))), (nc, aI yI 48 g), (kn, oKn pl ex), (ex, aI yI 1681 E)] s.heap.size = A at hD hB ⊢
  have hA : ∀ q : Nat, s.heap.size ≤ q → A q := fun q h => by rw [← hAe]; exact Or.inr h
  have hS : va_S A s.heap s.heap [] := va_S.rf
  have hP : va_P D vwCl [(x, oRD tx nw tr kn me sl), (nw, oDrv nc S (lN (kL (S) 0 40))), (nc, aI yI 48 g), (kn, oKn pl ex), (ex, aI yI 1681 E)] s.heap := hP
  have hinX4 : ∀ w ∈ wsX40, w ∈ wsX4_most := by decide +kernel
  have hf19 : (Cond.fieldLink RX4 19 "RiddleDrive" "now" "LRiddleDrive$Drive;").before _ s = true := hts _ (by decide +kernel)
  have hf29 : (Cond.fieldLink RX4 29 "RiddleDrive" "knowledge" "LRiddleDrive$Knowledge;").before _ s = true := hts _ (by decide +kernel)
  have hl := lv_entry ([.ref x, .int (iI a), .int (iI b)]) (n := 3) (Nat.le_of_ble_eq_true rfl)
  rw [lg_entry_eq]
  generalize (lg_sl ([.ref x, .int (iI a), .int (iI b)]) ++ List.replicate (3 - (lg_sl ([.ref x, .int (iI a), .int (iI b)])).length) Slot.unset).toArray = ls at hl ⊢
  have hl : lv_has ls 3 [(0, .ref x), (1, .int (iI a)), (2, .int (iI b))] := hl
  have hpl := hI.pl
  have hna := hI.na
  have hse := hI.se
  have hwi := hI.wi
  have hfe := hI.fe
  refine lv_aload_n hx hb dX4_most_0 rfl (lv_at hl 0 rfl) ?_
  refine lv_iload_n hx hb dX4_most_1 rfl (lv_at hl 1 rfl) ?_
  refine lv_iload_n hx hb dX4_most_2 rfl (lv_at hl 2 rfl) ?_
  refine iv_vxVv (As := [.int (iI a), .int (iI b)]) (rest := []) (C := RX4) (n := 2) ⟨hx, hb, hml, hown, hts⟩ (c_X4_checkRange l hla D yI yC yD x tx nw tr kn me sl nc S g a b (by assumption) (by assumption) _) (cwV 2 hts gX4_most_X4_checkRange rfl rfl rfl (by decide +kernel) ⟨Nat.le_of_ble_eq_true rfl, Nat.le_of_ble_eq_true rfl⟩) hK hP hD hS hA hB [0, 1, 2] (by decide) rfl 0 rfl rfl rfl hl.1 rfl (Nat.le_of_ble_eq_true rfl) dX4_most_3 ⟨Nat.le_of_ble_eq_true rfl, Nat.le_of_ble_eq_true rfl⟩ (fun _ => rfl) (fun _ => rfl) (fun E9 ce9 q9 ux H locs hxe hP hD hS hc9 hv9 hcl9 => ?_) (fun u3 H locs hw3 hP hD hS => ?_)
  · exact iv_out hno hlocks hc9 hv9 hcl9 hS () (by exact hP) (hxe) (Nat.le_of_ble_eq_true rfl) (Nat.le_of_ble_eq_true rfl)
  have hwr9_3 := hw3
  have hP : va_P D vwCl [(x, oRD tx nw tr kn me sl), (nw, oDrv nc S (lN (kL (S) 0 40))), (nc, aI yI 48 g), (kn, oKn pl ex), (ex, aI yI 1681 E)] H := hP
  have hD : va_D A [(x, oRD tx nw tr kn me sl), (nw, oDrv nc S (lN (kL (S) 0 40))), (nc, aI yI 48 g), (kn, oKn pl ex), (ex, aI yI 1681 E)] := hD
  have hab := whyR_0.1 hwr9_3
  refine lv_aload_n hx hb dX4_most_6 rfl (lv_at hl 0 rfl) ?_
  refine va_get (D := D) (ci := 4) (v := .ref kn) (C := RX4) (T := TX4) (N := 6) hx hb hts hinX4 hown hK hP 0 rfl rfl 3 (by decide) hf29 (fun _ h9 => h9) rfl dX4_most_7 ?_
  refine lv_aload_n hx hb dX4_most_10 rfl (lv_at hl 0 rfl) ?_
  refine va_get (D := D) (ci := 4) (v := .ref nw) (C := RX4) (T := TX4) (N := 6) hx hb hts hinX4 hown hK hP 0 rfl rfl 1 (by decide) hf19 (fun _ h9 => h9) rfl dX4_most_11 ?_
  refine lv_iconst (v := iI (-1)) hx hb dX4_most_14 (by decide +kernel) ?_
  refine iv_rwVv (As := [.ref nw, .int (iI (-1))]) (rest := []) (C := RX1) (n := 2) ⟨hx, hb, hml, hown, hts⟩ (c_X1_learnFrom l D yI yC yD kn ex pl E nw nc S g (-1) (by assumption) (by assumption) (by omega) _) (cwV 2 hts gX4_most_X1_learnFrom rfl rfl rfl (by decide +kernel) ⟨Nat.le_of_ble_eq_true rfl, Nat.le_of_ble_eq_true rfl⟩) hK hP hD hS hA [3, 4, 1, 2] (by decide) rfl 3 rfl rfl rfl hl.1 rfl (Nat.le_of_ble_eq_true rfl) dX4_most_15 ⟨Nat.le_of_ble_eq_true rfl, Nat.le_of_ble_eq_true rfl⟩ (fun _ => rfl) (fun u15 H locs hw15 hP hD hS => ?_)
  obtain ⟨G915, hu15⟩ : ∃ z, z = u15 := ⟨_, rfl⟩
  subst hu15
  have hE9_15 := hw15
  have hP : va_P D vwCl [(x, oRD tx nw tr kn me sl), (nw, oDrv nc S (lN (kL S 0 40))), (nc, aI yI 48 g), (kn, oKn (S 0) ex), (ex, aI yI 1681 G915)] H := hP
  have hD : va_D A [(x, oRD tx nw tr kn me sl), (nw, oDrv nc S (lN (kL S 0 40))), (nc, aI yI 48 g), (kn, oKn (S 0) ex), (ex, aI yI 1681 G915)] := hD
  refine lv_aload_n hx hb dX4_most_18 rfl (lv_at hl 0 rfl) ?_
  refine va_get (D := D) (ci := 4) (v := .ref kn) (C := RX4) (T := TX4) (N := 6) hx hb hts hinX4 hown hK hP 0 rfl rfl 3 (by decide) hf29 (fun _ h9 => h9) rfl dX4_most_19 ?_
  refine lv_iload_n hx hb dX4_most_22 rfl (lv_at hl 1 rfl) ?_
  refine lv_iload_n hx hb dX4_most_23 rfl (lv_at hl 2 rfl) ?_
  refine iv_roV (As := [.int (iI a), .int (iI b)]) (rest := []) (C := RX1) (n := 2) ⟨hx, hb, hml, hown, hts⟩ (c_X1_greatestKeys l D yI yC yD kn ex (S 0) G915 (FB S (-1)) a b (by omega) (by assumption) (by omega)) (cwV 2 hts gX4_most_X1_greatestKeys rfl rfl rfl (by decide +kernel) ⟨Nat.le_of_ble_eq_true rfl, Nat.le_of_ble_eq_true rfl⟩) hK hP [3, 4] rfl 3 rfl rfl rfl hl.1 rfl (Nat.le_of_ble_eq_true rfl) dX4_most_24 ⟨Nat.le_of_ble_eq_true rfl, Nat.le_of_ble_eq_true rfl⟩ ?_
  have hP9 : va_P D vwCl [(x, oRD tx nw tr kn me sl), (nw, oDrv nc S (lN (kL (S) 0 40))), (nc, aI yI 48 g), (kn, oKn (S 0) ex), (ex, aI yI 1681 G915)] _ := hP.sub [0, 1, 2, 3, 4] rfl
  refine W.widen (k := 8) (n := 150) (Nat.le_of_ble_eq_true rfl) (Nat.le_of_ble_eq_true rfl) ?_
  refine vx_ret ?_
  exact W.iret hx hb hr (fun t ht hW => ⟨⟨iI (mostI (FB S (-1)) a b), (S 0, G915), rfl, ⟨rfl, (by exact hwr9_3)⟩, by show va_P D vwCl _ t.heap; rw [ht]; exact hP9⟩, hS.F ht⟩) hS.2.2 dX4_most_27
set_option maxHeartbeats 4000000 in
set_option maxRecDepth 100000 in
theorem c_X4_known (l : Launch) (hla : l.stackTraces = false) (D : va_G) (yI yC yD : ClassId) (x : Nat) (tx : Nat) (nw : Nat) (tr : Nat) (kn : Nat) (me : Nat) (sl : Nat) (nc : Nat) (S : Int → Int) (g : Int → Int) (ex : Nat) (pl : Int) (E : Int → Int) (i : Int) (hI : Inv S) (hR : Rc S g) (hi9 : inR i) (sz : Nat) : vx_Met l yX4_known wsX4_known ({ frames := 7, cells := 8, slots := 150, locals := 103 }) (vxP [.ref x, .int (iI i)] D (tyz yI yC yD) [(x, oRD tx nw tr kn me sl), (nw, oDrv nc S (lN (kL (S) 0 40))), (nc, aI yI 48 g), (kn, oKn pl ex), (ex, aI yI 1681 E)] sz) (va_Qi (fun (r : Int32) (u : Int × (Int → Int)) => match u with | (p9, E9) => r = iI (knownOf (FB S (-1)) i) ∧ 0 ≤ i ∧ i < S 0) (fun (u : Int × (Int → Int)) (t : State) => match u with | (p9, E9) => va_P D vwCl [(x, oRD tx nw tr kn me sl), (nw, oDrv nc S (lN (kL (S) 0 40))), (nc, aI yI 48 g), (kn, oKn p9 ex), (ex, aI yI 1681 E9)] t.heap) (va_A [(x, oRD tx nw tr kn me sl), (nw, oDrv nc S (lN (kL (S) 0 40))), (nc, aI yI 48 g), (kn, oKn pl ex), (ex, aI yI 1681 E)] sz)) (vxX D (fun E => E = eI ∧ ¬ (0 ≤ i ∧ i < S 0)) (fun (_ : Unit) => [(x, oRD tx nw tr kn me sl), (nw, oDrv nc S (lN (kL (S) 0 40))), (nc, aI yI 48 g), (kn, oKn pl ex), (ex, aI yI 1681 E)]) (va_A [(x, oRD tx nw tr kn me sl), (nw, oDrv nc S (lN (kL (S) 0 40))), (nc, aI yI 48 g), (kn, oKn pl ex), (ex, aI yI 1681 E)] sz)) 8 150 (va_A [(x, oRD tx nw tr kn me sl), (nw, oDrv nc S (lN (kL (S) 0 40))), (nc, aI yI 48 g), (kn, oKn pl ex), (ex, aI yI 1681 E)] sz) := by
  refine vx_ofW (cc := cX4_known) (maxL := 2) (ret := (some .int)) (by decide) rfl ?_
  intro p e s m args below meth c s₁ B hml hno hv
  obtain ⟨rfl, hsz, hP, hK, hD0, hB⟩ := hv
  have hx := B.exec
  have hb := B.bytes
  have hr := B.returns
  have hts := atoms_spec (ws := wsX4_known) B.pre
  have hown : s.vm.findClass RX4 = some m.cls := findClass_of_methodNamed B.named
  have hlocks := B.notSynchronized
  subst hsz
  have hD := hD0.self (sz := s.heap.size)
  generalize hAe : va_A [(x, oRD tx nw tr kn me sl), (nw, oDrv nc S (lN (kL (S) 0 40))), (nc, aI yI 48 g), (kn, oKn pl ex), (ex, aI yI 1681 E)] s.heap.size = A at hD hB ⊢
  have hA : ∀ q : Nat, s.heap.size ≤ q → A q := fun q h => by rw [← hAe]; exact Or.inr h
  have hS : va_S A s.heap s.heap [] := va_S.rf
  have hP : va_P D vwCl [(x, oRD tx nw tr kn me sl), (nw, oDrv nc S (lN (kL (S) 0 40))), (nc, aI yI 48 g), (kn, oKn pl ex), (ex, aI yI 1681 E)] s.heap := hP
  have hinX4 : ∀ w ∈ wsX40, w ∈ wsX4_known := by decide +kernel
  have hf19 : (Cond.fieldLink RX4 19 "RiddleDrive" "now" "LRiddleDrive$Drive;").before _ s = true := hts _ (by decide +kernel)
  have hf29 : (Cond.fieldLink RX4 29 "RiddleDrive" "knowledge" "LRiddleDrive$Knowledge;").before _ s = true := hts _ (by decide +kernel)
  have hl := lv_entry ([.ref x, .int (iI i)]) (n := 2) (Nat.le_of_ble_eq_true rfl)
  rw [lg_entry_eq]
  generalize (lg_sl ([.ref x, .int (iI i)]) ++ List.replicate (2 - (lg_sl ([.ref x, .int (iI i)])).length) Slot.unset).toArray = ls at hl ⊢
  have hl : lv_has ls 2 [(0, .ref x), (1, .int (iI i))] := hl
  have hpl := hI.pl
  have hna := hI.na
  have hse := hI.se
  have hwi := hI.wi
  have hfe := hI.fe
  refine lv_aload_n hx hb dX4_known_0 rfl (lv_at hl 0 rfl) ?_
  refine lv_iload_n hx hb dX4_known_1 rfl (lv_at hl 1 rfl) ?_
  refine iv_vxVv (As := [.int (iI i)]) (rest := []) (C := RX4) (n := 1) ⟨hx, hb, hml, hown, hts⟩ (c_X4_checkPlace l hla D yI yC yD x tx nw tr kn me sl nc S g i (by assumption) (by assumption) _) (cwV 1 hts gX4_known_X4_checkPlace rfl rfl rfl (by decide +kernel) ⟨Nat.le_of_ble_eq_true rfl, Nat.le_of_ble_eq_true rfl⟩) hK hP hD hS hA hB [0, 1, 2] (by decide) rfl 0 rfl rfl rfl hl.1 rfl (Nat.le_of_ble_eq_true rfl) dX4_known_2 ⟨Nat.le_of_ble_eq_true rfl, Nat.le_of_ble_eq_true rfl⟩ (fun _ => rfl) (fun _ => rfl) (fun E9 ce9 q9 ux H locs hxe hP hD hS hc9 hv9 hcl9 => ?_) (fun u2 H locs hw2 hP hD hS => ?_)
  · exact iv_out hno hlocks hc9 hv9 hcl9 hS () (by exact hP) (hxe) (Nat.le_of_ble_eq_true rfl) (Nat.le_of_ble_eq_true rfl)
  have hpl9_2 := hw2
  have hP : va_P D vwCl [(x, oRD tx nw tr kn me sl), (nw, oDrv nc S (lN (kL (S) 0 40))), (nc, aI yI 48 g), (kn, oKn pl ex), (ex, aI yI 1681 E)] H := hP
  have hD : va_D A [(x, oRD tx nw tr kn me sl), (nw, oDrv nc S (lN (kL (S) 0 40))), (nc, aI yI 48 g), (kn, oKn pl ex), (ex, aI yI 1681 E)] := hD
  refine lv_aload_n hx hb dX4_known_5 rfl (lv_at hl 0 rfl) ?_
  refine va_get (D := D) (ci := 4) (v := .ref kn) (C := RX4) (T := TX4) (N := 6) hx hb hts hinX4 hown hK hP 0 rfl rfl 3 (by decide) hf29 (fun _ h9 => h9) rfl dX4_known_6 ?_
  refine lv_aload_n hx hb dX4_known_9 rfl (lv_at hl 0 rfl) ?_
  refine va_get (D := D) (ci := 4) (v := .ref nw) (C := RX4) (T := TX4) (N := 6) hx hb hts hinX4 hown hK hP 0 rfl rfl 1 (by decide) hf19 (fun _ h9 => h9) rfl dX4_known_10 ?_
  refine lv_iconst (v := iI (-1)) hx hb dX4_known_13 (by decide +kernel) ?_
  refine iv_rwVv (As := [.ref nw, .int (iI (-1))]) (rest := []) (C := RX1) (n := 2) ⟨hx, hb, hml, hown, hts⟩ (c_X1_learnFrom l D yI yC yD kn ex pl E nw nc S g (-1) (by assumption) (by assumption) (by omega) _) (cwV 2 hts gX4_known_X1_learnFrom rfl rfl rfl (by decide +kernel) ⟨Nat.le_of_ble_eq_true rfl, Nat.le_of_ble_eq_true rfl⟩) hK hP hD hS hA [3, 4, 1, 2] (by decide) rfl 3 rfl rfl rfl hl.1 rfl (Nat.le_of_ble_eq_true rfl) dX4_known_14 ⟨Nat.le_of_ble_eq_true rfl, Nat.le_of_ble_eq_true rfl⟩ (fun _ => rfl) (fun u14 H locs hw14 hP hD hS => ?_)
  obtain ⟨G914, hu14⟩ : ∃ z, z = u14 := ⟨_, rfl⟩
  subst hu14
  have hE9_14 := hw14
  have hP : va_P D vwCl [(x, oRD tx nw tr kn me sl), (nw, oDrv nc S (lN (kL S 0 40))), (nc, aI yI 48 g), (kn, oKn (S 0) ex), (ex, aI yI 1681 G914)] H := hP
  have hD : va_D A [(x, oRD tx nw tr kn me sl), (nw, oDrv nc S (lN (kL S 0 40))), (nc, aI yI 48 g), (kn, oKn (S 0) ex), (ex, aI yI 1681 G914)] := hD
  refine lv_aload_n hx hb dX4_known_17 rfl (lv_at hl 0 rfl) ?_
  refine va_get (D := D) (ci := 4) (v := .ref kn) (C := RX4) (T := TX4) (N := 6) hx hb hts hinX4 hown hK hP 0 rfl rfl 3 (by decide) hf29 (fun _ h9 => h9) rfl dX4_known_18 ?_
  refine lv_iload_n hx hb dX4_known_21 rfl (lv_at hl 1 rfl) ?_
  refine iv_roV (As := [.int (iI i)]) (rest := []) (C := RX1) (n := 1) ⟨hx, hb, hml, hown, hts⟩ (c_X1_sure l D yI yC yD kn ex (S 0) G914 (FB S (-1)) i (by omega) (by assumption) (gb_FB hI _) (by omega)) (cwV 1 hts gX4_known_X1_sure rfl rfl rfl (by decide +kernel) ⟨Nat.le_of_ble_eq_true rfl, Nat.le_of_ble_eq_true rfl⟩) hK hP [3, 4] rfl 3 rfl rfl rfl hl.1 rfl (Nat.le_of_ble_eq_true rfl) dX4_known_22 ⟨Nat.le_of_ble_eq_true rfl, Nat.le_of_ble_eq_true rfl⟩ ?_
  have hP9 : va_P D vwCl [(x, oRD tx nw tr kn me sl), (nw, oDrv nc S (lN (kL (S) 0 40))), (nc, aI yI 48 g), (kn, oKn (S 0) ex), (ex, aI yI 1681 G914)] _ := hP.sub [0, 1, 2, 3, 4] rfl
  refine W.widen (k := 8) (n := 150) (Nat.le_of_ble_eq_true rfl) (Nat.le_of_ble_eq_true rfl) ?_
  refine vx_ret ?_
  exact W.iret hx hb hr (fun t ht hW => ⟨⟨iI (knownOf (FB S (-1)) i), (S 0, G914), rfl, ⟨rfl, (by exact hpl9_2)⟩, by show va_P D vwCl _ t.heap; rw [ht]; exact hP9⟩, hS.F ht⟩) hS.2.2 dX4_known_25
set_option maxHeartbeats 4000000 in
set_option maxRecDepth 100000 in
theorem c_X4_knownAt (l : Launch) (hla : l.stackTraces = false) (D : va_G) (yI yC yD : ClassId) (x : Nat) (tx : Nat) (nw : Nat) (tr : Nat) (kn : Nat) (me : Nat) (sl : Nat) (nc : Nat) (S : Int → Int) (g : Int → Int) (ex : Nat) (pl : Int) (E : Int → Int) (i : Int) (hI : Inv S) (hR : Rc S g) (hi9 : inR i) (sz : Nat) : vx_Met l yX4_knownAt wsX4_knownAt ({ frames := 6, cells := 8, slots := 150, locals := 99 }) (vxP [.ref x, .int (iI i)] D (tyz yI yC yD) [(x, oRD tx nw tr kn me sl), (nw, oDrv nc S (lN (kL (S) 0 40))), (nc, aI yI 48 g), (kn, oKn pl ex), (ex, aI yI 1681 E)] sz) (va_Qi (fun (r : Int32) (u : Int × (Int → Int)) => match u with | (p9, E9) => r = iI (kAt (FB S (-1)) i (S 0).toNat) ∧ 0 ≤ i) (fun (u : Int × (Int → Int)) (t : State) => match u with | (p9, E9) => va_P D vwCl [(x, oRD tx nw tr kn me sl), (nw, oDrv nc S (lN (kL (S) 0 40))), (nc, aI yI 48 g), (kn, oKn p9 ex), (ex, aI yI 1681 E9)] t.heap) (va_A [(x, oRD tx nw tr kn me sl), (nw, oDrv nc S (lN (kL (S) 0 40))), (nc, aI yI 48 g), (kn, oKn pl ex), (ex, aI yI 1681 E)] sz)) (vxX D (fun E => E = eA ∧ ¬ (0 ≤ i)) (fun (_ : Unit) => [(x, oRD tx nw tr kn me sl), (nw, oDrv nc S (lN (kL (S) 0 40))), (nc, aI yI 48 g), (kn, oKn pl ex), (ex, aI yI 1681 E)]) (va_A [(x, oRD tx nw tr kn me sl), (nw, oDrv nc S (lN (kL (S) 0 40))), (nc, aI yI 48 g), (kn, oKn pl ex), (ex, aI yI 1681 E)] sz)) 8 150 (va_A [(x, oRD tx nw tr kn me sl), (nw, oDrv nc S (lN (kL (S) 0 40))), (nc, aI yI 48 g), (kn, oKn pl ex), (ex, aI yI 1681 E)] sz) := by
  refine vx_ofW (cc := cX4_knownAt) (maxL := 2) (ret := (some .int)) (by decide) rfl ?_
  intro p e s m args below meth c s₁ B hml hno hv
  obtain ⟨rfl, hsz, hP, hK, hD0, hB⟩ := hv
  have hx := B.exec
  have hb := B.bytes
  have hr := B.returns
  have hts := atoms_spec (ws := wsX4_knownAt) B.pre
  have hown : s.vm.findClass RX4 = some m.cls := findClass_of_methodNamed B.named
  have hlocks := B.notSynchronized
  subst hsz
  have hD := hD0.self (sz := s.heap.size)
  generalize hAe : va_A [(x, oRD tx nw tr kn me sl), (nw, oDrv nc S (lN (kL (S) 0 40))), (nc, aI yI 48 g), (kn, oKn pl ex), (ex, aI yI 1681 E)] s.heap.size = A at hD hB ⊢
  have hA : ∀ q : Nat, s.heap.size ≤ q → A q := fun q h => by rw [← hAe]; exact Or.inr h
  have hS : va_S A s.heap s.heap [] := va_S.rf
  have hP : va_P D vwCl [(x, oRD tx nw tr kn me sl), (nw, oDrv nc S (lN (kL (S) 0 40))), (nc, aI yI 48 g), (kn, oKn pl ex), (ex, aI yI 1681 E)] s.heap := hP
  have hinX4 : ∀ w ∈ wsX40, w ∈ wsX4_knownAt := by decide +kernel
  have hf19 : (Cond.fieldLink RX4 19 "RiddleDrive" "now" "LRiddleDrive$Drive;").before _ s = true := hts _ (by decide +kernel)
  have hf29 : (Cond.fieldLink RX4 29 "RiddleDrive" "knowledge" "LRiddleDrive$Knowledge;").before _ s = true := hts _ (by decide +kernel)
  have hl := lv_entry ([.ref x, .int (iI i)]) (n := 2) (Nat.le_of_ble_eq_true rfl)
  rw [lg_entry_eq]
  generalize (lg_sl ([.ref x, .int (iI i)]) ++ List.replicate (2 - (lg_sl ([.ref x, .int (iI i)])).length) Slot.unset).toArray = ls at hl ⊢
  have hl : lv_has ls 2 [(0, .ref x), (1, .int (iI i))] := hl
  have hpl := hI.pl
  have hna := hI.na
  have hse := hI.se
  have hwi := hI.wi
  have hfe := hI.fe
  refine lv_iload_n hx hb dX4_knownAt_0 rfl (lv_at hl 1 rfl) ?_
  refine iv_if_ge (a := i) (tgt := 14) hx hb (by omega) dX4_knownAt_1 (by decide) (fun c1 => ?_) (fun c1 => ?_)
  · refine lv_aload_n hx hb dX4_knownAt_14 rfl (lv_at hl 0 rfl) ?_
    refine va_get (D := D) (ci := 4) (v := .ref kn) (C := RX4) (T := TX4) (N := 6) hx hb hts hinX4 hown hK hP 0 rfl rfl 3 (by decide) hf29 (fun _ h9 => h9) rfl dX4_knownAt_15 ?_
    refine lv_aload_n hx hb dX4_knownAt_18 rfl (lv_at hl 0 rfl) ?_
    refine va_get (D := D) (ci := 4) (v := .ref nw) (C := RX4) (T := TX4) (N := 6) hx hb hts hinX4 hown hK hP 0 rfl rfl 1 (by decide) hf19 (fun _ h9 => h9) rfl dX4_knownAt_19 ?_
    refine lv_iconst (v := iI (-1)) hx hb dX4_knownAt_22 (by decide +kernel) ?_
    refine iv_rwVv (As := [.ref nw, .int (iI (-1))]) (rest := []) (C := RX1) (n := 2) ⟨hx, hb, hml, hown, hts⟩ (c_X1_learnFrom l D yI yC yD kn ex pl E nw nc S g (-1) (by assumption) (by assumption) (by omega) _) (cwV 2 hts gX4_knownAt_X1_learnFrom rfl rfl rfl (by decide +kernel) ⟨Nat.le_of_ble_eq_true rfl, Nat.le_of_ble_eq_true rfl⟩) hK hP hD hS hA [3, 4, 1, 2] (by decide) rfl 3 rfl rfl rfl hl.1 rfl (Nat.le_of_ble_eq_true rfl) dX4_knownAt_23 ⟨Nat.le_of_ble_eq_true rfl, Nat.le_of_ble_eq_true rfl⟩ (fun _ => rfl) (fun u23 H locs hw23 hP hD hS => ?_)
    obtain ⟨G923, hu23⟩ : ∃ z, z = u23 := ⟨_, rfl⟩
    subst hu23
    have hE9_23 := hw23
    have hP : va_P D vwCl [(x, oRD tx nw tr kn me sl), (nw, oDrv nc S (lN (kL S 0 40))), (nc, aI yI 48 g), (kn, oKn (S 0) ex), (ex, aI yI 1681 G923)] H := hP
    have hD : va_D A [(x, oRD tx nw tr kn me sl), (nw, oDrv nc S (lN (kL S 0 40))), (nc, aI yI 48 g), (kn, oKn (S 0) ex), (ex, aI yI 1681 G923)] := hD
    refine lv_aload_n hx hb dX4_knownAt_26 rfl (lv_at hl 0 rfl) ?_
    refine va_get (D := D) (ci := 4) (v := .ref kn) (C := RX4) (T := TX4) (N := 6) hx hb hts hinX4 hown hK hP 0 rfl rfl 3 (by decide) hf29 (fun _ h9 => h9) rfl dX4_knownAt_27 ?_
    refine lv_iload_n hx hb dX4_knownAt_30 rfl (lv_at hl 1 rfl) ?_
    refine iv_roV (As := [.int (iI i)]) (rest := []) (C := RX1) (n := 1) ⟨hx, hb, hml, hown, hts⟩ (c_X1_surePlace l D yI yC yD kn ex (S 0) G923 (FB S (-1)) i (by omega) (by assumption) (gb_FB hI _) (by omega)) (cwV 1 hts gX4_knownAt_X1_surePlace rfl rfl rfl (by decide +kernel) ⟨Nat.le_of_ble_eq_true rfl, Nat.le_of_ble_eq_true rfl⟩) hK hP [3, 4] rfl 3 rfl rfl rfl hl.1 rfl (Nat.le_of_ble_eq_true rfl) dX4_knownAt_31 ⟨Nat.le_of_ble_eq_true rfl, Nat.le_of_ble_eq_true rfl⟩ ?_
    have hP9 : va_P D vwCl [(x, oRD tx nw tr kn me sl), (nw, oDrv nc S (lN (kL (S) 0 40))), (nc, aI yI 48 g), (kn, oKn (S 0) ex), (ex, aI yI 1681 G923)] _ := hP.sub [0, 1, 2, 3, 4] rfl
    refine W.widen (k := 8) (n := 150) (Nat.le_of_ble_eq_true rfl) (Nat.le_of_ble_eq_true rfl) ?_
    refine vx_ret ?_
    exact W.iret hx hb hr (fun t ht hW => ⟨⟨iI (kAt (FB S (-1)) i (S 0).toNat), (S 0, G923), rfl, ⟨rfl, (by omega)⟩, by show va_P D vwCl _ t.heap; rw [ht]; exact hP9⟩, hS.F ht⟩) hS.2.2 dX4_knownAt_34
  · exact iv_thrG (ic := 52) (ik := 48) (is := 158) (cls := eA) (text := "negative") hx hb hla hown bfA xfA xgA hB.1.1 hts (fun w h => List.mem_cons_of_mem _ (List.mem_append_right _ h)) (by decide +kernel) (by decide +kernel) hB hS (()) (by exact hP) (⟨rfl, by omega⟩) (hl.1.trans hml.symm) hlocks hno (by decide +kernel) ⟨Nat.le_of_ble_eq_true rfl, Nat.le_of_ble_eq_true rfl, Nat.le_of_ble_eq_true rfl, Nat.le_of_ble_eq_true rfl⟩ (Nat.le_of_ble_eq_true rfl) (Nat.le_of_ble_eq_true rfl) dX4_knownAt_4 dX4_knownAt_7 (Or.inl ⟨dX4_knownAt_8, dX4_knownAt_10, dX4_knownAt_13⟩)
set_option maxHeartbeats 4000000 in
set_option maxRecDepth 100000 in
theorem c_X4_costs (l : Launch) (hla : l.stackTraces = false) (D : va_G) (yI yC yD : ClassId) (x : Nat) (tx : Nat) (nw : Nat) (tr : Nat) (kn : Nat) (me : Nat) (sl : Nat) (nc : Nat) (S : Int → Int) (g : Int → Int) (a : Int) (b : Int) (hI : Inv S) (hR : Rc S g) (hab9 : inR a ∧ inR b) (sz : Nat) : vx_Met l yX4_costs wsX4_costs ({ frames := 8, cells := 8, slots := 150, locals := 125 }) (vxP [.ref x, .int (iI a), .int (iI b)] D (tyz yI yC yD) [(x, oRD tx nw tr kn me sl), (nw, oDrv nc S (lN (kL (S) 0 40))), (nc, aI yI 48 g)] sz) (va_Qi (fun (r : Int32) (_ : Unit) => r = iI (if S 1 ≤ b - a + 1 then costOf S a b else -1) ∧ whyR S a b = 0) (fun (_ : Unit) (t : State) => va_P D vwCl [(x, oRD tx nw tr kn me sl), (nw, oDrv nc S (lN (kL (S) 0 40))), (nc, aI yI 48 g)] t.heap) (va_A [(x, oRD tx nw tr kn me sl), (nw, oDrv nc S (lN (kL (S) 0 40))), (nc, aI yI 48 g)] sz)) (vxX D (fun E => (E = eI ∧ whyR S a b = 1) ∨ (E = eA ∧ whyR S a b = 2)) (fun (_ : Unit) => [(x, oRD tx nw tr kn me sl), (nw, oDrv nc S (lN (kL (S) 0 40))), (nc, aI yI 48 g)]) (va_A [(x, oRD tx nw tr kn me sl), (nw, oDrv nc S (lN (kL (S) 0 40))), (nc, aI yI 48 g)] sz)) 8 150 (va_A [(x, oRD tx nw tr kn me sl), (nw, oDrv nc S (lN (kL (S) 0 40))), (nc, aI yI 48 g)] sz) := by
  refine vx_ofW (cc := cX4_costs) (maxL := 3) (ret := (some .int)) (by decide) rfl ?_
  intro p e s m args below meth c s₁ B hml hno hv
  obtain ⟨rfl, hsz, hP, hK, hD0, hB⟩ := hv
  have hx := B.exec
  have hb := B.bytes
  have hr := B.returns
  have hts := atoms_spec (ws := wsX4_costs) B.pre
  have hown : s.vm.findClass RX4 = some m.cls := findClass_of_methodNamed B.named
  have hlocks := B.notSynchronized
  subst hsz
  have hD := hD0.self (sz := s.heap.size)
  generalize hAe : va_A [(x, oRD tx nw tr kn me sl), (nw, oDrv nc S (lN (kL (S) 0 40))), (nc, aI yI 48 g)] s.heap.size = A at hD hB ⊢
  have hA : ∀ q : Nat, s.heap.size ≤ q → A q := fun q h => by rw [← hAe]; exact Or.inr h
  have hS : va_S A s.heap s.heap [] := va_S.rf
  have hP : va_P D vwCl [(x, oRD tx nw tr kn me sl), (nw, oDrv nc S (lN (kL (S) 0 40))), (nc, aI yI 48 g)] s.heap := hP
  have hinX4 : ∀ w ∈ wsX40, w ∈ wsX4_costs := by decide +kernel
  have hf19 : (Cond.fieldLink RX4 19 "RiddleDrive" "now" "LRiddleDrive$Drive;").before _ s = true := hts _ (by decide +kernel)
  have hl := lv_entry ([.ref x, .int (iI a), .int (iI b)]) (n := 3) (Nat.le_of_ble_eq_true rfl)
  rw [lg_entry_eq]
  generalize (lg_sl ([.ref x, .int (iI a), .int (iI b)]) ++ List.replicate (3 - (lg_sl ([.ref x, .int (iI a), .int (iI b)])).length) Slot.unset).toArray = ls at hl ⊢
  have hl : lv_has ls 3 [(0, .ref x), (1, .int (iI a)), (2, .int (iI b))] := hl
  have hpl := hI.pl
  have hna := hI.na
  have hse := hI.se
  have hwi := hI.wi
  have hfe := hI.fe
  refine lv_aload_n hx hb dX4_costs_0 rfl (lv_at hl 0 rfl) ?_
  refine lv_iload_n hx hb dX4_costs_1 rfl (lv_at hl 1 rfl) ?_
  refine lv_iload_n hx hb dX4_costs_2 rfl (lv_at hl 2 rfl) ?_
  refine iv_vxVv (As := [.int (iI a), .int (iI b)]) (rest := []) (C := RX4) (n := 2) ⟨hx, hb, hml, hown, hts⟩ (c_X4_checkRange l hla D yI yC yD x tx nw tr kn me sl nc S g a b (by assumption) (by assumption) _) (cwV 2 hts gX4_costs_X4_checkRange rfl rfl rfl (by decide +kernel) ⟨Nat.le_of_ble_eq_true rfl, Nat.le_of_ble_eq_true rfl⟩) hK hP hD hS hA hB [0, 1, 2] (by decide) rfl 0 rfl rfl rfl hl.1 rfl (Nat.le_of_ble_eq_true rfl) dX4_costs_3 ⟨Nat.le_of_ble_eq_true rfl, Nat.le_of_ble_eq_true rfl⟩ (fun _ => rfl) (fun _ => rfl) (fun E9 ce9 q9 ux H locs hxe hP hD hS hc9 hv9 hcl9 => ?_) (fun u3 H locs hw3 hP hD hS => ?_)
  · exact iv_out hno hlocks hc9 hv9 hcl9 hS () (by exact hP) (hxe) (Nat.le_of_ble_eq_true rfl) (Nat.le_of_ble_eq_true rfl)
  have hwr9_3 := hw3
  have hP : va_P D vwCl [(x, oRD tx nw tr kn me sl), (nw, oDrv nc S (lN (kL (S) 0 40))), (nc, aI yI 48 g)] H := hP
  have hD : va_D A [(x, oRD tx nw tr kn me sl), (nw, oDrv nc S (lN (kL (S) 0 40))), (nc, aI yI 48 g)] := hD
  have hab := whyR_0.1 hwr9_3
  refine lv_aload_n hx hb dX4_costs_6 rfl (lv_at hl 0 rfl) ?_
  refine va_get (D := D) (ci := 4) (v := .ref nw) (C := RX4) (T := TX4) (N := 6) hx hb hts hinX4 hown hK hP 0 rfl rfl 1 (by decide) hf19 (fun _ h9 => h9) rfl dX4_costs_7 ?_
  refine lv_iload_n hx hb dX4_costs_10 rfl (lv_at hl 1 rfl) ?_
  refine lv_iload_n hx hb dX4_costs_11 rfl (lv_at hl 2 rfl) ?_
  refine iv_roV (As := [.int (iI a), .int (iI b)]) (rest := []) (C := RX0) (n := 2) ⟨hx, hb, hml, hown, hts⟩ (c_X0_isNarrow l D yI yC yD nw nc S g (lN (kL (S) 0 40)) a b (by omega) (by omega)) (cwV 2 hts gX4_costs_X0_isNarrow rfl rfl rfl (by decide +kernel) ⟨Nat.le_of_ble_eq_true rfl, Nat.le_of_ble_eq_true rfl⟩) hK hP [1, 2] rfl 1 rfl rfl rfl hl.1 rfl (Nat.le_of_ble_eq_true rfl) dX4_costs_12 ⟨Nat.le_of_ble_eq_true rfl, Nat.le_of_ble_eq_true rfl⟩ ?_
  refine iv_ifb_eq (P := b - a + 1 < S 1) (tgt := 22) hx hb dX4_costs_15 (by decide) (fun c15 => ?_) (fun c15 => ?_)
  · refine lv_aload_n hx hb dX4_costs_22 rfl (lv_at hl 0 rfl) ?_
    refine va_get (D := D) (ci := 4) (v := .ref nw) (C := RX4) (T := TX4) (N := 6) hx hb hts hinX4 hown hK hP 0 rfl rfl 1 (by decide) hf19 (fun _ h9 => h9) rfl dX4_costs_23 ?_
    refine lv_iload_n hx hb dX4_costs_26 rfl (lv_at hl 1 rfl) ?_
    refine lv_iload_n hx hb dX4_costs_27 rfl (lv_at hl 2 rfl) ?_
    refine iv_roV (As := [.int (iI a), .int (iI b)]) (rest := []) (C := RX0) (n := 2) ⟨hx, hb, hml, hown, hts⟩ (c_X0_price l D yI yC yD nw nc S g a b (by assumption) (by assumption) (by omega)) (cwV 2 hts gX4_costs_X0_price rfl rfl rfl (by decide +kernel) ⟨Nat.le_of_ble_eq_true rfl, Nat.le_of_ble_eq_true rfl⟩) hK hP [1, 2] rfl 1 rfl rfl rfl hl.1 rfl (Nat.le_of_ble_eq_true rfl) dX4_costs_28 ⟨Nat.le_of_ble_eq_true rfl, Nat.le_of_ble_eq_true rfl⟩ ?_
    have hP9 : va_P D vwCl [(x, oRD tx nw tr kn me sl), (nw, oDrv nc S (lN (kL (S) 0 40))), (nc, aI yI 48 g)] _ := hP.sub [0, 1, 2] rfl
    refine W.widen (k := 8) (n := 150) (Nat.le_of_ble_eq_true rfl) (Nat.le_of_ble_eq_true rfl) ?_
    refine vx_ret ?_
    exact W.iret hx hb hr (fun t ht hW => ⟨⟨iI (costOf S a b), (), rfl, ⟨congrArg iI (show costOf S a b = if S 1 ≤ b - a + 1 then costOf S a b else -1 by first | rw [if_pos (by omega)] | rw [if_neg (by omega)]), (by exact hwr9_3)⟩, by show va_P D vwCl _ t.heap; rw [ht]; exact hP9⟩, hS.F ht⟩) hS.2.2 dX4_costs_31
  · refine lv_iconst (v := iI (-1)) hx hb dX4_costs_18 (by decide +kernel) ?_
    refine lv_goto (tgt := 31) hx hb dX4_costs_19 (by decide) ?_
    have hP9 : va_P D vwCl [(x, oRD tx nw tr kn me sl), (nw, oDrv nc S (lN (kL (S) 0 40))), (nc, aI yI 48 g)] _ := hP.sub [0, 1, 2] rfl
    refine W.widen (k := 8) (n := 150) (Nat.le_of_ble_eq_true rfl) (Nat.le_of_ble_eq_true rfl) ?_
    refine vx_ret ?_
    exact W.iret hx hb hr (fun t ht hW => ⟨⟨iI (-1), (), rfl, ⟨congrArg iI (show -1 = if S 1 ≤ b - a + 1 then costOf S a b else -1 by first | rw [if_pos (by omega)] | rw [if_neg (by omega)]), (by exact hwr9_3)⟩, by show va_P D vwCl _ t.heap; rw [ht]; exact hP9⟩, hS.F ht⟩) hS.2.2 dX4_costs_31
