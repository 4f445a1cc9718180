set_option maxHeartbeats 4000000 in
set_option maxRecDepth 100000 in
theorem c_X5_findBounds (l : Launch) (D : va_G) (yI yC yD : ClassId) (mo : Nat) (th : Int) (re : Int) (tl : Int) (a1 : Nat) (a2 : Nat) (a3 : Nat) (a4 : Nat) (a5 : Nat) (a6 : Nat) (a7 : Nat) (a8 : Nat) (S : Int → Int) (Bd : Int → Int) (wo : Int) (hI : Inv S) (hw : inR wo) (sz : Nat) : Met l yX5_findBounds wsX5_findBounds ({ frames := 2, cells := 0, slots := 0, locals := 50 }) (rwP [.ref mo, .int (iI wo)] D (tyz yI yC yD) [(mo, oMo th a1 a2 a3 re a4 a5 a6 tl a7 a8), (a1, aI yI 96 S), (a7, aI yI 1681 Bd)] sz) (va_Qv (fun (_ : Unit) => True) (fun (_ : Unit) (t : State) => va_P D vwCl [(mo, oMo th a1 a2 a3 re a4 a5 a6 tl a7 a8), (a1, aI yI 96 S), (a7, aI yI 1681 (FB S wo))] t.heap) (va_A [(mo, oMo th a1 a2 a3 re a4 a5 a6 tl a7 a8), (a1, aI yI 96 S), (a7, aI yI 1681 Bd)] sz)) 0 0 (va_A [(mo, oMo th a1 a2 a3 re a4 a5 a6 tl a7 a8), (a1, aI yI 96 S), (a7, aI yI 1681 Bd)] sz) := by
  refine Met.ofW (cc := cX5_findBounds) (maxL := 5) (ret := none) (by decide) rfl ?_
  intro p e s m args below meth c s₁ B hml hv
  obtain ⟨rfl, hsz, hP, hK, hD0⟩ := hv
  have hx := B.exec
  have hb := B.bytes
  have hr := B.returns
  have hts := atoms_spec (ws := wsX5_findBounds) B.pre
  have hown : s.vm.findClass RX5 = some m.cls := findClass_of_methodNamed B.named
  have hlocks := B.notSynchronized
  subst hsz
  have hD := hD0.self (sz := s.heap.size)
  generalize hAe : va_A [(mo, oMo th a1 a2 a3 re a4 a5 a6 tl a7 a8), (a1, aI yI 96 S), (a7, aI yI 1681 Bd)] s.heap.size = A at hD ⊢
  have hA : ∀ q : Nat, s.heap.size ≤ q → A q := fun q h => by rw [← hAe]; exact Or.inr h
  have hS : va_S A s.heap s.heap [] := va_S.rf
  have hP : va_P D vwCl [(mo, oMo th a1 a2 a3 re a4 a5 a6 tl a7 a8), (a1, aI yI 96 S), (a7, aI yI 1681 Bd)] s.heap := hP
  have hinX5 : ∀ w ∈ wsX50, w ∈ wsX5_findBounds := by decide +kernel
  have hf7 : (Cond.fieldLink RX5 7 "RiddleDriveModel" "state" "[I").before _ s = true := hts _ (by decide +kernel)
  have hf28 : (Cond.fieldLink RX5 28 "RiddleDriveModel" "bounds" "[I").before _ s = true := hts _ (by decide +kernel)
  have hl := lv_entry ([.ref mo, .int (iI wo)]) (n := 5) (Nat.le_of_ble_eq_true rfl)
  rw [lg_entry_eq]
  generalize (lg_sl ([.ref mo, .int (iI wo)]) ++ List.replicate (5 - (lg_sl ([.ref mo, .int (iI wo)])).length) Slot.unset).toArray = ls at hl ⊢
  have hl : lv_has ls 5 [(0, .ref mo), (1, .int (iI wo))] := hl
  have hpl := hI.pl
  have hna := hI.na
  have hse := hI.se
  refine lv_aload_n hx hb dX5_findBounds_0 rfl (lv_at hl 0 rfl) ?_
  refine va_get (D := D) (ci := 5) (v := .ref a1) (C := RX5) (T := TX5) (N := 11) hx hb hts hinX5 hown hK hP 0 rfl rfl 1 (by decide) hf7 (fun _ h9 => h9) rfl dX5_findBounds_1 ?_
  refine lv_iconst (v := iI 0) hx hb dX5_findBounds_4 (by decide +kernel) ?_
  refine iv_ald hx hb hK hP 1 0 rfl rfl (z := 0) (by omega) (by omega) (by omega) dX5_findBounds_5 ?_
  refine lv_istore_n (lv' := [(2, .int (iI (S 0))), (0, .ref mo), (1, .int (iI wo))]) hx hb dX5_findBounds_6 rfl hl (by decide) rfl (fun ls hl => ?_)
  refine lv_iconst (v := iI 0) hx hb dX5_findBounds_7 (by decide +kernel) ?_
  refine lv_istore_n (lv' := [(3, .int (iI 0)), (2, .int (iI (S 0))), (0, .ref mo), (1, .int (iI wo))]) hx hb dX5_findBounds_8 rfl hl (by decide) rfl (fun ls hl => ?_)
  refine iv_loop (I := fun (qq : Nat × Int × (Int → Int)) H locs ls => match qq with | (i, x3, G) => (i ≤ 41) ∧ (x3 = i) ∧ (∀ z : Int, 0 ≤ z → z < 41 * i → G z = b0 (S 0) z) ∧ va_P D vwCl [(mo, oMo th a1 a2 a3 re a4 a5 a6 tl a7 a8), (a1, aI yI 96 S), (a7, aI yI 1681 G)] H ∧ va_D A [(mo, oMo th a1 a2 a3 re a4 a5 a6 tl a7 a8), (a1, aI yI 96 S), (a7, aI yI 1681 G)] ∧ va_S A s.heap H locs ∧ lv_has ls 5 [(3, .int (iI x3)), (2, .int (iI (S 0))), (0, .ref mo), (1, .int (iI wo))]) (μ := fun (qq : Nat × Int × (Int → Int)) => match qq with | (i, x3, G) => 41 - i) (0, 0, Bd) ?_ ?_
  · exact ⟨by omega, by omega, fun z h1 h2 => by omega, hP, hD, hS, lv_sub hl [0, 1, 2, 3] rfl⟩
  · intro qq H locs ls hI ih9
    obtain ⟨i, x3, G⟩ := qq
    obtain ⟨hi, h6, hG, hP, hD, hS, hl⟩ := hI
    refine lv_iload_n hx hb dX5_findBounds_9 rfl (lv_at hl 0 rfl) ?_
    refine lv_bipush (v := iI 41) hx hb dX5_findBounds_10 (by decide +kernel) ?_
    refine iv_icmp_ge (a := x3) (b := 41) (tgt := 90) hx hb (by omega) (by omega) dX5_findBounds_12 (by decide) (fun c12 => ?_) (fun c12 => ?_)
    · have hP := va_P.arr hP 2 (g := fb S wo 0) rfl (fun z h1 h2 => hG z h1 (by omega))
      have hD : va_D A [(mo, oMo th a1 a2 a3 re a4 a5 a6 tl a7 a8), (a1, aI yI 96 S), (a7, aI yI 1681 (fb S wo 0))] := hD.set (p := 2) rfl
      have hP : va_P D vwCl [(mo, oMo th a1 a2 a3 re a4 a5 a6 tl a7 a8), (a1, aI yI 96 S), (a7, aI yI 1681 (fb S wo 0))] H := hP
      refine lv_iconst (v := iI 0) hx hb dX5_findBounds_90 (by decide +kernel) ?_
      refine lv_istore_n (lv' := [(3, .int (iI 0)), (2, .int (iI (S 0))), (0, .ref mo), (1, .int (iI wo))]) hx hb dX5_findBounds_91 rfl hl (by decide) rfl (fun ls hl => ?_)
      refine iv_loop (I := fun (qq : Nat × Int) H locs ls => match qq with | (n, y3) => ((n : Int) ≤ S 4) ∧ (y3 = n) ∧ va_P D vwCl [(mo, oMo th a1 a2 a3 re a4 a5 a6 tl a7 a8), (a1, aI yI 96 S), (a7, aI yI 1681 (fb S wo n))] H ∧ va_D A [(mo, oMo th a1 a2 a3 re a4 a5 a6 tl a7 a8), (a1, aI yI 96 S), (a7, aI yI 1681 (fb S wo n))] ∧ va_S A s.heap H locs ∧ lv_has ls 5 [(3, .int (iI y3)), (2, .int (iI (S 0))), (0, .ref mo), (1, .int (iI wo))]) (μ := fun (qq : Nat × Int) => match qq with | (n, y3) => (S 4).toNat - n) (0, 0) ?_ ?_
      · exact ⟨by omega, by omega, hP, hD, hS, lv_sub hl [0, 1, 2, 3] rfl⟩
      · intro qq H locs ls hI ih92
        obtain ⟨n, y3⟩ := qq
        obtain ⟨hn, h8, hP, hD, hS, hl⟩ := hI
        refine lv_iload_n hx hb dX5_findBounds_92 rfl (lv_at hl 0 rfl) ?_
        refine lv_aload_n hx hb dX5_findBounds_93 rfl (lv_at hl 2 rfl) ?_
        refine va_get (D := D) (ci := 5) (v := .ref a1) (C := RX5) (T := TX5) (N := 11) hx hb hts hinX5 hown hK hP 0 rfl rfl 1 (by decide) hf7 (fun _ h9 => h9) rfl dX5_findBounds_94 ?_
        refine lv_iconst (v := iI 4) hx hb dX5_findBounds_97 (by decide +kernel) ?_
        refine iv_ald hx hb hK hP 1 0 rfl rfl (z := 4) (by omega) (by omega) (by omega) dX5_findBounds_98 ?_
        refine iv_icmp_ge (a := y3) (b := S 4) (tgt := 144) hx hb (by omega) (by omega) dX5_findBounds_99 (by decide) (fun c99 => ?_) (fun c99 => ?_)
        · have efb : fb S wo n = FB S wo := by unfold FB; congr 1; omega
          rw [efb] at hP hD
          have hP : va_P D vwCl [(mo, oMo th a1 a2 a3 re a4 a5 a6 tl a7 a8), (a1, aI yI 96 S), (a7, aI yI 1681 (FB S wo))] H := hP
          have hD : va_D A [(mo, oMo th a1 a2 a3 re a4 a5 a6 tl a7 a8), (a1, aI yI 96 S), (a7, aI yI 1681 (FB S wo))] := hD
          have hP9 : va_P D vwCl [(mo, oMo th a1 a2 a3 re a4 a5 a6 tl a7 a8), (a1, aI yI 96 S), (a7, aI yI 1681 (FB S wo))] _ := hP.sub [0, 1, 2] rfl
          exact W.vret hx hb hr (fun t ht hW => ⟨⟨(), rfl, trivial, by show va_P D vwCl _ t.heap; rw [ht]; exact hP9⟩, hS.F ht⟩) hS.2.2 dX5_findBounds_144
        · refine lv_iload_n hx hb dX5_findBounds_102 rfl (lv_at hl 0 rfl) ?_
          refine lv_iload_n hx hb dX5_findBounds_103 rfl (lv_at hl 3 rfl) ?_
          refine iv_icmp_eq (a := y3) (b := wo) (tgt := 138) hx hb (by omega) (by omega) dX5_findBounds_104 (by decide) (fun c104 => ?_) (fun c104 => ?_)
          · have efb : fb S wo n = fb S wo (n + 1) := by subst h8; show _ = if ((n : Nat) : Int) = wo then _ else _; rw [if_pos (show ((n : Nat) : Int) = wo by omega)]
            rw [efb] at hP hD
            have hP : va_P D vwCl [(mo, oMo th a1 a2 a3 re a4 a5 a6 tl a7 a8), (a1, aI yI 96 S), (a7, aI yI 1681 (fb S wo (n + 1)))] H := hP
            have hD : va_D A [(mo, oMo th a1 a2 a3 re a4 a5 a6 tl a7 a8), (a1, aI yI 96 S), (a7, aI yI 1681 (fb S wo (n + 1)))] := hD
            refine iv_inc (lv' := [(3, .int (iI (y3 + 1))), (2, .int (iI (S 0))), (0, .ref mo), (1, .int (iI wo))]) hx hb dX5_findBounds_138 hl (k := 0) rfl (by decide) rfl (fun ls hl => ?_)
            skip
            refine lv_goto (tgt := 92) hx hb dX5_findBounds_141 (by decide) ?_
            refine ih92 (n + 1, y3 + 1) _ _ (by show ((S 4).toNat - (n + 1) : Nat) < (S 4).toNat - n; omega) ?_
            exact ⟨by omega, by omega, hP, hD, hS, lv_sub hl [0, 1, 2, 3] rfl⟩
          · have ha := ans_w hI (n := y3) (by omega) (by omega)
            refine lv_aload_n hx hb dX5_findBounds_107 rfl (lv_at hl 2 rfl) ?_
            refine va_get (D := D) (ci := 5) (v := .ref a7) (C := RX5) (T := TX5) (N := 11) hx hb hts hinX5 hown hK hP 0 rfl rfl 9 (by decide) hf28 (fun _ h9 => h9) rfl dX5_findBounds_108 ?_
            refine lv_aload_n hx hb dX5_findBounds_111 rfl (lv_at hl 2 rfl) ?_
            refine lv_iload_n hx hb dX5_findBounds_112 rfl (lv_at hl 0 rfl) ?_
            refine lv_iconst (v := iI 0) hx hb dX5_findBounds_113 (by decide +kernel) ?_
            refine iv_roV (As := [.int (iI y3), .int (iI 0)]) (rest := [.ref a7]) (C := RX5) (n := 2) ⟨hx, hb, hml, hown, hts⟩ (c_X5_answerPart l D yI yC yD mo th re tl a1 a2 a3 a4 a5 a6 a7 a8 S y3 0 (by omega) (by omega)) (cwV 2 hts gX5_findBounds_X5_answerPart rfl rfl rfl (by decide +kernel) ⟨Nat.le_of_ble_eq_true rfl, Nat.le_of_ble_eq_true rfl⟩) hK hP [0, 1] rfl 0 rfl rfl rfl hl.1 rfl (Nat.le_of_ble_eq_true rfl) dX5_findBounds_114 ⟨Nat.zero_le _, Nat.zero_le _⟩ ?_
            refine lv_aload_n hx hb dX5_findBounds_117 rfl (lv_at hl 2 rfl) ?_
            refine lv_iload_n hx hb dX5_findBounds_118 rfl (lv_at hl 0 rfl) ?_
            refine lv_iconst (v := iI 1) hx hb dX5_findBounds_119 (by decide +kernel) ?_
            refine iv_roV (As := [.int (iI y3), .int (iI 1)]) (rest := [.int (iI (an S y3 0)), .ref a7]) (C := RX5) (n := 2) ⟨hx, hb, hml, hown, hts⟩ (c_X5_answerPart l D yI yC yD mo th re tl a1 a2 a3 a4 a5 a6 a7 a8 S y3 1 (by omega) (by omega)) (cwV 2 hts gX5_findBounds_X5_answerPart rfl rfl rfl (by decide +kernel) ⟨Nat.le_of_ble_eq_true rfl, Nat.le_of_ble_eq_true rfl⟩) hK hP [0, 1] rfl 0 rfl rfl rfl hl.1 rfl (Nat.le_of_ble_eq_true rfl) dX5_findBounds_120 ⟨Nat.zero_le _, Nat.zero_le _⟩ ?_
            refine lv_aload_n hx hb dX5_findBounds_123 rfl (lv_at hl 2 rfl) ?_
            refine lv_iload_n hx hb dX5_findBounds_124 rfl (lv_at hl 0 rfl) ?_
            refine lv_iconst (v := iI 2) hx hb dX5_findBounds_125 (by decide +kernel) ?_
            refine iv_roV (As := [.int (iI y3), .int (iI 2)]) (rest := [.int (iI (an S y3 1)), .int (iI (an S y3 0)), .ref a7]) (C := RX5) (n := 2) ⟨hx, hb, hml, hown, hts⟩ (c_X5_answerPart l D yI yC yD mo th re tl a1 a2 a3 a4 a5 a6 a7 a8 S y3 2 (by omega) (by omega)) (cwV 2 hts gX5_findBounds_X5_answerPart rfl rfl rfl (by decide +kernel) ⟨Nat.le_of_ble_eq_true rfl, Nat.le_of_ble_eq_true rfl⟩) hK hP [0, 1] rfl 0 rfl rfl rfl hl.1 rfl (Nat.le_of_ble_eq_true rfl) dX5_findBounds_126 ⟨Nat.zero_le _, Nat.zero_le _⟩ ?_
            refine lv_aload_n hx hb dX5_findBounds_129 rfl (lv_at hl 2 rfl) ?_
            refine va_get (D := D) (ci := 5) (v := .ref a1) (C := RX5) (T := TX5) (N := 11) hx hb hts hinX5 hown hK hP 0 rfl rfl 1 (by decide) hf7 (fun _ h9 => h9) rfl dX5_findBounds_130 ?_
            refine lv_iconst (v := iI 2) hx hb dX5_findBounds_133 (by decide +kernel) ?_
            refine iv_ald hx hb hK hP 1 0 rfl rfl (z := 2) (by omega) (by omega) (by omega) dX5_findBounds_134 ?_
            refine iv_rwSv (As := [.ref a7, .int (iI (an S y3 0)), .int (iI (an S y3 1)), .int (iI (an S y3 2)), .int (iI (S 2))]) (rest := []) (n := 5) ⟨hx, hb, hml, hown, hts⟩ (c_X5_bindAnswer l D yI yC yD a7 (fb S wo n) (an S y3 0) (an S y3 1) (an S y3 2) (S 2) (by omega) (gb_fb hI wo (by omega)) (by omega) (by subst h8; exact fb_h5 hI wo (by omega)) (by subst h8; exact fb_h6 hI wo (by omega)) _) (va_cwS 5 hts gX5_findBounds_X5_bindAnswer rfl rfl rfl (by decide +kernel) ⟨Nat.le_of_ble_eq_true rfl, Nat.le_of_ble_eq_true rfl⟩) hK hP hD hS hA [2] (by decide) rfl rfl hl.1 rfl (Nat.le_of_ble_eq_true rfl) dX5_findBounds_135 ⟨Nat.zero_le _, Nat.zero_le _⟩ (fun _ => rfl) (fun u135 H locs hw135 hP hD hS => ?_)
            have hP : va_P D vwCl [(mo, oMo th a1 a2 a3 re a4 a5 a6 tl a7 a8), (a1, aI yI 96 S), (a7, aI yI 1681 (bndA (fb S wo n) (an S y3 0) (an S y3 1) (an S y3 2) (S 2)))] H := hP
            have hD : va_D A [(mo, oMo th a1 a2 a3 re a4 a5 a6 tl a7 a8), (a1, aI yI 96 S), (a7, aI yI 1681 (bndA (fb S wo n) (an S y3 0) (an S y3 1) (an S y3 2) (S 2)))] := hD
            have efb : bndA (fb S wo n) (an S y3 0) (an S y3 1) (an S y3 2) (S 2) = fb S wo (n + 1) := by subst h8; show _ = if ((n : Nat) : Int) = wo then _ else _; rw [if_neg (show ¬ ((n : Nat) : Int) = wo by omega)]
            rw [efb] at hP hD
            have hP : va_P D vwCl [(mo, oMo th a1 a2 a3 re a4 a5 a6 tl a7 a8), (a1, aI yI 96 S), (a7, aI yI 1681 (fb S wo (n + 1)))] H := hP
            have hD : va_D A [(mo, oMo th a1 a2 a3 re a4 a5 a6 tl a7 a8), (a1, aI yI 96 S), (a7, aI yI 1681 (fb S wo (n + 1)))] := hD
            refine iv_inc (lv' := [(3, .int (iI (y3 + 1))), (2, .int (iI (S 0))), (0, .ref mo), (1, .int (iI wo))]) hx hb dX5_findBounds_138 hl (k := 0) rfl (by decide) rfl (fun ls hl => ?_)
            skip
            refine lv_goto (tgt := 92) hx hb dX5_findBounds_141 (by decide) ?_
            refine ih92 (n + 1, y3 + 1) _ _ (by show ((S 4).toNat - (n + 1) : Nat) < (S 4).toNat - n; omega) ?_
            exact ⟨by omega, by omega, hP, hD, hS, lv_sub hl [0, 1, 2, 3] rfl⟩
    · refine lv_iconst (v := iI 0) hx hb dX5_findBounds_15 (by decide +kernel) ?_
      refine lv_istore (lv' := [(4, .int (iI 0)), (3, .int (iI x3)), (2, .int (iI (S 0))), (0, .ref mo), (1, .int (iI wo))]) hx hb dX5_findBounds_16 hl (by decide) rfl (fun ls hl => ?_)
      refine iv_loop (I := fun (qq : Nat × Int × (Int → Int)) H locs ls => match qq with | (j, x4, G2) => (j ≤ 41) ∧ (x4 = j) ∧ (∀ z : Int, 0 ≤ z → z < 41 * x3 + x4 → G2 z = b0 (S 0) z) ∧ va_P D vwCl [(mo, oMo th a1 a2 a3 re a4 a5 a6 tl a7 a8), (a1, aI yI 96 S), (a7, aI yI 1681 G2)] H ∧ va_D A [(mo, oMo th a1 a2 a3 re a4 a5 a6 tl a7 a8), (a1, aI yI 96 S), (a7, aI yI 1681 G2)] ∧ va_S A s.heap H locs ∧ lv_has ls 5 [(4, .int (iI x4)), (3, .int (iI x3)), (2, .int (iI (S 0))), (0, .ref mo), (1, .int (iI wo))]) (μ := fun (qq : Nat × Int × (Int → Int)) => match qq with | (j, x4, G2) => 41 - j) (0, 0, G) ?_ ?_
      · exact ⟨by omega, by omega, fun z h1 h2 => hG z h1 (by omega), hP, hD, hS, lv_sub hl [0, 1, 2, 3, 4] rfl⟩
      · intro qq H locs ls hI ih18
        obtain ⟨j, x4, G2⟩ := qq
        obtain ⟨hj, h7, hG2, hP, hD, hS, hl⟩ := hI
        refine lv_iload hx hb dX5_findBounds_18 (lv_at hl 0 rfl) ?_
        refine lv_bipush (v := iI 41) hx hb dX5_findBounds_20 (by decide +kernel) ?_
        refine iv_icmp_ge (a := x4) (b := 41) (tgt := 84) hx hb (by omega) (by omega) dX5_findBounds_22 (by decide) (fun c22 => ?_) (fun c22 => ?_)
        · refine iv_inc (lv' := [(3, .int (iI (x3 + 1))), (4, .int (iI x4)), (2, .int (iI (S 0))), (0, .ref mo), (1, .int (iI wo))]) hx hb dX5_findBounds_84 hl (k := 1) rfl (by decide) rfl (fun ls hl => ?_)
          refine lv_goto (tgt := 9) hx hb dX5_findBounds_87 (by decide) ?_
          refine ih9 (i + 1, x3 + 1, G2) _ _ (by show (41 - (i + 1) : Nat) < 41 - i; omega) ?_
          exact ⟨by omega, by omega, fun z h1 h2 => hG2 z h1 (by omega), hP, hD, hS, lv_sub hl [0, 2, 3, 4] rfl⟩
        · refine lv_aload_n hx hb dX5_findBounds_25 rfl (lv_at hl 3 rfl) ?_
          refine va_get (D := D) (ci := 5) (v := .ref a7) (C := RX5) (T := TX5) (N := 11) hx hb hts hinX5 hown hK hP 0 rfl rfl 9 (by decide) hf28 (fun _ h9 => h9) rfl dX5_findBounds_26 ?_
          refine lv_bipush (v := iI 41) hx hb dX5_findBounds_29 (by decide +kernel) ?_
          refine lv_iload_n hx hb dX5_findBounds_31 rfl (lv_at hl 1 rfl) ?_
          refine iv_mul hx hb dX5_findBounds_32 ?_
          refine lv_iload hx hb dX5_findBounds_33 (lv_at hl 0 rfl) ?_
          refine iv_add hx hb dX5_findBounds_35 ?_
          refine lv_iload_n hx hb dX5_findBounds_36 rfl (lv_at hl 1 rfl) ?_
          refine lv_iload_n hx hb dX5_findBounds_37 rfl (lv_at hl 2 rfl) ?_
          refine iv_icmp_gt (a := x3) (b := S 0) (tgt := 47) hx hb (by omega) (by omega) dX5_findBounds_38 (by decide) (fun c38 => ?_) (fun c38 => ?_)
          · refine lv_iload_n hx hb dX5_findBounds_47 rfl (lv_at hl 1 rfl) ?_
            refine lv_iload hx hb dX5_findBounds_48 (lv_at hl 0 rfl) ?_
            refine iv_icmp_ne (a := x3) (b := x4) (tgt := 57) hx hb (by omega) (by omega) dX5_findBounds_50 (by decide) (fun c50 => ?_) (fun c50 => ?_)
            · refine lv_sipush (v := iI 1000) hx hb dX5_findBounds_57 (by decide +kernel) ?_
              refine lv_goto (tgt := 77) hx hb dX5_findBounds_60 (by decide) ?_
              refine iv_ast hx hb hK hP hD hS 2 0 rfl rfl (z := 41 * x3 + x4) (v := 1000) (by omega) (by omega) (by omega) dX5_findBounds_77 (fun H locs hP hD hS => ?_)
              have hP : va_P D vwCl [(mo, oMo th a1 a2 a3 re a4 a5 a6 tl a7 a8), (a1, aI yI 96 S), (a7, aI yI 1681 (up G2 (41 * x3 + x4) 1000))] H := hP
              have hD : va_D A [(mo, oMo th a1 a2 a3 re a4 a5 a6 tl a7 a8), (a1, aI yI 96 S), (a7, aI yI 1681 (up G2 (41 * x3 + x4) 1000))] := hD
              refine iv_inc (lv' := [(4, .int (iI (x4 + 1))), (3, .int (iI x3)), (2, .int (iI (S 0))), (0, .ref mo), (1, .int (iI wo))]) hx hb dX5_findBounds_78 hl (k := 0) rfl (by decide) rfl (fun ls hl => ?_)
              refine lv_goto (tgt := 18) hx hb dX5_findBounds_81 (by decide) ?_
              refine ih18 (j + 1, x4 + 1, up G2 (41 * x3 + x4) 1000) _ _ (by show (41 - (j + 1) : Nat) < 41 - j; omega) ?_
              exact ⟨by omega, by omega, fun z h1 h2 => (if e : z = 41 * x3 + x4 then (by rw [e, up_s, b0_at (by omega) (by omega)]; (repeat (first | rw [if_pos (by omega)] | rw [if_neg (by omega)]))) else (by rw [up_n e]; exact hG2 z h1 (by omega))), hP, hD, hS, lv_sub hl [0, 1, 2, 3, 4] rfl⟩
            · refine lv_iconst (v := iI 0) hx hb dX5_findBounds_53 (by decide +kernel) ?_
              refine lv_goto (tgt := 77) hx hb dX5_findBounds_54 (by decide) ?_
              refine iv_ast hx hb hK hP hD hS 2 0 rfl rfl (z := 41 * x3 + x4) (v := 0) (by omega) (by omega) (by omega) dX5_findBounds_77 (fun H locs hP hD hS => ?_)
              have hP : va_P D vwCl [(mo, oMo th a1 a2 a3 re a4 a5 a6 tl a7 a8), (a1, aI yI 96 S), (a7, aI yI 1681 (up G2 (41 * x3 + x4) 0))] H := hP
              have hD : va_D A [(mo, oMo th a1 a2 a3 re a4 a5 a6 tl a7 a8), (a1, aI yI 96 S), (a7, aI yI 1681 (up G2 (41 * x3 + x4) 0))] := hD
              refine iv_inc (lv' := [(4, .int (iI (x4 + 1))), (3, .int (iI x3)), (2, .int (iI (S 0))), (0, .ref mo), (1, .int (iI wo))]) hx hb dX5_findBounds_78 hl (k := 0) rfl (by decide) rfl (fun ls hl => ?_)
              refine lv_goto (tgt := 18) hx hb dX5_findBounds_81 (by decide) ?_
              refine ih18 (j + 1, x4 + 1, up G2 (41 * x3 + x4) 0) _ _ (by show (41 - (j + 1) : Nat) < 41 - j; omega) ?_
              exact ⟨by omega, by omega, fun z h1 h2 => (if e : z = 41 * x3 + x4 then (by rw [e, up_s, b0_at (by omega) (by omega)]; (repeat (first | rw [if_pos (by omega)] | rw [if_neg (by omega)]))) else (by rw [up_n e]; exact hG2 z h1 (by omega))), hP, hD, hS, lv_sub hl [0, 1, 2, 3, 4] rfl⟩
          · refine lv_iload hx hb dX5_findBounds_41 (lv_at hl 0 rfl) ?_
            refine lv_iload_n hx hb dX5_findBounds_43 rfl (lv_at hl 2 rfl) ?_
            refine iv_icmp_le (a := x4) (b := S 0) (tgt := 63) hx hb (by omega) (by omega) dX5_findBounds_44 (by decide) (fun c44 => ?_) (fun c44 => ?_)
            · refine lv_iload hx hb dX5_findBounds_63 (lv_at hl 0 rfl) ?_
              refine lv_iload_n hx hb dX5_findBounds_65 rfl (lv_at hl 1 rfl) ?_
              refine iv_icmp_le (a := x4) (b := x3) (tgt := 76) hx hb (by omega) (by omega) dX5_findBounds_66 (by decide) (fun c66 => ?_) (fun c66 => ?_)
              · refine lv_iconst (v := iI 0) hx hb dX5_findBounds_76 (by decide +kernel) ?_
                refine iv_ast hx hb hK hP hD hS 2 0 rfl rfl (z := 41 * x3 + x4) (v := 0) (by omega) (by omega) (by omega) dX5_findBounds_77 (fun H locs hP hD hS => ?_)
                have hP : va_P D vwCl [(mo, oMo th a1 a2 a3 re a4 a5 a6 tl a7 a8), (a1, aI yI 96 S), (a7, aI yI 1681 (up G2 (41 * x3 + x4) 0))] H := hP
                have hD : va_D A [(mo, oMo th a1 a2 a3 re a4 a5 a6 tl a7 a8), (a1, aI yI 96 S), (a7, aI yI 1681 (up G2 (41 * x3 + x4) 0))] := hD
                refine iv_inc (lv' := [(4, .int (iI (x4 + 1))), (3, .int (iI x3)), (2, .int (iI (S 0))), (0, .ref mo), (1, .int (iI wo))]) hx hb dX5_findBounds_78 hl (k := 0) rfl (by decide) rfl (fun ls hl => ?_)
                refine lv_goto (tgt := 18) hx hb dX5_findBounds_81 (by decide) ?_
                refine ih18 (j + 1, x4 + 1, up G2 (41 * x3 + x4) 0) _ _ (by show (41 - (j + 1) : Nat) < 41 - j; omega) ?_
                exact ⟨by omega, by omega, fun z h1 h2 => (if e : z = 41 * x3 + x4 then (by rw [e, up_s, b0_at (by omega) (by omega)]; (repeat (first | rw [if_pos (by omega)] | rw [if_neg (by omega)]))) else (by rw [up_n e]; exact hG2 z h1 (by omega))), hP, hD, hS, lv_sub hl [0, 1, 2, 3, 4] rfl⟩
              · refine lv_iload hx hb dX5_findBounds_69 (lv_at hl 0 rfl) ?_
                refine lv_iload_n hx hb dX5_findBounds_71 rfl (lv_at hl 1 rfl) ?_
                refine iv_sub hx hb dX5_findBounds_72 ?_
                refine lv_goto (tgt := 77) hx hb dX5_findBounds_73 (by decide) ?_
                refine iv_ast hx hb hK hP hD hS 2 0 rfl rfl (z := 41 * x3 + x4) (v := x4 - x3) (by omega) (by omega) (by omega) dX5_findBounds_77 (fun H locs hP hD hS => ?_)
                have hP : va_P D vwCl [(mo, oMo th a1 a2 a3 re a4 a5 a6 tl a7 a8), (a1, aI yI 96 S), (a7, aI yI 1681 (up G2 (41 * x3 + x4) (x4 - x3)))] H := hP
                have hD : va_D A [(mo, oMo th a1 a2 a3 re a4 a5 a6 tl a7 a8), (a1, aI yI 96 S), (a7, aI yI 1681 (up G2 (41 * x3 + x4) (x4 - x3)))] := hD
                refine iv_inc (lv' := [(4, .int (iI (x4 + 1))), (3, .int (iI x3)), (2, .int (iI (S 0))), (0, .ref mo), (1, .int (iI wo))]) hx hb dX5_findBounds_78 hl (k := 0) rfl (by decide) rfl (fun ls hl => ?_)
                refine lv_goto (tgt := 18) hx hb dX5_findBounds_81 (by decide) ?_
                refine ih18 (j + 1, x4 + 1, up G2 (41 * x3 + x4) (x4 - x3)) _ _ (by show (41 - (j + 1) : Nat) < 41 - j; omega) ?_
                exact ⟨by omega, by omega, fun z h1 h2 => (if e : z = 41 * x3 + x4 then (by rw [e, up_s, b0_at (by omega) (by omega)]; (repeat (first | rw [if_pos (by omega)] | rw [if_neg (by omega)]))) else (by rw [up_n e]; exact hG2 z h1 (by omega))), hP, hD, hS, lv_sub hl [0, 1, 2, 3, 4] rfl⟩
            · refine lv_iload_n hx hb dX5_findBounds_47 rfl (lv_at hl 1 rfl) ?_
              refine lv_iload hx hb dX5_findBounds_48 (lv_at hl 0 rfl) ?_
              refine iv_icmp_ne (a := x3) (b := x4) (tgt := 57) hx hb (by omega) (by omega) dX5_findBounds_50 (by decide) (fun c50 => ?_) (fun c50 => ?_)
              · refine lv_sipush (v := iI 1000) hx hb dX5_findBounds_57 (by decide +kernel) ?_
                refine lv_goto (tgt := 77) hx hb dX5_findBounds_60 (by decide) ?_
                refine iv_ast hx hb hK hP hD hS 2 0 rfl rfl (z := 41 * x3 + x4) (v := 1000) (by omega) (by omega) (by omega) dX5_findBounds_77 (fun H locs hP hD hS => ?_)
                have hP : va_P D vwCl [(mo, oMo th a1 a2 a3 re a4 a5 a6 tl a7 a8), (a1, aI yI 96 S), (a7, aI yI 1681 (up G2 (41 * x3 + x4) 1000))] H := hP
                have hD : va_D A [(mo, oMo th a1 a2 a3 re a4 a5 a6 tl a7 a8), (a1, aI yI 96 S), (a7, aI yI 1681 (up G2 (41 * x3 + x4) 1000))] := hD
                refine iv_inc (lv' := [(4, .int (iI (x4 + 1))), (3, .int (iI x3)), (2, .int (iI (S 0))), (0, .ref mo), (1, .int (iI wo))]) hx hb dX5_findBounds_78 hl (k := 0) rfl (by decide) rfl (fun ls hl => ?_)
                refine lv_goto (tgt := 18) hx hb dX5_findBounds_81 (by decide) ?_
                refine ih18 (j + 1, x4 + 1, up G2 (41 * x3 + x4) 1000) _ _ (by show (41 - (j + 1) : Nat) < 41 - j; omega) ?_
                exact ⟨by omega, by omega, fun z h1 h2 => (if e : z = 41 * x3 + x4 then (by rw [e, up_s, b0_at (by omega) (by omega)]; (repeat (first | rw [if_pos (by omega)] | rw [if_neg (by omega)]))) else (by rw [up_n e]; exact hG2 z h1 (by omega))), hP, hD, hS, lv_sub hl [0, 1, 2, 3, 4] rfl⟩
              · refine lv_iconst (v := iI 0) hx hb dX5_findBounds_53 (by decide +kernel) ?_
                refine lv_goto (tgt := 77) hx hb dX5_findBounds_54 (by decide) ?_
                refine iv_ast hx hb hK hP hD hS 2 0 rfl rfl (z := 41 * x3 + x4) (v := 0) (by omega) (by omega) (by omega) dX5_findBounds_77 (fun H locs hP hD hS => ?_)
                have hP : va_P D vwCl [(mo, oMo th a1 a2 a3 re a4 a5 a6 tl a7 a8), (a1, aI yI 96 S), (a7, aI yI 1681 (up G2 (41 * x3 + x4) 0))] H := hP
                have hD : va_D A [(mo, oMo th a1 a2 a3 re a4 a5 a6 tl a7 a8), (a1, aI yI 96 S), (a7, aI yI 1681 (up G2 (41 * x3 + x4) 0))] := hD
                refine iv_inc (lv' := [(4, .int (iI (x4 + 1))), (3, .int (iI x3)), (2, .int (iI (S 0))), (0, .ref mo), (1, .int (iI wo))]) hx hb dX5_findBounds_78 hl (k := 0) rfl (by decide) rfl (fun ls hl => ?_)
                refine lv_goto (tgt := 18) hx hb dX5_findBounds_81 (by decide) ?_
                refine ih18 (j + 1, x4 + 1, up G2 (41 * x3 + x4) 0) _ _ (by show (41 - (j + 1) : Nat) < 41 - j; omega) ?_
                exact ⟨by omega, by omega, fun z h1 h2 => (if e : z = 41 * x3 + x4 then (by rw [e, up_s, b0_at (by omega) (by omega)]; (repeat (first | rw [if_pos (by omega)] | rw [if_neg (by omega)]))) else (by rw [up_n e]; exact hG2 z h1 (by omega))), hP, hD, hS, lv_sub hl [0, 1, 2, 3, 4] rfl⟩
set_option maxHeartbeats 4000000 in
set_option maxRecDepth 100000 in
theorem c_X5_least (l : Launch) (D : va_G) (yI yC yD : ClassId) (mo : Nat) (th : Int) (re : Int) (tl : Int) (a1 : Nat) (a2 : Nat) (a3 : Nat) (a4 : Nat) (a5 : Nat) (a6 : Nat) (a7 : Nat) (a8 : Nat) (S : Int → Int) (Bd : Int → Int) (a : Int) (b : Int) (hI : Inv S) (hab : inR a ∧ inR b) (sz : Nat) : Met l yX5_least wsX5_least ({ frames := 3, cells := 0, slots := 0, locals := 74 }) (rwP [.ref mo, .int (iI a), .int (iI b)] D (tyz yI yC yD) [(mo, oMo th a1 a2 a3 re a4 a5 a6 tl a7 a8), (a1, aI yI 96 S), (a7, aI yI 1681 Bd)] sz) (va_Qi (fun (r : Int32) (G9 : (Int → Int)) => r = iI (if whyR S a b = 0 then leastI (FB S (-1)) a b else 0) ∧ True) (fun (G9 : (Int → Int)) (t : State) => va_P D vwCl [(mo, oMo (whyR S a b) a1 a2 a3 re a4 a5 a6 tl a7 a8), (a1, aI yI 96 S), (a7, aI yI 1681 G9)] t.heap) (va_A [(mo, oMo th a1 a2 a3 re a4 a5 a6 tl a7 a8), (a1, aI yI 96 S), (a7, aI yI 1681 Bd)] sz)) 0 0 (va_A [(mo, oMo th a1 a2 a3 re a4 a5 a6 tl a7 a8), (a1, aI yI 96 S), (a7, aI yI 1681 Bd)] sz) := by
  refine Met.ofW (cc := cX5_least) (maxL := 3) (ret := (some .int)) (by decide) rfl ?_
  intro p e s m args below meth c s₁ B hml hv
  obtain ⟨rfl, hsz, hP, hK, hD0⟩ := hv
  have hx := B.exec
  have hb := B.bytes
  have hr := B.returns
  have hts := atoms_spec (ws := wsX5_least) B.pre
  have hown : s.vm.findClass RX5 = some m.cls := findClass_of_methodNamed B.named
  have hlocks := B.notSynchronized
  subst hsz
  have hD := hD0.self (sz := s.heap.size)
  generalize hAe : va_A [(mo, oMo th a1 a2 a3 re a4 a5 a6 tl a7 a8), (a1, aI yI 96 S), (a7, aI yI 1681 Bd)] s.heap.size = A at hD ⊢
  have hA : ∀ q : Nat, s.heap.size ≤ q → A q := fun q h => by rw [← hAe]; exact Or.inr h
  have hS : va_S A s.heap s.heap [] := va_S.rf
  have hP : va_P D vwCl [(mo, oMo th a1 a2 a3 re a4 a5 a6 tl a7 a8), (a1, aI yI 96 S), (a7, aI yI 1681 Bd)] s.heap := hP
  have hinX5 : ∀ w ∈ wsX50, w ∈ wsX5_least := by decide +kernel
  have hf28 : (Cond.fieldLink RX5 28 "RiddleDriveModel" "bounds" "[I").before _ s = true := hts _ (by decide +kernel)
  have hf38 : (Cond.fieldLink RX5 38 "RiddleDriveModel" "thrown" "I").before _ s = true := hts _ (by decide +kernel)
  have hl := lv_entry ([.ref mo, .int (iI a), .int (iI b)]) (n := 3) (Nat.le_of_ble_eq_true rfl)
  rw [lg_entry_eq]
  generalize (lg_sl ([.ref mo, .int (iI a), .int (iI b)]) ++ List.replicate (3 - (lg_sl ([.ref mo, .int (iI a), .int (iI b)])).length) Slot.unset).toArray = ls at hl ⊢
  have hl : lv_has ls 3 [(0, .ref mo), (1, .int (iI a)), (2, .int (iI b))] := hl
  have hpl := hI.pl
  have hna := hI.na
  have hse := hI.se
  have hwi := hI.wi
  have hwr := whyR_r (S := S) (a := a) (b := b)
  refine lv_aload_n hx hb dX5_least_0 rfl (lv_at hl 0 rfl) ?_
  refine lv_aload_n hx hb dX5_least_1 rfl (lv_at hl 0 rfl) ?_
  refine lv_iload_n hx hb dX5_least_2 rfl (lv_at hl 1 rfl) ?_
  refine lv_iload_n hx hb dX5_least_3 rfl (lv_at hl 2 rfl) ?_
  refine iv_roV (As := [.int (iI a), .int (iI b)]) (rest := [.ref mo]) (C := RX5) (n := 2) ⟨hx, hb, hml, hown, hts⟩ (c_X5_whyNoRange l D yI yC yD mo th re tl a1 a2 a3 a4 a5 a6 a7 a8 S a b (by omega) (by omega)) (cwV 2 hts gX5_least_X5_whyNoRange rfl rfl rfl (by decide +kernel) ⟨Nat.le_of_ble_eq_true rfl, Nat.le_of_ble_eq_true rfl⟩) hK hP [0, 1] rfl 0 rfl rfl rfl hl.1 rfl (Nat.le_of_ble_eq_true rfl) dX5_least_4 ⟨Nat.zero_le _, Nat.zero_le _⟩ ?_
  refine va_put (D := D) (ci := 5) (v := .int (iI (whyR S a b))) (ty := .int) (C := RX5) (T := TX5) (N := 11) hx hb hts hinX5 tyX5 tyX5_ok nmX5 hown hK hP hD hS 0 rfl rfl 0 (by decide) hf38 (fun _ h9 => h9) rfl (by decide +kernel) rfl rfl (Nat.le_of_ble_eq_true rfl) dX5_least_7 (fun H locs hP hD hS => ?_)
  have hP : va_P D vwCl [(mo, oMo (whyR S a b) a1 a2 a3 re a4 a5 a6 tl a7 a8), (a1, aI yI 96 S), (a7, aI yI 1681 Bd)] H := hP
  have hD : va_D A [(mo, oMo (whyR S a b) a1 a2 a3 re a4 a5 a6 tl a7 a8), (a1, aI yI 96 S), (a7, aI yI 1681 Bd)] := hD
  refine lv_aload_n hx hb dX5_least_10 rfl (lv_at hl 0 rfl) ?_
  refine va_get (D := D) (ci := 5) (v := .int (iI (whyR S a b))) (C := RX5) (T := TX5) (N := 11) hx hb hts hinX5 hown hK hP 0 rfl rfl 0 (by decide) hf38 (fun _ h9 => h9) rfl dX5_least_11 ?_
  refine iv_if_le (a := whyR S a b) (tgt := 19) hx hb (by omega) dX5_least_14 (by decide) (fun c14 => ?_) (fun c14 => ?_)
  · have hrr := whyR_0.mp (show whyR S a b = 0 by omega)
    refine lv_aload_n hx hb dX5_least_19 rfl (lv_at hl 0 rfl) ?_
    refine lv_iconst (v := iI (-1)) hx hb dX5_least_20 (by decide +kernel) ?_
    refine iv_rwVv (As := [.int (iI (-1))]) (rest := []) (C := RX5) (n := 1) ⟨hx, hb, hml, hown, hts⟩ (c_X5_findBounds l D yI yC yD mo (whyR S a b) re tl a1 a2 a3 a4 a5 a6 a7 a8 S Bd (-1) (by assumption) (by omega) _) (cwV 1 hts gX5_least_X5_findBounds rfl rfl rfl (by decide +kernel) ⟨Nat.le_of_ble_eq_true rfl, Nat.le_of_ble_eq_true rfl⟩) hK hP hD hS hA [0, 1, 2] (by decide) rfl 0 rfl rfl rfl hl.1 rfl (Nat.le_of_ble_eq_true rfl) dX5_least_21 ⟨Nat.zero_le _, Nat.zero_le _⟩ (fun _ => rfl) (fun u21 H locs hw21 hP hD hS => ?_)
    have hP : va_P D vwCl [(mo, oMo (whyR S a b) a1 a2 a3 re a4 a5 a6 tl a7 a8), (a1, aI yI 96 S), (a7, aI yI 1681 (FB S (-1)))] H := hP
    have hD : va_D A [(mo, oMo (whyR S a b) a1 a2 a3 re a4 a5 a6 tl a7 a8), (a1, aI yI 96 S), (a7, aI yI 1681 (FB S (-1)))] := hD
    refine lv_aload_n hx hb dX5_least_24 rfl (lv_at hl 0 rfl) ?_
    refine va_get (D := D) (ci := 5) (v := .ref a7) (C := RX5) (T := TX5) (N := 11) hx hb hts hinX5 hown hK hP 0 rfl rfl 9 (by decide) hf28 (fun _ h9 => h9) rfl dX5_least_25 ?_
    refine lv_iload_n hx hb dX5_least_28 rfl (lv_at hl 1 rfl) ?_
    refine lv_iload_n hx hb dX5_least_29 rfl (lv_at hl 2 rfl) ?_
    refine iv_roS (As := [.ref a7, .int (iI a), .int (iI b)]) (rest := []) (n := 3) ⟨hx, hb, hml, hown, hts⟩ (c_X5_leastIn l D yI yC yD a7 (FB S (-1)) a b (by omega)) (va_cwS 3 hts gX5_least_X5_leastIn rfl rfl rfl (by decide +kernel) ⟨Nat.le_of_ble_eq_true rfl, Nat.le_of_ble_eq_true rfl⟩) hK hP [2] rfl rfl hl.1 rfl (Nat.le_of_ble_eq_true rfl) dX5_least_30 ⟨Nat.zero_le _, Nat.zero_le _⟩ ?_
    have hq : whyR S a b = 0 := by omega
    have hP9 : va_P D vwCl [(mo, oMo (whyR S a b) a1 a2 a3 re a4 a5 a6 tl a7 a8), (a1, aI yI 96 S), (a7, aI yI 1681 (FB S (-1)))] _ := hP.sub [0, 1, 2] rfl
    exact W.iret hx hb hr (fun t ht hW => ⟨⟨iI (leastI (FB S (-1)) a b), (FB S (-1)), rfl, ⟨congrArg iI (show leastI (FB S (-1)) a b = if whyR S a b = 0 then leastI (FB S (-1)) a b else 0 by rw [if_pos hq]), trivial⟩, by show va_P D vwCl _ t.heap; rw [ht]; exact hP9⟩, hS.F ht⟩) hS.2.2 dX5_least_33
  · refine lv_iconst (v := iI 0) hx hb dX5_least_17 (by decide +kernel) ?_
    have hq : ¬ (whyR S a b = 0) := by omega
    have hP9 : va_P D vwCl [(mo, oMo (whyR S a b) a1 a2 a3 re a4 a5 a6 tl a7 a8), (a1, aI yI 96 S), (a7, aI yI 1681 Bd)] _ := hP.sub [0, 1, 2] rfl
    exact W.iret hx hb hr (fun t ht hW => ⟨⟨iI 0, Bd, rfl, ⟨congrArg iI (show 0 = if whyR S a b = 0 then leastI (FB S (-1)) a b else 0 by rw [if_neg hq]), trivial⟩, by show va_P D vwCl _ t.heap; rw [ht]; exact hP9⟩, hS.F ht⟩) hS.2.2 dX5_least_18
set_option maxHeartbeats 4000000 in
set_option maxRecDepth 100000 in
theorem c_X5_most (l : Launch) (D : va_G) (yI yC yD : ClassId) (mo : Nat) (th : Int) (re : Int) (tl : Int) (a1 : Nat) (a2 : Nat) (a3 : Nat) (a4 : Nat) (a5 : Nat) (a6 : Nat) (a7 : Nat) (a8 : Nat) (S : Int → Int) (Bd : Int → Int) (a : Int) (b : Int) (hI : Inv S) (hab : inR a ∧ inR b) (sz : Nat) : Met l yX5_most wsX5_most ({ frames := 3, cells := 0, slots := 0, locals := 74 }) (rwP [.ref mo, .int (iI a), .int (iI b)] D (tyz yI yC yD) [(mo, oMo th a1 a2 a3 re a4 a5 a6 tl a7 a8), (a1, aI yI 96 S), (a7, aI yI 1681 Bd)] sz) (va_Qi (fun (r : Int32) (G9 : (Int → Int)) => r = iI (if whyR S a b = 0 then mostI (FB S (-1)) a b else 0) ∧ True) (fun (G9 : (Int → Int)) (t : State) => va_P D vwCl [(mo, oMo (whyR S a b) a1 a2 a3 re a4 a5 a6 tl a7 a8), (a1, aI yI 96 S), (a7, aI yI 1681 G9)] t.heap) (va_A [(mo, oMo th a1 a2 a3 re a4 a5 a6 tl a7 a8), (a1, aI yI 96 S), (a7, aI yI 1681 Bd)] sz)) 0 0 (va_A [(mo, oMo th a1 a2 a3 re a4 a5 a6 tl a7 a8), (a1, aI yI 96 S), (a7, aI yI 1681 Bd)] sz) := by
  refine Met.ofW (cc := cX5_most) (maxL := 3) (ret := (some .int)) (by decide) rfl ?_
  intro p e s m args below meth c s₁ B hml hv
  obtain ⟨rfl, hsz, hP, hK, hD0⟩ := hv
  have hx := B.exec
  have hb := B.bytes
  have hr := B.returns
  have hts := atoms_spec (ws := wsX5_most) B.pre
  have hown : s.vm.findClass RX5 = some m.cls := findClass_of_methodNamed B.named
  have hlocks := B.notSynchronized
  subst hsz
  have hD := hD0.self (sz := s.heap.size)
  generalize hAe : va_A [(mo, oMo th a1 a2 a3 re a4 a5 a6 tl a7 a8), (a1, aI yI 96 S), (a7, aI yI 1681 Bd)] s.heap.size = A at hD ⊢
  have hA : ∀ q : Nat, s.heap.size ≤ q → A q := fun q h => by rw [← hAe]; exact Or.inr h
  have hS : va_S A s.heap s.heap [] := va_S.rf
  have hP : va_P D vwCl [(mo, oMo th a1 a2 a3 re a4 a5 a6 tl a7 a8), (a1, aI yI 96 S), (a7, aI yI 1681 Bd)] s.heap := hP
  have hinX5 : ∀ w ∈ wsX50, w ∈ wsX5_most := by decide +kernel
  have hf28 : (Cond.fieldLink RX5 28 "RiddleDriveModel" "bounds" "[I").before _ s = true := hts _ (by decide +kernel)
  have hf38 : (Cond.fieldLink RX5 38 "RiddleDriveModel" "thrown" "I").before _ s = true := hts _ (by decide +kernel)
  have hl := lv_entry ([.ref mo, .int (iI a), .int (iI b)]) (n := 3) (Nat.le_of_ble_eq_true rfl)
  rw [lg_entry_eq]
  generalize (lg_sl ([.ref mo, .int (iI a), .int (iI b)]) ++ List.replicate (3 - (lg_sl ([.ref mo, .int (iI a), .int (iI b)])).length) Slot.unset).toArray = ls at hl ⊢
  have hl : lv_has ls 3 [(0, .ref mo), (1, .int (iI a)), (2, .int (iI b))] := hl
  have hpl := hI.pl
  have hna := hI.na
  have hse := hI.se
  have hwi := hI.wi
  have hwr := whyR_r (S := S) (a := a) (b := b)
  refine lv_aload_n hx hb dX5_most_0 rfl (lv_at hl 0 rfl) ?_
  refine lv_aload_n hx hb dX5_most_1 rfl (lv_at hl 0 rfl) ?_
  refine lv_iload_n hx hb dX5_most_2 rfl (lv_at hl 1 rfl) ?_
  refine lv_iload_n hx hb dX5_most_3 rfl (lv_at hl 2 rfl) ?_
  refine iv_roV (As := [.int (iI a), .int (iI b)]) (rest := [.ref mo]) (C := RX5) (n := 2) ⟨hx, hb, hml, hown, hts⟩ (c_X5_whyNoRange l D yI yC yD mo th re tl a1 a2 a3 a4 a5 a6 a7 a8 S a b (by omega) (by omega)) (cwV 2 hts gX5_most_X5_whyNoRange rfl rfl rfl (by decide +kernel) ⟨Nat.le_of_ble_eq_true rfl, Nat.le_of_ble_eq_true rfl⟩) hK hP [0, 1] rfl 0 rfl rfl rfl hl.1 rfl (Nat.le_of_ble_eq_true rfl) dX5_most_4 ⟨Nat.zero_le _, Nat.zero_le _⟩ ?_
  refine va_put (D := D) (ci := 5) (v := .int (iI (whyR S a b))) (ty := .int) (C := RX5) (T := TX5) (N := 11) hx hb hts hinX5 tyX5 tyX5_ok nmX5 hown hK hP hD hS 0 rfl rfl 0 (by decide) hf38 (fun _ h9 => h9) rfl (by decide +kernel) rfl rfl (Nat.le_of_ble_eq_true rfl) dX5_most_7 (fun H locs hP hD hS => ?_)
  have hP : va_P D vwCl [(mo, oMo (whyR S a b) a1 a2 a3 re a4 a5 a6 tl a7 a8), (a1, aI yI 96 S), (a7, aI yI 1681 Bd)] H := hP
  have hD : va_D A [(mo, oMo (whyR S a b) a1 a2 a3 re a4 a5 a6 tl a7 a8), (a1, aI yI 96 S), (a7, aI yI 1681 Bd)] := hD
  refine lv_aload_n hx hb dX5_most_10 rfl (lv_at hl 0 rfl) ?_
  refine va_get (D := D) (ci := 5) (v := .int (iI (whyR S a b))) (C := RX5) (T := TX5) (N := 11) hx hb hts hinX5 hown hK hP 0 rfl rfl 0 (by decide) hf38 (fun _ h9 => h9) rfl dX5_most_11 ?_
  refine iv_if_le (a := whyR S a b) (tgt := 19) hx hb (by omega) dX5_most_14 (by decide) (fun c14 => ?_) (fun c14 => ?_)
  · have hrr := whyR_0.mp (show whyR S a b = 0 by omega)
    refine lv_aload_n hx hb dX5_most_19 rfl (lv_at hl 0 rfl) ?_
    refine lv_iconst (v := iI (-1)) hx hb dX5_most_20 (by decide +kernel) ?_
    refine iv_rwVv (As := [.int (iI (-1))]) (rest := []) (C := RX5) (n := 1) ⟨hx, hb, hml, hown, hts⟩ (c_X5_findBounds l D yI yC yD mo (whyR S a b) re tl a1 a2 a3 a4 a5 a6 a7 a8 S Bd (-1) (by assumption) (by omega) _) (cwV 1 hts gX5_most_X5_findBounds rfl rfl rfl (by decide +kernel) ⟨Nat.le_of_ble_eq_true rfl, Nat.le_of_ble_eq_true rfl⟩) hK hP hD hS hA [0, 1, 2] (by decide) rfl 0 rfl rfl rfl hl.1 rfl (Nat.le_of_ble_eq_true rfl) dX5_most_21 ⟨Nat.zero_le _, Nat.zero_le _⟩ (fun _ => rfl) (fun u21 H locs hw21 hP hD hS => ?_)
    have hP : va_P D vwCl [(mo, oMo (whyR S a b) a1 a2 a3 re a4 a5 a6 tl a7 a8), (a1, aI yI 96 S), (a7, aI yI 1681 (FB S (-1)))] H := hP
    have hD : va_D A [(mo, oMo (whyR S a b) a1 a2 a3 re a4 a5 a6 tl a7 a8), (a1, aI yI 96 S), (a7, aI yI 1681 (FB S (-1)))] := hD
    refine lv_aload_n hx hb dX5_most_24 rfl (lv_at hl 0 rfl) ?_
    refine va_get (D := D) (ci := 5) (v := .ref a7) (C := RX5) (T := TX5) (N := 11) hx hb hts hinX5 hown hK hP 0 rfl rfl 9 (by decide) hf28 (fun _ h9 => h9) rfl dX5_most_25 ?_
    refine lv_iload_n hx hb dX5_most_28 rfl (lv_at hl 1 rfl) ?_
    refine lv_iload_n hx hb dX5_most_29 rfl (lv_at hl 2 rfl) ?_
    refine iv_roS (As := [.ref a7, .int (iI a), .int (iI b)]) (rest := []) (n := 3) ⟨hx, hb, hml, hown, hts⟩ (c_X5_mostIn l D yI yC yD a7 (FB S (-1)) a b (by omega)) (va_cwS 3 hts gX5_most_X5_mostIn rfl rfl rfl (by decide +kernel) ⟨Nat.le_of_ble_eq_true rfl, Nat.le_of_ble_eq_true rfl⟩) hK hP [2] rfl rfl hl.1 rfl (Nat.le_of_ble_eq_true rfl) dX5_most_30 ⟨Nat.zero_le _, Nat.zero_le _⟩ ?_
    have hq : whyR S a b = 0 := by omega
    have hP9 : va_P D vwCl [(mo, oMo (whyR S a b) a1 a2 a3 re a4 a5 a6 tl a7 a8), (a1, aI yI 96 S), (a7, aI yI 1681 (FB S (-1)))] _ := hP.sub [0, 1, 2] rfl
    exact W.iret hx hb hr (fun t ht hW => ⟨⟨iI (mostI (FB S (-1)) a b), (FB S (-1)), rfl, ⟨congrArg iI (show mostI (FB S (-1)) a b = if whyR S a b = 0 then mostI (FB S (-1)) a b else 0 by rw [if_pos hq]), trivial⟩, by show va_P D vwCl _ t.heap; rw [ht]; exact hP9⟩, hS.F ht⟩) hS.2.2 dX5_most_33
  · refine lv_iconst (v := iI 0) hx hb dX5_most_17 (by decide +kernel) ?_
    have hq : ¬ (whyR S a b = 0) := by omega
    have hP9 : va_P D vwCl [(mo, oMo (whyR S a b) a1 a2 a3 re a4 a5 a6 tl a7 a8), (a1, aI yI 96 S), (a7, aI yI 1681 Bd)] _ := hP.sub [0, 1, 2] rfl
    exact W.iret hx hb hr (fun t ht hW => ⟨⟨iI 0, Bd, rfl, ⟨congrArg iI (show 0 = if whyR S a b = 0 then mostI (FB S (-1)) a b else 0 by rw [if_neg hq]), trivial⟩, by show va_P D vwCl _ t.heap; rw [ht]; exact hP9⟩, hS.F ht⟩) hS.2.2 dX5_most_18
set_option maxHeartbeats 4000000 in
set_option maxRecDepth 100000 in
theorem c_X5_known (l : Launch) (D : va_G) (yI yC yD : ClassId) (mo : Nat) (th : Int) (re : Int) (tl : Int) (a1 : Nat) (a2 : Nat) (a3 : Nat) (a4 : Nat) (a5 : Nat) (a6 : Nat) (a7 : Nat) (a8 : Nat) (S : Int → Int) (Bd : Int → Int) (i : Int) (hI : Inv S) (hi : inR i) (sz : Nat) : Met l yX5_known wsX5_known ({ frames := 3, cells := 0, slots := 0, locals := 74 }) (rwP [.ref mo, .int (iI i)] D (tyz yI yC yD) [(mo, oMo th a1 a2 a3 re a4 a5 a6 tl a7 a8), (a1, aI yI 96 S), (a7, aI yI 1681 Bd)] sz) (va_Qi (fun (r : Int32) (G9 : (Int → Int)) => r = iI (if 0 ≤ i ∧ i < S 0 then knownOf (FB S (-1)) i else 0) ∧ True) (fun (G9 : (Int → Int)) (t : State) => va_P D vwCl [(mo, oMo (bI (¬ (0 ≤ i ∧ i < S 0))) a1 a2 a3 re a4 a5 a6 tl a7 a8), (a1, aI yI 96 S), (a7, aI yI 1681 G9)] t.heap) (va_A [(mo, oMo th a1 a2 a3 re a4 a5 a6 tl a7 a8), (a1, aI yI 96 S), (a7, aI yI 1681 Bd)] sz)) 0 0 (va_A [(mo, oMo th a1 a2 a3 re a4 a5 a6 tl a7 a8), (a1, aI yI 96 S), (a7, aI yI 1681 Bd)] sz) := by
  refine Met.ofW (cc := cX5_known) (maxL := 2) (ret := (some .int)) (by decide) rfl ?_
  intro p e s m args below meth c s₁ B hml hv
  obtain ⟨rfl, hsz, hP, hK, hD0⟩ := hv
  have hx := B.exec
  have hb := B.bytes
  have hr := B.returns
  have hts := atoms_spec (ws := wsX5_known) B.pre
  have hown : s.vm.findClass RX5 = some m.cls := findClass_of_methodNamed B.named
  have hlocks := B.notSynchronized
  subst hsz
  have hD := hD0.self (sz := s.heap.size)
  generalize hAe : va_A [(mo, oMo th a1 a2 a3 re a4 a5 a6 tl a7 a8), (a1, aI yI 96 S), (a7, aI yI 1681 Bd)] s.heap.size = A at hD ⊢
  have hA : ∀ q : Nat, s.heap.size ≤ q → A q := fun q h => by rw [← hAe]; exact Or.inr h
  have hS : va_S A s.heap s.heap [] := va_S.rf
  have hP : va_P D vwCl [(mo, oMo th a1 a2 a3 re a4 a5 a6 tl a7 a8), (a1, aI yI 96 S), (a7, aI yI 1681 Bd)] s.heap := hP
  have hinX5 : ∀ w ∈ wsX50, w ∈ wsX5_known := by decide +kernel
  have hf38 : (Cond.fieldLink RX5 38 "RiddleDriveModel" "thrown" "I").before _ s = true := hts _ (by decide +kernel)
  have hl := lv_entry ([.ref mo, .int (iI i)]) (n := 2) (Nat.le_of_ble_eq_true rfl)
  rw [lg_entry_eq]
  generalize (lg_sl ([.ref mo, .int (iI i)]) ++ List.replicate (2 - (lg_sl ([.ref mo, .int (iI i)])).length) Slot.unset).toArray = ls at hl ⊢
  have hl : lv_has ls 2 [(0, .ref mo), (1, .int (iI i))] := hl
  have hpl := hI.pl
  have hna := hI.na
  have hse := hI.se
  have hwi := hI.wi
  refine lv_aload_n hx hb dX5_known_0 rfl (lv_at hl 0 rfl) ?_
  refine lv_aload_n hx hb dX5_known_1 rfl (lv_at hl 0 rfl) ?_
  refine lv_iload_n hx hb dX5_known_2 rfl (lv_at hl 1 rfl) ?_
  refine iv_roV (As := [.int (iI i)]) (rest := [.ref mo]) (C := RX5) (n := 1) ⟨hx, hb, hml, hown, hts⟩ (c_X5_isPlace l D yI yC yD mo th re tl a1 a2 a3 a4 a5 a6 a7 a8 S i (by omega) (by omega)) (cwV 1 hts gX5_known_X5_isPlace rfl rfl rfl (by decide +kernel) ⟨Nat.le_of_ble_eq_true rfl, Nat.le_of_ble_eq_true rfl⟩) hK hP [0, 1] rfl 0 rfl rfl rfl hl.1 rfl (Nat.le_of_ble_eq_true rfl) dX5_known_3 ⟨Nat.zero_le _, Nat.zero_le _⟩ ?_
  refine iv_ifb_eq (P := 0 ≤ i ∧ i < S 0) (tgt := 13) hx hb dX5_known_6 (by decide) (fun c6 => ?_) (fun c6 => ?_)
  · refine lv_iconst (v := iI 1) hx hb dX5_known_13 (by decide +kernel) ?_
    refine va_put (D := D) (ci := 5) (v := .int (iI 1)) (ty := .int) (C := RX5) (T := TX5) (N := 11) hx hb hts hinX5 tyX5 tyX5_ok nmX5 hown hK hP hD hS 0 rfl rfl 0 (by decide) hf38 (fun _ h9 => h9) rfl (by decide +kernel) rfl rfl (Nat.le_of_ble_eq_true rfl) dX5_known_14 (fun H locs hP hD hS => ?_)
    have hP : va_P D vwCl [(mo, oMo 1 a1 a2 a3 re a4 a5 a6 tl a7 a8), (a1, aI yI 96 S), (a7, aI yI 1681 Bd)] H := hP
    have hD : va_D A [(mo, oMo 1 a1 a2 a3 re a4 a5 a6 tl a7 a8), (a1, aI yI 96 S), (a7, aI yI 1681 Bd)] := hD
    refine lv_aload_n hx hb dX5_known_17 rfl (lv_at hl 0 rfl) ?_
    refine va_get (D := D) (ci := 5) (v := .int (iI 1)) (C := RX5) (T := TX5) (N := 11) hx hb hts hinX5 hown hK hP 0 rfl rfl 0 (by decide) hf38 (fun _ h9 => h9) rfl dX5_known_18 ?_
    refine iv_if_le (a := 1) (tgt := 26) hx hb (by omega) dX5_known_21 (by decide) (fun c21 => ?_) (fun c21 => ?_)
    · exact absurd c21 (by omega)
    · refine lv_iconst (v := iI 0) hx hb dX5_known_24 (by decide +kernel) ?_
      have hq : ¬ (0 ≤ i ∧ i < S 0) := by omega
      have hP9 : va_P D vwCl [(mo, oMo (bI (¬ (0 ≤ i ∧ i < S 0))) a1 a2 a3 re a4 a5 a6 tl a7 a8), (a1, aI yI 96 S), (a7, aI yI 1681 Bd)] _ := (hP.sub (ws' := [(mo, oMo 1 a1 a2 a3 re a4 a5 a6 tl a7 a8), (a1, aI yI 96 S), (a7, aI yI 1681 Bd)]) [0, 1, 2] rfl).cv (by simp only [if_neg hq, bI_t hq])
      exact W.iret hx hb hr (fun t ht hW => ⟨⟨iI 0, Bd, rfl, ⟨congrArg iI (show 0 = if 0 ≤ i ∧ i < S 0 then knownOf (FB S (-1)) i else 0 by rw [if_neg hq]), trivial⟩, by show va_P D vwCl _ t.heap; rw [ht]; exact hP9⟩, hS.F ht⟩) hS.2.2 dX5_known_25
  · refine lv_iconst (v := iI 0) hx hb dX5_known_9 (by decide +kernel) ?_
    refine lv_goto (tgt := 14) hx hb dX5_known_10 (by decide) ?_
    refine va_put (D := D) (ci := 5) (v := .int (iI 0)) (ty := .int) (C := RX5) (T := TX5) (N := 11) hx hb hts hinX5 tyX5 tyX5_ok nmX5 hown hK hP hD hS 0 rfl rfl 0 (by decide) hf38 (fun _ h9 => h9) rfl (by decide +kernel) rfl rfl (Nat.le_of_ble_eq_true rfl) dX5_known_14 (fun H locs hP hD hS => ?_)
    have hP : va_P D vwCl [(mo, oMo 0 a1 a2 a3 re a4 a5 a6 tl a7 a8), (a1, aI yI 96 S), (a7, aI yI 1681 Bd)] H := hP
    have hD : va_D A [(mo, oMo 0 a1 a2 a3 re a4 a5 a6 tl a7 a8), (a1, aI yI 96 S), (a7, aI yI 1681 Bd)] := hD
    refine lv_aload_n hx hb dX5_known_17 rfl (lv_at hl 0 rfl) ?_
    refine va_get (D := D) (ci := 5) (v := .int (iI 0)) (C := RX5) (T := TX5) (N := 11) hx hb hts hinX5 hown hK hP 0 rfl rfl 0 (by decide) hf38 (fun _ h9 => h9) rfl dX5_known_18 ?_
    refine iv_if_le (a := 0) (tgt := 26) hx hb (by omega) dX5_known_21 (by decide) (fun c21 => ?_) (fun c21 => ?_)
    · refine lv_aload_n hx hb dX5_known_26 rfl (lv_at hl 0 rfl) ?_
      refine lv_iconst (v := iI (-1)) hx hb dX5_known_27 (by decide +kernel) ?_
      refine iv_rwVv (As := [.int (iI (-1))]) (rest := []) (C := RX5) (n := 1) ⟨hx, hb, hml, hown, hts⟩ (c_X5_findBounds l D yI yC yD mo 0 re tl a1 a2 a3 a4 a5 a6 a7 a8 S Bd (-1) (by assumption) (by omega) _) (cwV 1 hts gX5_known_X5_findBounds rfl rfl rfl (by decide +kernel) ⟨Nat.le_of_ble_eq_true rfl, Nat.le_of_ble_eq_true rfl⟩) hK hP hD hS hA [0, 1, 2] (by decide) rfl 0 rfl rfl rfl hl.1 rfl (Nat.le_of_ble_eq_true rfl) dX5_known_28 ⟨Nat.zero_le _, Nat.zero_le _⟩ (fun _ => rfl) (fun u28 H locs hw28 hP hD hS => ?_)
      have hP : va_P D vwCl [(mo, oMo 0 a1 a2 a3 re a4 a5 a6 tl a7 a8), (a1, aI yI 96 S), (a7, aI yI 1681 (FB S (-1)))] H := hP
      have hD : va_D A [(mo, oMo 0 a1 a2 a3 re a4 a5 a6 tl a7 a8), (a1, aI yI 96 S), (a7, aI yI 1681 (FB S (-1)))] := hD
      refine lv_aload_n hx hb dX5_known_31 rfl (lv_at hl 0 rfl) ?_
      refine lv_iload_n hx hb dX5_known_32 rfl (lv_at hl 1 rfl) ?_
      refine iv_roV (As := [.int (iI i)]) (rest := []) (C := RX5) (n := 1) ⟨hx, hb, hml, hown, hts⟩ (c_X5_knownOf l D yI yC yD mo 0 re tl a1 a2 a3 a4 a5 a6 a7 a8 S (FB S (-1)) i (by omega) (gb_FB hI _)) (cwV 1 hts gX5_known_X5_knownOf rfl rfl rfl (by decide +kernel) ⟨Nat.le_of_ble_eq_true rfl, Nat.le_of_ble_eq_true rfl⟩) hK hP [0, 1, 2] rfl 0 rfl rfl rfl hl.1 rfl (Nat.le_of_ble_eq_true rfl) dX5_known_33 ⟨Nat.zero_le _, Nat.zero_le _⟩ ?_
      have hq : 0 ≤ i ∧ i < S 0 := by omega
      have hP9 : va_P D vwCl [(mo, oMo (bI (¬ (0 ≤ i ∧ i < S 0))) a1 a2 a3 re a4 a5 a6 tl a7 a8), (a1, aI yI 96 S), (a7, aI yI 1681 (FB S (-1)))] _ := (hP.sub (ws' := [(mo, oMo 0 a1 a2 a3 re a4 a5 a6 tl a7 a8), (a1, aI yI 96 S), (a7, aI yI 1681 (FB S (-1)))]) [0, 1, 2] rfl).cv (by simp only [if_pos hq, bI_f (not_not_intro hq)])
      exact W.iret hx hb hr (fun t ht hW => ⟨⟨iI (knownOf (FB S (-1)) i), (FB S (-1)), rfl, ⟨congrArg iI (show knownOf (FB S (-1)) i = if 0 ≤ i ∧ i < S 0 then knownOf (FB S (-1)) i else 0 by rw [if_pos hq]), trivial⟩, by show va_P D vwCl _ t.heap; rw [ht]; exact hP9⟩, hS.F ht⟩) hS.2.2 dX5_known_36
    · exact absurd c21 (by omega)
set_option maxHeartbeats 4000000 in
set_option maxRecDepth 100000 in
theorem c_X5_knownAt (l : Launch) (D : va_G) (yI yC yD : ClassId) (mo : Nat) (th : Int) (re : Int) (tl : Int) (a1 : Nat) (a2 : Nat) (a3 : Nat) (a4 : Nat) (a5 : Nat) (a6 : Nat) (a7 : Nat) (a8 : Nat) (S : Int → Int) (Bd : Int → Int) (i : Int) (hI : Inv S) (hi : inR i) (sz : Nat) : Met l yX5_knownAt wsX5_knownAt ({ frames := 3, cells := 0, slots := 0, locals := 74 }) (rwP [.ref mo, .int (iI i)] D (tyz yI yC yD) [(mo, oMo th a1 a2 a3 re a4 a5 a6 tl a7 a8), (a1, aI yI 96 S), (a7, aI yI 1681 Bd)] sz) (va_Qi (fun (r : Int32) (G9 : (Int → Int)) => r = iI (if 0 ≤ i then kAt (FB S (-1)) i (S 0).toNat else 0) ∧ True) (fun (G9 : (Int → Int)) (t : State) => va_P D vwCl [(mo, oMo (bI (¬ (0 ≤ i))) a1 a2 a3 re a4 a5 a6 tl a7 a8), (a1, aI yI 96 S), (a7, aI yI 1681 G9)] t.heap) (va_A [(mo, oMo th a1 a2 a3 re a4 a5 a6 tl a7 a8), (a1, aI yI 96 S), (a7, aI yI 1681 Bd)] sz)) 0 0 (va_A [(mo, oMo th a1 a2 a3 re a4 a5 a6 tl a7 a8), (a1, aI yI 96 S), (a7, aI yI 1681 Bd)] sz) := by
  refine Met.ofW (cc := cX5_knownAt) (maxL := 5) (ret := (some .int)) (by decide) rfl ?_
  intro p e s m args below meth c s₁ B hml hv
  obtain ⟨rfl, hsz, hP, hK, hD0⟩ := hv
  have hx := B.exec
  have hb := B.bytes
  have hr := B.returns
  have hts := atoms_spec (ws := wsX5_knownAt) B.pre
  have hown : s.vm.findClass RX5 = some m.cls := findClass_of_methodNamed B.named
  have hlocks := B.notSynchronized
  subst hsz
  have hD := hD0.self (sz := s.heap.size)
  generalize hAe : va_A [(mo, oMo th a1 a2 a3 re a4 a5 a6 tl a7 a8), (a1, aI yI 96 S), (a7, aI yI 1681 Bd)] s.heap.size = A at hD ⊢
  have hA : ∀ q : Nat, s.heap.size ≤ q → A q := fun q h => by rw [← hAe]; exact Or.inr h
  have hS : va_S A s.heap s.heap [] := va_S.rf
  have hP : va_P D vwCl [(mo, oMo th a1 a2 a3 re a4 a5 a6 tl a7 a8), (a1, aI yI 96 S), (a7, aI yI 1681 Bd)] s.heap := hP
  have hinX5 : ∀ w ∈ wsX50, w ∈ wsX5_knownAt := by decide +kernel
  have hf7 : (Cond.fieldLink RX5 7 "RiddleDriveModel" "state" "[I").before _ s = true := hts _ (by decide +kernel)
  have hf38 : (Cond.fieldLink RX5 38 "RiddleDriveModel" "thrown" "I").before _ s = true := hts _ (by decide +kernel)
  have hl := lv_entry ([.ref mo, .int (iI i)]) (n := 5) (Nat.le_of_ble_eq_true rfl)
  rw [lg_entry_eq]
  generalize (lg_sl ([.ref mo, .int (iI i)]) ++ List.replicate (5 - (lg_sl ([.ref mo, .int (iI i)])).length) Slot.unset).toArray = ls at hl ⊢
  have hl : lv_has ls 5 [(0, .ref mo), (1, .int (iI i))] := hl
  have hpl := hI.pl
  have hna := hI.na
  have hse := hI.se
  have hwi := hI.wi
  refine lv_aload_n hx hb dX5_knownAt_0 rfl (lv_at hl 0 rfl) ?_
  refine lv_iload_n hx hb dX5_knownAt_1 rfl (lv_at hl 1 rfl) ?_
  refine iv_if_ge (a := i) (tgt := 9) hx hb (by omega) dX5_knownAt_2 (by decide) (fun c2 => ?_) (fun c2 => ?_)
  · refine lv_iconst (v := iI 0) hx hb dX5_knownAt_9 (by decide +kernel) ?_
    refine va_put (D := D) (ci := 5) (v := .int (iI 0)) (ty := .int) (C := RX5) (T := TX5) (N := 11) hx hb hts hinX5 tyX5 tyX5_ok nmX5 hown hK hP hD hS 0 rfl rfl 0 (by decide) hf38 (fun _ h9 => h9) rfl (by decide +kernel) rfl rfl (Nat.le_of_ble_eq_true rfl) dX5_knownAt_10 (fun H locs hP hD hS => ?_)
    have hP : va_P D vwCl [(mo, oMo 0 a1 a2 a3 re a4 a5 a6 tl a7 a8), (a1, aI yI 96 S), (a7, aI yI 1681 Bd)] H := hP
    have hD : va_D A [(mo, oMo 0 a1 a2 a3 re a4 a5 a6 tl a7 a8), (a1, aI yI 96 S), (a7, aI yI 1681 Bd)] := hD
    refine lv_aload_n hx hb dX5_knownAt_13 rfl (lv_at hl 0 rfl) ?_
    refine va_get (D := D) (ci := 5) (v := .int (iI 0)) (C := RX5) (T := TX5) (N := 11) hx hb hts hinX5 hown hK hP 0 rfl rfl 0 (by decide) hf38 (fun _ h9 => h9) rfl dX5_knownAt_14 ?_
    refine iv_if_le (a := 0) (tgt := 22) hx hb (by omega) dX5_knownAt_17 (by decide) (fun c17 => ?_) (fun c17 => ?_)
    · refine lv_aload_n hx hb dX5_knownAt_22 rfl (lv_at hl 0 rfl) ?_
      refine lv_iconst (v := iI (-1)) hx hb dX5_knownAt_23 (by decide +kernel) ?_
      refine iv_rwVv (As := [.int (iI (-1))]) (rest := []) (C := RX5) (n := 1) ⟨hx, hb, hml, hown, hts⟩ (c_X5_findBounds l D yI yC yD mo 0 re tl a1 a2 a3 a4 a5 a6 a7 a8 S Bd (-1) (by assumption) (by omega) _) (cwV 1 hts gX5_knownAt_X5_findBounds rfl rfl rfl (by decide +kernel) ⟨Nat.le_of_ble_eq_true rfl, Nat.le_of_ble_eq_true rfl⟩) hK hP hD hS hA [0, 1, 2] (by decide) rfl 0 rfl rfl rfl hl.1 rfl (Nat.le_of_ble_eq_true rfl) dX5_knownAt_24 ⟨Nat.zero_le _, Nat.zero_le _⟩ (fun _ => rfl) (fun u24 H locs hw24 hP hD hS => ?_)
      have hP : va_P D vwCl [(mo, oMo 0 a1 a2 a3 re a4 a5 a6 tl a7 a8), (a1, aI yI 96 S), (a7, aI yI 1681 (FB S (-1)))] H := hP
      have hD : va_D A [(mo, oMo 0 a1 a2 a3 re a4 a5 a6 tl a7 a8), (a1, aI yI 96 S), (a7, aI yI 1681 (FB S (-1)))] := hD
      refine lv_iconst (v := iI (-1)) hx hb dX5_knownAt_27 (by decide +kernel) ?_
      refine lv_istore_n (lv' := [(2, .int (iI (-1))), (0, .ref mo), (1, .int (iI i))]) hx hb dX5_knownAt_28 rfl hl (by decide) rfl (fun ls hl => ?_)
      refine lv_iconst (v := iI 0) hx hb dX5_knownAt_29 (by decide +kernel) ?_
      refine lv_istore_n (lv' := [(3, .int (iI 0)), (2, .int (iI (-1))), (0, .ref mo), (1, .int (iI i))]) hx hb dX5_knownAt_30 rfl hl (by decide) rfl (fun ls hl => ?_)
      refine lv_iconst (v := iI 0) hx hb dX5_knownAt_31 (by decide +kernel) ?_
      refine lv_istore (lv' := [(4, .int (iI 0)), (3, .int (iI 0)), (2, .int (iI (-1))), (0, .ref mo), (1, .int (iI i))]) hx hb dX5_knownAt_32 hl (by decide) rfl (fun ls hl => ?_)
      refine iv_loop (I := fun (qq : Nat × Int × Int × Int) H locs ls => match qq with | (n, x2, x3, x4) => ((n : Int) ≤ S 0) ∧ (x4 = n) ∧ (x2 = kAt (FB S (-1)) i n) ∧ (x3 = kCnt (FB S (-1)) n) ∧ va_P D vwCl [(mo, oMo 0 a1 a2 a3 re a4 a5 a6 tl a7 a8), (a1, aI yI 96 S), (a7, aI yI 1681 (FB S (-1)))] H ∧ va_D A [(mo, oMo 0 a1 a2 a3 re a4 a5 a6 tl a7 a8), (a1, aI yI 96 S), (a7, aI yI 1681 (FB S (-1)))] ∧ va_S A s.heap H locs ∧ lv_has ls 5 [(4, .int (iI x4)), (3, .int (iI x3)), (2, .int (iI x2)), (0, .ref mo), (1, .int (iI i))]) (μ := fun (qq : Nat × Int × Int × Int) => match qq with | (n, x2, x3, x4) => (S 0).toNat - n) (0, -1, 0, 0) ?_ ?_
      · exact ⟨by omega, by omega, rfl, rfl, hP, hD, hS, lv_sub hl [0, 1, 2, 3, 4] rfl⟩
      · intro qq H locs ls hI ih34
        obtain ⟨n, x2, x3, x4⟩ := qq
        obtain ⟨hn, h4, h2, h3, hP, hD, hS, hl⟩ := hI
        refine lv_iload hx hb dX5_knownAt_34 (lv_at hl 0 rfl) ?_
        refine lv_aload_n hx hb dX5_knownAt_36 rfl (lv_at hl 3 rfl) ?_
        refine va_get (D := D) (ci := 5) (v := .ref a1) (C := RX5) (T := TX5) (N := 11) hx hb hts hinX5 hown hK hP 0 rfl rfl 1 (by decide) hf7 (fun _ h9 => h9) rfl dX5_knownAt_37 ?_
        refine lv_iconst (v := iI 0) hx hb dX5_knownAt_40 (by decide +kernel) ?_
        refine iv_ald hx hb hK hP 1 0 rfl rfl (z := 0) (by omega) (by omega) (by omega) dX5_knownAt_41 ?_
        refine iv_icmp_ge (a := x4) (b := S 0) (tgt := 76) hx hb (by omega) (by omega) dX5_knownAt_42 (by decide) (fun c42 => ?_) (fun c42 => ?_)
        · refine lv_iload_n hx hb dX5_knownAt_76 rfl (lv_at hl 2 rfl) ?_
          have hq : 0 ≤ i := by omega
          have hP9 : va_P D vwCl [(mo, oMo (bI (¬ (0 ≤ i))) a1 a2 a3 re a4 a5 a6 tl a7 a8), (a1, aI yI 96 S), (a7, aI yI 1681 (FB S (-1)))] _ := (hP.sub (ws' := [(mo, oMo 0 a1 a2 a3 re a4 a5 a6 tl a7 a8), (a1, aI yI 96 S), (a7, aI yI 1681 (FB S (-1)))]) [0, 1, 2] rfl).cv (by simp only [if_pos hq, bI_f (not_not_intro hq)])
          exact W.iret hx hb hr (fun t ht hW => ⟨⟨iI x2, (FB S (-1)), rfl, ⟨congrArg iI (show x2 = if 0 ≤ i then kAt (FB S (-1)) i (S 0).toNat else 0 by rw [if_pos hq]; rw [h2]; congr 1; omega), trivial⟩, by show va_P D vwCl _ t.heap; rw [ht]; exact hP9⟩, hS.F ht⟩) hS.2.2 dX5_knownAt_77
        · have hb1 := gb_FB hI (-1)
          have hkr := kCnt_r (r := FB S (-1)) n
          have hko := knownOf_r hb1 (i := x4) (by omega)
          refine lv_aload_n hx hb dX5_knownAt_45 rfl (lv_at hl 3 rfl) ?_
          refine lv_iload hx hb dX5_knownAt_46 (lv_at hl 0 rfl) ?_
          refine iv_roV (As := [.int (iI x4)]) (rest := []) (C := RX5) (n := 1) ⟨hx, hb, hml, hown, hts⟩ (c_X5_knownOf l D yI yC yD mo 0 re tl a1 a2 a3 a4 a5 a6 a7 a8 S (FB S (-1)) x4 (by omega) (hb1)) (cwV 1 hts gX5_knownAt_X5_knownOf rfl rfl rfl (by decide +kernel) ⟨Nat.le_of_ble_eq_true rfl, Nat.le_of_ble_eq_true rfl⟩) hK hP [0, 1, 2] rfl 0 rfl rfl rfl hl.1 rfl (Nat.le_of_ble_eq_true rfl) dX5_knownAt_48 ⟨Nat.zero_le _, Nat.zero_le _⟩ ?_
          refine lv_iconst (v := iI (-1)) hx hb dX5_knownAt_51 (by decide +kernel) ?_
          refine iv_icmp_eq (a := knownOf (FB S (-1)) x4) (b := -1) (tgt := 70) hx hb (by omega) (by omega) dX5_knownAt_52 (by decide) (fun c52 => ?_) (fun c52 => ?_)
          · refine iv_inc (lv' := [(4, .int (iI (x4 + 1))), (3, .int (iI x3)), (2, .int (iI x2)), (0, .ref mo), (1, .int (iI i))]) hx hb dX5_knownAt_70 hl (k := 0) rfl (by decide) rfl (fun ls hl => ?_)
            refine lv_goto (tgt := 34) hx hb dX5_knownAt_73 (by decide) ?_
            refine ih34 (n + 1, x2, x3, x4 + 1) _ _ (by show ((S 0).toNat - (n + 1) : Nat) < (S 0).toNat - n; omega) ?_
            exact ⟨by omega, by omega, by subst h4; show _ = if _ then _ else _; split <;> omega, by subst h4; show _ = _ + (if _ then _ else _); split <;> omega, hP, hD, hS, lv_sub hl [0, 1, 2, 3, 4] rfl⟩
          · refine lv_iload_n hx hb dX5_knownAt_55 rfl (lv_at hl 1 rfl) ?_
            refine lv_iload_n hx hb dX5_knownAt_56 rfl (lv_at hl 4 rfl) ?_
            refine iv_icmp_ne (a := x3) (b := i) (tgt := 65) hx hb (by omega) (by omega) dX5_knownAt_57 (by decide) (fun c57 => ?_) (fun c57 => ?_)
            · refine lv_iload_n hx hb dX5_knownAt_65 rfl (lv_at hl 2 rfl) ?_
              refine lv_istore_n (lv' := [(2, .int (iI x2)), (4, .int (iI x4)), (3, .int (iI x3)), (0, .ref mo), (1, .int (iI i))]) hx hb dX5_knownAt_66 rfl hl (by decide) rfl (fun ls hl => ?_)
              refine iv_inc (lv' := [(3, .int (iI (x3 + 1))), (2, .int (iI x2)), (4, .int (iI x4)), (0, .ref mo), (1, .int (iI i))]) hx hb dX5_knownAt_67 hl (k := 2) rfl (by decide) rfl (fun ls hl => ?_)
              refine iv_inc (lv' := [(4, .int (iI (x4 + 1))), (3, .int (iI (x3 + 1))), (2, .int (iI x2)), (0, .ref mo), (1, .int (iI i))]) hx hb dX5_knownAt_70 hl (k := 2) rfl (by decide) rfl (fun ls hl => ?_)
              refine lv_goto (tgt := 34) hx hb dX5_knownAt_73 (by decide) ?_
              refine ih34 (n + 1, x2, x3 + 1, x4 + 1) _ _ (by show ((S 0).toNat - (n + 1) : Nat) < (S 0).toNat - n; omega) ?_
              exact ⟨by omega, by omega, by subst h4; show _ = if _ then _ else _; split <;> omega, by subst h4; show _ = _ + (if _ then _ else _); split <;> omega, hP, hD, hS, lv_sub hl [0, 1, 2, 3, 4] rfl⟩
            · refine lv_iload hx hb dX5_knownAt_60 (lv_at hl 0 rfl) ?_
              refine lv_goto (tgt := 66) hx hb dX5_knownAt_62 (by decide) ?_
              refine lv_istore_n (lv' := [(2, .int (iI x4)), (4, .int (iI x4)), (3, .int (iI x3)), (0, .ref mo), (1, .int (iI i))]) hx hb dX5_knownAt_66 rfl hl (by decide) rfl (fun ls hl => ?_)
              refine iv_inc (lv' := [(3, .int (iI (x3 + 1))), (2, .int (iI x4)), (4, .int (iI x4)), (0, .ref mo), (1, .int (iI i))]) hx hb dX5_knownAt_67 hl (k := 2) rfl (by decide) rfl (fun ls hl => ?_)
              refine iv_inc (lv' := [(4, .int (iI (x4 + 1))), (3, .int (iI (x3 + 1))), (2, .int (iI x4)), (0, .ref mo), (1, .int (iI i))]) hx hb dX5_knownAt_70 hl (k := 2) rfl (by decide) rfl (fun ls hl => ?_)
              refine lv_goto (tgt := 34) hx hb dX5_knownAt_73 (by decide) ?_
              refine ih34 (n + 1, x4, x3 + 1, x4 + 1) _ _ (by show ((S 0).toNat - (n + 1) : Nat) < (S 0).toNat - n; omega) ?_
              exact ⟨by omega, by omega, by subst h4; show _ = if _ then _ else _; split <;> omega, by subst h4; show _ = _ + (if _ then _ else _); split <;> omega, hP, hD, hS, lv_sub hl [0, 1, 2, 3, 4] rfl⟩
    · exact absurd c17 (by omega)
  · refine lv_iconst (v := iI 1) hx hb dX5_knownAt_5 (by decide +kernel) ?_
    refine lv_goto (tgt := 10) hx hb dX5_knownAt_6 (by decide) ?_
    refine va_put (D := D) (ci := 5) (v := .int (iI 1)) (ty := .int) (C := RX5) (T := TX5) (N := 11) hx hb hts hinX5 tyX5 tyX5_ok nmX5 hown hK hP hD hS 0 rfl rfl 0 (by decide) hf38 (fun _ h9 => h9) rfl (by decide +kernel) rfl rfl (Nat.le_of_ble_eq_true rfl) dX5_knownAt_10 (fun H locs hP hD hS => ?_)
    have hP : va_P D vwCl [(mo, oMo 1 a1 a2 a3 re a4 a5 a6 tl a7 a8), (a1, aI yI 96 S), (a7, aI yI 1681 Bd)] H := hP
    have hD : va_D A [(mo, oMo 1 a1 a2 a3 re a4 a5 a6 tl a7 a8), (a1, aI yI 96 S), (a7, aI yI 1681 Bd)] := hD
    refine lv_aload_n hx hb dX5_knownAt_13 rfl (lv_at hl 0 rfl) ?_
    refine va_get (D := D) (ci := 5) (v := .int (iI 1)) (C := RX5) (T := TX5) (N := 11) hx hb hts hinX5 hown hK hP 0 rfl rfl 0 (by decide) hf38 (fun _ h9 => h9) rfl dX5_knownAt_14 ?_
    refine iv_if_le (a := 1) (tgt := 22) hx hb (by omega) dX5_knownAt_17 (by decide) (fun c17 => ?_) (fun c17 => ?_)
    · exact absurd c17 (by omega)
    · refine lv_iconst (v := iI 0) hx hb dX5_knownAt_20 (by decide +kernel) ?_
      have hq : ¬ (0 ≤ i) := by omega
      have hP9 : va_P D vwCl [(mo, oMo (bI (¬ (0 ≤ i))) a1 a2 a3 re a4 a5 a6 tl a7 a8), (a1, aI yI 96 S), (a7, aI yI 1681 Bd)] _ := (hP.sub (ws' := [(mo, oMo 1 a1 a2 a3 re a4 a5 a6 tl a7 a8), (a1, aI yI 96 S), (a7, aI yI 1681 Bd)]) [0, 1, 2] rfl).cv (by simp only [if_neg hq, bI_t hq])
      exact W.iret hx hb hr (fun t ht hW => ⟨⟨iI 0, Bd, rfl, ⟨congrArg iI (show 0 = if 0 ≤ i then kAt (FB S (-1)) i (S 0).toNat else 0 by rw [if_neg hq]), trivial⟩, by show va_P D vwCl _ t.heap; rw [ht]; exact hP9⟩, hS.F ht⟩) hS.2.2 dX5_knownAt_21
set_option maxHeartbeats 4000000 in
set_option maxRecDepth 100000 in
theorem c_X5_append (l : Launch) (D : va_G) (yI yC yD : ClassId) (mo : Nat) (th : Int) (re : Int) (tl : Int) (a1 : Nat) (a2 : Nat) (a3 : Nat) (a4 : Nat) (a5 : Nat) (a6 : Nat) (a7 : Nat) (a8 : Nat) (T : Int → Int) (x : Int) (hx9 : inR x) (htl : 0 ≤ tl ∧ tl ≤ 100) (sz : Nat) : Met l yX5_append wsX5_append ({ frames := 1, cells := 0, slots := 0, locals := 22 }) (rwP [.ref mo, .int (iI x)] D (tyz yI yC yD) [(mo, oMo th a1 a2 a3 re a4 a5 a6 tl a7 a8), (a6, aI yI 100 T)] sz) (va_Qi (fun (r : Int32) (_ : Unit) => r = iI (if whyAp tl x = 0 then tl + 1 else 0) ∧ True) (fun (_ : Unit) (t : State) => va_P D vwCl [(mo, oMo (whyAp tl x) a1 a2 a3 re a4 a5 a6 (if whyAp tl x = 0 then tl + 1 else tl) a7 a8), (a6, aI yI 100 (if whyAp tl x = 0 then up T tl x else T))] t.heap) (va_A [(mo, oMo th a1 a2 a3 re a4 a5 a6 tl a7 a8), (a6, aI yI 100 T)] sz)) 0 0 (va_A [(mo, oMo th a1 a2 a3 re a4 a5 a6 tl a7 a8), (a6, aI yI 100 T)] sz) := by
  refine Met.ofW (cc := cX5_append) (maxL := 2) (ret := (some .int)) (by decide) rfl ?_
  intro p e s m args below meth c s₁ B hml hv
  obtain ⟨rfl, hsz, hP, hK, hD0⟩ := hv
  have hx := B.exec
  have hb := B.bytes
  have hr := B.returns
  have hts := atoms_spec (ws := wsX5_append) B.pre
  have hown : s.vm.findClass RX5 = some m.cls := findClass_of_methodNamed B.named
  have hlocks := B.notSynchronized
  subst hsz
  have hD := hD0.self (sz := s.heap.size)
  generalize hAe : va_A [(mo, oMo th a1 a2 a3 re a4 a5 a6 tl a7 a8), (a6, aI yI 100 T)] s.heap.size = A at hD ⊢
  have hA : ∀ q : Nat, s.heap.size ≤ q → A q := fun q h => by rw [← hAe]; exact Or.inr h
  have hS : va_S A s.heap s.heap [] := va_S.rf
  have hP : va_P D vwCl [(mo, oMo th a1 a2 a3 re a4 a5 a6 tl a7 a8), (a6, aI yI 100 T)] s.heap := hP
  have hinX5 : ∀ w ∈ wsX50, w ∈ wsX5_append := by decide +kernel
  have hf25 : (Cond.fieldLink RX5 25 "RiddleDriveModel" "text" "[I").before _ s = true := hts _ (by decide +kernel)
  have hf38 : (Cond.fieldLink RX5 38 "RiddleDriveModel" "thrown" "I").before _ s = true := hts _ (by decide +kernel)
  have hf82 : (Cond.fieldLink RX5 82 "RiddleDriveModel" "textLength" "I").before _ s = true := hts _ (by decide +kernel)
  have hl := lv_entry ([.ref mo, .int (iI x)]) (n := 2) (Nat.le_of_ble_eq_true rfl)
  rw [lg_entry_eq]
  generalize (lg_sl ([.ref mo, .int (iI x)]) ++ List.replicate (2 - (lg_sl ([.ref mo, .int (iI x)])).length) Slot.unset).toArray = ls at hl ⊢
  have hl : lv_has ls 2 [(0, .ref mo), (1, .int (iI x))] := hl
  refine lv_aload_n hx hb dX5_append_0 rfl (lv_at hl 0 rfl) ?_
  refine lv_iload_n hx hb dX5_append_1 rfl (lv_at hl 1 rfl) ?_
  refine lv_iconst (v := iI 0) hx hb dX5_append_2 (by decide +kernel) ?_
  refine lv_sipush (v := iI 255) hx hb dX5_append_3 (by decide +kernel) ?_
  refine iv_roS (As := [.int (iI x), .int (iI 0), .int (iI 255)]) (rest := [.ref mo]) (n := 3) ⟨hx, hb, hml, hown, hts⟩ (c_X5_within l D yI yC yD x 0 255 (by omega) (by omega) (by omega)) (va_cwS 3 hts gX5_append_X5_within rfl rfl rfl (by decide +kernel) ⟨Nat.le_of_ble_eq_true rfl, Nat.le_of_ble_eq_true rfl⟩) hK hP [] rfl rfl hl.1 rfl (Nat.le_of_ble_eq_true rfl) dX5_append_6 ⟨Nat.zero_le _, Nat.zero_le _⟩ ?_
  refine iv_ifb_ne (P := 0 ≤ x ∧ x ≤ 255) (tgt := 16) hx hb dX5_append_9 (by decide) (fun c9 => ?_) (fun c9 => ?_)
  · refine lv_aload_n hx hb dX5_append_16 rfl (lv_at hl 0 rfl) ?_
    refine va_get (D := D) (ci := 5) (v := .int (iI tl)) (C := RX5) (T := TX5) (N := 11) hx hb hts hinX5 hown hK hP 0 rfl rfl 8 (by decide) hf82 (fun _ h9 => h9) rfl dX5_append_17 ?_
    refine lv_bipush (v := iI 100) hx hb dX5_append_20 (by decide +kernel) ?_
    refine iv_icmp_ne (a := tl) (b := 100) (tgt := 29) hx hb (by omega) (by omega) dX5_append_22 (by decide) (fun c22 => ?_) (fun c22 => ?_)
    · refine lv_iconst (v := iI 0) hx hb dX5_append_29 (by decide +kernel) ?_
      refine va_put (D := D) (ci := 5) (v := .int (iI 0)) (ty := .int) (C := RX5) (T := TX5) (N := 11) hx hb hts hinX5 tyX5 tyX5_ok nmX5 hown hK hP hD hS 0 rfl rfl 0 (by decide) hf38 (fun _ h9 => h9) rfl (by decide +kernel) rfl rfl (Nat.le_of_ble_eq_true rfl) dX5_append_30 (fun H locs hP hD hS => ?_)
      have hP : va_P D vwCl [(mo, oMo 0 a1 a2 a3 re a4 a5 a6 tl a7 a8), (a6, aI yI 100 T)] H := hP
      have hD : va_D A [(mo, oMo 0 a1 a2 a3 re a4 a5 a6 tl a7 a8), (a6, aI yI 100 T)] := hD
      refine lv_aload_n hx hb dX5_append_33 rfl (lv_at hl 0 rfl) ?_
      refine va_get (D := D) (ci := 5) (v := .int (iI 0)) (C := RX5) (T := TX5) (N := 11) hx hb hts hinX5 hown hK hP 0 rfl rfl 0 (by decide) hf38 (fun _ h9 => h9) rfl dX5_append_34 ?_
      refine iv_if_le (a := 0) (tgt := 42) hx hb (by omega) dX5_append_37 (by decide) (fun c37 => ?_) (fun c37 => ?_)
      · refine lv_aload_n hx hb dX5_append_42 rfl (lv_at hl 0 rfl) ?_
        refine va_get (D := D) (ci := 5) (v := .ref a6) (C := RX5) (T := TX5) (N := 11) hx hb hts hinX5 hown hK hP 0 rfl rfl 7 (by decide) hf25 (fun _ h9 => h9) rfl dX5_append_43 ?_
        refine lv_aload_n hx hb dX5_append_46 rfl (lv_at hl 0 rfl) ?_
        refine va_get (D := D) (ci := 5) (v := .int (iI tl)) (C := RX5) (T := TX5) (N := 11) hx hb hts hinX5 hown hK hP 0 rfl rfl 8 (by decide) hf82 (fun _ h9 => h9) rfl dX5_append_47 ?_
        refine lv_iload_n hx hb dX5_append_50 rfl (lv_at hl 1 rfl) ?_
        refine iv_ast hx hb hK hP hD hS 1 0 rfl rfl (z := tl) (v := x) (by omega) (by omega) (by omega) dX5_append_51 (fun H locs hP hD hS => ?_)
        have hP : va_P D vwCl [(mo, oMo 0 a1 a2 a3 re a4 a5 a6 tl a7 a8), (a6, aI yI 100 (up T tl x))] H := hP
        have hD : va_D A [(mo, oMo 0 a1 a2 a3 re a4 a5 a6 tl a7 a8), (a6, aI yI 100 (up T tl x))] := hD
        refine lv_aload_n hx hb dX5_append_52 rfl (lv_at hl 0 rfl) ?_
        refine lv_dup hx hb dX5_append_53 rfl ?_
        refine va_get (D := D) (ci := 5) (v := .int (iI tl)) (C := RX5) (T := TX5) (N := 11) hx hb hts hinX5 hown hK hP 0 rfl rfl 8 (by decide) hf82 (fun _ h9 => h9) rfl dX5_append_54 ?_
        refine lv_iconst (v := iI 1) hx hb dX5_append_57 (by decide +kernel) ?_
        refine iv_add hx hb dX5_append_58 ?_
        refine va_put (D := D) (ci := 5) (v := .int (iI (tl + 1))) (ty := .int) (C := RX5) (T := TX5) (N := 11) hx hb hts hinX5 tyX5 tyX5_ok nmX5 hown hK hP hD hS 0 rfl rfl 8 (by decide) hf82 (fun _ h9 => h9) rfl (by decide +kernel) rfl rfl (Nat.le_of_ble_eq_true rfl) dX5_append_59 (fun H locs hP hD hS => ?_)
        have hP : va_P D vwCl [(mo, oMo 0 a1 a2 a3 re a4 a5 a6 (tl + 1) a7 a8), (a6, aI yI 100 (up T tl x))] H := hP
        have hD : va_D A [(mo, oMo 0 a1 a2 a3 re a4 a5 a6 (tl + 1) a7 a8), (a6, aI yI 100 (up T tl x))] := hD
        refine lv_aload_n hx hb dX5_append_62 rfl (lv_at hl 0 rfl) ?_
        refine va_get (D := D) (ci := 5) (v := .int (iI (tl + 1))) (C := RX5) (T := TX5) (N := 11) hx hb hts hinX5 hown hK hP 0 rfl rfl 8 (by decide) hf82 (fun _ h9 => h9) rfl dX5_append_63 ?_
        have hth : whyAp tl x = 0 := by unfold whyAp; (repeat (first | rw [if_pos (by omega)] | rw [if_neg (by omega)]))
        have hq : whyAp tl x = 0 := by omega
        have hP9 : va_P D vwCl [(mo, oMo (whyAp tl x) a1 a2 a3 re a4 a5 a6 (if whyAp tl x = 0 then tl + 1 else tl) a7 a8), (a6, aI yI 100 (if whyAp tl x = 0 then up T tl x else T))] _ := (hP.sub (ws' := [(mo, oMo 0 a1 a2 a3 re a4 a5 a6 (tl + 1) a7 a8), (a6, aI yI 100 (up T tl x))]) [0, 1] rfl).cv (by (try simp only [if_pos hq]); (try simp only [hth]))
        exact W.iret hx hb hr (fun t ht hW => ⟨⟨iI (tl + 1), (), rfl, ⟨congrArg iI (show tl + 1 = if whyAp tl x = 0 then tl + 1 else 0 by rw [if_pos hq]), trivial⟩, by show va_P D vwCl _ t.heap; rw [ht]; exact hP9⟩, hS.F ht⟩) hS.2.2 dX5_append_66
      · exact absurd c37 (by omega)
    · refine lv_iconst (v := iI 2) hx hb dX5_append_25 (by decide +kernel) ?_
      refine lv_goto (tgt := 30) hx hb dX5_append_26 (by decide) ?_
      refine va_put (D := D) (ci := 5) (v := .int (iI 2)) (ty := .int) (C := RX5) (T := TX5) (N := 11) hx hb hts hinX5 tyX5 tyX5_ok nmX5 hown hK hP hD hS 0 rfl rfl 0 (by decide) hf38 (fun _ h9 => h9) rfl (by decide +kernel) rfl rfl (Nat.le_of_ble_eq_true rfl) dX5_append_30 (fun H locs hP hD hS => ?_)
      have hP : va_P D vwCl [(mo, oMo 2 a1 a2 a3 re a4 a5 a6 tl a7 a8), (a6, aI yI 100 T)] H := hP
      have hD : va_D A [(mo, oMo 2 a1 a2 a3 re a4 a5 a6 tl a7 a8), (a6, aI yI 100 T)] := hD
      refine lv_aload_n hx hb dX5_append_33 rfl (lv_at hl 0 rfl) ?_
      refine va_get (D := D) (ci := 5) (v := .int (iI 2)) (C := RX5) (T := TX5) (N := 11) hx hb hts hinX5 hown hK hP 0 rfl rfl 0 (by decide) hf38 (fun _ h9 => h9) rfl dX5_append_34 ?_
      refine iv_if_le (a := 2) (tgt := 42) hx hb (by omega) dX5_append_37 (by decide) (fun c37 => ?_) (fun c37 => ?_)
      · exact absurd c37 (by omega)
      · refine lv_iconst (v := iI 0) hx hb dX5_append_40 (by decide +kernel) ?_
        have hth : whyAp tl x = 2 := by unfold whyAp; (repeat (first | rw [if_pos (by omega)] | rw [if_neg (by omega)]))
        have hq : ¬ (whyAp tl x = 0) := by omega
        have hP9 : va_P D vwCl [(mo, oMo (whyAp tl x) a1 a2 a3 re a4 a5 a6 (if whyAp tl x = 0 then tl + 1 else tl) a7 a8), (a6, aI yI 100 (if whyAp tl x = 0 then up T tl x else T))] _ := (hP.sub (ws' := [(mo, oMo 2 a1 a2 a3 re a4 a5 a6 tl a7 a8), (a6, aI yI 100 T)]) [0, 1] rfl).cv (by (try simp only [if_neg hq]); (try simp only [hth]))
        exact W.iret hx hb hr (fun t ht hW => ⟨⟨iI 0, (), rfl, ⟨congrArg iI (show 0 = if whyAp tl x = 0 then tl + 1 else 0 by rw [if_neg hq]), trivial⟩, by show va_P D vwCl _ t.heap; rw [ht]; exact hP9⟩, hS.F ht⟩) hS.2.2 dX5_append_41
  · refine lv_iconst (v := iI 1) hx hb dX5_append_12 (by decide +kernel) ?_
    refine lv_goto (tgt := 30) hx hb dX5_append_13 (by decide) ?_
    refine va_put (D := D) (ci := 5) (v := .int (iI 1)) (ty := .int) (C := RX5) (T := TX5) (N := 11) hx hb hts hinX5 tyX5 tyX5_ok nmX5 hown hK hP hD hS 0 rfl rfl 0 (by decide) hf38 (fun _ h9 => h9) rfl (by decide +kernel) rfl rfl (Nat.le_of_ble_eq_true rfl) dX5_append_30 (fun H locs hP hD hS => ?_)
    have hP : va_P D vwCl [(mo, oMo 1 a1 a2 a3 re a4 a5 a6 tl a7 a8), (a6, aI yI 100 T)] H := hP
    have hD : va_D A [(mo, oMo 1 a1 a2 a3 re a4 a5 a6 tl a7 a8), (a6, aI yI 100 T)] := hD
    refine lv_aload_n hx hb dX5_append_33 rfl (lv_at hl 0 rfl) ?_
    refine va_get (D := D) (ci := 5) (v := .int (iI 1)) (C := RX5) (T := TX5) (N := 11) hx hb hts hinX5 hown hK hP 0 rfl rfl 0 (by decide) hf38 (fun _ h9 => h9) rfl dX5_append_34 ?_
    refine iv_if_le (a := 1) (tgt := 42) hx hb (by omega) dX5_append_37 (by decide) (fun c37 => ?_) (fun c37 => ?_)
    · exact absurd c37 (by omega)
    · refine lv_iconst (v := iI 0) hx hb dX5_append_40 (by decide +kernel) ?_
      have hth : whyAp tl x = 1 := by unfold whyAp; (repeat (first | rw [if_pos (by omega)] | rw [if_neg (by omega)]))
      have hq : ¬ (whyAp tl x = 0) := by omega
      have hP9 : va_P D vwCl [(mo, oMo (whyAp tl x) a1 a2 a3 re a4 a5 a6 (if whyAp tl x = 0 then tl + 1 else tl) a7 a8), (a6, aI yI 100 (if whyAp tl x = 0 then up T tl x else T))] _ := (hP.sub (ws' := [(mo, oMo 1 a1 a2 a3 re a4 a5 a6 tl a7 a8), (a6, aI yI 100 T)]) [0, 1] rfl).cv (by (try simp only [if_neg hq]); (try simp only [hth]))
      exact W.iret hx hb hr (fun t ht hW => ⟨⟨iI 0, (), rfl, ⟨congrArg iI (show 0 = if whyAp tl x = 0 then tl + 1 else 0 by rw [if_neg hq]), trivial⟩, by show va_P D vwCl _ t.heap; rw [ht]; exact hP9⟩, hS.F ht⟩) hS.2.2 dX5_append_41
set_option maxHeartbeats 4000000 in
set_option maxRecDepth 100000 in
theorem c_X5_clearText (l : Launch) (D : va_G) (yI yC yD : ClassId) (mo : Nat) (th : Int) (re : Int) (tl : Int) (a1 : Nat) (a2 : Nat) (a3 : Nat) (a4 : Nat) (a5 : Nat) (a6 : Nat) (a7 : Nat) (a8 : Nat)  (sz : Nat) : Met l yX5_clearText wsX5_clearText ({ frames := 0, cells := 0, slots := 0, locals := 0 }) (rwP [.ref mo] D (tyz yI yC yD) [(mo, oMo th a1 a2 a3 re a4 a5 a6 tl a7 a8)] sz) (va_Qi (fun (r : Int32) (_ : Unit) => r = iI tl ∧ True) (fun (_ : Unit) (t : State) => va_P D vwCl [(mo, oMo 0 a1 a2 a3 re a4 a5 a6 0 a7 a8)] t.heap) (va_A [(mo, oMo th a1 a2 a3 re a4 a5 a6 tl a7 a8)] sz)) 0 0 (va_A [(mo, oMo th a1 a2 a3 re a4 a5 a6 tl a7 a8)] sz) := by
  refine Met.ofW (cc := cX5_clearText) (maxL := 2) (ret := (some .int)) (by decide) rfl ?_
  intro p e s m args below meth c s₁ B hml hv
  obtain ⟨rfl, hsz, hP, hK, hD0⟩ := hv
  have hx := B.exec
  have hb := B.bytes
  have hr := B.returns
  have hts := atoms_spec (ws := wsX5_clearText) B.pre
  have hown : s.vm.findClass RX5 = some m.cls := findClass_of_methodNamed B.named
  have hlocks := B.notSynchronized
  subst hsz
  have hD := hD0.self (sz := s.heap.size)
  generalize hAe : va_A [(mo, oMo th a1 a2 a3 re a4 a5 a6 tl a7 a8)] s.heap.size = A at hD ⊢
  have hA : ∀ q : Nat, s.heap.size ≤ q → A q := fun q h => by rw [← hAe]; exact Or.inr h
  have hS : va_S A s.heap s.heap [] := va_S.rf
  have hP : va_P D vwCl [(mo, oMo th a1 a2 a3 re a4 a5 a6 tl a7 a8)] s.heap := hP
  have hinX5 : ∀ w ∈ wsX50, w ∈ wsX5_clearText := by decide +kernel
  have hf38 : (Cond.fieldLink RX5 38 "RiddleDriveModel" "thrown" "I").before _ s = true := hts _ (by decide +kernel)
  have hf82 : (Cond.fieldLink RX5 82 "RiddleDriveModel" "textLength" "I").before _ s = true := hts _ (by decide +kernel)
  have hl := lv_entry ([.ref mo]) (n := 2) (Nat.le_of_ble_eq_true rfl)
  rw [lg_entry_eq]
  generalize (lg_sl ([.ref mo]) ++ List.replicate (2 - (lg_sl ([.ref mo])).length) Slot.unset).toArray = ls at hl ⊢
  have hl : lv_has ls 2 [(0, .ref mo)] := hl
  refine lv_aload_n hx hb dX5_clearText_0 rfl (lv_at hl 0 rfl) ?_
  refine lv_iconst (v := iI 0) hx hb dX5_clearText_1 (by decide +kernel) ?_
  refine va_put (D := D) (ci := 5) (v := .int (iI 0)) (ty := .int) (C := RX5) (T := TX5) (N := 11) hx hb hts hinX5 tyX5 tyX5_ok nmX5 hown hK hP hD hS 0 rfl rfl 0 (by decide) hf38 (fun _ h9 => h9) rfl (by decide +kernel) rfl rfl (Nat.le_of_ble_eq_true rfl) dX5_clearText_2 (fun H locs hP hD hS => ?_)
  have hP : va_P D vwCl [(mo, oMo 0 a1 a2 a3 re a4 a5 a6 tl a7 a8)] H := hP
  have hD : va_D A [(mo, oMo 0 a1 a2 a3 re a4 a5 a6 tl a7 a8)] := hD
  refine lv_aload_n hx hb dX5_clearText_5 rfl (lv_at hl 0 rfl) ?_
  refine va_get (D := D) (ci := 5) (v := .int (iI tl)) (C := RX5) (T := TX5) (N := 11) hx hb hts hinX5 hown hK hP 0 rfl rfl 8 (by decide) hf82 (fun _ h9 => h9) rfl dX5_clearText_6 ?_
  refine lv_istore_n (lv' := [(1, .int (iI tl)), (0, .ref mo)]) hx hb dX5_clearText_9 rfl hl (by decide) rfl (fun ls hl => ?_)
  refine lv_aload_n hx hb dX5_clearText_10 rfl (lv_at hl 1 rfl) ?_
  refine lv_iconst (v := iI 0) hx hb dX5_clearText_11 (by decide +kernel) ?_
  refine va_put (D := D) (ci := 5) (v := .int (iI 0)) (ty := .int) (C := RX5) (T := TX5) (N := 11) hx hb hts hinX5 tyX5 tyX5_ok nmX5 hown hK hP hD hS 0 rfl rfl 8 (by decide) hf82 (fun _ h9 => h9) rfl (by decide +kernel) rfl rfl (Nat.le_of_ble_eq_true rfl) dX5_clearText_12 (fun H locs hP hD hS => ?_)
  have hP : va_P D vwCl [(mo, oMo 0 a1 a2 a3 re a4 a5 a6 0 a7 a8)] H := hP
  have hD : va_D A [(mo, oMo 0 a1 a2 a3 re a4 a5 a6 0 a7 a8)] := hD
  refine lv_iload_n hx hb dX5_clearText_15 rfl (lv_at hl 0 rfl) ?_
  have hP9 : va_P D vwCl [(mo, oMo 0 a1 a2 a3 re a4 a5 a6 0 a7 a8)] _ := hP.sub [0] rfl
  exact W.iret hx hb hr (fun t ht hW => ⟨⟨iI tl, (), rfl, ⟨rfl, trivial⟩, by show va_P D vwCl _ t.heap; rw [ht]; exact hP9⟩, hS.F ht⟩) hS.2.2 dX5_clearText_16
set_option maxHeartbeats 4000000 in
set_option maxRecDepth 100000 in
theorem c_X5_digit (l : Launch) (D : va_G) (yI yC yD : ClassId) (mo : Nat) (th : Int) (re : Int) (tl : Int) (a1 : Nat) (a2 : Nat) (a3 : Nat) (a4 : Nat) (a5 : Nat) (a6 : Nat) (a7 : Nat) (a8 : Nat) (T : Int → Int) (q : Int) (htl : 0 ≤ tl ∧ tl ≤ 100) (hrt : ∀ z, 0 ≤ z → z < tl → 0 ≤ T z ∧ T z ≤ 255) (hq0 : 0 ≤ q ∧ q < 1000) : Met l yX5_digit wsX5_digit ({ frames := 1, cells := 0, slots := 0, locals := 22 }) (roP [.ref mo, .int (iI q)] D (tyz yI yC yD) [(mo, oMo th a1 a2 a3 re a4 a5 a6 tl a7 a8), (a6, aI yI 100 T)]) (QcRead (iI (digit T tl q))) 0 0 (fun _ => False) := by
  refine Met.ofW (cc := cX5_digit) (maxL := 2) (ret := (some .int)) (by decide) rfl ?_
  intro p e s m args below meth c s₁ B hml hv
  obtain ⟨rfl, hP, hK⟩ := hv
  have hx := B.exec
  have hb := B.bytes
  have hr := B.returns
  have hts := atoms_spec (ws := wsX5_digit) B.pre
  have hown : s.vm.findClass RX5 = some m.cls := findClass_of_methodNamed B.named
  have hlocks := B.notSynchronized
  have hP : va_P D vwCl [(mo, oMo th a1 a2 a3 re a4 a5 a6 tl a7 a8), (a6, aI yI 100 T)] s.heap := hP
  have hinX5 : ∀ w ∈ wsX50, w ∈ wsX5_digit := by decide +kernel
  have hf25 : (Cond.fieldLink RX5 25 "RiddleDriveModel" "text" "[I").before _ s = true := hts _ (by decide +kernel)
  have hf82 : (Cond.fieldLink RX5 82 "RiddleDriveModel" "textLength" "I").before _ s = true := hts _ (by decide +kernel)
  have hl := lv_entry ([.ref mo, .int (iI q)]) (n := 2) (Nat.le_of_ble_eq_true rfl)
  rw [lg_entry_eq]
  generalize (lg_sl ([.ref mo, .int (iI q)]) ++ List.replicate (2 - (lg_sl ([.ref mo, .int (iI q)])).length) Slot.unset).toArray = ls at hl ⊢
  have hl : lv_has ls 2 [(0, .ref mo), (1, .int (iI q))] := hl
  refine lv_iload_n hx hb dX5_digit_0 rfl (lv_at hl 1 rfl) ?_
  refine lv_aload_n hx hb dX5_digit_1 rfl (lv_at hl 0 rfl) ?_
  refine va_get (D := D) (ci := 5) (v := .int (iI tl)) (C := RX5) (T := TX5) (N := 11) hx hb hts hinX5 hown hK hP 0 rfl rfl 8 (by decide) hf82 (fun _ h9 => h9) rfl dX5_digit_2 ?_
  refine iv_icmp_ge (a := q) (b := tl) (tgt := 36) hx hb (by omega) (by omega) dX5_digit_5 (by decide) (fun c5 => ?_) (fun c5 => ?_)
  · refine lv_iconst (v := iI (-1)) hx hb dX5_digit_36 (by decide +kernel) ?_
    exact W.iret hx hb hr (fun t ht hW => ⟨congrArg (fun z => Outcome.returned (some (Value.int (iI z)))) (show -1 = digit T tl q by unfold digit; first | rw [if_pos (by omega)] | rw [if_neg (by omega)]), ht⟩) (fun q h => by cases h) dX5_digit_37
  · have hq1 := hrt q (by omega) (by omega)
    refine lv_aload_n hx hb dX5_digit_8 rfl (lv_at hl 0 rfl) ?_
    refine va_get (D := D) (ci := 5) (v := .ref a6) (C := RX5) (T := TX5) (N := 11) hx hb hts hinX5 hown hK hP 0 rfl rfl 7 (by decide) hf25 (fun _ h9 => h9) rfl dX5_digit_9 ?_
    refine lv_iload_n hx hb dX5_digit_12 rfl (lv_at hl 1 rfl) ?_
    refine iv_ald hx hb hK hP 1 0 rfl rfl (z := q) (by omega) (by omega) (by omega) dX5_digit_13 ?_
    refine lv_bipush (v := iI 48) hx hb dX5_digit_14 (by decide +kernel) ?_
    refine lv_bipush (v := iI 57) hx hb dX5_digit_16 (by decide +kernel) ?_
    refine iv_roS (As := [.int (iI (T q)), .int (iI 48), .int (iI 57)]) (rest := []) (n := 3) ⟨hx, hb, hml, hown, hts⟩ (c_X5_within l D yI yC yD (T q) 48 57 (by omega) (by omega) (by omega)) (va_cwS 3 hts gX5_digit_X5_within rfl rfl rfl (by decide +kernel) ⟨Nat.le_of_ble_eq_true rfl, Nat.le_of_ble_eq_true rfl⟩) hK hP [] rfl rfl hl.1 rfl (Nat.le_of_ble_eq_true rfl) dX5_digit_18 ⟨Nat.zero_le _, Nat.zero_le _⟩ ?_
    refine iv_ifb_eq (P := 48 ≤ (T q) ∧ (T q) ≤ 57) (tgt := 36) hx hb dX5_digit_21 (by decide) (fun c21 => ?_) (fun c21 => ?_)
    · refine lv_iconst (v := iI (-1)) hx hb dX5_digit_36 (by decide +kernel) ?_
      exact W.iret hx hb hr (fun t ht hW => ⟨congrArg (fun z => Outcome.returned (some (Value.int (iI z)))) (show -1 = digit T tl q by unfold digit; first | rw [if_pos (by omega)] | rw [if_neg (by omega)]), ht⟩) (fun q h => by cases h) dX5_digit_37
    · refine lv_aload_n hx hb dX5_digit_24 rfl (lv_at hl 0 rfl) ?_
      refine va_get (D := D) (ci := 5) (v := .ref a6) (C := RX5) (T := TX5) (N := 11) hx hb hts hinX5 hown hK hP 0 rfl rfl 7 (by decide) hf25 (fun _ h9 => h9) rfl dX5_digit_25 ?_
      refine lv_iload_n hx hb dX5_digit_28 rfl (lv_at hl 1 rfl) ?_
      refine iv_ald hx hb hK hP 1 0 rfl rfl (z := q) (by omega) (by omega) (by omega) dX5_digit_29 ?_
      refine lv_bipush (v := iI 48) hx hb dX5_digit_30 (by decide +kernel) ?_
      refine iv_sub hx hb dX5_digit_32 ?_
      refine lv_goto (tgt := 37) hx hb dX5_digit_33 (by decide) ?_
      exact W.iret hx hb hr (fun t ht hW => ⟨congrArg (fun z => Outcome.returned (some (Value.int (iI z)))) (show T q - 48 = digit T tl q by unfold digit; first | rw [if_pos (by omega)] | rw [if_neg (by omega)]), ht⟩) (fun q h => by cases h) dX5_digit_37
set_option maxHeartbeats 4000000 in
set_option maxRecDepth 100000 in
theorem c_X5_number (l : Launch) (D : va_G) (yI yC yD : ClassId) (mo : Nat) (th : Int) (re : Int) (tl : Int) (a1 : Nat) (a2 : Nat) (a3 : Nat) (a4 : Nat) (a5 : Nat) (a6 : Nat) (a7 : Nat) (a8 : Nat) (T : Int → Int) (q : Int) (htl : 0 ≤ tl ∧ tl ≤ 100) (hrt : ∀ z, 0 ≤ z → z < tl → 0 ≤ T z ∧ T z ≤ 255) (hq0 : 0 ≤ q ∧ q < 990) : Met l yX5_number wsX5_number ({ frames := 2, cells := 0, slots := 0, locals := 43 }) (roP [.ref mo, .int (iI q)] D (tyz yI yC yD) [(mo, oMo th a1 a2 a3 re a4 a5 a6 tl a7 a8), (a6, aI yI 100 T)]) (QcRead (iI (numb T tl q))) 0 0 (fun _ => False) := by
  refine Met.ofW (cc := cX5_number) (maxL := 2) (ret := (some .int)) (by decide) rfl ?_
  intro p e s m args below meth c s₁ B hml hv
  obtain ⟨rfl, hP, hK⟩ := hv
  have hx := B.exec
  have hb := B.bytes
  have hr := B.returns
  have hts := atoms_spec (ws := wsX5_number) B.pre
  have hown : s.vm.findClass RX5 = some m.cls := findClass_of_methodNamed B.named
  have hlocks := B.notSynchronized
  have hP : va_P D vwCl [(mo, oMo th a1 a2 a3 re a4 a5 a6 tl a7 a8), (a6, aI yI 100 T)] s.heap := hP
  have hl := lv_entry ([.ref mo, .int (iI q)]) (n := 2) (Nat.le_of_ble_eq_true rfl)
  rw [lg_entry_eq]
  generalize (lg_sl ([.ref mo, .int (iI q)]) ++ List.replicate (2 - (lg_sl ([.ref mo, .int (iI q)])).length) Slot.unset).toArray = ls at hl ⊢
  have hl : lv_has ls 2 [(0, .ref mo), (1, .int (iI q))] := hl
  refine lv_bipush (v := iI 10) hx hb dX5_number_0 (by decide +kernel) ?_
  refine lv_aload_n hx hb dX5_number_2 rfl (lv_at hl 0 rfl) ?_
  refine lv_iload_n hx hb dX5_number_3 rfl (lv_at hl 1 rfl) ?_
  refine iv_roV (As := [.int (iI q)]) (rest := [.int (iI 10)]) (C := RX5) (n := 1) ⟨hx, hb, hml, hown, hts⟩ (c_X5_digit l D yI yC yD mo th re tl a1 a2 a3 a4 a5 a6 a7 a8 T q (by assumption) (by assumption) (by omega)) (cwV 1 hts gX5_number_X5_digit rfl rfl rfl (by decide +kernel) ⟨Nat.le_of_ble_eq_true rfl, Nat.le_of_ble_eq_true rfl⟩) hK hP [0, 1] rfl 0 rfl rfl rfl hl.1 rfl (Nat.le_of_ble_eq_true rfl) dX5_number_4 ⟨Nat.zero_le _, Nat.zero_le _⟩ ?_
  refine iv_mul hx hb dX5_number_7 ?_
  refine lv_aload_n hx hb dX5_number_8 rfl (lv_at hl 0 rfl) ?_
  refine lv_iload_n hx hb dX5_number_9 rfl (lv_at hl 1 rfl) ?_
  refine lv_iconst (v := iI 1) hx hb dX5_number_10 (by decide +kernel) ?_
  refine iv_add hx hb dX5_number_11 ?_
  refine iv_roV (As := [.int (iI (q + 1))]) (rest := [.int (iI (10 * (digit T tl q)))]) (C := RX5) (n := 1) ⟨hx, hb, hml, hown, hts⟩ (c_X5_digit l D yI yC yD mo th re tl a1 a2 a3 a4 a5 a6 a7 a8 T (q + 1) (by assumption) (by assumption) (by omega)) (cwV 1 hts gX5_number_X5_digit rfl rfl rfl (by decide +kernel) ⟨Nat.le_of_ble_eq_true rfl, Nat.le_of_ble_eq_true rfl⟩) hK hP [0, 1] rfl 0 rfl rfl rfl hl.1 rfl (Nat.le_of_ble_eq_true rfl) dX5_number_12 ⟨Nat.zero_le _, Nat.zero_le _⟩ ?_
  refine iv_add hx hb dX5_number_15 ?_
  exact W.iret hx hb hr (fun t ht hW => ⟨congrArg (fun z => Outcome.returned (some (Value.int (iI z)))) (show 10 * (digit T tl q) + (digit T tl (q + 1)) = numb T tl q by rfl), ht⟩) (fun q h => by cases h) dX5_number_16
set_option maxHeartbeats 4000000 in
set_option maxRecDepth 100000 in
theorem c_X5_wrongIn (l : Launch) (D : va_G) (yI yC yD : ClassId) (mo : Nat) (th : Int) (re : Int) (tl : Int) (a1 : Nat) (a2 : Nat) (a3 : Nat) (a4 : Nat) (a5 : Nat) (a6 : Nat) (a7 : Nat) (a8 : Nat) (T : Int → Int) (q : Int) (lo : Int) (hi : Int) (htl : 0 ≤ tl ∧ tl ≤ 100) (hrt : ∀ z, 0 ≤ z → z < tl → 0 ≤ T z ∧ T z ≤ 255) (hq0 : 0 ≤ q ∧ q < 980) (hlh : -1000 ≤ lo ∧ lo ≤ 1000 ∧ -1000 ≤ hi ∧ hi ≤ 1000) : Met l yX5_wrongIn wsX5_wrongIn ({ frames := 3, cells := 0, slots := 0, locals := 64 }) (roP [.ref mo, .int (iI q), .int (iI lo), .int (iI hi)] D (tyz yI yC yD) [(mo, oMo th a1 a2 a3 re a4 a5 a6 tl a7 a8), (a6, aI yI 100 T)]) (QcRead (iI (wrongIn T tl q lo hi))) 0 0 (fun _ => False) := by
  refine Met.ofW (cc := cX5_wrongIn) (maxL := 5) (ret := (some .int)) (by decide) rfl ?_
  intro p e s m args below meth c s₁ B hml hv
  obtain ⟨rfl, hP, hK⟩ := hv
  have hx := B.exec
  have hb := B.bytes
  have hr := B.returns
  have hts := atoms_spec (ws := wsX5_wrongIn) B.pre
  have hown : s.vm.findClass RX5 = some m.cls := findClass_of_methodNamed B.named
  have hlocks := B.notSynchronized
  have hP : va_P D vwCl [(mo, oMo th a1 a2 a3 re a4 a5 a6 tl a7 a8), (a6, aI yI 100 T)] s.heap := hP
  have hl := lv_entry ([.ref mo, .int (iI q), .int (iI lo), .int (iI hi)]) (n := 5) (Nat.le_of_ble_eq_true rfl)
  rw [lg_entry_eq]
  generalize (lg_sl ([.ref mo, .int (iI q), .int (iI lo), .int (iI hi)]) ++ List.replicate (5 - (lg_sl ([.ref mo, .int (iI q), .int (iI lo), .int (iI hi)])).length) Slot.unset).toArray = ls at hl ⊢
  have hl : lv_has ls 5 [(0, .ref mo), (1, .int (iI q)), (2, .int (iI lo)), (3, .int (iI hi))] := hl
  have hd1 := digit_r (T := T) (n := tl) (p := q)
  have hd2 := digit_r (T := T) (n := tl) (p := q + 1)
  have hd3 := numb_r (T := T) (n := tl) (p := q)
  refine lv_aload_n hx hb dX5_wrongIn_0 rfl (lv_at hl 0 rfl) ?_
  refine lv_iload_n hx hb dX5_wrongIn_1 rfl (lv_at hl 1 rfl) ?_
  refine iv_roV (As := [.int (iI q)]) (rest := []) (C := RX5) (n := 1) ⟨hx, hb, hml, hown, hts⟩ (c_X5_digit l D yI yC yD mo th re tl a1 a2 a3 a4 a5 a6 a7 a8 T q (by assumption) (by assumption) (by omega)) (cwV 1 hts gX5_wrongIn_X5_digit rfl rfl rfl (by decide +kernel) ⟨Nat.le_of_ble_eq_true rfl, Nat.le_of_ble_eq_true rfl⟩) hK hP [0, 1] rfl 0 rfl rfl rfl hl.1 rfl (Nat.le_of_ble_eq_true rfl) dX5_wrongIn_2 ⟨Nat.zero_le _, Nat.zero_le _⟩ ?_
  refine lv_istore (lv' := [(4, .int (iI (digit T tl q))), (0, .ref mo), (1, .int (iI q)), (2, .int (iI lo)), (3, .int (iI hi))]) hx hb dX5_wrongIn_5 hl (by decide) rfl (fun ls hl => ?_)
  refine lv_iload hx hb dX5_wrongIn_7 (lv_at hl 0 rfl) ?_
  refine iv_if_lt (a := digit T tl q) (tgt := 33) hx hb (by omega) dX5_wrongIn_9 (by decide) (fun c9 => ?_) (fun c9 => ?_)
  · refine lv_iload_n hx hb dX5_wrongIn_33 rfl (lv_at hl 2 rfl) ?_
    exact W.iret hx hb hr (fun t ht hW => ⟨congrArg (fun z => Outcome.returned (some (Value.int (iI z)))) (show q = wrongIn T tl q lo hi by unfold wrongIn; (repeat (first | rw [if_pos (by omega)] | rw [if_neg (by omega)]))), ht⟩) (fun q h => by cases h) dX5_wrongIn_34
  · refine lv_bipush (v := iI 10) hx hb dX5_wrongIn_12 (by decide +kernel) ?_
    refine lv_iload hx hb dX5_wrongIn_14 (lv_at hl 0 rfl) ?_
    refine iv_mul hx hb dX5_wrongIn_16 ?_
    refine lv_iload_n hx hb dX5_wrongIn_17 rfl (lv_at hl 4 rfl) ?_
    refine iv_icmp_gt (a := 10 * (digit T tl q)) (b := hi) (tgt := 33) hx hb (by omega) (by omega) dX5_wrongIn_18 (by decide) (fun c18 => ?_) (fun c18 => ?_)
    · refine lv_iload_n hx hb dX5_wrongIn_33 rfl (lv_at hl 2 rfl) ?_
      exact W.iret hx hb hr (fun t ht hW => ⟨congrArg (fun z => Outcome.returned (some (Value.int (iI z)))) (show q = wrongIn T tl q lo hi by unfold wrongIn; (repeat (first | rw [if_pos (by omega)] | rw [if_neg (by omega)]))), ht⟩) (fun q h => by cases h) dX5_wrongIn_34
    · refine lv_bipush (v := iI 10) hx hb dX5_wrongIn_21 (by decide +kernel) ?_
      refine lv_iload hx hb dX5_wrongIn_23 (lv_at hl 0 rfl) ?_
      refine iv_mul hx hb dX5_wrongIn_25 ?_
      refine lv_bipush (v := iI 9) hx hb dX5_wrongIn_26 (by decide +kernel) ?_
      refine iv_add hx hb dX5_wrongIn_28 ?_
      refine lv_iload_n hx hb dX5_wrongIn_29 rfl (lv_at hl 3 rfl) ?_
      refine iv_icmp_ge (a := 10 * (digit T tl q) + 9) (b := lo) (tgt := 35) hx hb (by omega) (by omega) dX5_wrongIn_30 (by decide) (fun c30 => ?_) (fun c30 => ?_)
      · refine lv_aload_n hx hb dX5_wrongIn_35 rfl (lv_at hl 1 rfl) ?_
        refine lv_iload_n hx hb dX5_wrongIn_36 rfl (lv_at hl 2 rfl) ?_
        refine lv_iconst (v := iI 1) hx hb dX5_wrongIn_37 (by decide +kernel) ?_
        refine iv_add hx hb dX5_wrongIn_38 ?_
        refine iv_roV (As := [.int (iI (q + 1))]) (rest := []) (C := RX5) (n := 1) ⟨hx, hb, hml, hown, hts⟩ (c_X5_digit l D yI yC yD mo th re tl a1 a2 a3 a4 a5 a6 a7 a8 T (q + 1) (by assumption) (by assumption) (by omega)) (cwV 1 hts gX5_wrongIn_X5_digit rfl rfl rfl (by decide +kernel) ⟨Nat.le_of_ble_eq_true rfl, Nat.le_of_ble_eq_true rfl⟩) hK hP [0, 1] rfl 0 rfl rfl rfl hl.1 rfl (Nat.le_of_ble_eq_true rfl) dX5_wrongIn_39 ⟨Nat.zero_le _, Nat.zero_le _⟩ ?_
        refine iv_if_lt (a := digit T tl (q + 1)) (tgt := 62) hx hb (by omega) dX5_wrongIn_42 (by decide) (fun c42 => ?_) (fun c42 => ?_)
        · refine lv_iload_n hx hb dX5_wrongIn_62 rfl (lv_at hl 2 rfl) ?_
          refine lv_iconst (v := iI 1) hx hb dX5_wrongIn_63 (by decide +kernel) ?_
          refine iv_add hx hb dX5_wrongIn_64 ?_
          exact W.iret hx hb hr (fun t ht hW => ⟨congrArg (fun z => Outcome.returned (some (Value.int (iI z)))) (show q + 1 = wrongIn T tl q lo hi by unfold wrongIn; (repeat (first | rw [if_pos (by omega)] | rw [if_neg (by omega)]))), ht⟩) (fun q h => by cases h) dX5_wrongIn_65
        · refine lv_aload_n hx hb dX5_wrongIn_45 rfl (lv_at hl 1 rfl) ?_
          refine lv_iload_n hx hb dX5_wrongIn_46 rfl (lv_at hl 2 rfl) ?_
          refine iv_roV (As := [.int (iI q)]) (rest := []) (C := RX5) (n := 1) ⟨hx, hb, hml, hown, hts⟩ (c_X5_number l D yI yC yD mo th re tl a1 a2 a3 a4 a5 a6 a7 a8 T q (by assumption) (by assumption) (by omega)) (cwV 1 hts gX5_wrongIn_X5_number rfl rfl rfl (by decide +kernel) ⟨Nat.le_of_ble_eq_true rfl, Nat.le_of_ble_eq_true rfl⟩) hK hP [0, 1] rfl 0 rfl rfl rfl hl.1 rfl (Nat.le_of_ble_eq_true rfl) dX5_wrongIn_47 ⟨Nat.zero_le _, Nat.zero_le _⟩ ?_
          refine lv_iload_n hx hb dX5_wrongIn_50 rfl (lv_at hl 3 rfl) ?_
          refine lv_iload_n hx hb dX5_wrongIn_51 rfl (lv_at hl 4 rfl) ?_
          refine iv_roS (As := [.int (iI (numb T tl q)), .int (iI lo), .int (iI hi)]) (rest := []) (n := 3) ⟨hx, hb, hml, hown, hts⟩ (c_X5_within l D yI yC yD (numb T tl q) lo hi (by omega) (by omega) (by omega)) (va_cwS 3 hts gX5_wrongIn_X5_within rfl rfl rfl (by decide +kernel) ⟨Nat.le_of_ble_eq_true rfl, Nat.le_of_ble_eq_true rfl⟩) hK hP [] rfl rfl hl.1 rfl (Nat.le_of_ble_eq_true rfl) dX5_wrongIn_52 ⟨Nat.zero_le _, Nat.zero_le _⟩ ?_
          refine iv_ifb_eq (P := lo ≤ (numb T tl q) ∧ (numb T tl q) ≤ hi) (tgt := 62) hx hb dX5_wrongIn_55 (by decide) (fun c55 => ?_) (fun c55 => ?_)
          · refine lv_iload_n hx hb dX5_wrongIn_62 rfl (lv_at hl 2 rfl) ?_
            refine lv_iconst (v := iI 1) hx hb dX5_wrongIn_63 (by decide +kernel) ?_
            refine iv_add hx hb dX5_wrongIn_64 ?_
            exact W.iret hx hb hr (fun t ht hW => ⟨congrArg (fun z => Outcome.returned (some (Value.int (iI z)))) (show q + 1 = wrongIn T tl q lo hi by unfold wrongIn; (repeat (first | rw [if_pos (by omega)] | rw [if_neg (by omega)]))), ht⟩) (fun q h => by cases h) dX5_wrongIn_65
          · refine lv_iconst (v := iI (-1)) hx hb dX5_wrongIn_58 (by decide +kernel) ?_
            refine lv_goto (tgt := 65) hx hb dX5_wrongIn_59 (by decide) ?_
            exact W.iret hx hb hr (fun t ht hW => ⟨congrArg (fun z => Outcome.returned (some (Value.int (iI z)))) (show -1 = wrongIn T tl q lo hi by unfold wrongIn; (repeat (first | rw [if_pos (by omega)] | rw [if_neg (by omega)]))), ht⟩) (fun q h => by cases h) dX5_wrongIn_65
      · refine lv_iload_n hx hb dX5_wrongIn_33 rfl (lv_at hl 2 rfl) ?_
        exact W.iret hx hb hr (fun t ht hW => ⟨congrArg (fun z => Outcome.returned (some (Value.int (iI z)))) (show q = wrongIn T tl q lo hi by unfold wrongIn; (repeat (first | rw [if_pos (by omega)] | rw [if_neg (by omega)]))), ht⟩) (fun q h => by cases h) dX5_wrongIn_34
set_option maxHeartbeats 4000000 in
set_option maxRecDepth 100000 in
theorem c_X5_wrongCommand (l : Launch) (D : va_G) (yI yC yD : ClassId) (mo : Nat) (th : Int) (re : Int) (tl : Int) (a1 : Nat) (a2 : Nat) (a3 : Nat) (a4 : Nat) (a5 : Nat) (a6 : Nat) (a7 : Nat) (a8 : Nat) (T : Int → Int) (q : Int) (pl : Int) (htl : 0 ≤ tl ∧ tl ≤ 100) (hrt : ∀ z, 0 ≤ z → z < tl → 0 ≤ T z ∧ T z ≤ 255) (hq0 : 0 ≤ q ∧ q < tl) (hpp : -20 ≤ pl ∧ pl ≤ 100) : Met l yX5_wrongCommand wsX5_wrongCommand ({ frames := 4, cells := 0, slots := 0, locals := 88 }) (roP [.ref mo, .int (iI q), .int (iI pl)] D (tyz yI yC yD) [(mo, oMo th a1 a2 a3 re a4 a5 a6 tl a7 a8), (a6, aI yI 100 T)]) (QcRead (iI (wrongC T tl q pl))) 0 0 (fun _ => False) := by
  refine Met.ofW (cc := cX5_wrongCommand) (maxL := 5) (ret := (some .int)) (by decide) rfl ?_
  intro p e s m args below meth c s₁ B hml hv
  obtain ⟨rfl, hP, hK⟩ := hv
  have hx := B.exec
  have hb := B.bytes
  have hr := B.returns
  have hts := atoms_spec (ws := wsX5_wrongCommand) B.pre
  have hown : s.vm.findClass RX5 = some m.cls := findClass_of_methodNamed B.named
  have hlocks := B.notSynchronized
  have hP : va_P D vwCl [(mo, oMo th a1 a2 a3 re a4 a5 a6 tl a7 a8), (a6, aI yI 100 T)] s.heap := hP
  have hinX5 : ∀ w ∈ wsX50, w ∈ wsX5_wrongCommand := by decide +kernel
  have hf25 : (Cond.fieldLink RX5 25 "RiddleDriveModel" "text" "[I").before _ s = true := hts _ (by decide +kernel)
  have hl := lv_entry ([.ref mo, .int (iI q), .int (iI pl)]) (n := 5) (Nat.le_of_ble_eq_true rfl)
  rw [lg_entry_eq]
  generalize (lg_sl ([.ref mo, .int (iI q), .int (iI pl)]) ++ List.replicate (5 - (lg_sl ([.ref mo, .int (iI q), .int (iI pl)])).length) Slot.unset).toArray = ls at hl ⊢
  have hl : lv_has ls 5 [(0, .ref mo), (1, .int (iI q)), (2, .int (iI pl))] := hl
  have hd1 := digit_r (T := T) (n := tl) (p := q + 1)
  have hd3 := numb_r (T := T) (n := tl) (p := q + 1)
  have hw1 := wrongIn_r (T := T) (n := tl) (p := q + 1) (lo := 0) (hi := pl - 1) (by omega)
  have hc0 := hrt q (by omega) (by omega)
  refine lv_aload_n hx hb dX5_wrongCommand_0 rfl (lv_at hl 0 rfl) ?_
  refine va_get (D := D) (ci := 5) (v := .ref a6) (C := RX5) (T := TX5) (N := 11) hx hb hts hinX5 hown hK hP 0 rfl rfl 7 (by decide) hf25 (fun _ h9 => h9) rfl dX5_wrongCommand_1 ?_
  refine lv_iload_n hx hb dX5_wrongCommand_4 rfl (lv_at hl 1 rfl) ?_
  refine iv_ald hx hb hK hP 1 0 rfl rfl (z := q) (by omega) (by omega) (by omega) dX5_wrongCommand_5 ?_
  refine lv_istore_n (lv' := [(3, .int (iI (T q))), (0, .ref mo), (1, .int (iI q)), (2, .int (iI pl))]) hx hb dX5_wrongCommand_6 rfl hl (by decide) rfl (fun ls hl => ?_)
  refine lv_iload_n hx hb dX5_wrongCommand_7 rfl (lv_at hl 0 rfl) ?_
  refine lv_bipush (v := iI 107) hx hb dX5_wrongCommand_8 (by decide +kernel) ?_
  refine iv_icmp_ne (a := T q) (b := 107) (tgt := 25) hx hb (by omega) (by omega) dX5_wrongCommand_10 (by decide) (fun c10 => ?_) (fun c10 => ?_)
  · refine lv_iload_n hx hb dX5_wrongCommand_25 rfl (lv_at hl 0 rfl) ?_
    refine lv_bipush (v := iI 113) hx hb dX5_wrongCommand_26 (by decide +kernel) ?_
    refine iv_icmp_ne (a := T q) (b := 113) (tgt := 73) hx hb (by omega) (by omega) dX5_wrongCommand_28 (by decide) (fun c28 => ?_) (fun c28 => ?_)
    · refine lv_iload_n hx hb dX5_wrongCommand_73 rfl (lv_at hl 0 rfl) ?_
      refine lv_bipush (v := iI 119) hx hb dX5_wrongCommand_74 (by decide +kernel) ?_
      refine iv_icmp_ne (a := T q) (b := 119) (tgt := 103) hx hb (by omega) (by omega) dX5_wrongCommand_76 (by decide) (fun c76 => ?_) (fun c76 => ?_)
      · refine lv_iload_n hx hb dX5_wrongCommand_103 rfl (lv_at hl 0 rfl) ?_
        refine lv_bipush (v := iI 115) hx hb dX5_wrongCommand_104 (by decide +kernel) ?_
        refine iv_icmp_ne (a := T q) (b := 115) (tgt := 132) hx hb (by omega) (by omega) dX5_wrongCommand_106 (by decide) (fun c106 => ?_) (fun c106 => ?_)
        · refine lv_iload_n hx hb dX5_wrongCommand_132 rfl (lv_at hl 0 rfl) ?_
          refine lv_bipush (v := iI 102) hx hb dX5_wrongCommand_133 (by decide +kernel) ?_
          refine iv_icmp_eq (a := T q) (b := 102) (tgt := 142) hx hb (by omega) (by omega) dX5_wrongCommand_135 (by decide) (fun c135 => ?_) (fun c135 => ?_)
          · refine lv_aload_n hx hb dX5_wrongCommand_142 rfl (lv_at hl 1 rfl) ?_
            refine lv_iload_n hx hb dX5_wrongCommand_143 rfl (lv_at hl 2 rfl) ?_
            refine lv_iconst (v := iI 1) hx hb dX5_wrongCommand_144 (by decide +kernel) ?_
            refine iv_add hx hb dX5_wrongCommand_145 ?_
            refine iv_roV (As := [.int (iI (q + 1))]) (rest := []) (C := RX5) (n := 1) ⟨hx, hb, hml, hown, hts⟩ (c_X5_digit l D yI yC yD mo th re tl a1 a2 a3 a4 a5 a6 a7 a8 T (q + 1) (by assumption) (by assumption) (by omega)) (cwV 1 hts gX5_wrongCommand_X5_digit rfl rfl rfl (by decide +kernel) ⟨Nat.le_of_ble_eq_true rfl, Nat.le_of_ble_eq_true rfl⟩) hK hP [0, 1] rfl 0 rfl rfl rfl hl.1 rfl (Nat.le_of_ble_eq_true rfl) dX5_wrongCommand_146 ⟨Nat.zero_le _, Nat.zero_le _⟩ ?_
            refine iv_if_lt (a := digit T tl (q + 1)) (tgt := 156) hx hb (by omega) dX5_wrongCommand_149 (by decide) (fun c149 => ?_) (fun c149 => ?_)
            · refine lv_iload_n hx hb dX5_wrongCommand_156 rfl (lv_at hl 2 rfl) ?_
              refine lv_iconst (v := iI 1) hx hb dX5_wrongCommand_157 (by decide +kernel) ?_
              refine iv_add hx hb dX5_wrongCommand_158 ?_
              exact W.iret hx hb hr (fun t ht hW => ⟨congrArg (fun z => Outcome.returned (some (Value.int (iI z)))) (show q + 1 = wrongC T tl q pl by unfold wrongC; (repeat (first | rw [if_pos (by omega)] | rw [if_neg (by omega)]))), ht⟩) (fun q h => by cases h) dX5_wrongCommand_159
            · refine lv_iconst (v := iI (-1)) hx hb dX5_wrongCommand_152 (by decide +kernel) ?_
              refine lv_goto (tgt := 159) hx hb dX5_wrongCommand_153 (by decide) ?_
              exact W.iret hx hb hr (fun t ht hW => ⟨congrArg (fun z => Outcome.returned (some (Value.int (iI z)))) (show -1 = wrongC T tl q pl by unfold wrongC; (repeat (first | rw [if_pos (by omega)] | rw [if_neg (by omega)]))), ht⟩) (fun q h => by cases h) dX5_wrongCommand_159
          · refine lv_iload_n hx hb dX5_wrongCommand_138 rfl (lv_at hl 2 rfl) ?_
            refine lv_goto (tgt := 159) hx hb dX5_wrongCommand_139 (by decide) ?_
            exact W.iret hx hb hr (fun t ht hW => ⟨congrArg (fun z => Outcome.returned (some (Value.int (iI z)))) (show q = wrongC T tl q pl by unfold wrongC; (repeat (first | rw [if_pos (by omega)] | rw [if_neg (by omega)]))), ht⟩) (fun q h => by cases h) dX5_wrongCommand_159
        · refine lv_aload_n hx hb dX5_wrongCommand_109 rfl (lv_at hl 1 rfl) ?_
          refine lv_iload_n hx hb dX5_wrongCommand_110 rfl (lv_at hl 2 rfl) ?_
          refine lv_iconst (v := iI 1) hx hb dX5_wrongCommand_111 (by decide +kernel) ?_
          refine iv_add hx hb dX5_wrongCommand_112 ?_
          refine iv_roV (As := [.int (iI (q + 1))]) (rest := []) (C := RX5) (n := 1) ⟨hx, hb, hml, hown, hts⟩ (c_X5_digit l D yI yC yD mo th re tl a1 a2 a3 a4 a5 a6 a7 a8 T (q + 1) (by assumption) (by assumption) (by omega)) (cwV 1 hts gX5_wrongCommand_X5_digit rfl rfl rfl (by decide +kernel) ⟨Nat.le_of_ble_eq_true rfl, Nat.le_of_ble_eq_true rfl⟩) hK hP [0, 1] rfl 0 rfl rfl rfl hl.1 rfl (Nat.le_of_ble_eq_true rfl) dX5_wrongCommand_113 ⟨Nat.zero_le _, Nat.zero_le _⟩ ?_
          refine lv_iconst (v := iI 0) hx hb dX5_wrongCommand_116 (by decide +kernel) ?_
          refine lv_iconst (v := iI 4) hx hb dX5_wrongCommand_117 (by decide +kernel) ?_
          refine iv_roS (As := [.int (iI (digit T tl (q + 1))), .int (iI 0), .int (iI 4)]) (rest := []) (n := 3) ⟨hx, hb, hml, hown, hts⟩ (c_X5_within l D yI yC yD (digit T tl (q + 1)) 0 4 (by omega) (by omega) (by omega)) (va_cwS 3 hts gX5_wrongCommand_X5_within rfl rfl rfl (by decide +kernel) ⟨Nat.le_of_ble_eq_true rfl, Nat.le_of_ble_eq_true rfl⟩) hK hP [] rfl rfl hl.1 rfl (Nat.le_of_ble_eq_true rfl) dX5_wrongCommand_118 ⟨Nat.zero_le _, Nat.zero_le _⟩ ?_
          refine iv_ifb_eq (P := 0 ≤ (digit T tl (q + 1)) ∧ (digit T tl (q + 1)) ≤ 4) (tgt := 128) hx hb dX5_wrongCommand_121 (by decide) (fun c121 => ?_) (fun c121 => ?_)
          · refine lv_iload_n hx hb dX5_wrongCommand_128 rfl (lv_at hl 2 rfl) ?_
            refine lv_iconst (v := iI 1) hx hb dX5_wrongCommand_129 (by decide +kernel) ?_
            refine iv_add hx hb dX5_wrongCommand_130 ?_
            exact W.iret hx hb hr (fun t ht hW => ⟨congrArg (fun z => Outcome.returned (some (Value.int (iI z)))) (show q + 1 = wrongC T tl q pl by unfold wrongC; (repeat (first | rw [if_pos (by omega)] | rw [if_neg (by omega)]))), ht⟩) (fun q h => by cases h) dX5_wrongCommand_131
          · refine lv_iconst (v := iI (-1)) hx hb dX5_wrongCommand_124 (by decide +kernel) ?_
            refine lv_goto (tgt := 131) hx hb dX5_wrongCommand_125 (by decide) ?_
            exact W.iret hx hb hr (fun t ht hW => ⟨congrArg (fun z => Outcome.returned (some (Value.int (iI z)))) (show -1 = wrongC T tl q pl by unfold wrongC; (repeat (first | rw [if_pos (by omega)] | rw [if_neg (by omega)]))), ht⟩) (fun q h => by cases h) dX5_wrongCommand_131
      · refine lv_aload_n hx hb dX5_wrongCommand_79 rfl (lv_at hl 1 rfl) ?_
        refine lv_iload_n hx hb dX5_wrongCommand_80 rfl (lv_at hl 2 rfl) ?_
        refine lv_iconst (v := iI 1) hx hb dX5_wrongCommand_81 (by decide +kernel) ?_
        refine iv_add hx hb dX5_wrongCommand_82 ?_
        refine iv_roV (As := [.int (iI (q + 1))]) (rest := []) (C := RX5) (n := 1) ⟨hx, hb, hml, hown, hts⟩ (c_X5_digit l D yI yC yD mo th re tl a1 a2 a3 a4 a5 a6 a7 a8 T (q + 1) (by assumption) (by assumption) (by omega)) (cwV 1 hts gX5_wrongCommand_X5_digit rfl rfl rfl (by decide +kernel) ⟨Nat.le_of_ble_eq_true rfl, Nat.le_of_ble_eq_true rfl⟩) hK hP [0, 1] rfl 0 rfl rfl rfl hl.1 rfl (Nat.le_of_ble_eq_true rfl) dX5_wrongCommand_83 ⟨Nat.zero_le _, Nat.zero_le _⟩ ?_
        refine lv_iconst (v := iI 1) hx hb dX5_wrongCommand_86 (by decide +kernel) ?_
        refine lv_bipush (v := iI 8) hx hb dX5_wrongCommand_87 (by decide +kernel) ?_
        refine iv_roS (As := [.int (iI (digit T tl (q + 1))), .int (iI 1), .int (iI 8)]) (rest := []) (n := 3) ⟨hx, hb, hml, hown, hts⟩ (c_X5_within l D yI yC yD (digit T tl (q + 1)) 1 8 (by omega) (by omega) (by omega)) (va_cwS 3 hts gX5_wrongCommand_X5_within rfl rfl rfl (by decide +kernel) ⟨Nat.le_of_ble_eq_true rfl, Nat.le_of_ble_eq_true rfl⟩) hK hP [] rfl rfl hl.1 rfl (Nat.le_of_ble_eq_true rfl) dX5_wrongCommand_89 ⟨Nat.zero_le _, Nat.zero_le _⟩ ?_
        refine iv_ifb_eq (P := 1 ≤ (digit T tl (q + 1)) ∧ (digit T tl (q + 1)) ≤ 8) (tgt := 99) hx hb dX5_wrongCommand_92 (by decide) (fun c92 => ?_) (fun c92 => ?_)
        · refine lv_iload_n hx hb dX5_wrongCommand_99 rfl (lv_at hl 2 rfl) ?_
          refine lv_iconst (v := iI 1) hx hb dX5_wrongCommand_100 (by decide +kernel) ?_
          refine iv_add hx hb dX5_wrongCommand_101 ?_
          exact W.iret hx hb hr (fun t ht hW => ⟨congrArg (fun z => Outcome.returned (some (Value.int (iI z)))) (show q + 1 = wrongC T tl q pl by unfold wrongC; (repeat (first | rw [if_pos (by omega)] | rw [if_neg (by omega)]))), ht⟩) (fun q h => by cases h) dX5_wrongCommand_102
        · refine lv_iconst (v := iI (-1)) hx hb dX5_wrongCommand_95 (by decide +kernel) ?_
          refine lv_goto (tgt := 102) hx hb dX5_wrongCommand_96 (by decide) ?_
          exact W.iret hx hb hr (fun t ht hW => ⟨congrArg (fun z => Outcome.returned (some (Value.int (iI z)))) (show -1 = wrongC T tl q pl by unfold wrongC; (repeat (first | rw [if_pos (by omega)] | rw [if_neg (by omega)]))), ht⟩) (fun q h => by cases h) dX5_wrongCommand_102
    · refine lv_aload_n hx hb dX5_wrongCommand_31 rfl (lv_at hl 1 rfl) ?_
      refine lv_iload_n hx hb dX5_wrongCommand_32 rfl (lv_at hl 2 rfl) ?_
      refine lv_iconst (v := iI 1) hx hb dX5_wrongCommand_33 (by decide +kernel) ?_
      refine iv_add hx hb dX5_wrongCommand_34 ?_
      refine lv_iconst (v := iI 0) hx hb dX5_wrongCommand_35 (by decide +kernel) ?_
      refine lv_iload_n hx hb dX5_wrongCommand_36 rfl (lv_at hl 3 rfl) ?_
      refine lv_iconst (v := iI 1) hx hb dX5_wrongCommand_37 (by decide +kernel) ?_
      refine iv_sub hx hb dX5_wrongCommand_38 ?_
      refine iv_roV (As := [.int (iI (q + 1)), .int (iI 0), .int (iI (pl - 1))]) (rest := []) (C := RX5) (n := 3) ⟨hx, hb, hml, hown, hts⟩ (c_X5_wrongIn l D yI yC yD mo th re tl a1 a2 a3 a4 a5 a6 a7 a8 T (q + 1) 0 (pl - 1) (by assumption) (by assumption) (by omega) (by omega)) (cwV 3 hts gX5_wrongCommand_X5_wrongIn rfl rfl rfl (by decide +kernel) ⟨Nat.le_of_ble_eq_true rfl, Nat.le_of_ble_eq_true rfl⟩) hK hP [0, 1] rfl 0 rfl rfl rfl hl.1 rfl (Nat.le_of_ble_eq_true rfl) dX5_wrongCommand_39 ⟨Nat.zero_le _, Nat.zero_le _⟩ ?_
      refine lv_istore (lv' := [(4, .int (iI (wrongIn T tl (q + 1) 0 (pl - 1)))), (3, .int (iI (T q))), (0, .ref mo), (1, .int (iI q)), (2, .int (iI pl))]) hx hb dX5_wrongCommand_42 hl (by decide) rfl (fun ls hl => ?_)
      refine lv_iload hx hb dX5_wrongCommand_44 (lv_at hl 0 rfl) ?_
      refine lv_iconst (v := iI (-1)) hx hb dX5_wrongCommand_46 (by decide +kernel) ?_
      refine iv_icmp_eq (a := wrongIn T tl (q + 1) 0 (pl - 1)) (b := -1) (tgt := 55) hx hb (by omega) (by omega) dX5_wrongCommand_47 (by decide) (fun c47 => ?_) (fun c47 => ?_)
      · refine lv_aload_n hx hb dX5_wrongCommand_55 rfl (lv_at hl 2 rfl) ?_
        refine lv_iload_n hx hb dX5_wrongCommand_56 rfl (lv_at hl 3 rfl) ?_
        refine lv_iconst (v := iI 3) hx hb dX5_wrongCommand_57 (by decide +kernel) ?_
        refine iv_add hx hb dX5_wrongCommand_58 ?_
        refine lv_aload_n hx hb dX5_wrongCommand_59 rfl (lv_at hl 2 rfl) ?_
        refine lv_iload_n hx hb dX5_wrongCommand_60 rfl (lv_at hl 3 rfl) ?_
        refine lv_iconst (v := iI 1) hx hb dX5_wrongCommand_61 (by decide +kernel) ?_
        refine iv_add hx hb dX5_wrongCommand_62 ?_
        refine iv_roV (As := [.int (iI (q + 1))]) (rest := [.int (iI (q + 3)), .ref mo]) (C := RX5) (n := 1) ⟨hx, hb, hml, hown, hts⟩ (c_X5_number l D yI yC yD mo th re tl a1 a2 a3 a4 a5 a6 a7 a8 T (q + 1) (by assumption) (by assumption) (by omega)) (cwV 1 hts gX5_wrongCommand_X5_number rfl rfl rfl (by decide +kernel) ⟨Nat.le_of_ble_eq_true rfl, Nat.le_of_ble_eq_true rfl⟩) hK hP [0, 1] rfl 0 rfl rfl rfl hl.1 rfl (Nat.le_of_ble_eq_true rfl) dX5_wrongCommand_63 ⟨Nat.zero_le _, Nat.zero_le _⟩ ?_
        refine lv_iload_n hx hb dX5_wrongCommand_66 rfl (lv_at hl 4 rfl) ?_
        refine lv_iconst (v := iI 1) hx hb dX5_wrongCommand_67 (by decide +kernel) ?_
        refine iv_sub hx hb dX5_wrongCommand_68 ?_
        refine iv_roV (As := [.int (iI (q + 3)), .int (iI (numb T tl (q + 1))), .int (iI (pl - 1))]) (rest := []) (C := RX5) (n := 3) ⟨hx, hb, hml, hown, hts⟩ (c_X5_wrongIn l D yI yC yD mo th re tl a1 a2 a3 a4 a5 a6 a7 a8 T (q + 3) (numb T tl (q + 1)) (pl - 1) (by assumption) (by assumption) (by omega) (by omega)) (cwV 3 hts gX5_wrongCommand_X5_wrongIn rfl rfl rfl (by decide +kernel) ⟨Nat.le_of_ble_eq_true rfl, Nat.le_of_ble_eq_true rfl⟩) hK hP [0, 1] rfl 0 rfl rfl rfl hl.1 rfl (Nat.le_of_ble_eq_true rfl) dX5_wrongCommand_69 ⟨Nat.zero_le _, Nat.zero_le _⟩ ?_
        exact W.iret hx hb hr (fun t ht hW => ⟨congrArg (fun z => Outcome.returned (some (Value.int (iI z)))) (show wrongIn T tl (q + 3) (numb T tl (q + 1)) (pl - 1) = wrongC T tl q pl by unfold wrongC; (repeat (first | rw [if_pos (by omega)] | rw [if_neg (by omega)]))), ht⟩) (fun q h => by cases h) dX5_wrongCommand_72
      · refine lv_iload hx hb dX5_wrongCommand_50 (lv_at hl 0 rfl) ?_
        refine lv_goto (tgt := 72) hx hb dX5_wrongCommand_52 (by decide) ?_
        exact W.iret hx hb hr (fun t ht hW => ⟨congrArg (fun z => Outcome.returned (some (Value.int (iI z)))) (show wrongIn T tl (q + 1) 0 (pl - 1) = wrongC T tl q pl by unfold wrongC; (repeat (first | rw [if_pos (by omega)] | rw [if_neg (by omega)]))), ht⟩) (fun q h => by cases h) dX5_wrongCommand_72
  · refine lv_aload_n hx hb dX5_wrongCommand_13 rfl (lv_at hl 1 rfl) ?_
    refine lv_iload_n hx hb dX5_wrongCommand_14 rfl (lv_at hl 2 rfl) ?_
    refine lv_iconst (v := iI 1) hx hb dX5_wrongCommand_15 (by decide +kernel) ?_
    refine iv_add hx hb dX5_wrongCommand_16 ?_
    refine lv_iconst (v := iI 0) hx hb dX5_wrongCommand_17 (by decide +kernel) ?_
    refine lv_iload_n hx hb dX5_wrongCommand_18 rfl (lv_at hl 3 rfl) ?_
    refine lv_iconst (v := iI 1) hx hb dX5_wrongCommand_19 (by decide +kernel) ?_
    refine iv_sub hx hb dX5_wrongCommand_20 ?_
    refine iv_roV (As := [.int (iI (q + 1)), .int (iI 0), .int (iI (pl - 1))]) (rest := []) (C := RX5) (n := 3) ⟨hx, hb, hml, hown, hts⟩ (c_X5_wrongIn l D yI yC yD mo th re tl a1 a2 a3 a4 a5 a6 a7 a8 T (q + 1) 0 (pl - 1) (by assumption) (by assumption) (by omega) (by omega)) (cwV 3 hts gX5_wrongCommand_X5_wrongIn rfl rfl rfl (by decide +kernel) ⟨Nat.le_of_ble_eq_true rfl, Nat.le_of_ble_eq_true rfl⟩) hK hP [0, 1] rfl 0 rfl rfl rfl hl.1 rfl (Nat.le_of_ble_eq_true rfl) dX5_wrongCommand_21 ⟨Nat.zero_le _, Nat.zero_le _⟩ ?_
    exact W.iret hx hb hr (fun t ht hW => ⟨congrArg (fun z => Outcome.returned (some (Value.int (iI z)))) (show wrongIn T tl (q + 1) 0 (pl - 1) = wrongC T tl q pl by unfold wrongC; (repeat (first | rw [if_pos (by omega)] | rw [if_neg (by omega)]))), ht⟩) (fun q h => by cases h) dX5_wrongCommand_24
set_option maxHeartbeats 4000000 in
set_option maxRecDepth 100000 in
theorem c_X5_lengthAt (l : Launch) (D : va_G) (yI yC yD : ClassId) (mo : Nat) (th : Int) (re : Int) (tl : Int) (a1 : Nat) (a2 : Nat) (a3 : Nat) (a4 : Nat) (a5 : Nat) (a6 : Nat) (a7 : Nat) (a8 : Nat) (T : Int → Int) (q : Int) (htl : 0 ≤ tl ∧ tl ≤ 100) (hrt : ∀ z, 0 ≤ z → z < tl → 0 ≤ T z ∧ T z ≤ 255) (hq0 : 0 ≤ q ∧ q < tl) : Met l yX5_lengthAt wsX5_lengthAt ({ frames := 0, cells := 0, slots := 0, locals := 0 }) (roP [.ref mo, .int (iI q)] D (tyz yI yC yD) [(mo, oMo th a1 a2 a3 re a4 a5 a6 tl a7 a8), (a6, aI yI 100 T)]) (QcRead (iI (lenAt T q))) 0 0 (fun _ => False) := by
  refine Met.ofW (cc := cX5_lengthAt) (maxL := 2) (ret := (some .int)) (by decide) rfl ?_
  intro p e s m args below meth c s₁ B hml hv
  obtain ⟨rfl, hP, hK⟩ := hv
  have hx := B.exec
  have hb := B.bytes
  have hr := B.returns
  have hts := atoms_spec (ws := wsX5_lengthAt) B.pre
  have hown : s.vm.findClass RX5 = some m.cls := findClass_of_methodNamed B.named
  have hlocks := B.notSynchronized
  have hP : va_P D vwCl [(mo, oMo th a1 a2 a3 re a4 a5 a6 tl a7 a8), (a6, aI yI 100 T)] s.heap := hP
  have hinX5 : ∀ w ∈ wsX50, w ∈ wsX5_lengthAt := by decide +kernel
  have hf25 : (Cond.fieldLink RX5 25 "RiddleDriveModel" "text" "[I").before _ s = true := hts _ (by decide +kernel)
  have hl := lv_entry ([.ref mo, .int (iI q)]) (n := 2) (Nat.le_of_ble_eq_true rfl)
  rw [lg_entry_eq]
  generalize (lg_sl ([.ref mo, .int (iI q)]) ++ List.replicate (2 - (lg_sl ([.ref mo, .int (iI q)])).length) Slot.unset).toArray = ls at hl ⊢
  have hl : lv_has ls 2 [(0, .ref mo), (1, .int (iI q))] := hl
  have hc0 := hrt q (by omega) (by omega)
  refine lv_aload_n hx hb dX5_lengthAt_0 rfl (lv_at hl 0 rfl) ?_
  refine va_get (D := D) (ci := 5) (v := .ref a6) (C := RX5) (T := TX5) (N := 11) hx hb hts hinX5 hown hK hP 0 rfl rfl 7 (by decide) hf25 (fun _ h9 => h9) rfl dX5_lengthAt_1 ?_
  refine lv_iload_n hx hb dX5_lengthAt_4 rfl (lv_at hl 1 rfl) ?_
  refine iv_ald hx hb hK hP 1 0 rfl rfl (z := q) (by omega) (by omega) (by omega) dX5_lengthAt_5 ?_
  refine lv_bipush (v := iI 107) hx hb dX5_lengthAt_6 (by decide +kernel) ?_
  refine iv_icmp_ne (a := T q) (b := 107) (tgt := 15) hx hb (by omega) (by omega) dX5_lengthAt_8 (by decide) (fun c8 => ?_) (fun c8 => ?_)
  · refine lv_aload_n hx hb dX5_lengthAt_15 rfl (lv_at hl 0 rfl) ?_
    refine va_get (D := D) (ci := 5) (v := .ref a6) (C := RX5) (T := TX5) (N := 11) hx hb hts hinX5 hown hK hP 0 rfl rfl 7 (by decide) hf25 (fun _ h9 => h9) rfl dX5_lengthAt_16 ?_
    refine lv_iload_n hx hb dX5_lengthAt_19 rfl (lv_at hl 1 rfl) ?_
    refine iv_ald hx hb hK hP 1 0 rfl rfl (z := q) (by omega) (by omega) (by omega) dX5_lengthAt_20 ?_
    refine lv_bipush (v := iI 113) hx hb dX5_lengthAt_21 (by decide +kernel) ?_
    refine iv_icmp_ne (a := T q) (b := 113) (tgt := 30) hx hb (by omega) (by omega) dX5_lengthAt_23 (by decide) (fun c23 => ?_) (fun c23 => ?_)
    · refine lv_iconst (v := iI 2) hx hb dX5_lengthAt_30 (by decide +kernel) ?_
      exact W.iret hx hb hr (fun t ht hW => ⟨congrArg (fun z => Outcome.returned (some (Value.int (iI z)))) (show 2 = lenAt T q by unfold lenAt; (repeat (first | rw [if_pos (by omega)] | rw [if_neg (by omega)]))), ht⟩) (fun q h => by cases h) dX5_lengthAt_31
    · refine lv_iconst (v := iI 5) hx hb dX5_lengthAt_26 (by decide +kernel) ?_
      refine lv_goto (tgt := 31) hx hb dX5_lengthAt_27 (by decide) ?_
      exact W.iret hx hb hr (fun t ht hW => ⟨congrArg (fun z => Outcome.returned (some (Value.int (iI z)))) (show 5 = lenAt T q by unfold lenAt; (repeat (first | rw [if_pos (by omega)] | rw [if_neg (by omega)]))), ht⟩) (fun q h => by cases h) dX5_lengthAt_31
  · refine lv_iconst (v := iI 3) hx hb dX5_lengthAt_11 (by decide +kernel) ?_
    refine lv_goto (tgt := 31) hx hb dX5_lengthAt_12 (by decide) ?_
    exact W.iret hx hb hr (fun t ht hW => ⟨congrArg (fun z => Outcome.returned (some (Value.int (iI z)))) (show 3 = lenAt T q by unfold lenAt; (repeat (first | rw [if_pos (by omega)] | rw [if_neg (by omega)]))), ht⟩) (fun q h => by cases h) dX5_lengthAt_31
set_option maxHeartbeats 4000000 in
set_option maxRecDepth 100000 in
theorem c_X5_findError (l : Launch) (D : va_G) (yI yC yD : ClassId) (mo : Nat) (th : Int) (re : Int) (tl : Int) (a1 : Nat) (a2 : Nat) (a3 : Nat) (a4 : Nat) (a5 : Nat) (a6 : Nat) (a7 : Nat) (a8 : Nat) (T : Int → Int) (htl : 0 ≤ tl ∧ tl ≤ 100) (hrt : ∀ z, 0 ≤ z → z < tl → 0 ≤ T z ∧ T z ≤ 255) : Met l yX5_findError wsX5_findError ({ frames := 5, cells := 0, slots := 0, locals := 112 }) (roP [.ref mo] D (tyz yI yC yD) [(mo, oMo th a1 a2 a3 re a4 a5 a6 tl a7 a8), (a6, aI yI 100 T)]) (QcRead (iI (findE T tl))) 0 0 (fun _ => False) := by
  refine Met.ofW (cc := cX5_findError) (maxL := 3) (ret := (some .int)) (by decide) rfl ?_
  intro p e s m args below meth c s₁ B hml hv
  obtain ⟨rfl, hP, hK⟩ := hv
  have hx := B.exec
  have hb := B.bytes
  have hr := B.returns
  have hts := atoms_spec (ws := wsX5_findError) B.pre
  have hown : s.vm.findClass RX5 = some m.cls := findClass_of_methodNamed B.named
  have hlocks := B.notSynchronized
  have hP : va_P D vwCl [(mo, oMo th a1 a2 a3 re a4 a5 a6 tl a7 a8), (a6, aI yI 100 T)] s.heap := hP
  have hinX5 : ∀ w ∈ wsX50, w ∈ wsX5_findError := by decide +kernel
  have hf25 : (Cond.fieldLink RX5 25 "RiddleDriveModel" "text" "[I").before _ s = true := hts _ (by decide +kernel)
  have hf82 : (Cond.fieldLink RX5 82 "RiddleDriveModel" "textLength" "I").before _ s = true := hts _ (by decide +kernel)
  have hl := lv_entry ([.ref mo]) (n := 3) (Nat.le_of_ble_eq_true rfl)
  rw [lg_entry_eq]
  generalize (lg_sl ([.ref mo]) ++ List.replicate (3 - (lg_sl ([.ref mo])).length) Slot.unset).toArray = ls at hl ⊢
  have hl : lv_has ls 3 [(0, .ref mo)] := hl
  have hd3 := numb_r (T := T) (n := tl) (p := 1)
  refine lv_aload_n hx hb dX5_findError_0 rfl (lv_at hl 0 rfl) ?_
  refine va_get (D := D) (ci := 5) (v := .int (iI tl)) (C := RX5) (T := TX5) (N := 11) hx hb hts hinX5 hown hK hP 0 rfl rfl 8 (by decide) hf82 (fun _ h9 => h9) rfl dX5_findError_1 ?_
  refine iv_if_eq (a := tl) (tgt := 18) hx hb (by omega) dX5_findError_4 (by decide) (fun c4 => ?_) (fun c4 => ?_)
  · refine lv_iconst (v := iI 0) hx hb dX5_findError_18 (by decide +kernel) ?_
    exact W.iret hx hb hr (fun t ht hW => ⟨congrArg (fun z => Outcome.returned (some (Value.int (iI z)))) (show 0 = findE T tl by unfold findE; rw [if_pos (by omega)]), ht⟩) (fun q h => by cases h) dX5_findError_19
  · have hc0 := hrt 0 (by omega) (by omega)
    refine lv_aload_n hx hb dX5_findError_7 rfl (lv_at hl 0 rfl) ?_
    refine va_get (D := D) (ci := 5) (v := .ref a6) (C := RX5) (T := TX5) (N := 11) hx hb hts hinX5 hown hK hP 0 rfl rfl 7 (by decide) hf25 (fun _ h9 => h9) rfl dX5_findError_8 ?_
    refine lv_iconst (v := iI 0) hx hb dX5_findError_11 (by decide +kernel) ?_
    refine iv_ald hx hb hK hP 1 0 rfl rfl (z := 0) (by omega) (by omega) (by omega) dX5_findError_12 ?_
    refine lv_bipush (v := iI 75) hx hb dX5_findError_13 (by decide +kernel) ?_
    refine iv_icmp_eq (a := T 0) (b := 75) (tgt := 20) hx hb (by omega) (by omega) dX5_findError_15 (by decide) (fun c15 => ?_) (fun c15 => ?_)
    · refine lv_aload_n hx hb dX5_findError_20 rfl (lv_at hl 0 rfl) ?_
      refine lv_iconst (v := iI 1) hx hb dX5_findError_21 (by decide +kernel) ?_
      refine lv_bipush (v := iI 8) hx hb dX5_findError_22 (by decide +kernel) ?_
      refine lv_bipush (v := iI 40) hx hb dX5_findError_24 (by decide +kernel) ?_
      have hc1 : ¬ (tl = 0 ∨ T 0 ≠ 75) := by omega
      refine iv_roV (As := [.int (iI 1), .int (iI 8), .int (iI 40)]) (rest := []) (C := RX5) (n := 3) ⟨hx, hb, hml, hown, hts⟩ (c_X5_wrongIn l D yI yC yD mo th re tl a1 a2 a3 a4 a5 a6 a7 a8 T 1 8 40 (by assumption) (by assumption) (by omega) (by omega)) (cwV 3 hts gX5_findError_X5_wrongIn rfl rfl rfl (by decide +kernel) ⟨Nat.le_of_ble_eq_true rfl, Nat.le_of_ble_eq_true rfl⟩) hK hP [0, 1] rfl 0 rfl rfl rfl hl.1 rfl (Nat.le_of_ble_eq_true rfl) dX5_findError_26 ⟨Nat.zero_le _, Nat.zero_le _⟩ ?_
      refine lv_istore_n (lv' := [(1, .int (iI (wrongIn T tl 1 8 40))), (0, .ref mo)]) hx hb dX5_findError_29 rfl hl (by decide) rfl (fun ls hl => ?_)
      refine lv_iconst (v := iI 3) hx hb dX5_findError_30 (by decide +kernel) ?_
      refine lv_istore_n (lv' := [(2, .int (iI 3)), (1, .int (iI (wrongIn T tl 1 8 40))), (0, .ref mo)]) hx hb dX5_findError_31 rfl hl (by decide) rfl (fun ls hl => ?_)
      refine iv_loopR (I := fun (qq : Nat × Int × Int) ls => match qq with | (k, x1, x2) => (103 ≤ (k : Int) + x2 ∧ 3 ≤ x2 ∧ x2 ≤ 110) ∧ (-1 ≤ x1 ∧ x1 ≤ 200) ∧ (fe T tl (numb T tl 1) k x2 x1 = fe T tl (numb T tl 1) 100 3 (wrongIn T tl 1 8 40)) ∧ lv_has ls 3 [(2, .int (iI x2)), (1, .int (iI x1)), (0, .ref mo)]) (μ := fun (qq : Nat × Int × Int) => match qq with | (k, x1, x2) => k) (100, wrongIn T tl 1 8 40, 3) ?_ ?_
      · exact ⟨by omega, by have := wrongIn_r (T := T) (n := tl) (p := 1) (lo := 8) (hi := 40) (by omega); omega, rfl, lv_sub hl [0, 1, 2] rfl⟩
      · intro qq ls hI ih32
        obtain ⟨k, x1, x2⟩ := qq
        obtain ⟨hk, h1, hf, hl⟩ := hI
        refine lv_iload_n hx hb dX5_findError_32 rfl (lv_at hl 0 rfl) ?_
        refine lv_aload_n hx hb dX5_findError_33 rfl (lv_at hl 2 rfl) ?_
        refine va_get (D := D) (ci := 5) (v := .int (iI tl)) (C := RX5) (T := TX5) (N := 11) hx hb hts hinX5 hown hK hP 0 rfl rfl 8 (by decide) hf82 (fun _ h9 => h9) rfl dX5_findError_34 ?_
        refine iv_icmp_ge (a := x2) (b := tl) (tgt := 67) hx hb (by omega) (by omega) dX5_findError_37 (by decide) (fun c37 => ?_) (fun c37 => ?_)
        · refine lv_iload_n hx hb dX5_findError_67 rfl (lv_at hl 1 rfl) ?_
          exact W.iret hx hb hr (fun t ht hW => ⟨congrArg (fun z => Outcome.returned (some (Value.int (iI z)))) (show x1 = findE T tl by unfold findE; rw [if_neg hc1, ← hf]; exact fe_end (by omega)), ht⟩) (fun q h => by cases h) dX5_findError_68
        · refine lv_iload_n hx hb dX5_findError_40 rfl (lv_at hl 1 rfl) ?_
          refine lv_iconst (v := iI (-1)) hx hb dX5_findError_41 (by decide +kernel) ?_
          refine iv_icmp_ne (a := x1) (b := -1) (tgt := 67) hx hb (by omega) (by omega) dX5_findError_42 (by decide) (fun c42 => ?_) (fun c42 => ?_)
          · refine lv_iload_n hx hb dX5_findError_67 rfl (lv_at hl 1 rfl) ?_
            exact W.iret hx hb hr (fun t ht hW => ⟨congrArg (fun z => Outcome.returned (some (Value.int (iI z)))) (show x1 = findE T tl by unfold findE; rw [if_neg hc1, ← hf]; exact fe_end (by omega)), ht⟩) (fun q h => by cases h) dX5_findError_68
          · refine lv_aload_n hx hb dX5_findError_45 rfl (lv_at hl 2 rfl) ?_
            refine lv_iload_n hx hb dX5_findError_46 rfl (lv_at hl 0 rfl) ?_
            refine lv_aload_n hx hb dX5_findError_47 rfl (lv_at hl 2 rfl) ?_
            refine lv_iconst (v := iI 1) hx hb dX5_findError_48 (by decide +kernel) ?_
            refine iv_roV (As := [.int (iI 1)]) (rest := [.int (iI x2), .ref mo]) (C := RX5) (n := 1) ⟨hx, hb, hml, hown, hts⟩ (c_X5_number l D yI yC yD mo th re tl a1 a2 a3 a4 a5 a6 a7 a8 T 1 (by assumption) (by assumption) (by omega)) (cwV 1 hts gX5_findError_X5_number rfl rfl rfl (by decide +kernel) ⟨Nat.le_of_ble_eq_true rfl, Nat.le_of_ble_eq_true rfl⟩) hK hP [0, 1] rfl 0 rfl rfl rfl hl.1 rfl (Nat.le_of_ble_eq_true rfl) dX5_findError_49 ⟨Nat.zero_le _, Nat.zero_le _⟩ ?_
            refine iv_roV (As := [.int (iI x2), .int (iI (numb T tl 1))]) (rest := []) (C := RX5) (n := 2) ⟨hx, hb, hml, hown, hts⟩ (c_X5_wrongCommand l D yI yC yD mo th re tl a1 a2 a3 a4 a5 a6 a7 a8 T x2 (numb T tl 1) (by assumption) (by assumption) (by omega) (by omega)) (cwV 2 hts gX5_findError_X5_wrongCommand rfl rfl rfl (by decide +kernel) ⟨Nat.le_of_ble_eq_true rfl, Nat.le_of_ble_eq_true rfl⟩) hK hP [0, 1] rfl 0 rfl rfl rfl hl.1 rfl (Nat.le_of_ble_eq_true rfl) dX5_findError_52 ⟨Nat.zero_le _, Nat.zero_le _⟩ ?_
            refine lv_istore_n (lv' := [(1, .int (iI (wrongC T tl x2 (numb T tl 1)))), (2, .int (iI x2)), (0, .ref mo)]) hx hb dX5_findError_55 rfl hl (by decide) rfl (fun ls hl => ?_)
            refine lv_iload_n hx hb dX5_findError_56 rfl (lv_at hl 1 rfl) ?_
            refine lv_aload_n hx hb dX5_findError_57 rfl (lv_at hl 2 rfl) ?_
            refine lv_iload_n hx hb dX5_findError_58 rfl (lv_at hl 1 rfl) ?_
            refine iv_roV (As := [.int (iI x2)]) (rest := [.int (iI x2)]) (C := RX5) (n := 1) ⟨hx, hb, hml, hown, hts⟩ (c_X5_lengthAt l D yI yC yD mo th re tl a1 a2 a3 a4 a5 a6 a7 a8 T x2 (by assumption) (by assumption) (by omega)) (cwV 1 hts gX5_findError_X5_lengthAt rfl rfl rfl (by decide +kernel) ⟨Nat.le_of_ble_eq_true rfl, Nat.le_of_ble_eq_true rfl⟩) hK hP [0, 1] rfl 0 rfl rfl rfl hl.1 rfl (Nat.le_of_ble_eq_true rfl) dX5_findError_59 ⟨Nat.zero_le _, Nat.zero_le _⟩ ?_
            refine iv_add hx hb dX5_findError_62 ?_
            refine lv_istore_n (lv' := [(2, .int (iI (x2 + (lenAt T x2)))), (1, .int (iI (wrongC T tl x2 (numb T tl 1)))), (0, .ref mo)]) hx hb dX5_findError_63 rfl hl (by decide) rfl (fun ls hl => ?_)
            refine lv_goto (tgt := 32) hx hb dX5_findError_64 (by decide) ?_
            refine ih32 (k - 1, wrongC T tl x2 (numb T tl 1), x2 + (lenAt T x2)) (by show (k - 1 : Nat) < k; omega) ?_
            exact ⟨by have := lenAt_r (T := T) (p := x2); omega, by have := wrongC_r (T := T) (n := tl) (p := x2) (pl := numb T tl 1) (by omega); omega, by rw [← hf, show k = (k - 1) + 1 by omega]; show _ = if _ then _ else _; rw [if_pos (by omega), show (k - 1) + 1 - 1 = k - 1 by omega], lv_sub hl [0, 1, 2] rfl⟩
    · refine lv_iconst (v := iI 0) hx hb dX5_findError_18 (by decide +kernel) ?_
      exact W.iret hx hb hr (fun t ht hW => ⟨congrArg (fun z => Outcome.returned (some (Value.int (iI z)))) (show 0 = findE T tl by unfold findE; rw [if_pos (by omega)]), ht⟩) (fun q h => by cases h) dX5_findError_19
set_option maxHeartbeats 4000000 in
set_option maxRecDepth 100000 in
theorem c_X5_errorPosition (l : Launch) (D : va_G) (yI yC yD : ClassId) (mo : Nat) (th : Int) (re : Int) (tl : Int) (a1 : Nat) (a2 : Nat) (a3 : Nat) (a4 : Nat) (a5 : Nat) (a6 : Nat) (a7 : Nat) (a8 : Nat) (T : Int → Int) (htl : 0 ≤ tl ∧ tl ≤ 100) (hrt : ∀ z, 0 ≤ z → z < tl → 0 ≤ T z ∧ T z ≤ 255) (sz : Nat) : Met l yX5_errorPosition wsX5_errorPosition ({ frames := 6, cells := 0, slots := 0, locals := 134 }) (rwP [.ref mo] D (tyz yI yC yD) [(mo, oMo th a1 a2 a3 re a4 a5 a6 tl a7 a8), (a6, aI yI 100 T)] sz) (va_Qi (fun (r : Int32) (_ : Unit) => r = iI (findE T tl) ∧ True) (fun (_ : Unit) (t : State) => va_P D vwCl [(mo, oMo 0 a1 a2 a3 re a4 a5 a6 tl a7 a8), (a6, aI yI 100 T)] t.heap) (va_A [(mo, oMo th a1 a2 a3 re a4 a5 a6 tl a7 a8), (a6, aI yI 100 T)] sz)) 0 0 (va_A [(mo, oMo th a1 a2 a3 re a4 a5 a6 tl a7 a8), (a6, aI yI 100 T)] sz) := by
  refine Met.ofW (cc := cX5_errorPosition) (maxL := 1) (ret := (some .int)) (by decide) rfl ?_
  intro p e s m args below meth c s₁ B hml hv
  obtain ⟨rfl, hsz, hP, hK, hD0⟩ := hv
  have hx := B.exec
  have hb := B.bytes
  have hr := B.returns
  have hts := atoms_spec (ws := wsX5_errorPosition) B.pre
  have hown : s.vm.findClass RX5 = some m.cls := findClass_of_methodNamed B.named
  have hlocks := B.notSynchronized
  subst hsz
  have hD := hD0.self (sz := s.heap.size)
  generalize hAe : va_A [(mo, oMo th a1 a2 a3 re a4 a5 a6 tl a7 a8), (a6, aI yI 100 T)] s.heap.size = A at hD ⊢
  have hA : ∀ q : Nat, s.heap.size ≤ q → A q := fun q h => by rw [← hAe]; exact Or.inr h
  have hS : va_S A s.heap s.heap [] := va_S.rf
  have hP : va_P D vwCl [(mo, oMo th a1 a2 a3 re a4 a5 a6 tl a7 a8), (a6, aI yI 100 T)] s.heap := hP
  have hinX5 : ∀ w ∈ wsX50, w ∈ wsX5_errorPosition := by decide +kernel
  have hf38 : (Cond.fieldLink RX5 38 "RiddleDriveModel" "thrown" "I").before _ s = true := hts _ (by decide +kernel)
  have hl := lv_entry ([.ref mo]) (n := 1) (Nat.le_of_ble_eq_true rfl)
  rw [lg_entry_eq]
  generalize (lg_sl ([.ref mo]) ++ List.replicate (1 - (lg_sl ([.ref mo])).length) Slot.unset).toArray = ls at hl ⊢
  have hl : lv_has ls 1 [(0, .ref mo)] := hl
  refine lv_aload_n hx hb dX5_errorPosition_0 rfl (lv_at hl 0 rfl) ?_
  refine lv_iconst (v := iI 0) hx hb dX5_errorPosition_1 (by decide +kernel) ?_
  refine va_put (D := D) (ci := 5) (v := .int (iI 0)) (ty := .int) (C := RX5) (T := TX5) (N := 11) hx hb hts hinX5 tyX5 tyX5_ok nmX5 hown hK hP hD hS 0 rfl rfl 0 (by decide) hf38 (fun _ h9 => h9) rfl (by decide +kernel) rfl rfl (Nat.le_of_ble_eq_true rfl) dX5_errorPosition_2 (fun H locs hP hD hS => ?_)
  have hP : va_P D vwCl [(mo, oMo 0 a1 a2 a3 re a4 a5 a6 tl a7 a8), (a6, aI yI 100 T)] H := hP
  have hD : va_D A [(mo, oMo 0 a1 a2 a3 re a4 a5 a6 tl a7 a8), (a6, aI yI 100 T)] := hD
  refine lv_aload_n hx hb dX5_errorPosition_5 rfl (lv_at hl 0 rfl) ?_
  refine iv_roV (As := []) (rest := []) (C := RX5) (n := 0) ⟨hx, hb, hml, hown, hts⟩ (c_X5_findError l D yI yC yD mo 0 re tl a1 a2 a3 a4 a5 a6 a7 a8 T (by assumption) (by assumption)) (cwV 0 hts gX5_errorPosition_X5_findError rfl rfl rfl (by decide +kernel) ⟨Nat.le_of_ble_eq_true rfl, Nat.le_of_ble_eq_true rfl⟩) hK hP [0, 1] rfl 0 rfl rfl rfl hl.1 rfl (Nat.le_of_ble_eq_true rfl) dX5_errorPosition_6 ⟨Nat.zero_le _, Nat.zero_le _⟩ ?_
  have hP9 : va_P D vwCl [(mo, oMo 0 a1 a2 a3 re a4 a5 a6 tl a7 a8), (a6, aI yI 100 T)] _ := hP.sub [0, 1] rfl
  exact W.iret hx hb hr (fun t ht hW => ⟨⟨iI (findE T tl), (), rfl, ⟨rfl, trivial⟩, by show va_P D vwCl _ t.heap; rw [ht]; exact hP9⟩, hS.F ht⟩) hS.2.2 dX5_errorPosition_9
set_option maxHeartbeats 4000000 in
set_option maxRecDepth 100000 in
theorem c_X5_has (l : Launch) (D : va_G) (yI yC yD : ClassId) (mo : Nat) (th : Int) (re : Int) (tl : Int) (a1 : Nat) (a2 : Nat) (a3 : Nat) (a4 : Nat) (a5 : Nat) (a6 : Nat) (a7 : Nat) (a8 : Nat) (S : Int → Int) (i : Int) (hI : Inv S) (hi : inR i) (sz : Nat) : Met l yX5_has wsX5_has ({ frames := 2, cells := 0, slots := 0, locals := 43 }) (rwP [.ref mo, .int (iI i)] D (tyz yI yC yD) [(mo, oMo th a1 a2 a3 re a4 a5 a6 tl a7 a8), (a1, aI yI 96 S)] sz) (va_Qi (fun (r : Int32) (_ : Unit) => r = iI (bI ((0 ≤ i ∧ i < S 0) ∧ S (8 + i) = 1)) ∧ True) (fun (_ : Unit) (t : State) => va_P D vwCl [(mo, oMo (bI (¬ (0 ≤ i ∧ i < S 0))) a1 a2 a3 re a4 a5 a6 tl a7 a8), (a1, aI yI 96 S)] t.heap) (va_A [(mo, oMo th a1 a2 a3 re a4 a5 a6 tl a7 a8), (a1, aI yI 96 S)] sz)) 0 0 (va_A [(mo, oMo th a1 a2 a3 re a4 a5 a6 tl a7 a8), (a1, aI yI 96 S)] sz) := by
  refine Met.ofW (cc := cX5_has) (maxL := 2) (ret := (some .boolean)) (by decide) rfl ?_
  intro p e s m args below meth c s₁ B hml hv
  obtain ⟨rfl, hsz, hP, hK, hD0⟩ := hv
  have hx := B.exec
  have hb := B.bytes
  have hr := B.returns
  have hts := atoms_spec (ws := wsX5_has) B.pre
  have hown : s.vm.findClass RX5 = some m.cls := findClass_of_methodNamed B.named
  have hlocks := B.notSynchronized
  subst hsz
  have hD := hD0.self (sz := s.heap.size)
  generalize hAe : va_A [(mo, oMo th a1 a2 a3 re a4 a5 a6 tl a7 a8), (a1, aI yI 96 S)] s.heap.size = A at hD ⊢
  have hA : ∀ q : Nat, s.heap.size ≤ q → A q := fun q h => by rw [← hAe]; exact Or.inr h
  have hS : va_S A s.heap s.heap [] := va_S.rf
  have hP : va_P D vwCl [(mo, oMo th a1 a2 a3 re a4 a5 a6 tl a7 a8), (a1, aI yI 96 S)] s.heap := hP
  have hinX5 : ∀ w ∈ wsX50, w ∈ wsX5_has := by decide +kernel
  have hf7 : (Cond.fieldLink RX5 7 "RiddleDriveModel" "state" "[I").before _ s = true := hts _ (by decide +kernel)
  have hf38 : (Cond.fieldLink RX5 38 "RiddleDriveModel" "thrown" "I").before _ s = true := hts _ (by decide +kernel)
  have hl := lv_entry ([.ref mo, .int (iI i)]) (n := 2) (Nat.le_of_ble_eq_true rfl)
  rw [lg_entry_eq]
  generalize (lg_sl ([.ref mo, .int (iI i)]) ++ List.replicate (2 - (lg_sl ([.ref mo, .int (iI i)])).length) Slot.unset).toArray = ls at hl ⊢
  have hl : lv_has ls 2 [(0, .ref mo), (1, .int (iI i))] := hl
  have hpl := hI.pl
  have hna := hI.na
  have hse := hI.se
  have hwi := hI.wi
  refine lv_aload_n hx hb dX5_has_0 rfl (lv_at hl 0 rfl) ?_
  refine lv_aload_n hx hb dX5_has_1 rfl (lv_at hl 0 rfl) ?_
  refine lv_iload_n hx hb dX5_has_2 rfl (lv_at hl 1 rfl) ?_
  refine iv_roV (As := [.int (iI i)]) (rest := [.ref mo]) (C := RX5) (n := 1) ⟨hx, hb, hml, hown, hts⟩ (c_X5_isPlace l D yI yC yD mo th re tl a1 a2 a3 a4 a5 a6 a7 a8 S i (by omega) (by omega)) (cwV 1 hts gX5_has_X5_isPlace rfl rfl rfl (by decide +kernel) ⟨Nat.le_of_ble_eq_true rfl, Nat.le_of_ble_eq_true rfl⟩) hK hP [0, 1] rfl 0 rfl rfl rfl hl.1 rfl (Nat.le_of_ble_eq_true rfl) dX5_has_3 ⟨Nat.zero_le _, Nat.zero_le _⟩ ?_
  refine iv_ifb_eq (P := 0 ≤ i ∧ i < S 0) (tgt := 13) hx hb dX5_has_6 (by decide) (fun c6 => ?_) (fun c6 => ?_)
  · refine lv_iconst (v := iI 1) hx hb dX5_has_13 (by decide +kernel) ?_
    refine va_put (D := D) (ci := 5) (v := .int (iI 1)) (ty := .int) (C := RX5) (T := TX5) (N := 11) hx hb hts hinX5 tyX5 tyX5_ok nmX5 hown hK hP hD hS 0 rfl rfl 0 (by decide) hf38 (fun _ h9 => h9) rfl (by decide +kernel) rfl rfl (Nat.le_of_ble_eq_true rfl) dX5_has_14 (fun H locs hP hD hS => ?_)
    have hP : va_P D vwCl [(mo, oMo 1 a1 a2 a3 re a4 a5 a6 tl a7 a8), (a1, aI yI 96 S)] H := hP
    have hD : va_D A [(mo, oMo 1 a1 a2 a3 re a4 a5 a6 tl a7 a8), (a1, aI yI 96 S)] := hD
    refine lv_aload_n hx hb dX5_has_17 rfl (lv_at hl 0 rfl) ?_
    refine va_get (D := D) (ci := 5) (v := .int (iI 1)) (C := RX5) (T := TX5) (N := 11) hx hb hts hinX5 hown hK hP 0 rfl rfl 0 (by decide) hf38 (fun _ h9 => h9) rfl dX5_has_18 ?_
    refine iv_if_ne (a := 1) (tgt := 41) hx hb (by omega) dX5_has_21 (by decide) (fun c21 => ?_) (fun c21 => ?_)
    · refine lv_iconst (v := iI 0) hx hb dX5_has_41 (by decide +kernel) ?_
      have hP9 : va_P D vwCl [(mo, oMo (bI (¬ (0 ≤ i ∧ i < S 0))) a1 a2 a3 re a4 a5 a6 tl a7 a8), (a1, aI yI 96 S)] _ := (hP.sub (ws' := [(mo, oMo 1 a1 a2 a3 re a4 a5 a6 tl a7 a8), (a1, aI yI 96 S)]) [0, 1] rfl).cv (by first | rw [bI_f (by omega)] | rw [bI_t (by omega)])
      exact W.zret hx hb hr (by decide +kernel) (fun t ht hW => ⟨⟨iI 0, (), rfl, ⟨congrArg iI (show 0 = bI ((0 ≤ i ∧ i < S 0) ∧ S (8 + i) = 1) by first | exact (bI_t (by omega)).symm | exact (bI_f (by omega)).symm), trivial⟩, by show va_P D vwCl _ t.heap; rw [ht]; exact hP9⟩, hS.F ht⟩) hS.2.2 dX5_has_42
    · exact absurd c21 (by omega)
  · refine lv_iconst (v := iI 0) hx hb dX5_has_9 (by decide +kernel) ?_
    refine lv_goto (tgt := 14) hx hb dX5_has_10 (by decide) ?_
    refine va_put (D := D) (ci := 5) (v := .int (iI 0)) (ty := .int) (C := RX5) (T := TX5) (N := 11) hx hb hts hinX5 tyX5 tyX5_ok nmX5 hown hK hP hD hS 0 rfl rfl 0 (by decide) hf38 (fun _ h9 => h9) rfl (by decide +kernel) rfl rfl (Nat.le_of_ble_eq_true rfl) dX5_has_14 (fun H locs hP hD hS => ?_)
    have hP : va_P D vwCl [(mo, oMo 0 a1 a2 a3 re a4 a5 a6 tl a7 a8), (a1, aI yI 96 S)] H := hP
    have hD : va_D A [(mo, oMo 0 a1 a2 a3 re a4 a5 a6 tl a7 a8), (a1, aI yI 96 S)] := hD
    refine lv_aload_n hx hb dX5_has_17 rfl (lv_at hl 0 rfl) ?_
    refine va_get (D := D) (ci := 5) (v := .int (iI 0)) (C := RX5) (T := TX5) (N := 11) hx hb hts hinX5 hown hK hP 0 rfl rfl 0 (by decide) hf38 (fun _ h9 => h9) rfl dX5_has_18 ?_
    refine iv_if_ne (a := 0) (tgt := 41) hx hb (by omega) dX5_has_21 (by decide) (fun c21 => ?_) (fun c21 => ?_)
    · exact absurd c21 (by omega)
    · have hkk := hI.key (j := i) (by omega) (by omega)
      refine lv_aload_n hx hb dX5_has_24 rfl (lv_at hl 0 rfl) ?_
      refine va_get (D := D) (ci := 5) (v := .ref a1) (C := RX5) (T := TX5) (N := 11) hx hb hts hinX5 hown hK hP 0 rfl rfl 1 (by decide) hf7 (fun _ h9 => h9) rfl dX5_has_25 ?_
      refine lv_bipush (v := iI 8) hx hb dX5_has_28 (by decide +kernel) ?_
      refine lv_iload_n hx hb dX5_has_30 rfl (lv_at hl 1 rfl) ?_
      refine iv_add hx hb dX5_has_31 ?_
      refine iv_ald hx hb hK hP 1 0 rfl rfl (z := 8 + i) (by omega) (by omega) (by omega) dX5_has_32 ?_
      refine lv_iconst (v := iI 1) hx hb dX5_has_33 (by decide +kernel) ?_
      refine iv_icmp_ne (a := S (8 + i)) (b := 1) (tgt := 41) hx hb (by omega) (by omega) dX5_has_34 (by decide) (fun c34 => ?_) (fun c34 => ?_)
      · refine lv_iconst (v := iI 0) hx hb dX5_has_41 (by decide +kernel) ?_
        have hP9 : va_P D vwCl [(mo, oMo (bI (¬ (0 ≤ i ∧ i < S 0))) a1 a2 a3 re a4 a5 a6 tl a7 a8), (a1, aI yI 96 S)] _ := (hP.sub (ws' := [(mo, oMo 0 a1 a2 a3 re a4 a5 a6 tl a7 a8), (a1, aI yI 96 S)]) [0, 1] rfl).cv (by first | rw [bI_f (by omega)] | rw [bI_t (by omega)])
        exact W.zret hx hb hr (by decide +kernel) (fun t ht hW => ⟨⟨iI 0, (), rfl, ⟨congrArg iI (show 0 = bI ((0 ≤ i ∧ i < S 0) ∧ S (8 + i) = 1) by first | exact (bI_t (by omega)).symm | exact (bI_f (by omega)).symm), trivial⟩, by show va_P D vwCl _ t.heap; rw [ht]; exact hP9⟩, hS.F ht⟩) hS.2.2 dX5_has_42
      · refine lv_iconst (v := iI 1) hx hb dX5_has_37 (by decide +kernel) ?_
        refine lv_goto (tgt := 42) hx hb dX5_has_38 (by decide) ?_
        have hP9 : va_P D vwCl [(mo, oMo (bI (¬ (0 ≤ i ∧ i < S 0))) a1 a2 a3 re a4 a5 a6 tl a7 a8), (a1, aI yI 96 S)] _ := (hP.sub (ws' := [(mo, oMo 0 a1 a2 a3 re a4 a5 a6 tl a7 a8), (a1, aI yI 96 S)]) [0, 1] rfl).cv (by first | rw [bI_f (by omega)] | rw [bI_t (by omega)])
        exact W.zret hx hb hr (by decide +kernel) (fun t ht hW => ⟨⟨iI 1, (), rfl, ⟨congrArg iI (show 1 = bI ((0 ≤ i ∧ i < S 0) ∧ S (8 + i) = 1) by first | exact (bI_t (by omega)).symm | exact (bI_f (by omega)).symm), trivial⟩, by show va_P D vwCl _ t.heap; rw [ht]; exact hP9⟩, hS.F ht⟩) hS.2.2 dX5_has_42
set_option maxHeartbeats 4000000 in
set_option maxRecDepth 100000 in
theorem c_X5_answer (l : Launch) (D : va_G) (yI yC yD : ClassId) (mo : Nat) (th : Int) (re : Int) (tl : Int) (a1 : Nat) (a2 : Nat) (a3 : Nat) (a4 : Nat) (a5 : Nat) (a6 : Nat) (a7 : Nat) (a8 : Nat) (S : Int → Int) (i : Int) (w : Int) (hI : Inv S) (hi : inR i) (hw9 : inR w) (sz : Nat) : Met l yX5_answer wsX5_answer ({ frames := 2, cells := 0, slots := 0, locals := 43 }) (rwP [.ref mo, .int (iI i), .int (iI w)] D (tyz yI yC yD) [(mo, oMo th a1 a2 a3 re a4 a5 a6 tl a7 a8), (a1, aI yI 96 S)] sz) (va_Qi (fun (r : Int32) (_ : Unit) => r = iI (if whyAn S i w = 0 then an S i w else 0) ∧ True) (fun (_ : Unit) (t : State) => va_P D vwCl [(mo, oMo (whyAn S i w) a1 a2 a3 re a4 a5 a6 tl a7 a8), (a1, aI yI 96 S)] t.heap) (va_A [(mo, oMo th a1 a2 a3 re a4 a5 a6 tl a7 a8), (a1, aI yI 96 S)] sz)) 0 0 (va_A [(mo, oMo th a1 a2 a3 re a4 a5 a6 tl a7 a8), (a1, aI yI 96 S)] sz) := by
  refine Met.ofW (cc := cX5_answer) (maxL := 3) (ret := (some .int)) (by decide) rfl ?_
  intro p e s m args below meth c s₁ B hml hv
  obtain ⟨rfl, hsz, hP, hK, hD0⟩ := hv
  have hx := B.exec
  have hb := B.bytes
  have hr := B.returns
  have hts := atoms_spec (ws := wsX5_answer) B.pre
  have hown : s.vm.findClass RX5 = some m.cls := findClass_of_methodNamed B.named
  have hlocks := B.notSynchronized
  subst hsz
  have hD := hD0.self (sz := s.heap.size)
  generalize hAe : va_A [(mo, oMo th a1 a2 a3 re a4 a5 a6 tl a7 a8), (a1, aI yI 96 S)] s.heap.size = A at hD ⊢
  have hA : ∀ q : Nat, s.heap.size ≤ q → A q := fun q h => by rw [← hAe]; exact Or.inr h
  have hS : va_S A s.heap s.heap [] := va_S.rf
  have hP : va_P D vwCl [(mo, oMo th a1 a2 a3 re a4 a5 a6 tl a7 a8), (a1, aI yI 96 S)] s.heap := hP
  have hinX5 : ∀ w ∈ wsX50, w ∈ wsX5_answer := by decide +kernel
  have hf38 : (Cond.fieldLink RX5 38 "RiddleDriveModel" "thrown" "I").before _ s = true := hts _ (by decide +kernel)
  have hl := lv_entry ([.ref mo, .int (iI i), .int (iI w)]) (n := 3) (Nat.le_of_ble_eq_true rfl)
  rw [lg_entry_eq]
  generalize (lg_sl ([.ref mo, .int (iI i), .int (iI w)]) ++ List.replicate (3 - (lg_sl ([.ref mo, .int (iI i), .int (iI w)])).length) Slot.unset).toArray = ls at hl ⊢
  have hl : lv_has ls 3 [(0, .ref mo), (1, .int (iI i)), (2, .int (iI w))] := hl
  have hpl := hI.pl
  have hna := hI.na
  have hse := hI.se
  have hwi := hI.wi
  refine lv_aload_n hx hb dX5_answer_0 rfl (lv_at hl 0 rfl) ?_
  refine lv_aload_n hx hb dX5_answer_1 rfl (lv_at hl 0 rfl) ?_
  refine lv_iload_n hx hb dX5_answer_2 rfl (lv_at hl 1 rfl) ?_
  refine iv_roV (As := [.int (iI i)]) (rest := [.ref mo]) (C := RX5) (n := 1) ⟨hx, hb, hml, hown, hts⟩ (c_X5_isAnswer l D yI yC yD mo th re tl a1 a2 a3 a4 a5 a6 a7 a8 S i (by omega) (by omega)) (cwV 1 hts gX5_answer_X5_isAnswer rfl rfl rfl (by decide +kernel) ⟨Nat.le_of_ble_eq_true rfl, Nat.le_of_ble_eq_true rfl⟩) hK hP [0, 1] rfl 0 rfl rfl rfl hl.1 rfl (Nat.le_of_ble_eq_true rfl) dX5_answer_3 ⟨Nat.zero_le _, Nat.zero_le _⟩ ?_
  refine iv_ifb_ne (P := 0 ≤ i ∧ i < S 4) (tgt := 13) hx hb dX5_answer_6 (by decide) (fun c6 => ?_) (fun c6 => ?_)
  · refine lv_iload_n hx hb dX5_answer_13 rfl (lv_at hl 2 rfl) ?_
    refine lv_iconst (v := iI 0) hx hb dX5_answer_14 (by decide +kernel) ?_
    refine lv_iconst (v := iI 3) hx hb dX5_answer_15 (by decide +kernel) ?_
    refine iv_roS (As := [.int (iI w), .int (iI 0), .int (iI 3)]) (rest := [.ref mo]) (n := 3) ⟨hx, hb, hml, hown, hts⟩ (c_X5_within l D yI yC yD w 0 3 (by omega) (by omega) (by omega)) (va_cwS 3 hts gX5_answer_X5_within rfl rfl rfl (by decide +kernel) ⟨Nat.le_of_ble_eq_true rfl, Nat.le_of_ble_eq_true rfl⟩) hK hP [] rfl rfl hl.1 rfl (Nat.le_of_ble_eq_true rfl) dX5_answer_16 ⟨Nat.zero_le _, Nat.zero_le _⟩ ?_
    refine iv_ifb_eq (P := 0 ≤ w ∧ w ≤ 3) (tgt := 26) hx hb dX5_answer_19 (by decide) (fun c19 => ?_) (fun c19 => ?_)
    · refine lv_iconst (v := iI 2) hx hb dX5_answer_26 (by decide +kernel) ?_
      refine va_put (D := D) (ci := 5) (v := .int (iI 2)) (ty := .int) (C := RX5) (T := TX5) (N := 11) hx hb hts hinX5 tyX5 tyX5_ok nmX5 hown hK hP hD hS 0 rfl rfl 0 (by decide) hf38 (fun _ h9 => h9) rfl (by decide +kernel) rfl rfl (Nat.le_of_ble_eq_true rfl) dX5_answer_27 (fun H locs hP hD hS => ?_)
      have hP : va_P D vwCl [(mo, oMo 2 a1 a2 a3 re a4 a5 a6 tl a7 a8), (a1, aI yI 96 S)] H := hP
      have hD : va_D A [(mo, oMo 2 a1 a2 a3 re a4 a5 a6 tl a7 a8), (a1, aI yI 96 S)] := hD
      refine lv_aload_n hx hb dX5_answer_30 rfl (lv_at hl 0 rfl) ?_
      refine va_get (D := D) (ci := 5) (v := .int (iI 2)) (C := RX5) (T := TX5) (N := 11) hx hb hts hinX5 hown hK hP 0 rfl rfl 0 (by decide) hf38 (fun _ h9 => h9) rfl dX5_answer_31 ?_
      refine iv_if_le (a := 2) (tgt := 41) hx hb (by omega) dX5_answer_34 (by decide) (fun c34 => ?_) (fun c34 => ?_)
      · exact absurd c34 (by omega)
      · refine lv_iconst (v := iI 0) hx hb dX5_answer_37 (by decide +kernel) ?_
        refine lv_goto (tgt := 47) hx hb dX5_answer_38 (by decide) ?_
        have hth : whyAn S i w = 2 := by unfold whyAn; (repeat (first | rw [if_pos (by omega)] | rw [if_neg (by omega)]))
        have hP9 : va_P D vwCl [(mo, oMo (whyAn S i w) a1 a2 a3 re a4 a5 a6 tl a7 a8), (a1, aI yI 96 S)] _ := (hP.sub (ws' := [(mo, oMo 2 a1 a2 a3 re a4 a5 a6 tl a7 a8), (a1, aI yI 96 S)]) [0, 1] rfl).cv (by rw [hth])
        exact W.iret hx hb hr (fun t ht hW => ⟨⟨iI 0, (), rfl, ⟨congrArg iI (show 0 = if whyAn S i w = 0 then an S i w else 0 by first | rw [if_pos (by omega)] | rw [if_neg (by omega)]), trivial⟩, by show va_P D vwCl _ t.heap; rw [ht]; exact hP9⟩, hS.F ht⟩) hS.2.2 dX5_answer_47
    · refine lv_iconst (v := iI 0) hx hb dX5_answer_22 (by decide +kernel) ?_
      refine lv_goto (tgt := 27) hx hb dX5_answer_23 (by decide) ?_
      refine va_put (D := D) (ci := 5) (v := .int (iI 0)) (ty := .int) (C := RX5) (T := TX5) (N := 11) hx hb hts hinX5 tyX5 tyX5_ok nmX5 hown hK hP hD hS 0 rfl rfl 0 (by decide) hf38 (fun _ h9 => h9) rfl (by decide +kernel) rfl rfl (Nat.le_of_ble_eq_true rfl) dX5_answer_27 (fun H locs hP hD hS => ?_)
      have hP : va_P D vwCl [(mo, oMo 0 a1 a2 a3 re a4 a5 a6 tl a7 a8), (a1, aI yI 96 S)] H := hP
      have hD : va_D A [(mo, oMo 0 a1 a2 a3 re a4 a5 a6 tl a7 a8), (a1, aI yI 96 S)] := hD
      refine lv_aload_n hx hb dX5_answer_30 rfl (lv_at hl 0 rfl) ?_
      refine va_get (D := D) (ci := 5) (v := .int (iI 0)) (C := RX5) (T := TX5) (N := 11) hx hb hts hinX5 hown hK hP 0 rfl rfl 0 (by decide) hf38 (fun _ h9 => h9) rfl dX5_answer_31 ?_
      refine iv_if_le (a := 0) (tgt := 41) hx hb (by omega) dX5_answer_34 (by decide) (fun c34 => ?_) (fun c34 => ?_)
      · refine lv_aload_n hx hb dX5_answer_41 rfl (lv_at hl 0 rfl) ?_
        refine lv_iload_n hx hb dX5_answer_42 rfl (lv_at hl 1 rfl) ?_
        refine lv_iload_n hx hb dX5_answer_43 rfl (lv_at hl 2 rfl) ?_
        refine iv_roV (As := [.int (iI i), .int (iI w)]) (rest := []) (C := RX5) (n := 2) ⟨hx, hb, hml, hown, hts⟩ (c_X5_answerPart l D yI yC yD mo 0 re tl a1 a2 a3 a4 a5 a6 a7 a8 S i w (by omega) (by omega)) (cwV 2 hts gX5_answer_X5_answerPart rfl rfl rfl (by decide +kernel) ⟨Nat.le_of_ble_eq_true rfl, Nat.le_of_ble_eq_true rfl⟩) hK hP [0, 1] rfl 0 rfl rfl rfl hl.1 rfl (Nat.le_of_ble_eq_true rfl) dX5_answer_44 ⟨Nat.zero_le _, Nat.zero_le _⟩ ?_
        have hth : whyAn S i w = 0 := by unfold whyAn; (repeat (first | rw [if_pos (by omega)] | rw [if_neg (by omega)]))
        have hP9 : va_P D vwCl [(mo, oMo (whyAn S i w) a1 a2 a3 re a4 a5 a6 tl a7 a8), (a1, aI yI 96 S)] _ := (hP.sub (ws' := [(mo, oMo 0 a1 a2 a3 re a4 a5 a6 tl a7 a8), (a1, aI yI 96 S)]) [0, 1] rfl).cv (by rw [hth])
        exact W.iret hx hb hr (fun t ht hW => ⟨⟨iI (an S i w), (), rfl, ⟨congrArg iI (show an S i w = if whyAn S i w = 0 then an S i w else 0 by first | rw [if_pos (by omega)] | rw [if_neg (by omega)]), trivial⟩, by show va_P D vwCl _ t.heap; rw [ht]; exact hP9⟩, hS.F ht⟩) hS.2.2 dX5_answer_47
      · exact absurd c34 (by omega)
  · refine lv_iconst (v := iI 1) hx hb dX5_answer_9 (by decide +kernel) ?_
    refine lv_goto (tgt := 27) hx hb dX5_answer_10 (by decide) ?_
    refine va_put (D := D) (ci := 5) (v := .int (iI 1)) (ty := .int) (C := RX5) (T := TX5) (N := 11) hx hb hts hinX5 tyX5 tyX5_ok nmX5 hown hK hP hD hS 0 rfl rfl 0 (by decide) hf38 (fun _ h9 => h9) rfl (by decide +kernel) rfl rfl (Nat.le_of_ble_eq_true rfl) dX5_answer_27 (fun H locs hP hD hS => ?_)
    have hP : va_P D vwCl [(mo, oMo 1 a1 a2 a3 re a4 a5 a6 tl a7 a8), (a1, aI yI 96 S)] H := hP
    have hD : va_D A [(mo, oMo 1 a1 a2 a3 re a4 a5 a6 tl a7 a8), (a1, aI yI 96 S)] := hD
    refine lv_aload_n hx hb dX5_answer_30 rfl (lv_at hl 0 rfl) ?_
    refine va_get (D := D) (ci := 5) (v := .int (iI 1)) (C := RX5) (T := TX5) (N := 11) hx hb hts hinX5 hown hK hP 0 rfl rfl 0 (by decide) hf38 (fun _ h9 => h9) rfl dX5_answer_31 ?_
    refine iv_if_le (a := 1) (tgt := 41) hx hb (by omega) dX5_answer_34 (by decide) (fun c34 => ?_) (fun c34 => ?_)
    · exact absurd c34 (by omega)
    · refine lv_iconst (v := iI 0) hx hb dX5_answer_37 (by decide +kernel) ?_
      refine lv_goto (tgt := 47) hx hb dX5_answer_38 (by decide) ?_
      have hth : whyAn S i w = 1 := by unfold whyAn; (repeat (first | rw [if_pos (by omega)] | rw [if_neg (by omega)]))
      have hP9 : va_P D vwCl [(mo, oMo (whyAn S i w) a1 a2 a3 re a4 a5 a6 tl a7 a8), (a1, aI yI 96 S)] _ := (hP.sub (ws' := [(mo, oMo 1 a1 a2 a3 re a4 a5 a6 tl a7 a8), (a1, aI yI 96 S)]) [0, 1] rfl).cv (by rw [hth])
      exact W.iret hx hb hr (fun t ht hW => ⟨⟨iI 0, (), rfl, ⟨congrArg iI (show 0 = if whyAn S i w = 0 then an S i w else 0 by first | rw [if_pos (by omega)] | rw [if_neg (by omega)]), trivial⟩, by show va_P D vwCl _ t.heap; rw [ht]; exact hP9⟩, hS.F ht⟩) hS.2.2 dX5_answer_47
