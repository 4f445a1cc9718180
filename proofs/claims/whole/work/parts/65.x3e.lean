set_option maxHeartbeats 4000000 in
set_option maxRecDepth 100000 in
theorem c_X3_readInto (l : Launch) (D : va_G) (yI yC yD : ClassId) (tx : Nat) (sg : Nat) (T : Int → Int) (tl : Int) (po : Int) (lo : Int) (d : Nat) (dc : Nat) (S : Int → Int) (g : Int → Int) (k : Int64) (htl : 0 ≤ tl ∧ tl ≤ 100) (hrt : ∀ z, 0 ≤ z → z < tl → 0 ≤ T z ∧ T z < 65536) (sz : Nat) : Met l yX3_readInto wsX3_readInto ({ frames := 6, cells := 0, slots := 0, locals := 124 }) (rwP [.ref tx, .ref d] D (tyz yI yC yD) [(tx, oTx sg tl po lo), (sg, aC yC 100 T), (d, oDrv dc S k), (dc, aI yI 48 g)] sz) (va_Qi (fun (r : Int32) (u : (Int → Int) × (Int → Int) × Int64 × Int × Int) => match u with | (S9, G9, k9, p9, l9) => r = iI (bI (findE T tl = -1)) ∧ (findE T tl = -1 → S9 = (ldAll T tl).1 ∧ Rc S9 G9 ∧ k9 = lN (kL S9 0 40) ∧ l9 = (ldAll T tl).2 ∧ Inv S9) ∧ (findE T tl ≠ -1 → p9 = findE T tl)) (fun (u : (Int → Int) × (Int → Int) × Int64 × Int × Int) (t : State) => match u with | (S9, G9, k9, p9, l9) => va_P D vwCl [(tx, oTx sg tl p9 l9), (sg, aC yC 100 T), (d, oDrv dc S9 k9), (dc, aI yI 48 G9)] t.heap) (va_A [(tx, oTx sg tl po lo), (sg, aC yC 100 T), (d, oDrv dc S k), (dc, aI yI 48 g)] sz)) 0 0 (va_A [(tx, oTx sg tl po lo), (sg, aC yC 100 T), (d, oDrv dc S k), (dc, aI yI 48 g)] sz) := by
  refine Met.ofW (cc := cX3_readInto) (maxL := 4) (ret := (some .boolean)) (by decide) rfl ?_
  intro p e s m args below meth c s₁ B hml hv
  obtain ⟨rfl, hsz, hP, hK, hD0⟩ := hv
  have hx := B.exec
  have hb := B.bytes
  have hr := B.returns
  have hts := atoms_spec (ws := wsX3_readInto) B.pre
  have hown : s.vm.findClass RX3 = some m.cls := findClass_of_methodNamed B.named
  have hlocks := B.notSynchronized
  subst hsz
  have hD := hD0.self (sz := s.heap.size)
  generalize hAe : va_A [(tx, oTx sg tl po lo), (sg, aC yC 100 T), (d, oDrv dc S k), (dc, aI yI 48 g)] s.heap.size = A at hD ⊢
  have hA : ∀ q : Nat, s.heap.size ≤ q → A q := fun q h => by rw [← hAe]; exact Or.inr h
  have hS : va_S A s.heap s.heap [] := va_S.rf
  have hP : va_P D vwCl [(tx, oTx sg tl po lo), (sg, aC yC 100 T), (d, oDrv dc S k), (dc, aI yI 48 g)] s.heap := hP
  have hinX3 : ∀ w ∈ wsX30, w ∈ wsX3_readInto := by decide +kernel
  have hf15 : (Cond.fieldLink RX3 15 "RiddleDrive$Text" "length" "I").before _ s = true := hts _ (by decide +kernel)
  have hf19 : (Cond.fieldLink RX3 19 "RiddleDrive$Text" "position" "I").before _ s = true := hts _ (by decide +kernel)
  have hf22 : (Cond.fieldLink RX3 22 "RiddleDrive$Text" "leftOut" "I").before _ s = true := hts _ (by decide +kernel)
  have hl := lv_entry ([.ref tx, .ref d]) (n := 4) (Nat.le_of_ble_eq_true rfl)
  rw [lg_entry_eq]
  generalize (lg_sl ([.ref tx, .ref d]) ++ List.replicate (4 - (lg_sl ([.ref tx, .ref d])).length) Slot.unset).toArray = ls at hl ⊢
  have hl : lv_has ls 4 [(0, .ref tx), (1, .ref d)] := hl
  have hsr := sgn_r (n := tl) (p := 0) hrt (by omega)
  refine lv_aload_n hx hb dX3_readInto_0 rfl (lv_at hl 0 rfl) ?_
  refine lv_iconst (v := iI 0) hx hb dX3_readInto_1 (by decide +kernel) ?_
  refine va_put (D := D) (ci := 3) (v := .int (iI 0)) (ty := .int) (C := RX3) (T := TX3) (N := 4) hx hb hts hinX3 tyX3 tyX3_ok nmX3 hown hK hP hD hS 0 rfl rfl 2 (by decide) hf19 (fun _ h9 => h9) rfl (by decide +kernel) rfl rfl (Nat.le_of_ble_eq_true rfl) dX3_readInto_2 (fun H locs hP hD hS => ?_)
  have hP : va_P D vwCl [(tx, oTx sg tl 0 lo), (sg, aC yC 100 T), (d, oDrv dc S k), (dc, aI yI 48 g)] H := hP
  have hD : va_D A [(tx, oTx sg tl 0 lo), (sg, aC yC 100 T), (d, oDrv dc S k), (dc, aI yI 48 g)] := hD
  refine lv_aload_n hx hb dX3_readInto_5 rfl (lv_at hl 0 rfl) ?_
  refine lv_iconst (v := iI 0) hx hb dX3_readInto_6 (by decide +kernel) ?_
  refine va_put (D := D) (ci := 3) (v := .int (iI 0)) (ty := .int) (C := RX3) (T := TX3) (N := 4) hx hb hts hinX3 tyX3 tyX3_ok nmX3 hown hK hP hD hS 0 rfl rfl 3 (by decide) hf22 (fun _ h9 => h9) rfl (by decide +kernel) rfl rfl (Nat.le_of_ble_eq_true rfl) dX3_readInto_7 (fun H locs hP hD hS => ?_)
  have hP : va_P D vwCl [(tx, oTx sg tl 0 0), (sg, aC yC 100 T), (d, oDrv dc S k), (dc, aI yI 48 g)] H := hP
  have hD : va_D A [(tx, oTx sg tl 0 0), (sg, aC yC 100 T), (d, oDrv dc S k), (dc, aI yI 48 g)] := hD
  refine lv_aload_n hx hb dX3_readInto_10 rfl (lv_at hl 0 rfl) ?_
  refine iv_roV (As := []) (rest := []) (C := RX3) (n := 0) ⟨hx, hb, hml, hown, hts⟩ (c_X3_sign l D yI yC yD tx sg T tl 0 0 (by omega) (by assumption) (by omega)) (cwV 0 hts gX3_readInto_X3_sign rfl rfl rfl (by decide +kernel) ⟨Nat.le_of_ble_eq_true rfl, Nat.le_of_ble_eq_true rfl⟩) hK hP [0, 1] rfl 0 rfl rfl rfl hl.1 rfl (Nat.le_of_ble_eq_true rfl) dX3_readInto_11 ⟨Nat.zero_le _, Nat.zero_le _⟩ ?_
  refine lv_bipush (v := iI 75) hx hb dX3_readInto_14 (by decide +kernel) ?_
  refine iv_icmp_eq (a := sgn T tl 0) (b := 75) (tgt := 21) hx hb (by omega) (by omega) dX3_readInto_16 (by decide) (fun c16 => ?_) (fun c16 => ?_)
  · obtain ⟨hl0, fe1⟩ := findE_s (T := T) (n := tl) c16
    obtain ⟨n1, n2, n3, n4, n5, n6⟩ := nm_iff (T := T) (n := tl) (p := 1) (lo := 8) (hi := 40) (by omega) (by omega)
    refine lv_aload_n hx hb dX3_readInto_21 rfl (lv_at hl 0 rfl) ?_
    refine lv_dup hx hb dX3_readInto_22 rfl ?_
    refine va_get (D := D) (ci := 3) (v := .int (iI 0)) (C := RX3) (T := TX3) (N := 4) hx hb hts hinX3 hown hK hP 0 rfl rfl 2 (by decide) hf19 (fun _ h9 => h9) rfl dX3_readInto_23 ?_
    refine lv_iconst (v := iI 1) hx hb dX3_readInto_26 (by decide +kernel) ?_
    refine iv_add hx hb dX3_readInto_27 ?_
    refine va_put (D := D) (ci := 3) (v := .int (iI (0 + 1))) (ty := .int) (C := RX3) (T := TX3) (N := 4) hx hb hts hinX3 tyX3 tyX3_ok nmX3 hown hK hP hD hS 0 rfl rfl 2 (by decide) hf19 (fun _ h9 => h9) rfl (by decide +kernel) rfl rfl (Nat.le_of_ble_eq_true rfl) dX3_readInto_28 (fun H locs hP hD hS => ?_)
    have hP : va_P D vwCl [(tx, oTx sg tl (0 + 1) 0), (sg, aC yC 100 T), (d, oDrv dc S k), (dc, aI yI 48 g)] H := hP
    have hD : va_D A [(tx, oTx sg tl (0 + 1) 0), (sg, aC yC 100 T), (d, oDrv dc S k), (dc, aI yI 48 g)] := hD
    have hox : oTx sg tl (0 + 1) 0 = oTx sg tl 1 0 := congrArg (fun z => oTx sg tl z 0) (by omega)
    rw [hox] at hP hD
    refine lv_aload_n hx hb dX3_readInto_31 rfl (lv_at hl 0 rfl) ?_
    refine lv_bipush (v := iI 8) hx hb dX3_readInto_32 (by decide +kernel) ?_
    refine lv_bipush (v := iI 40) hx hb dX3_readInto_34 (by decide +kernel) ?_
    refine iv_rwV (As := [.int (iI 8), .int (iI 40)]) (rest := []) (C := RX3) (n := 2) ⟨hx, hb, hml, hown, hts⟩ (c_X3_readNumber l D yI yC yD tx sg T tl 1 0 8 40 (by omega) (by assumption) (by omega) (by omega) _) (cwV 2 hts gX3_readInto_X3_readNumber rfl rfl rfl (by decide +kernel) ⟨Nat.le_of_ble_eq_true rfl, Nat.le_of_ble_eq_true rfl⟩) hK hP hD hS hA [0, 1] (by decide) rfl 0 rfl rfl rfl hl.1 rfl (Nat.le_of_ble_eq_true rfl) dX3_readInto_36 ⟨Nat.zero_le _, Nat.zero_le _⟩ (fun _ => rfl) (fun r36 u36 H locs hw36 hP hD hS => ?_)
    obtain ⟨hr36, -⟩ := hw36
    subst hr36
    have hP : va_P D vwCl [(tx, oTx sg tl (nmP T tl 1 8 40) 0), (sg, aC yC 100 T), (d, oDrv dc S k), (dc, aI yI 48 g)] H := hP
    have hD : va_D A [(tx, oTx sg tl (nmP T tl 1 8 40) 0), (sg, aC yC 100 T), (d, oDrv dc S k), (dc, aI yI 48 g)] := hD
    refine lv_istore_n (lv' := [(2, .int (iI (nmD T tl 1 8 40))), (0, .ref tx), (1, .ref d)]) hx hb dX3_readInto_39 rfl hl (by decide) rfl (fun ls hl => ?_)
    refine lv_iload_n hx hb dX3_readInto_40 rfl (lv_at hl 0 rfl) ?_
    refine lv_iconst (v := iI (-1)) hx hb dX3_readInto_41 (by decide +kernel) ?_
    refine iv_icmp_ne (a := nmD T tl 1 8 40) (b := -1) (tgt := 47) hx hb (by omega) (by omega) dX3_readInto_42 (by decide) (fun c42 => ?_) (fun c42 => ?_)
    · have w1 : wrongIn T tl 1 8 40 = -1 := (by by_cases z : wrongIn T tl 1 8 40 = -1; exact z; exact absurd (n1.mpr z) c42)
      obtain ⟨m1, m2, m3⟩ := n2 w1
      have fe2 : findE T tl = fe T tl (numb T tl 1) 100 3 (-1) := by rw [fe1, w1]
      have hre2 : nmD T tl 1 8 40 = numb T tl 1 := m1
      rw [hre2] at hl
      have hox : oTx sg tl (nmP T tl 1 8 40) 0 = oTx sg tl 3 0 := congrArg (fun z => oTx sg tl z 0) (by omega)
      rw [hox] at hP hD
      refine lv_aload_n hx hb dX3_readInto_47 rfl (lv_at hl 2 rfl) ?_
      refine lv_iload_n hx hb dX3_readInto_48 rfl (lv_at hl 0 rfl) ?_
      refine iv_rwVv (As := [.int (iI (numb T tl 1))]) (rest := []) (C := RX0) (n := 1) ⟨hx, hb, hml, hown, hts⟩ (c_X0_makeNew l D yI yC yD d dc S g k (numb T tl 1)  _) (cwV 1 hts gX3_readInto_X0_makeNew rfl rfl rfl (by decide +kernel) ⟨Nat.le_of_ble_eq_true rfl, Nat.le_of_ble_eq_true rfl⟩) hK hP hD hS hA [2, 3] (by decide) rfl 2 rfl rfl rfl hl.1 rfl (Nat.le_of_ble_eq_true rfl) dX3_readInto_49 ⟨Nat.zero_le _, Nat.zero_le _⟩ (fun _ => rfl) (fun u49 H locs hw49 hP hD hS => ?_)
      have hP : va_P D vwCl [(tx, oTx sg tl 3 0), (sg, aC yC 100 T), (d, oDrv dc (newS (numb T tl 1)) (lN (kL (newS (numb T tl 1)) 0 40))), (dc, aI yI 48 g)] H := hP
      have hD : va_D A [(tx, oTx sg tl 3 0), (sg, aC yC 100 T), (d, oDrv dc (newS (numb T tl 1)) (lN (kL (newS (numb T tl 1)) 0 40))), (dc, aI yI 48 g)] := hD
      refine lv_iconst (v := iI 0) hx hb dX3_readInto_52 (by decide +kernel) ?_
      refine lv_istore_n (lv' := [(3, .int (iI 0)), (2, .int (iI (numb T tl 1))), (0, .ref tx), (1, .ref d)]) hx hb dX3_readInto_53 rfl hl (by decide) rfl (fun ls hl => ?_)
      refine iv_loop (I := fun (qq : Nat × Int × Int × Int × (Int → Int) × (Int → Int)) H locs ls => match qq with | (n, x3, pp, lf, G, gg) => (n ≤ 100) ∧ (x3 = n) ∧ (3 + 2 * (n : Int) ≤ pp ∧ pp ≤ 105) ∧ (Inv G) ∧ (Rc G gg) ∧ (G 0 = numb T tl 1) ∧ (findE T tl = fe T tl (numb T tl 1) (100 - n) pp (-1)) ∧ (ldL T tl (100 - n) pp G lf = ldAll T tl) ∧ va_P D vwCl [(tx, oTx sg tl pp lf), (sg, aC yC 100 T), (d, oDrv dc G (lN (kL (G) 0 40))), (dc, aI yI 48 gg)] H ∧ va_D A [(tx, oTx sg tl pp lf), (sg, aC yC 100 T), (d, oDrv dc G (lN (kL (G) 0 40))), (dc, aI yI 48 gg)] ∧ va_S A s.heap H locs ∧ lv_has ls 4 [(3, .int (iI x3)), (2, .int (iI (numb T tl 1))), (0, .ref tx), (1, .ref d)]) (μ := fun (qq : Nat × Int × Int × Int × (Int → Int) × (Int → Int)) => match qq with | (n, x3, pp, lf, G, gg) => 100 - n) (0, 0, 3, 0, newS (numb T tl 1), g) ?_ ?_
      · exact ⟨by omega, by omega, by omega, inv_newS (by omega), fun i w h0 h1 => by exfalso; have : newS (numb T tl 1) 4 = 0 := rfl; omega, rfl, fe2, rfl, hP, hD, hS, lv_sub hl [0, 1, 2, 3] rfl⟩
      · intro qq H locs ls hI ih54
        obtain ⟨n, x3, pp, lf, G, gg⟩ := qq
        obtain ⟨hn, h3, hp, hI2, hR2, hG0, hfe, hld, hP, hD, hS, hl⟩ := hI
        refine lv_iload_n hx hb dX3_readInto_54 rfl (lv_at hl 0 rfl) ?_
        refine lv_bipush (v := iI 100) hx hb dX3_readInto_55 (by decide +kernel) ?_
        refine iv_icmp_ge (a := x3) (b := 100) (tgt := 87) hx hb (by omega) (by omega) dX3_readInto_57 (by decide) (fun c57 => ?_) (fun c57 => ?_)
        · have nlt : ¬ pp < tl := by omega
          have fe3 : findE T tl = -1 := by rw [hfe]; exact fe_z _ nlt
          have ld3 : ldAll T tl = (G, lf) := by rw [← hld]; exact ld_e nlt
          refine lv_iconst (v := iI 1) hx hb dX3_readInto_87 (by decide +kernel) ?_
          have hP9 : va_P D vwCl [(tx, oTx sg tl pp lf), (sg, aC yC 100 T), (d, oDrv dc G (lN (kL (G) 0 40))), (dc, aI yI 48 gg)] _ := hP.sub [0, 1, 2, 3] rfl
          exact W.zret hx hb hr (by decide +kernel) (fun t ht hW => ⟨⟨iI 1, (G, gg, lN (kL (G) 0 40), pp, lf), rfl, ⟨congrArg iI (show 1 = bI (findE T tl = -1) by exact (bI_t fe3).symm), (by exact fun _ => by rw [ld3]; exact ⟨rfl, hR2, rfl, rfl, hI2⟩), (by exact fun z => absurd fe3 z)⟩, by show va_P D vwCl _ t.heap; rw [ht]; exact hP9⟩, hS.F ht⟩) hS.2.2 dX3_readInto_88
        · refine lv_aload_n hx hb dX3_readInto_60 rfl (lv_at hl 2 rfl) ?_
          refine va_get (D := D) (ci := 3) (v := .int (iI pp)) (C := RX3) (T := TX3) (N := 4) hx hb hts hinX3 hown hK hP 0 rfl rfl 2 (by decide) hf19 (fun _ h9 => h9) rfl dX3_readInto_61 ?_
          refine lv_aload_n hx hb dX3_readInto_64 rfl (lv_at hl 2 rfl) ?_
          refine va_get (D := D) (ci := 3) (v := .int (iI tl)) (C := RX3) (T := TX3) (N := 4) hx hb hts hinX3 hown hK hP 0 rfl rfl 1 (by decide) hf15 (fun _ h9 => h9) rfl dX3_readInto_65 ?_
          refine iv_icmp_ge (a := pp) (b := tl) (tgt := 87) hx hb (by omega) (by omega) dX3_readInto_68 (by decide) (fun c68 => ?_) (fun c68 => ?_)
          · have nlt : ¬ pp < tl := by omega
            have fe3 : findE T tl = -1 := by rw [hfe]; exact fe_z _ nlt
            have ld3 : ldAll T tl = (G, lf) := by rw [← hld]; exact ld_e nlt
            refine lv_iconst (v := iI 1) hx hb dX3_readInto_87 (by decide +kernel) ?_
            have hP9 : va_P D vwCl [(tx, oTx sg tl pp lf), (sg, aC yC 100 T), (d, oDrv dc G (lN (kL (G) 0 40))), (dc, aI yI 48 gg)] _ := hP.sub [0, 1, 2, 3] rfl
            exact W.zret hx hb hr (by decide +kernel) (fun t ht hW => ⟨⟨iI 1, (G, gg, lN (kL (G) 0 40), pp, lf), rfl, ⟨congrArg iI (show 1 = bI (findE T tl = -1) by exact (bI_t fe3).symm), (by exact fun _ => by rw [ld3]; exact ⟨rfl, hR2, rfl, rfl, hI2⟩), (by exact fun z => absurd fe3 z)⟩, by show va_P D vwCl _ t.heap; rw [ht]; exact hP9⟩, hS.F ht⟩) hS.2.2 dX3_readInto_88
          · have hpl := hI2.pl
            have hls := lenAt_s (T := T) (p := pp)
            refine lv_aload_n hx hb dX3_readInto_71 rfl (lv_at hl 2 rfl) ?_
            refine lv_aload_n hx hb dX3_readInto_72 rfl (lv_at hl 3 rfl) ?_
            refine iv_rwV (As := [.ref d]) (rest := []) (C := RX3) (n := 1) ⟨hx, hb, hml, hown, hts⟩ (c_X3_readCommand l D yI yC yD tx sg T tl pp lf d dc G gg (by omega) (by assumption) (by omega) (by omega) (by assumption) (by assumption) _) (cwV 1 hts gX3_readInto_X3_readCommand rfl rfl rfl (by decide +kernel) ⟨Nat.le_of_ble_eq_true rfl, Nat.le_of_ble_eq_true rfl⟩) hK hP hD hS hA [0, 1, 2, 3] (by decide) rfl 0 rfl rfl rfl hl.1 rfl (Nat.le_of_ble_eq_true rfl) dX3_readInto_73 ⟨Nat.zero_le _, Nat.zero_le _⟩ (fun _ => rfl) (fun r73 u73 H locs hw73 hP hD hS => ?_)
            obtain ⟨G973, hu73⟩ : ∃ z, z = u73 := ⟨_, rfl⟩
            subst hu73
            obtain ⟨hr73, hR9_73⟩ := hw73
            subst hr73
            have hP : va_P D vwCl [(tx, oTx sg tl (rcP T tl pp (G 0)) (rcL T tl pp G lf)), (sg, aC yC 100 T), (d, oDrv dc (rcS T tl pp G) (lN (kL (rcS T tl pp G) 0 40))), (dc, aI yI 48 G973)] H := hP
            have hD : va_D A [(tx, oTx sg tl (rcP T tl pp (G 0)) (rcL T tl pp G lf)), (sg, aC yC 100 T), (d, oDrv dc (rcS T tl pp G) (lN (kL (rcS T tl pp G) 0 40))), (dc, aI yI 48 G973)] := hD
            refine iv_ifb_ne (P := wrongC T tl pp (G 0) = -1) (tgt := 81) hx hb dX3_readInto_76 (by decide) (fun c76 => ?_) (fun c76 => ?_)
            · have e1 : rcP T tl pp (G 0) = pp + lenAt T pp := if_pos c76
              have e2 : rcS T tl pp G = ldS T tl pp G := if_pos c76
              have e3 : rcL T tl pp G lf = ldK T tl pp G lf := if_pos c76
              obtain ⟨i1, i2⟩ := inv_ldS hI2 (by omega) c76
              refine iv_inc (lv' := [(3, .int (iI (x3 + 1))), (2, .int (iI (numb T tl 1))), (0, .ref tx), (1, .ref d)]) hx hb dX3_readInto_81 hl (k := 0) rfl (by decide) rfl (fun ls hl => ?_)
              refine lv_goto (tgt := 54) hx hb dX3_readInto_84 (by decide) ?_
              refine ih54 (n + 1, x3 + 1, rcP T tl pp (G 0), rcL T tl pp G lf, rcS T tl pp G, G973) _ _ (by show (100 - (n + 1) : Nat) < 100 - n; omega) ?_
              exact ⟨by omega, by omega, by omega, by rw [e2]; exact i1, hR9_73, by rw [e2, i2]; exact hG0, by rw [hfe, fe_n (k := 100 - n) (k' := 100 - (n + 1)) (p := pp) (by omega) (by omega), e1, ← hG0, c76], by rw [e1, e2, e3, ← ld_s (k := 100 - n) (k' := 100 - (n + 1)) (p := pp) (by omega) (by omega)]; exact hld, hP, hD, hS, lv_sub hl [0, 1, 2, 3] rfl⟩
            · have fe3 : findE T tl = wrongC T tl pp (G 0) := by rw [hfe, fe_n (k := 100 - n) (k' := 99 - n) (p := pp) (by omega) (by omega), ← hG0]; exact fe_x _ c76
              refine lv_iconst (v := iI 0) hx hb dX3_readInto_79 (by decide +kernel) ?_
              have hP9 : va_P D vwCl [(tx, oTx sg tl (rcP T tl pp (G 0)) (rcL T tl pp G lf)), (sg, aC yC 100 T), (d, oDrv dc (rcS T tl pp G) (lN (kL (rcS T tl pp G) 0 40))), (dc, aI yI 48 G973)] _ := hP.sub [0, 1, 2, 3] rfl
              exact W.zret hx hb hr (by decide +kernel) (fun t ht hW => ⟨⟨iI 0, (rcS T tl pp G, G973, lN (kL (rcS T tl pp G) 0 40), rcP T tl pp (G 0), rcL T tl pp G lf), rfl, ⟨congrArg iI (show 0 = bI (findE T tl = -1) by exact (bI_f (by rw [fe3]; exact c76)).symm), (by exact fun z => absurd (fe3.symm.trans z) c76), (by exact fun _ => by rw [fe3]; exact if_neg c76)⟩, by show va_P D vwCl _ t.heap; rw [ht]; exact hP9⟩, hS.F ht⟩) hS.2.2 dX3_readInto_80
    · have w1 := n1.mp (by omega)
      have fe2 : findE T tl = wrongIn T tl 1 8 40 := by rw [fe1]; exact fe_x 100 w1
      refine lv_iconst (v := iI 0) hx hb dX3_readInto_45 (by decide +kernel) ?_
      have hP9 : va_P D vwCl [(tx, oTx sg tl (nmP T tl 1 8 40) 0), (sg, aC yC 100 T), (d, oDrv dc S k), (dc, aI yI 48 g)] _ := hP.sub [0, 1, 2, 3] rfl
      exact W.zret hx hb hr (by decide +kernel) (fun t ht hW => ⟨⟨iI 0, (S, g, k, nmP T tl 1 8 40, 0), rfl, ⟨congrArg iI (show 0 = bI (findE T tl = -1) by exact (bI_f (by omega)).symm), (by exact fun z => by omega), (by exact fun _ => by rw [fe2]; exact n3 w1)⟩, by show va_P D vwCl _ t.heap; rw [ht]; exact hP9⟩, hS.F ht⟩) hS.2.2 dX3_readInto_46
  · have fe0 := findE_0 (T := T) (n := tl) (by omega) c16
    refine lv_iconst (v := iI 0) hx hb dX3_readInto_19 (by decide +kernel) ?_
    have hP9 : va_P D vwCl [(tx, oTx sg tl 0 0), (sg, aC yC 100 T), (d, oDrv dc S k), (dc, aI yI 48 g)] _ := hP.sub [0, 1, 2, 3] rfl
    exact W.zret hx hb hr (by decide +kernel) (fun t ht hW => ⟨⟨iI 0, (S, g, k, 0, 0), rfl, ⟨congrArg iI (show 0 = bI (findE T tl = -1) by exact (bI_f (by omega)).symm), (by exact fun z => by omega), (by exact fun _ => fe0.symm)⟩, by show va_P D vwCl _ t.heap; rw [ht]; exact hP9⟩, hS.F ht⟩) hS.2.2 dX3_readInto_20
