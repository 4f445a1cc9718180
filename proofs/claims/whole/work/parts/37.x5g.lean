set_option maxHeartbeats 4000000 in
set_option maxRecDepth 100000 in
theorem c_X5_bestQuestion (l : Launch) (D : va_G) (yI yC yD : ClassId) (mo : Nat) (th : Int) (re : Int) (tl : Int) (a1 : Nat) (a2 : Nat) (a3 : Nat) (a4 : Nat) (a5 : Nat) (a6 : Nat) (a7 : Nat) (a8 : Nat) (S : Int → Int) (Bd : Int → Int) (hI : Inv S) (sz : Nat) : Met l yX5_bestQuestion wsX5_bestQuestion ({ frames := 3, cells := 0, slots := 0, locals := 74 }) (rwP [.ref mo] D (tyz yI yC yD) [(mo, oMo th a1 a2 a3 re a4 a5 a6 tl a7 a8), (a1, aI yI 96 S), (a7, aI yI 1681 Bd)] sz) (va_Qi (fun (r : Int32) (G9 : (Int → Int)) => r = iI (bestQ S) ∧ True) (fun (G9 : (Int → Int)) (t : State) => va_P D vwCl [(mo, oMo 0 a1 a2 a3 re a4 a5 a6 tl a7 a8), (a1, aI yI 96 S), (a7, aI yI 1681 G9)] t.heap) (va_A [(mo, oMo th a1 a2 a3 re a4 a5 a6 tl a7 a8), (a1, aI yI 96 S), (a7, aI yI 1681 Bd)] sz)) 0 0 (va_A [(mo, oMo th a1 a2 a3 re a4 a5 a6 tl a7 a8), (a1, aI yI 96 S), (a7, aI yI 1681 Bd)] sz) := by
  refine Met.ofW (cc := cX5_bestQuestion) (maxL := 8) (ret := (some .int)) (by decide) rfl ?_
  intro p e s m args below meth c s₁ B hml hv
  obtain ⟨rfl, hsz, hP, hK, hD0⟩ := hv
  have hx := B.exec
  have hb := B.bytes
  have hr := B.returns
  have hts := atoms_spec (ws := wsX5_bestQuestion) B.pre
  have hown : s.vm.findClass RX5 = some m.cls := findClass_of_methodNamed B.named
  have hlocks := B.notSynchronized
  subst hsz
  have hD := hD0.self (sz := s.heap.size)
  generalize hAe : va_A [(mo, oMo th a1 a2 a3 re a4 a5 a6 tl a7 a8), (a1, aI yI 96 S), (a7, aI yI 1681 Bd)] s.heap.size = A at hD ⊢
  have hA : ∀ q : Nat, s.heap.size ≤ q → A q := fun q h => by rw [← hAe]; exact Or.inr h
  have hS : va_S A s.heap s.heap [] := va_S.rf
  have hP : va_P D vwCl [(mo, oMo th a1 a2 a3 re a4 a5 a6 tl a7 a8), (a1, aI yI 96 S), (a7, aI yI 1681 Bd)] s.heap := hP
  have hinX5 : ∀ w ∈ wsX50, w ∈ wsX5_bestQuestion := by decide +kernel
  have hf7 : (Cond.fieldLink RX5 7 "RiddleDriveModel" "state" "[I").before _ s = true := hts _ (by decide +kernel)
  have hf28 : (Cond.fieldLink RX5 28 "RiddleDriveModel" "bounds" "[I").before _ s = true := hts _ (by decide +kernel)
  have hf38 : (Cond.fieldLink RX5 38 "RiddleDriveModel" "thrown" "I").before _ s = true := hts _ (by decide +kernel)
  have hl := lv_entry ([.ref mo]) (n := 8) (Nat.le_of_ble_eq_true rfl)
  rw [lg_entry_eq]
  generalize (lg_sl ([.ref mo]) ++ List.replicate (8 - (lg_sl ([.ref mo])).length) Slot.unset).toArray = ls at hl ⊢
  have hl : lv_has ls 8 [(0, .ref mo)] := hl
  have hpl := hI.pl
  have hna := hI.na
  have hse := hI.se
  have hwi := hI.wi
  have han := hI.anr
  have hb1 := gb_FB hI (-1)
  refine lv_aload_n hx hb dX5_bestQuestion_0 rfl (lv_at hl 0 rfl) ?_
  refine lv_iconst (v := iI 0) hx hb dX5_bestQuestion_1 (by decide +kernel) ?_
  refine va_put (D := D) (ci := 5) (v := .int (iI 0)) (ty := .int) (C := RX5) (T := TX5) (N := 11) hx hb hts hinX5 tyX5 tyX5_ok nmX5 hown hK hP hD hS 0 rfl rfl 0 (by decide) hf38 (fun _ h9 => h9) rfl (by decide +kernel) rfl rfl (Nat.le_of_ble_eq_true rfl) dX5_bestQuestion_2 (fun H locs hP hD hS => ?_)
  have hP : va_P D vwCl [(mo, oMo 0 a1 a2 a3 re a4 a5 a6 tl a7 a8), (a1, aI yI 96 S), (a7, aI yI 1681 Bd)] H := hP
  have hD : va_D A [(mo, oMo 0 a1 a2 a3 re a4 a5 a6 tl a7 a8), (a1, aI yI 96 S), (a7, aI yI 1681 Bd)] := hD
  refine lv_aload_n hx hb dX5_bestQuestion_5 rfl (lv_at hl 0 rfl) ?_
  refine lv_iconst (v := iI (-1)) hx hb dX5_bestQuestion_6 (by decide +kernel) ?_
  refine iv_rwVv (As := [.int (iI (-1))]) (rest := []) (C := RX5) (n := 1) ⟨hx, hb, hml, hown, hts⟩ (c_X5_findBounds l D yI yC yD mo 0 re tl a1 a2 a3 a4 a5 a6 a7 a8 S Bd (-1) (by assumption) (by omega) _) (cwV 1 hts gX5_bestQuestion_X5_findBounds rfl rfl rfl (by decide +kernel) ⟨Nat.le_of_ble_eq_true rfl, Nat.le_of_ble_eq_true rfl⟩) hK hP hD hS hA [0, 1, 2] (by decide) rfl 0 rfl rfl rfl hl.1 rfl (Nat.le_of_ble_eq_true rfl) dX5_bestQuestion_7 ⟨Nat.zero_le _, Nat.zero_le _⟩ (fun _ => rfl) (fun u7 H locs hw7 hP hD hS => ?_)
  have hP : va_P D vwCl [(mo, oMo 0 a1 a2 a3 re a4 a5 a6 tl a7 a8), (a1, aI yI 96 S), (a7, aI yI 1681 (FB S (-1)))] H := hP
  have hD : va_D A [(mo, oMo 0 a1 a2 a3 re a4 a5 a6 tl a7 a8), (a1, aI yI 96 S), (a7, aI yI 1681 (FB S (-1)))] := hD
  refine lv_iconst (v := iI (-1)) hx hb dX5_bestQuestion_10 (by decide +kernel) ?_
  refine lv_istore_n (lv' := [(1, .int (iI (-1))), (0, .ref mo)]) hx hb dX5_bestQuestion_11 rfl hl (by decide) rfl (fun ls hl => ?_)
  refine lv_iconst (v := iI 0) hx hb dX5_bestQuestion_12 (by decide +kernel) ?_
  refine lv_istore_n (lv' := [(2, .int (iI 0)), (1, .int (iI (-1))), (0, .ref mo)]) hx hb dX5_bestQuestion_13 rfl hl (by decide) rfl (fun ls hl => ?_)
  refine lv_iconst (v := iI 0) hx hb dX5_bestQuestion_14 (by decide +kernel) ?_
  refine lv_istore_n (lv' := [(3, .int (iI 0)), (2, .int (iI 0)), (1, .int (iI (-1))), (0, .ref mo)]) hx hb dX5_bestQuestion_15 rfl hl (by decide) rfl (fun ls hl => ?_)
  refine lv_iconst (v := iI 0) hx hb dX5_bestQuestion_16 (by decide +kernel) ?_
  refine lv_istore (lv' := [(4, .int (iI 0)), (3, .int (iI 0)), (2, .int (iI 0)), (1, .int (iI (-1))), (0, .ref mo)]) hx hb dX5_bestQuestion_17 hl (by decide) rfl (fun ls hl => ?_)
  refine iv_loop (I := fun (qq : Nat × Int × Int × Int × Int) H locs ls => match qq with | (i, x1, x2, x3, x4) => ((i : Int) ≤ S 0) ∧ (x4 = i) ∧ (bqO S (FB S (-1)) i = (x1, x2, x3)) ∧ (0 ≤ x2 ∧ x2 ≤ 5000 ∧ 0 ≤ x3 ∧ x3 ≤ 100) ∧ va_P D vwCl [(mo, oMo 0 a1 a2 a3 re a4 a5 a6 tl a7 a8), (a1, aI yI 96 S), (a7, aI yI 1681 (FB S (-1)))] H ∧ va_D A [(mo, oMo 0 a1 a2 a3 re a4 a5 a6 tl a7 a8), (a1, aI yI 96 S), (a7, aI yI 1681 (FB S (-1)))] ∧ va_S A s.heap H locs ∧ lv_has ls 8 [(4, .int (iI x4)), (3, .int (iI x3)), (2, .int (iI x2)), (1, .int (iI x1)), (0, .ref mo)]) (μ := fun (qq : Nat × Int × Int × Int × Int) => match qq with | (i, x1, x2, x3, x4) => (S 0).toNat - i) (0, -1, 0, 0, 0) ?_ ?_
  · exact ⟨by omega, by omega, rfl, by omega, hP, hD, hS, lv_sub hl [0, 1, 2, 3, 4] rfl⟩
  · intro qq H locs ls hI ih19
    obtain ⟨i, x1, x2, x3, x4⟩ := qq
    obtain ⟨hi, h4, hq, hbb, hP, hD, hS, hl⟩ := hI
    refine lv_iload hx hb dX5_bestQuestion_19 (lv_at hl 0 rfl) ?_
    refine lv_aload_n hx hb dX5_bestQuestion_21 rfl (lv_at hl 4 rfl) ?_
    refine va_get (D := D) (ci := 5) (v := .ref a1) (C := RX5) (T := TX5) (N := 11) hx hb hts hinX5 hown hK hP 0 rfl rfl 1 (by decide) hf7 (fun _ h9 => h9) rfl dX5_bestQuestion_22 ?_
    refine lv_iconst (v := iI 0) hx hb dX5_bestQuestion_25 (by decide +kernel) ?_
    refine iv_ald hx hb hK hP 1 0 rfl rfl (z := 0) (by omega) (by omega) (by omega) dX5_bestQuestion_26 ?_
    refine iv_icmp_ge (a := x4) (b := S 0) (tgt := 181) hx hb (by omega) (by omega) dX5_bestQuestion_27 (by decide) (fun c27 => ?_) (fun c27 => ?_)
    · refine lv_iload_n hx hb dX5_bestQuestion_181 rfl (lv_at hl 3 rfl) ?_
      have hP9 : va_P D vwCl [(mo, oMo 0 a1 a2 a3 re a4 a5 a6 tl a7 a8), (a1, aI yI 96 S), (a7, aI yI 1681 (FB S (-1)))] _ := hP.sub [0, 1, 2] rfl
      exact W.iret hx hb hr (fun t ht hW => ⟨⟨iI x1, (FB S (-1)), rfl, ⟨congrArg iI (show x1 = bestQ S by unfold bestQ; rw [show (S 0).toNat = i by omega, hq]), trivial⟩, by show va_P D vwCl _ t.heap; rw [ht]; exact hP9⟩, hS.F ht⟩) hS.2.2 dX5_bestQuestion_182
    · refine lv_iload hx hb dX5_bestQuestion_30 (lv_at hl 0 rfl) ?_
      refine lv_istore (lv' := [(5, .int (iI x4)), (4, .int (iI x4)), (3, .int (iI x3)), (2, .int (iI x2)), (1, .int (iI x1)), (0, .ref mo)]) hx hb dX5_bestQuestion_32 hl (by decide) rfl (fun ls hl => ?_)
      refine iv_loop (I := fun (qq : Nat × Int × Int × Int × Int) H locs ls => match qq with | (j, y1, y2, y3, x5) => ((j : Int) ≤ S 0 - i) ∧ (x5 = x4 + j) ∧ (bqI S (FB S (-1)) i (x1, x2, x3) j = (y1, y2, y3)) ∧ (0 ≤ y2 ∧ y2 ≤ 5000 ∧ 0 ≤ y3 ∧ y3 ≤ 100) ∧ va_P D vwCl [(mo, oMo 0 a1 a2 a3 re a4 a5 a6 tl a7 a8), (a1, aI yI 96 S), (a7, aI yI 1681 (FB S (-1)))] H ∧ va_D A [(mo, oMo 0 a1 a2 a3 re a4 a5 a6 tl a7 a8), (a1, aI yI 96 S), (a7, aI yI 1681 (FB S (-1)))] ∧ va_S A s.heap H locs ∧ lv_has ls 8 [(5, .int (iI x5)), (4, .int (iI x4)), (3, .int (iI y3)), (2, .int (iI y2)), (1, .int (iI y1)), (0, .ref mo)]) (μ := fun (qq : Nat × Int × Int × Int × Int) => match qq with | (j, y1, y2, y3, x5) => (S 0).toNat - j) (0, x1, x2, x3, x4) ?_ ?_
      · exact ⟨by omega, by omega, rfl, by omega, hP, hD, hS, lv_sub hl [0, 1, 2, 3, 4, 5] rfl⟩
      · intro qq H locs ls hI ih34
        obtain ⟨j, y1, y2, y3, x5⟩ := qq
        obtain ⟨hj, h5, hq2, hb2, hP, hD, hS, hl⟩ := hI
        refine lv_iload hx hb dX5_bestQuestion_34 (lv_at hl 0 rfl) ?_
        refine lv_aload_n hx hb dX5_bestQuestion_36 rfl (lv_at hl 5 rfl) ?_
        refine va_get (D := D) (ci := 5) (v := .ref a1) (C := RX5) (T := TX5) (N := 11) hx hb hts hinX5 hown hK hP 0 rfl rfl 1 (by decide) hf7 (fun _ h9 => h9) rfl dX5_bestQuestion_37 ?_
        refine lv_iconst (v := iI 0) hx hb dX5_bestQuestion_40 (by decide +kernel) ?_
        refine iv_ald hx hb hK hP 1 0 rfl rfl (z := 0) (by omega) (by omega) (by omega) dX5_bestQuestion_41 ?_
        refine iv_icmp_ge (a := x5) (b := S 0) (tgt := 175) hx hb (by omega) (by omega) dX5_bestQuestion_42 (by decide) (fun c42 => ?_) (fun c42 => ?_)
        · refine iv_inc (lv' := [(4, .int (iI (x4 + 1))), (5, .int (iI x5)), (3, .int (iI y3)), (2, .int (iI y2)), (1, .int (iI y1)), (0, .ref mo)]) hx hb dX5_bestQuestion_175 hl (k := 1) rfl (by decide) rfl (fun ls hl => ?_)
          refine lv_goto (tgt := 19) hx hb dX5_bestQuestion_178 (by decide) ?_
          refine ih19 (i + 1, y1, y2, y3, x4 + 1) _ _ (by show ((S 0).toNat - (i + 1) : Nat) < (S 0).toNat - i; omega) ?_
          exact ⟨by omega, by omega, by show bqI S _ _ (bqO S _ i) (S 0 - i).toNat = _; rw [hq, show (S 0 - (i : Int)).toNat = j by omega]; exact hq2, by omega, hP, hD, hS, lv_sub hl [0, 2, 3, 4, 5] rfl⟩
        · have b1 := mostI_r hb1 (a := x4) (b := x5) (by omega)
          have b2 := leastI_r hb1 (a := x4) (b := x5) (by omega)
          have b3 := costOf_r hI (a := x4) (b := x5) (by omega)
          refine lv_aload_n hx hb dX5_bestQuestion_45 rfl (lv_at hl 5 rfl) ?_
          refine lv_iload hx hb dX5_bestQuestion_46 (lv_at hl 1 rfl) ?_
          refine lv_iload hx hb dX5_bestQuestion_48 (lv_at hl 0 rfl) ?_
          refine iv_roV (As := [.int (iI x4), .int (iI x5)]) (rest := []) (C := RX5) (n := 2) ⟨hx, hb, hml, hown, hts⟩ (c_X5_isWide l D yI yC yD mo 0 re tl a1 a2 a3 a4 a5 a6 a7 a8 S x4 x5 (by omega) (by omega)) (cwV 2 hts gX5_bestQuestion_X5_isWide rfl rfl rfl (by decide +kernel) ⟨Nat.le_of_ble_eq_true rfl, Nat.le_of_ble_eq_true rfl⟩) hK hP [0, 1] rfl 0 rfl rfl rfl hl.1 rfl (Nat.le_of_ble_eq_true rfl) dX5_bestQuestion_50 ⟨Nat.zero_le _, Nat.zero_le _⟩ ?_
          refine iv_ifb_eq (P := S 1 ≤ x5 - x4 + 1) (tgt := 82) hx hb dX5_bestQuestion_53 (by decide) (fun c53 => ?_) (fun c53 => ?_)
          · refine lv_iconst (v := iI 0) hx hb dX5_bestQuestion_82 (by decide +kernel) ?_
            refine lv_istore (lv' := [(6, .int (iI 0)), (5, .int (iI x5)), (4, .int (iI x4)), (3, .int (iI y3)), (2, .int (iI y2)), (1, .int (iI y1)), (0, .ref mo)]) hx hb dX5_bestQuestion_83 hl (by decide) rfl (fun ls hl => ?_)
            refine lv_iload hx hb dX5_bestQuestion_85 (lv_at hl 0 rfl) ?_
            refine lv_iload_n hx hb dX5_bestQuestion_87 rfl (lv_at hl 4 rfl) ?_
            refine iv_icmp_gt (a := 0) (b := y2) (tgt := 114) hx hb (by omega) (by omega) dX5_bestQuestion_88 (by decide) (fun c88 => ?_) (fun c88 => ?_)
            · refine lv_iconst (v := iI 1) hx hb dX5_bestQuestion_114 (by decide +kernel) ?_
              refine lv_goto (tgt := 119) hx hb dX5_bestQuestion_115 (by decide) ?_
              refine lv_istore (lv' := [(7, .int (iI 1)), (6, .int (iI 0)), (5, .int (iI x5)), (4, .int (iI x4)), (3, .int (iI y3)), (2, .int (iI y2)), (1, .int (iI y1)), (0, .ref mo)]) hx hb dX5_bestQuestion_119 hl (by decide) rfl (fun ls hl => ?_)
              refine lv_iload hx hb dX5_bestQuestion_121 (lv_at hl 0 rfl) ?_
              refine iv_if_eq (a := 1) (tgt := 137) hx hb (by omega) dX5_bestQuestion_123 (by decide) (fun c123 => ?_) (fun c123 => ?_)
              · exact absurd c123 (by omega)
              · refine lv_bipush (v := iI 100) hx hb dX5_bestQuestion_126 (by decide +kernel) ?_
                refine lv_iload hx hb dX5_bestQuestion_128 (lv_at hl 3 rfl) ?_
                refine iv_mul hx hb dX5_bestQuestion_130 ?_
                refine lv_iload hx hb dX5_bestQuestion_131 (lv_at hl 2 rfl) ?_
                refine iv_add hx hb dX5_bestQuestion_133 ?_
                refine lv_goto (tgt := 138) hx hb dX5_bestQuestion_134 (by decide) ?_
                refine lv_istore_n (lv' := [(1, .int (iI (100 * x4 + x5))), (7, .int (iI 1)), (6, .int (iI 0)), (5, .int (iI x5)), (4, .int (iI x4)), (3, .int (iI y3)), (2, .int (iI y2)), (0, .ref mo)]) hx hb dX5_bestQuestion_138 rfl hl (by decide) rfl (fun ls hl => ?_)
                refine lv_iload hx hb dX5_bestQuestion_139 (lv_at hl 1 rfl) ?_
                refine iv_if_eq (a := 1) (tgt := 149) hx hb (by omega) dX5_bestQuestion_141 (by decide) (fun c141 => ?_) (fun c141 => ?_)
                · exact absurd c141 (by omega)
                · refine lv_iload hx hb dX5_bestQuestion_144 (lv_at hl 2 rfl) ?_
                  refine lv_goto (tgt := 150) hx hb dX5_bestQuestion_146 (by decide) ?_
                  refine lv_istore_n (lv' := [(2, .int (iI 0)), (1, .int (iI (100 * x4 + x5))), (7, .int (iI 1)), (6, .int (iI 0)), (5, .int (iI x5)), (4, .int (iI x4)), (3, .int (iI y3)), (0, .ref mo)]) hx hb dX5_bestQuestion_150 rfl hl (by decide) rfl (fun ls hl => ?_)
                  refine lv_iload hx hb dX5_bestQuestion_151 (lv_at hl 2 rfl) ?_
                  refine iv_if_eq (a := 1) (tgt := 167) hx hb (by omega) dX5_bestQuestion_153 (by decide) (fun c153 => ?_) (fun c153 => ?_)
                  · exact absurd c153 (by omega)
                  · refine lv_aload_n hx hb dX5_bestQuestion_156 rfl (lv_at hl 7 rfl) ?_
                    refine lv_iload hx hb dX5_bestQuestion_157 (lv_at hl 5 rfl) ?_
                    refine lv_iload hx hb dX5_bestQuestion_159 (lv_at hl 4 rfl) ?_
                    refine iv_roV (As := [.int (iI x4), .int (iI x5)]) (rest := []) (C := RX5) (n := 2) ⟨hx, hb, hml, hown, hts⟩ (c_X5_costOf l D yI yC yD mo 0 re tl a1 a2 a3 a4 a5 a6 a7 a8 S x4 x5 (by omega) (by omega) (by assumption)) (cwV 2 hts gX5_bestQuestion_X5_costOf rfl rfl rfl (by decide +kernel) ⟨Nat.le_of_ble_eq_true rfl, Nat.le_of_ble_eq_true rfl⟩) hK hP [0, 1] rfl 0 rfl rfl rfl hl.1 rfl (Nat.le_of_ble_eq_true rfl) dX5_bestQuestion_161 ⟨Nat.zero_le _, Nat.zero_le _⟩ ?_
                    refine lv_goto (tgt := 168) hx hb dX5_bestQuestion_164 (by decide) ?_
                    refine lv_istore_n (lv' := [(3, .int (iI (costOf S x4 x5))), (2, .int (iI 0)), (1, .int (iI (100 * x4 + x5))), (7, .int (iI 1)), (6, .int (iI 0)), (5, .int (iI x5)), (4, .int (iI x4)), (0, .ref mo)]) hx hb dX5_bestQuestion_168 rfl hl (by decide) rfl (fun ls hl => ?_)
                    refine iv_inc (lv' := [(5, .int (iI (x5 + 1))), (3, .int (iI (costOf S x4 x5))), (2, .int (iI 0)), (1, .int (iI (100 * x4 + x5))), (7, .int (iI 1)), (6, .int (iI 0)), (4, .int (iI x4)), (0, .ref mo)]) hx hb dX5_bestQuestion_169 hl (k := 5) rfl (by decide) rfl (fun ls hl => ?_)
                    refine lv_goto (tgt := 34) hx hb dX5_bestQuestion_172 (by decide) ?_
                    refine ih34 (j + 1, 100 * x4 + x5, 0, costOf S x4 x5, x5 + 1) _ _ (by show ((S 0).toNat - (j + 1) : Nat) < (S 0).toNat - j; omega) ?_
                    exact ⟨by omega, by omega, by (first | (exfalso; omega; done) | skip); try (subst h4; subst h5; show bqS S (FB S (-1)) _ _ (bqI S (FB S (-1)) _ _ _) = _; rw [hq2]; first | exact bqS_t (by unfold bqB; first | rw [if_pos (by omega)] | rw [if_neg (by omega)]) (by omega) | exact bqS_f (by unfold bqB; first | rw [if_pos (by omega)] | rw [if_neg (by omega)]) (by omega)), by omega, hP, hD, hS, lv_sub hl [0, 6, 1, 2, 3, 7] rfl⟩
            · refine lv_iload hx hb dX5_bestQuestion_91 (lv_at hl 0 rfl) ?_
              refine iv_if_le (a := 0) (tgt := 118) hx hb (by omega) dX5_bestQuestion_93 (by decide) (fun c93 => ?_) (fun c93 => ?_)
              · refine lv_iconst (v := iI 0) hx hb dX5_bestQuestion_118 (by decide +kernel) ?_
                refine lv_istore (lv' := [(7, .int (iI 0)), (6, .int (iI 0)), (5, .int (iI x5)), (4, .int (iI x4)), (3, .int (iI y3)), (2, .int (iI y2)), (1, .int (iI y1)), (0, .ref mo)]) hx hb dX5_bestQuestion_119 hl (by decide) rfl (fun ls hl => ?_)
                refine lv_iload hx hb dX5_bestQuestion_121 (lv_at hl 0 rfl) ?_
                refine iv_if_eq (a := 0) (tgt := 137) hx hb (by omega) dX5_bestQuestion_123 (by decide) (fun c123 => ?_) (fun c123 => ?_)
                · refine lv_iload_n hx hb dX5_bestQuestion_137 rfl (lv_at hl 6 rfl) ?_
                  refine lv_istore_n (lv' := [(1, .int (iI y1)), (7, .int (iI 0)), (6, .int (iI 0)), (5, .int (iI x5)), (4, .int (iI x4)), (3, .int (iI y3)), (2, .int (iI y2)), (0, .ref mo)]) hx hb dX5_bestQuestion_138 rfl hl (by decide) rfl (fun ls hl => ?_)
                  refine lv_iload hx hb dX5_bestQuestion_139 (lv_at hl 1 rfl) ?_
                  refine iv_if_eq (a := 0) (tgt := 149) hx hb (by omega) dX5_bestQuestion_141 (by decide) (fun c141 => ?_) (fun c141 => ?_)
                  · refine lv_iload_n hx hb dX5_bestQuestion_149 rfl (lv_at hl 6 rfl) ?_
                    refine lv_istore_n (lv' := [(2, .int (iI y2)), (1, .int (iI y1)), (7, .int (iI 0)), (6, .int (iI 0)), (5, .int (iI x5)), (4, .int (iI x4)), (3, .int (iI y3)), (0, .ref mo)]) hx hb dX5_bestQuestion_150 rfl hl (by decide) rfl (fun ls hl => ?_)
                    refine lv_iload hx hb dX5_bestQuestion_151 (lv_at hl 2 rfl) ?_
                    refine iv_if_eq (a := 0) (tgt := 167) hx hb (by omega) dX5_bestQuestion_153 (by decide) (fun c153 => ?_) (fun c153 => ?_)
                    · refine lv_iload_n hx hb dX5_bestQuestion_167 rfl (lv_at hl 6 rfl) ?_
                      refine lv_istore_n (lv' := [(3, .int (iI y3)), (2, .int (iI y2)), (1, .int (iI y1)), (7, .int (iI 0)), (6, .int (iI 0)), (5, .int (iI x5)), (4, .int (iI x4)), (0, .ref mo)]) hx hb dX5_bestQuestion_168 rfl hl (by decide) rfl (fun ls hl => ?_)
                      refine iv_inc (lv' := [(5, .int (iI (x5 + 1))), (3, .int (iI y3)), (2, .int (iI y2)), (1, .int (iI y1)), (7, .int (iI 0)), (6, .int (iI 0)), (4, .int (iI x4)), (0, .ref mo)]) hx hb dX5_bestQuestion_169 hl (k := 5) rfl (by decide) rfl (fun ls hl => ?_)
                      refine lv_goto (tgt := 34) hx hb dX5_bestQuestion_172 (by decide) ?_
                      refine ih34 (j + 1, y1, y2, y3, x5 + 1) _ _ (by show ((S 0).toNat - (j + 1) : Nat) < (S 0).toNat - j; omega) ?_
                      exact ⟨by omega, by omega, by (first | (exfalso; omega; done) | skip); try (subst h4; subst h5; show bqS S (FB S (-1)) _ _ (bqI S (FB S (-1)) _ _ _) = _; rw [hq2]; first | exact bqS_t (by unfold bqB; first | rw [if_pos (by omega)] | rw [if_neg (by omega)]) (by omega) | exact bqS_f (by unfold bqB; first | rw [if_pos (by omega)] | rw [if_neg (by omega)]) (by omega)), by omega, hP, hD, hS, lv_sub hl [0, 6, 1, 2, 3, 7] rfl⟩
                    · exact absurd c153 (by omega)
                  · exact absurd c141 (by omega)
                · exact absurd c123 (by omega)
              · exact absurd c93 (by omega)
          · refine lv_aload_n hx hb dX5_bestQuestion_56 rfl (lv_at hl 5 rfl) ?_
            refine va_get (D := D) (ci := 5) (v := .ref a7) (C := RX5) (T := TX5) (N := 11) hx hb hts hinX5 hown hK hP 0 rfl rfl 9 (by decide) hf28 (fun _ h9 => h9) rfl dX5_bestQuestion_57 ?_
            refine lv_iload hx hb dX5_bestQuestion_60 (lv_at hl 1 rfl) ?_
            refine lv_iload hx hb dX5_bestQuestion_62 (lv_at hl 0 rfl) ?_
            refine iv_roS (As := [.ref a7, .int (iI x4), .int (iI x5)]) (rest := []) (n := 3) ⟨hx, hb, hml, hown, hts⟩ (c_X5_mostIn l D yI yC yD a7 (FB S (-1)) x4 x5 (by omega)) (va_cwS 3 hts gX5_bestQuestion_X5_mostIn rfl rfl rfl (by decide +kernel) ⟨Nat.le_of_ble_eq_true rfl, Nat.le_of_ble_eq_true rfl⟩) hK hP [2] rfl rfl hl.1 rfl (Nat.le_of_ble_eq_true rfl) dX5_bestQuestion_64 ⟨Nat.zero_le _, Nat.zero_le _⟩ ?_
            refine lv_aload_n hx hb dX5_bestQuestion_67 rfl (lv_at hl 5 rfl) ?_
            refine va_get (D := D) (ci := 5) (v := .ref a7) (C := RX5) (T := TX5) (N := 11) hx hb hts hinX5 hown hK hP 0 rfl rfl 9 (by decide) hf28 (fun _ h9 => h9) rfl dX5_bestQuestion_68 ?_
            refine lv_iload hx hb dX5_bestQuestion_71 (lv_at hl 1 rfl) ?_
            refine lv_iload hx hb dX5_bestQuestion_73 (lv_at hl 0 rfl) ?_
            refine iv_roS (As := [.ref a7, .int (iI x4), .int (iI x5)]) (rest := [.int (iI (mostI (FB S (-1)) x4 x5))]) (n := 3) ⟨hx, hb, hml, hown, hts⟩ (c_X5_leastIn l D yI yC yD a7 (FB S (-1)) x4 x5 (by omega)) (va_cwS 3 hts gX5_bestQuestion_X5_leastIn rfl rfl rfl (by decide +kernel) ⟨Nat.le_of_ble_eq_true rfl, Nat.le_of_ble_eq_true rfl⟩) hK hP [2] rfl rfl hl.1 rfl (Nat.le_of_ble_eq_true rfl) dX5_bestQuestion_75 ⟨Nat.zero_le _, Nat.zero_le _⟩ ?_
            refine iv_sub hx hb dX5_bestQuestion_78 ?_
            refine lv_goto (tgt := 83) hx hb dX5_bestQuestion_79 (by decide) ?_
            refine lv_istore (lv' := [(6, .int (iI (mostI (FB S (-1)) x4 x5 - (leastI (FB S (-1)) x4 x5)))), (5, .int (iI x5)), (4, .int (iI x4)), (3, .int (iI y3)), (2, .int (iI y2)), (1, .int (iI y1)), (0, .ref mo)]) hx hb dX5_bestQuestion_83 hl (by decide) rfl (fun ls hl => ?_)
            refine lv_iload hx hb dX5_bestQuestion_85 (lv_at hl 0 rfl) ?_
            refine lv_iload_n hx hb dX5_bestQuestion_87 rfl (lv_at hl 4 rfl) ?_
            refine iv_icmp_gt (a := mostI (FB S (-1)) x4 x5 - (leastI (FB S (-1)) x4 x5)) (b := y2) (tgt := 114) hx hb (by omega) (by omega) dX5_bestQuestion_88 (by decide) (fun c88 => ?_) (fun c88 => ?_)
            · refine lv_iconst (v := iI 1) hx hb dX5_bestQuestion_114 (by decide +kernel) ?_
              refine lv_goto (tgt := 119) hx hb dX5_bestQuestion_115 (by decide) ?_
              refine lv_istore (lv' := [(7, .int (iI 1)), (6, .int (iI (mostI (FB S (-1)) x4 x5 - (leastI (FB S (-1)) x4 x5)))), (5, .int (iI x5)), (4, .int (iI x4)), (3, .int (iI y3)), (2, .int (iI y2)), (1, .int (iI y1)), (0, .ref mo)]) hx hb dX5_bestQuestion_119 hl (by decide) rfl (fun ls hl => ?_)
              refine lv_iload hx hb dX5_bestQuestion_121 (lv_at hl 0 rfl) ?_
              refine iv_if_eq (a := 1) (tgt := 137) hx hb (by omega) dX5_bestQuestion_123 (by decide) (fun c123 => ?_) (fun c123 => ?_)
              · exact absurd c123 (by omega)
              · refine lv_bipush (v := iI 100) hx hb dX5_bestQuestion_126 (by decide +kernel) ?_
                refine lv_iload hx hb dX5_bestQuestion_128 (lv_at hl 3 rfl) ?_
                refine iv_mul hx hb dX5_bestQuestion_130 ?_
                refine lv_iload hx hb dX5_bestQuestion_131 (lv_at hl 2 rfl) ?_
                refine iv_add hx hb dX5_bestQuestion_133 ?_
                refine lv_goto (tgt := 138) hx hb dX5_bestQuestion_134 (by decide) ?_
                refine lv_istore_n (lv' := [(1, .int (iI (100 * x4 + x5))), (7, .int (iI 1)), (6, .int (iI (mostI (FB S (-1)) x4 x5 - (leastI (FB S (-1)) x4 x5)))), (5, .int (iI x5)), (4, .int (iI x4)), (3, .int (iI y3)), (2, .int (iI y2)), (0, .ref mo)]) hx hb dX5_bestQuestion_138 rfl hl (by decide) rfl (fun ls hl => ?_)
                refine lv_iload hx hb dX5_bestQuestion_139 (lv_at hl 1 rfl) ?_
                refine iv_if_eq (a := 1) (tgt := 149) hx hb (by omega) dX5_bestQuestion_141 (by decide) (fun c141 => ?_) (fun c141 => ?_)
                · exact absurd c141 (by omega)
                · refine lv_iload hx hb dX5_bestQuestion_144 (lv_at hl 2 rfl) ?_
                  refine lv_goto (tgt := 150) hx hb dX5_bestQuestion_146 (by decide) ?_
                  refine lv_istore_n (lv' := [(2, .int (iI (mostI (FB S (-1)) x4 x5 - (leastI (FB S (-1)) x4 x5)))), (1, .int (iI (100 * x4 + x5))), (7, .int (iI 1)), (6, .int (iI (mostI (FB S (-1)) x4 x5 - (leastI (FB S (-1)) x4 x5)))), (5, .int (iI x5)), (4, .int (iI x4)), (3, .int (iI y3)), (0, .ref mo)]) hx hb dX5_bestQuestion_150 rfl hl (by decide) rfl (fun ls hl => ?_)
                  refine lv_iload hx hb dX5_bestQuestion_151 (lv_at hl 2 rfl) ?_
                  refine iv_if_eq (a := 1) (tgt := 167) hx hb (by omega) dX5_bestQuestion_153 (by decide) (fun c153 => ?_) (fun c153 => ?_)
                  · exact absurd c153 (by omega)
                  · refine lv_aload_n hx hb dX5_bestQuestion_156 rfl (lv_at hl 7 rfl) ?_
                    refine lv_iload hx hb dX5_bestQuestion_157 (lv_at hl 5 rfl) ?_
                    refine lv_iload hx hb dX5_bestQuestion_159 (lv_at hl 4 rfl) ?_
                    refine iv_roV (As := [.int (iI x4), .int (iI x5)]) (rest := []) (C := RX5) (n := 2) ⟨hx, hb, hml, hown, hts⟩ (c_X5_costOf l D yI yC yD mo 0 re tl a1 a2 a3 a4 a5 a6 a7 a8 S x4 x5 (by omega) (by omega) (by assumption)) (cwV 2 hts gX5_bestQuestion_X5_costOf rfl rfl rfl (by decide +kernel) ⟨Nat.le_of_ble_eq_true rfl, Nat.le_of_ble_eq_true rfl⟩) hK hP [0, 1] rfl 0 rfl rfl rfl hl.1 rfl (Nat.le_of_ble_eq_true rfl) dX5_bestQuestion_161 ⟨Nat.zero_le _, Nat.zero_le _⟩ ?_
                    refine lv_goto (tgt := 168) hx hb dX5_bestQuestion_164 (by decide) ?_
                    refine lv_istore_n (lv' := [(3, .int (iI (costOf S x4 x5))), (2, .int (iI (mostI (FB S (-1)) x4 x5 - (leastI (FB S (-1)) x4 x5)))), (1, .int (iI (100 * x4 + x5))), (7, .int (iI 1)), (6, .int (iI (mostI (FB S (-1)) x4 x5 - (leastI (FB S (-1)) x4 x5)))), (5, .int (iI x5)), (4, .int (iI x4)), (0, .ref mo)]) hx hb dX5_bestQuestion_168 rfl hl (by decide) rfl (fun ls hl => ?_)
                    refine iv_inc (lv' := [(5, .int (iI (x5 + 1))), (3, .int (iI (costOf S x4 x5))), (2, .int (iI (mostI (FB S (-1)) x4 x5 - (leastI (FB S (-1)) x4 x5)))), (1, .int (iI (100 * x4 + x5))), (7, .int (iI 1)), (6, .int (iI (mostI (FB S (-1)) x4 x5 - (leastI (FB S (-1)) x4 x5)))), (4, .int (iI x4)), (0, .ref mo)]) hx hb dX5_bestQuestion_169 hl (k := 5) rfl (by decide) rfl (fun ls hl => ?_)
                    refine lv_goto (tgt := 34) hx hb dX5_bestQuestion_172 (by decide) ?_
                    refine ih34 (j + 1, 100 * x4 + x5, mostI (FB S (-1)) x4 x5 - (leastI (FB S (-1)) x4 x5), costOf S x4 x5, x5 + 1) _ _ (by show ((S 0).toNat - (j + 1) : Nat) < (S 0).toNat - j; omega) ?_
                    exact ⟨by omega, by omega, by (first | (exfalso; omega; done) | skip); try (subst h4; subst h5; show bqS S (FB S (-1)) _ _ (bqI S (FB S (-1)) _ _ _) = _; rw [hq2]; first | exact bqS_t (by unfold bqB; first | rw [if_pos (by omega)] | rw [if_neg (by omega)]) (by omega) | exact bqS_f (by unfold bqB; first | rw [if_pos (by omega)] | rw [if_neg (by omega)]) (by omega)), by omega, hP, hD, hS, lv_sub hl [0, 6, 1, 2, 3, 7] rfl⟩
            · refine lv_iload hx hb dX5_bestQuestion_91 (lv_at hl 0 rfl) ?_
              refine iv_if_le (a := mostI (FB S (-1)) x4 x5 - (leastI (FB S (-1)) x4 x5)) (tgt := 118) hx hb (by omega) dX5_bestQuestion_93 (by decide) (fun c93 => ?_) (fun c93 => ?_)
              · refine lv_iconst (v := iI 0) hx hb dX5_bestQuestion_118 (by decide +kernel) ?_
                refine lv_istore (lv' := [(7, .int (iI 0)), (6, .int (iI (mostI (FB S (-1)) x4 x5 - (leastI (FB S (-1)) x4 x5)))), (5, .int (iI x5)), (4, .int (iI x4)), (3, .int (iI y3)), (2, .int (iI y2)), (1, .int (iI y1)), (0, .ref mo)]) hx hb dX5_bestQuestion_119 hl (by decide) rfl (fun ls hl => ?_)
                refine lv_iload hx hb dX5_bestQuestion_121 (lv_at hl 0 rfl) ?_
                refine iv_if_eq (a := 0) (tgt := 137) hx hb (by omega) dX5_bestQuestion_123 (by decide) (fun c123 => ?_) (fun c123 => ?_)
                · refine lv_iload_n hx hb dX5_bestQuestion_137 rfl (lv_at hl 6 rfl) ?_
                  refine lv_istore_n (lv' := [(1, .int (iI y1)), (7, .int (iI 0)), (6, .int (iI (mostI (FB S (-1)) x4 x5 - (leastI (FB S (-1)) x4 x5)))), (5, .int (iI x5)), (4, .int (iI x4)), (3, .int (iI y3)), (2, .int (iI y2)), (0, .ref mo)]) hx hb dX5_bestQuestion_138 rfl hl (by decide) rfl (fun ls hl => ?_)
                  refine lv_iload hx hb dX5_bestQuestion_139 (lv_at hl 1 rfl) ?_
                  refine iv_if_eq (a := 0) (tgt := 149) hx hb (by omega) dX5_bestQuestion_141 (by decide) (fun c141 => ?_) (fun c141 => ?_)
                  · refine lv_iload_n hx hb dX5_bestQuestion_149 rfl (lv_at hl 6 rfl) ?_
                    refine lv_istore_n (lv' := [(2, .int (iI y2)), (1, .int (iI y1)), (7, .int (iI 0)), (6, .int (iI (mostI (FB S (-1)) x4 x5 - (leastI (FB S (-1)) x4 x5)))), (5, .int (iI x5)), (4, .int (iI x4)), (3, .int (iI y3)), (0, .ref mo)]) hx hb dX5_bestQuestion_150 rfl hl (by decide) rfl (fun ls hl => ?_)
                    refine lv_iload hx hb dX5_bestQuestion_151 (lv_at hl 2 rfl) ?_
                    refine iv_if_eq (a := 0) (tgt := 167) hx hb (by omega) dX5_bestQuestion_153 (by decide) (fun c153 => ?_) (fun c153 => ?_)
                    · refine lv_iload_n hx hb dX5_bestQuestion_167 rfl (lv_at hl 6 rfl) ?_
                      refine lv_istore_n (lv' := [(3, .int (iI y3)), (2, .int (iI y2)), (1, .int (iI y1)), (7, .int (iI 0)), (6, .int (iI (mostI (FB S (-1)) x4 x5 - (leastI (FB S (-1)) x4 x5)))), (5, .int (iI x5)), (4, .int (iI x4)), (0, .ref mo)]) hx hb dX5_bestQuestion_168 rfl hl (by decide) rfl (fun ls hl => ?_)
                      refine iv_inc (lv' := [(5, .int (iI (x5 + 1))), (3, .int (iI y3)), (2, .int (iI y2)), (1, .int (iI y1)), (7, .int (iI 0)), (6, .int (iI (mostI (FB S (-1)) x4 x5 - (leastI (FB S (-1)) x4 x5)))), (4, .int (iI x4)), (0, .ref mo)]) hx hb dX5_bestQuestion_169 hl (k := 5) rfl (by decide) rfl (fun ls hl => ?_)
                      refine lv_goto (tgt := 34) hx hb dX5_bestQuestion_172 (by decide) ?_
                      refine ih34 (j + 1, y1, y2, y3, x5 + 1) _ _ (by show ((S 0).toNat - (j + 1) : Nat) < (S 0).toNat - j; omega) ?_
                      exact ⟨by omega, by omega, by (first | (exfalso; omega; done) | skip); try (subst h4; subst h5; show bqS S (FB S (-1)) _ _ (bqI S (FB S (-1)) _ _ _) = _; rw [hq2]; first | exact bqS_t (by unfold bqB; first | rw [if_pos (by omega)] | rw [if_neg (by omega)]) (by omega) | exact bqS_f (by unfold bqB; first | rw [if_pos (by omega)] | rw [if_neg (by omega)]) (by omega)), by omega, hP, hD, hS, lv_sub hl [0, 6, 1, 2, 3, 7] rfl⟩
                    · exact absurd c153 (by omega)
                  · exact absurd c141 (by omega)
                · exact absurd c123 (by omega)
              · refine lv_iload hx hb dX5_bestQuestion_96 (lv_at hl 0 rfl) ?_
                refine lv_iload_n hx hb dX5_bestQuestion_98 rfl (lv_at hl 4 rfl) ?_
                refine iv_icmp_ne (a := mostI (FB S (-1)) x4 x5 - (leastI (FB S (-1)) x4 x5)) (b := y2) (tgt := 118) hx hb (by omega) (by omega) dX5_bestQuestion_99 (by decide) (fun c99 => ?_) (fun c99 => ?_)
                · refine lv_iconst (v := iI 0) hx hb dX5_bestQuestion_118 (by decide +kernel) ?_
                  refine lv_istore (lv' := [(7, .int (iI 0)), (6, .int (iI (mostI (FB S (-1)) x4 x5 - (leastI (FB S (-1)) x4 x5)))), (5, .int (iI x5)), (4, .int (iI x4)), (3, .int (iI y3)), (2, .int (iI y2)), (1, .int (iI y1)), (0, .ref mo)]) hx hb dX5_bestQuestion_119 hl (by decide) rfl (fun ls hl => ?_)
                  refine lv_iload hx hb dX5_bestQuestion_121 (lv_at hl 0 rfl) ?_
                  refine iv_if_eq (a := 0) (tgt := 137) hx hb (by omega) dX5_bestQuestion_123 (by decide) (fun c123 => ?_) (fun c123 => ?_)
                  · refine lv_iload_n hx hb dX5_bestQuestion_137 rfl (lv_at hl 6 rfl) ?_
                    refine lv_istore_n (lv' := [(1, .int (iI y1)), (7, .int (iI 0)), (6, .int (iI (mostI (FB S (-1)) x4 x5 - (leastI (FB S (-1)) x4 x5)))), (5, .int (iI x5)), (4, .int (iI x4)), (3, .int (iI y3)), (2, .int (iI y2)), (0, .ref mo)]) hx hb dX5_bestQuestion_138 rfl hl (by decide) rfl (fun ls hl => ?_)
                    refine lv_iload hx hb dX5_bestQuestion_139 (lv_at hl 1 rfl) ?_
                    refine iv_if_eq (a := 0) (tgt := 149) hx hb (by omega) dX5_bestQuestion_141 (by decide) (fun c141 => ?_) (fun c141 => ?_)
                    · refine lv_iload_n hx hb dX5_bestQuestion_149 rfl (lv_at hl 6 rfl) ?_
                      refine lv_istore_n (lv' := [(2, .int (iI y2)), (1, .int (iI y1)), (7, .int (iI 0)), (6, .int (iI (mostI (FB S (-1)) x4 x5 - (leastI (FB S (-1)) x4 x5)))), (5, .int (iI x5)), (4, .int (iI x4)), (3, .int (iI y3)), (0, .ref mo)]) hx hb dX5_bestQuestion_150 rfl hl (by decide) rfl (fun ls hl => ?_)
                      refine lv_iload hx hb dX5_bestQuestion_151 (lv_at hl 2 rfl) ?_
                      refine iv_if_eq (a := 0) (tgt := 167) hx hb (by omega) dX5_bestQuestion_153 (by decide) (fun c153 => ?_) (fun c153 => ?_)
                      · refine lv_iload_n hx hb dX5_bestQuestion_167 rfl (lv_at hl 6 rfl) ?_
                        refine lv_istore_n (lv' := [(3, .int (iI y3)), (2, .int (iI y2)), (1, .int (iI y1)), (7, .int (iI 0)), (6, .int (iI (mostI (FB S (-1)) x4 x5 - (leastI (FB S (-1)) x4 x5)))), (5, .int (iI x5)), (4, .int (iI x4)), (0, .ref mo)]) hx hb dX5_bestQuestion_168 rfl hl (by decide) rfl (fun ls hl => ?_)
                        refine iv_inc (lv' := [(5, .int (iI (x5 + 1))), (3, .int (iI y3)), (2, .int (iI y2)), (1, .int (iI y1)), (7, .int (iI 0)), (6, .int (iI (mostI (FB S (-1)) x4 x5 - (leastI (FB S (-1)) x4 x5)))), (4, .int (iI x4)), (0, .ref mo)]) hx hb dX5_bestQuestion_169 hl (k := 5) rfl (by decide) rfl (fun ls hl => ?_)
                        refine lv_goto (tgt := 34) hx hb dX5_bestQuestion_172 (by decide) ?_
                        refine ih34 (j + 1, y1, y2, y3, x5 + 1) _ _ (by show ((S 0).toNat - (j + 1) : Nat) < (S 0).toNat - j; omega) ?_
                        exact ⟨by omega, by omega, by (first | (exfalso; omega; done) | skip); try (subst h4; subst h5; show bqS S (FB S (-1)) _ _ (bqI S (FB S (-1)) _ _ _) = _; rw [hq2]; first | exact bqS_t (by unfold bqB; first | rw [if_pos (by omega)] | rw [if_neg (by omega)]) (by omega) | exact bqS_f (by unfold bqB; first | rw [if_pos (by omega)] | rw [if_neg (by omega)]) (by omega)), by omega, hP, hD, hS, lv_sub hl [0, 6, 1, 2, 3, 7] rfl⟩
                      · exact absurd c153 (by omega)
                    · exact absurd c141 (by omega)
                  · exact absurd c123 (by omega)
                · refine lv_aload_n hx hb dX5_bestQuestion_102 rfl (lv_at hl 6 rfl) ?_
                  refine lv_iload hx hb dX5_bestQuestion_103 (lv_at hl 2 rfl) ?_
                  refine lv_iload hx hb dX5_bestQuestion_105 (lv_at hl 1 rfl) ?_
                  refine iv_roV (As := [.int (iI x4), .int (iI x5)]) (rest := []) (C := RX5) (n := 2) ⟨hx, hb, hml, hown, hts⟩ (c_X5_costOf l D yI yC yD mo 0 re tl a1 a2 a3 a4 a5 a6 a7 a8 S x4 x5 (by omega) (by omega) (by assumption)) (cwV 2 hts gX5_bestQuestion_X5_costOf rfl rfl rfl (by decide +kernel) ⟨Nat.le_of_ble_eq_true rfl, Nat.le_of_ble_eq_true rfl⟩) hK hP [0, 1] rfl 0 rfl rfl rfl hl.1 rfl (Nat.le_of_ble_eq_true rfl) dX5_bestQuestion_107 ⟨Nat.zero_le _, Nat.zero_le _⟩ ?_
                  refine lv_iload_n hx hb dX5_bestQuestion_110 rfl (lv_at hl 3 rfl) ?_
                  refine iv_icmp_ge (a := costOf S x4 x5) (b := y3) (tgt := 118) hx hb (by omega) (by omega) dX5_bestQuestion_111 (by decide) (fun c111 => ?_) (fun c111 => ?_)
                  · refine lv_iconst (v := iI 0) hx hb dX5_bestQuestion_118 (by decide +kernel) ?_
                    refine lv_istore (lv' := [(7, .int (iI 0)), (6, .int (iI (mostI (FB S (-1)) x4 x5 - (leastI (FB S (-1)) x4 x5)))), (5, .int (iI x5)), (4, .int (iI x4)), (3, .int (iI y3)), (2, .int (iI y2)), (1, .int (iI y1)), (0, .ref mo)]) hx hb dX5_bestQuestion_119 hl (by decide) rfl (fun ls hl => ?_)
                    refine lv_iload hx hb dX5_bestQuestion_121 (lv_at hl 0 rfl) ?_
                    refine iv_if_eq (a := 0) (tgt := 137) hx hb (by omega) dX5_bestQuestion_123 (by decide) (fun c123 => ?_) (fun c123 => ?_)
                    · refine lv_iload_n hx hb dX5_bestQuestion_137 rfl (lv_at hl 6 rfl) ?_
                      refine lv_istore_n (lv' := [(1, .int (iI y1)), (7, .int (iI 0)), (6, .int (iI (mostI (FB S (-1)) x4 x5 - (leastI (FB S (-1)) x4 x5)))), (5, .int (iI x5)), (4, .int (iI x4)), (3, .int (iI y3)), (2, .int (iI y2)), (0, .ref mo)]) hx hb dX5_bestQuestion_138 rfl hl (by decide) rfl (fun ls hl => ?_)
                      refine lv_iload hx hb dX5_bestQuestion_139 (lv_at hl 1 rfl) ?_
                      refine iv_if_eq (a := 0) (tgt := 149) hx hb (by omega) dX5_bestQuestion_141 (by decide) (fun c141 => ?_) (fun c141 => ?_)
                      · refine lv_iload_n hx hb dX5_bestQuestion_149 rfl (lv_at hl 6 rfl) ?_
                        refine lv_istore_n (lv' := [(2, .int (iI y2)), (1, .int (iI y1)), (7, .int (iI 0)), (6, .int (iI (mostI (FB S (-1)) x4 x5 - (leastI (FB S (-1)) x4 x5)))), (5, .int (iI x5)), (4, .int (iI x4)), (3, .int (iI y3)), (0, .ref mo)]) hx hb dX5_bestQuestion_150 rfl hl (by decide) rfl (fun ls hl => ?_)
                        refine lv_iload hx hb dX5_bestQuestion_151 (lv_at hl 2 rfl) ?_
                        refine iv_if_eq (a := 0) (tgt := 167) hx hb (by omega) dX5_bestQuestion_153 (by decide) (fun c153 => ?_) (fun c153 => ?_)
                        · refine lv_iload_n hx hb dX5_bestQuestion_167 rfl (lv_at hl 6 rfl) ?_
                          refine lv_istore_n (lv' := [(3, .int (iI y3)), (2, .int (iI y2)), (1, .int (iI y1)), (7, .int (iI 0)), (6, .int (iI (mostI (FB S (-1)) x4 x5 - (leastI (FB S (-1)) x4 x5)))), (5, .int (iI x5)), (4, .int (iI x4)), (0, .ref mo)]) hx hb dX5_bestQuestion_168 rfl hl (by decide) rfl (fun ls hl => ?_)
                          refine iv_inc (lv' := [(5, .int (iI (x5 + 1))), (3, .int (iI y3)), (2, .int (iI y2)), (1, .int (iI y1)), (7, .int (iI 0)), (6, .int (iI (mostI (FB S (-1)) x4 x5 - (leastI (FB S (-1)) x4 x5)))), (4, .int (iI x4)), (0, .ref mo)]) hx hb dX5_bestQuestion_169 hl (k := 5) rfl (by decide) rfl (fun ls hl => ?_)
                          refine lv_goto (tgt := 34) hx hb dX5_bestQuestion_172 (by decide) ?_
                          refine ih34 (j + 1, y1, y2, y3, x5 + 1) _ _ (by show ((S 0).toNat - (j + 1) : Nat) < (S 0).toNat - j; omega) ?_
                          exact ⟨by omega, by omega, by (first | (exfalso; omega; done) | skip); try (subst h4; subst h5; show bqS S (FB S (-1)) _ _ (bqI S (FB S (-1)) _ _ _) = _; rw [hq2]; first | exact bqS_t (by unfold bqB; first | rw [if_pos (by omega)] | rw [if_neg (by omega)]) (by omega) | exact bqS_f (by unfold bqB; first | rw [if_pos (by omega)] | rw [if_neg (by omega)]) (by omega)), by omega, hP, hD, hS, lv_sub hl [0, 6, 1, 2, 3, 7] rfl⟩
                        · exact absurd c153 (by omega)
                      · exact absurd c141 (by omega)
                    · exact absurd c123 (by omega)
                  · refine lv_iconst (v := iI 1) hx hb dX5_bestQuestion_114 (by decide +kernel) ?_
                    refine lv_goto (tgt := 119) hx hb dX5_bestQuestion_115 (by decide) ?_
                    refine lv_istore (lv' := [(7, .int (iI 1)), (6, .int (iI (mostI (FB S (-1)) x4 x5 - (leastI (FB S (-1)) x4 x5)))), (5, .int (iI x5)), (4, .int (iI x4)), (3, .int (iI y3)), (2, .int (iI y2)), (1, .int (iI y1)), (0, .ref mo)]) hx hb dX5_bestQuestion_119 hl (by decide) rfl (fun ls hl => ?_)
                    refine lv_iload hx hb dX5_bestQuestion_121 (lv_at hl 0 rfl) ?_
                    refine iv_if_eq (a := 1) (tgt := 137) hx hb (by omega) dX5_bestQuestion_123 (by decide) (fun c123 => ?_) (fun c123 => ?_)
                    · exact absurd c123 (by omega)
                    · refine lv_bipush (v := iI 100) hx hb dX5_bestQuestion_126 (by decide +kernel) ?_
                      refine lv_iload hx hb dX5_bestQuestion_128 (lv_at hl 3 rfl) ?_
                      refine iv_mul hx hb dX5_bestQuestion_130 ?_
                      refine lv_iload hx hb dX5_bestQuestion_131 (lv_at hl 2 rfl) ?_
                      refine iv_add hx hb dX5_bestQuestion_133 ?_
                      refine lv_goto (tgt := 138) hx hb dX5_bestQuestion_134 (by decide) ?_
                      refine lv_istore_n (lv' := [(1, .int (iI (100 * x4 + x5))), (7, .int (iI 1)), (6, .int (iI (mostI (FB S (-1)) x4 x5 - (leastI (FB S (-1)) x4 x5)))), (5, .int (iI x5)), (4, .int (iI x4)), (3, .int (iI y3)), (2, .int (iI y2)), (0, .ref mo)]) hx hb dX5_bestQuestion_138 rfl hl (by decide) rfl (fun ls hl => ?_)
                      refine lv_iload hx hb dX5_bestQuestion_139 (lv_at hl 1 rfl) ?_
                      refine iv_if_eq (a := 1) (tgt := 149) hx hb (by omega) dX5_bestQuestion_141 (by decide) (fun c141 => ?_) (fun c141 => ?_)
                      · exact absurd c141 (by omega)
                      · refine lv_iload hx hb dX5_bestQuestion_144 (lv_at hl 2 rfl) ?_
                        refine lv_goto (tgt := 150) hx hb dX5_bestQuestion_146 (by decide) ?_
                        refine lv_istore_n (lv' := [(2, .int (iI (mostI (FB S (-1)) x4 x5 - (leastI (FB S (-1)) x4 x5)))), (1, .int (iI (100 * x4 + x5))), (7, .int (iI 1)), (6, .int (iI (mostI (FB S (-1)) x4 x5 - (leastI (FB S (-1)) x4 x5)))), (5, .int (iI x5)), (4, .int (iI x4)), (3, .int (iI y3)), (0, .ref mo)]) hx hb dX5_bestQuestion_150 rfl hl (by decide) rfl (fun ls hl => ?_)
                        refine lv_iload hx hb dX5_bestQuestion_151 (lv_at hl 2 rfl) ?_
                        refine iv_if_eq (a := 1) (tgt := 167) hx hb (by omega) dX5_bestQuestion_153 (by decide) (fun c153 => ?_) (fun c153 => ?_)
                        · exact absurd c153 (by omega)
                        · refine lv_aload_n hx hb dX5_bestQuestion_156 rfl (lv_at hl 7 rfl) ?_
                          refine lv_iload hx hb dX5_bestQuestion_157 (lv_at hl 5 rfl) ?_
                          refine lv_iload hx hb dX5_bestQuestion_159 (lv_at hl 4 rfl) ?_
                          refine iv_roV (As := [.int (iI x4), .int (iI x5)]) (rest := []) (C := RX5) (n := 2) ⟨hx, hb, hml, hown, hts⟩ (c_X5_costOf l D yI yC yD mo 0 re tl a1 a2 a3 a4 a5 a6 a7 a8 S x4 x5 (by omega) (by omega) (by assumption)) (cwV 2 hts gX5_bestQuestion_X5_costOf rfl rfl rfl (by decide +kernel) ⟨Nat.le_of_ble_eq_true rfl, Nat.le_of_ble_eq_true rfl⟩) hK hP [0, 1] rfl 0 rfl rfl rfl hl.1 rfl (Nat.le_of_ble_eq_true rfl) dX5_bestQuestion_161 ⟨Nat.zero_le _, Nat.zero_le _⟩ ?_
                          refine lv_goto (tgt := 168) hx hb dX5_bestQuestion_164 (by decide) ?_
                          refine lv_istore_n (lv' := [(3, .int (iI (costOf S x4 x5))), (2, .int (iI (mostI (FB S (-1)) x4 x5 - (leastI (FB S (-1)) x4 x5)))), (1, .int (iI (100 * x4 + x5))), (7, .int (iI 1)), (6, .int (iI (mostI (FB S (-1)) x4 x5 - (leastI (FB S (-1)) x4 x5)))), (5, .int (iI x5)), (4, .int (iI x4)), (0, .ref mo)]) hx hb dX5_bestQuestion_168 rfl hl (by decide) rfl (fun ls hl => ?_)
                          refine iv_inc (lv' := [(5, .int (iI (x5 + 1))), (3, .int (iI (costOf S x4 x5))), (2, .int (iI (mostI (FB S (-1)) x4 x5 - (leastI (FB S (-1)) x4 x5)))), (1, .int (iI (100 * x4 + x5))), (7, .int (iI 1)), (6, .int (iI (mostI (FB S (-1)) x4 x5 - (leastI (FB S (-1)) x4 x5)))), (4, .int (iI x4)), (0, .ref mo)]) hx hb dX5_bestQuestion_169 hl (k := 5) rfl (by decide) rfl (fun ls hl => ?_)
                          refine lv_goto (tgt := 34) hx hb dX5_bestQuestion_172 (by decide) ?_
                          refine ih34 (j + 1, 100 * x4 + x5, mostI (FB S (-1)) x4 x5 - (leastI (FB S (-1)) x4 x5), costOf S x4 x5, x5 + 1) _ _ (by show ((S 0).toNat - (j + 1) : Nat) < (S 0).toNat - j; omega) ?_
                          exact ⟨by omega, by omega, by (first | (exfalso; omega; done) | skip); try (subst h4; subst h5; show bqS S (FB S (-1)) _ _ (bqI S (FB S (-1)) _ _ _) = _; rw [hq2]; first | exact bqS_t (by unfold bqB; first | rw [if_pos (by omega)] | rw [if_neg (by omega)]) (by omega) | exact bqS_f (by unfold bqB; first | rw [if_pos (by omega)] | rw [if_neg (by omega)]) (by omega)), by omega, hP, hD, hS, lv_sub hl [0, 6, 1, 2, 3, 7] rfl⟩
set_option maxHeartbeats 4000000 in
set_option maxRecDepth 100000 in
theorem c_X5_knownWith (l : Launch) (D : va_G) (yI yC yD : ClassId) (mo : Nat) (th : Int) (re : Int) (tl : Int) (a1 : Nat) (a2 : Nat) (a3 : Nat) (a4 : Nat) (a5 : Nat) (a6 : Nat) (a7 : Nat) (a8 : Nat) (S : Int → Int) (Bd : Int → Int) (B2 : Int → Int) (a : Int) (b : Int) (ke : Int) (hpl : 0 ≤ S 0 ∧ S 0 ≤ 40) (h1 : 0 ≤ a ∧ a ≤ b ∧ b < 40) (h3 : GB Bd) (h4 : -2 ≤ ke ∧ ke ≤ 41 ∧ 0 ≤ S 2 ∧ S 2 ≤ 4) (h5 : 0 ≤ (if ke = -2 then S 2 - 1 else ke) + Bd (41 * (b + 1) + a)) (h6 : ke ≠ -2 → GB (bnd Bd a (b + 1) ke) ∧ 0 ≤ -ke + bnd Bd a (b + 1) ke (41 * a + (b + 1))) (h7 : GB (bndA Bd a b ke (S 2))) (sz : Nat) : Met l yX5_knownWith wsX5_knownWith ({ frames := 2, cells := 0, slots := 0, locals := 50 }) (rwP [.ref mo, .int (iI a), .int (iI b), .int (iI ke)] D (tyz yI yC yD) [(mo, oMo th a1 a2 a3 re a4 a5 a6 tl a7 a8), (a1, aI yI 96 S), (a7, aI yI 1681 Bd), (a8, aI yI 1681 B2)] sz) (va_Qi (fun (r : Int32) (G9 : (Int → Int)) => r = iI (knownIn (bndA Bd a b ke (S 2)) (S 0)) ∧ True) (fun (G9 : (Int → Int)) (t : State) => va_P D vwCl [(mo, oMo th a1 a2 a3 re a4 a5 a6 tl a7 a8), (a1, aI yI 96 S), (a7, aI yI 1681 Bd), (a8, aI yI 1681 G9)] t.heap) (va_A [(mo, oMo th a1 a2 a3 re a4 a5 a6 tl a7 a8), (a1, aI yI 96 S), (a7, aI yI 1681 Bd), (a8, aI yI 1681 B2)] sz)) 0 0 (va_A [(mo, oMo th a1 a2 a3 re a4 a5 a6 tl a7 a8), (a1, aI yI 96 S), (a7, aI yI 1681 Bd), (a8, aI yI 1681 B2)] sz) := by
  refine Met.ofW (cc := cX5_knownWith) (maxL := 5) (ret := (some .int)) (by decide) rfl ?_
  intro p e s m args below meth c s₁ B hml hv
  obtain ⟨rfl, hsz, hP, hK, hD0⟩ := hv
  have hx := B.exec
  have hb := B.bytes
  have hr := B.returns
  have hts := atoms_spec (ws := wsX5_knownWith) B.pre
  have hown : s.vm.findClass RX5 = some m.cls := findClass_of_methodNamed B.named
  have hlocks := B.notSynchronized
  subst hsz
  have hD := hD0.self (sz := s.heap.size)
  generalize hAe : va_A [(mo, oMo th a1 a2 a3 re a4 a5 a6 tl a7 a8), (a1, aI yI 96 S), (a7, aI yI 1681 Bd), (a8, aI yI 1681 B2)] s.heap.size = A at hD ⊢
  have hA : ∀ q : Nat, s.heap.size ≤ q → A q := fun q h => by rw [← hAe]; exact Or.inr h
  have hS : va_S A s.heap s.heap [] := va_S.rf
  have hP : va_P D vwCl [(mo, oMo th a1 a2 a3 re a4 a5 a6 tl a7 a8), (a1, aI yI 96 S), (a7, aI yI 1681 Bd), (a8, aI yI 1681 B2)] s.heap := hP
  have hinX5 : ∀ w ∈ wsX50, w ∈ wsX5_knownWith := by decide +kernel
  have hf7 : (Cond.fieldLink RX5 7 "RiddleDriveModel" "state" "[I").before _ s = true := hts _ (by decide +kernel)
  have hf28 : (Cond.fieldLink RX5 28 "RiddleDriveModel" "bounds" "[I").before _ s = true := hts _ (by decide +kernel)
  have hf31 : (Cond.fieldLink RX5 31 "RiddleDriveModel" "tried" "[I").before _ s = true := hts _ (by decide +kernel)
  have hl := lv_entry ([.ref mo, .int (iI a), .int (iI b), .int (iI ke)]) (n := 5) (Nat.le_of_ble_eq_true rfl)
  rw [lg_entry_eq]
  generalize (lg_sl ([.ref mo, .int (iI a), .int (iI b), .int (iI ke)]) ++ List.replicate (5 - (lg_sl ([.ref mo, .int (iI a), .int (iI b), .int (iI ke)])).length) Slot.unset).toArray = ls at hl ⊢
  have hl : lv_has ls 5 [(0, .ref mo), (1, .int (iI a)), (2, .int (iI b)), (3, .int (iI ke))] := hl
  refine lv_iconst (v := iI 0) hx hb dX5_knownWith_0 (by decide +kernel) ?_
  refine lv_istore (lv' := [(4, .int (iI 0)), (0, .ref mo), (1, .int (iI a)), (2, .int (iI b)), (3, .int (iI ke))]) hx hb dX5_knownWith_1 hl (by decide) rfl (fun ls hl => ?_)
  refine iv_loop (I := fun (qq : Nat × Int × (Int → Int)) H locs ls => match qq with | (k, x4, G) => (k ≤ 1681) ∧ (x4 = k) ∧ (∀ z : Int, 0 ≤ z → z < k → G z = Bd z) ∧ va_P D vwCl [(mo, oMo th a1 a2 a3 re a4 a5 a6 tl a7 a8), (a1, aI yI 96 S), (a7, aI yI 1681 Bd), (a8, aI yI 1681 G)] H ∧ va_D A [(mo, oMo th a1 a2 a3 re a4 a5 a6 tl a7 a8), (a1, aI yI 96 S), (a7, aI yI 1681 Bd), (a8, aI yI 1681 G)] ∧ va_S A s.heap H locs ∧ lv_has ls 5 [(4, .int (iI x4)), (0, .ref mo), (1, .int (iI a)), (2, .int (iI b)), (3, .int (iI ke))]) (μ := fun (qq : Nat × Int × (Int → Int)) => match qq with | (k, x4, G) => 1681 - k) (0, 0, B2) ?_ ?_
  · exact ⟨by omega, by omega, fun z h1 h2 => by omega, hP, hD, hS, lv_sub hl [0, 1, 2, 3, 4] rfl⟩
  · intro qq H locs ls hI ih3
    obtain ⟨k, x4, G⟩ := qq
    obtain ⟨hk, hx4, hG, hP, hD, hS, hl⟩ := hI
    refine lv_iload hx hb dX5_knownWith_3 (lv_at hl 0 rfl) ?_
    refine lv_sipush (v := iI 1681) hx hb dX5_knownWith_5 (by decide +kernel) ?_
    refine iv_icmp_ge (a := x4) (b := 1681) (tgt := 31) hx hb (by omega) (by omega) dX5_knownWith_8 (by decide) (fun c8 => ?_) (fun c8 => ?_)
    · have hP := va_P.arr hP 3 (g := Bd) rfl (fun z h1 h2 => hG z h1 (by omega))
      have hD : va_D A [(mo, oMo th a1 a2 a3 re a4 a5 a6 tl a7 a8), (a1, aI yI 96 S), (a7, aI yI 1681 Bd), (a8, aI yI 1681 Bd)] := hD.set (p := 3) rfl
      have hP : va_P D vwCl [(mo, oMo th a1 a2 a3 re a4 a5 a6 tl a7 a8), (a1, aI yI 96 S), (a7, aI yI 1681 Bd), (a8, aI yI 1681 Bd)] H := hP
      refine lv_aload_n hx hb dX5_knownWith_31 rfl (lv_at hl 1 rfl) ?_
      refine va_get (D := D) (ci := 5) (v := .ref a8) (C := RX5) (T := TX5) (N := 11) hx hb hts hinX5 hown hK hP 0 rfl rfl 10 (by decide) hf31 (fun _ h9 => h9) rfl dX5_knownWith_32 ?_
      refine lv_iload_n hx hb dX5_knownWith_35 rfl (lv_at hl 2 rfl) ?_
      refine lv_iload_n hx hb dX5_knownWith_36 rfl (lv_at hl 3 rfl) ?_
      refine lv_iload_n hx hb dX5_knownWith_37 rfl (lv_at hl 4 rfl) ?_
      refine lv_aload_n hx hb dX5_knownWith_38 rfl (lv_at hl 1 rfl) ?_
      refine va_get (D := D) (ci := 5) (v := .ref a1) (C := RX5) (T := TX5) (N := 11) hx hb hts hinX5 hown hK hP 0 rfl rfl 1 (by decide) hf7 (fun _ h9 => h9) rfl dX5_knownWith_39 ?_
      refine lv_iconst (v := iI 2) hx hb dX5_knownWith_42 (by decide +kernel) ?_
      refine iv_ald hx hb hK hP 1 0 rfl rfl (z := 2) (by omega) (by omega) (by omega) dX5_knownWith_43 ?_
      refine iv_rwSv (As := [.ref a8, .int (iI a), .int (iI b), .int (iI ke), .int (iI (S 2))]) (rest := []) (n := 5) ⟨hx, hb, hml, hown, hts⟩ (c_X5_bindAnswer l D yI yC yD a8 Bd a b ke (S 2) (by omega) (by assumption) (by omega) (by assumption) (by assumption) _) (va_cwS 5 hts gX5_knownWith_X5_bindAnswer rfl rfl rfl (by decide +kernel) ⟨Nat.le_of_ble_eq_true rfl, Nat.le_of_ble_eq_true rfl⟩) hK hP hD hS hA [3] (by decide) rfl rfl hl.1 rfl (Nat.le_of_ble_eq_true rfl) dX5_knownWith_44 ⟨Nat.zero_le _, Nat.zero_le _⟩ (fun _ => rfl) (fun u44 H locs hw44 hP hD hS => ?_)
      have hP : va_P D vwCl [(mo, oMo th a1 a2 a3 re a4 a5 a6 tl a7 a8), (a1, aI yI 96 S), (a7, aI yI 1681 Bd), (a8, aI yI 1681 (bndA Bd a b ke (S 2)))] H := hP
      have hD : va_D A [(mo, oMo th a1 a2 a3 re a4 a5 a6 tl a7 a8), (a1, aI yI 96 S), (a7, aI yI 1681 Bd), (a8, aI yI 1681 (bndA Bd a b ke (S 2)))] := hD
      refine lv_aload_n hx hb dX5_knownWith_47 rfl (lv_at hl 1 rfl) ?_
      refine lv_aload_n hx hb dX5_knownWith_48 rfl (lv_at hl 1 rfl) ?_
      refine va_get (D := D) (ci := 5) (v := .ref a8) (C := RX5) (T := TX5) (N := 11) hx hb hts hinX5 hown hK hP 0 rfl rfl 10 (by decide) hf31 (fun _ h9 => h9) rfl dX5_knownWith_49 ?_
      refine iv_roV (As := [.ref a8]) (rest := []) (C := RX5) (n := 1) ⟨hx, hb, hml, hown, hts⟩ (c_X5_knownIn l D yI yC yD mo th re tl a1 a2 a3 a4 a5 a6 a7 a8 S a8 (bndA Bd a b ke (S 2)) (by omega) (h7)) (cwV 1 hts gX5_knownWith_X5_knownIn rfl rfl rfl (by decide +kernel) ⟨Nat.le_of_ble_eq_true rfl, Nat.le_of_ble_eq_true rfl⟩) hK hP [0, 1, 3] rfl 0 rfl rfl rfl hl.1 rfl (Nat.le_of_ble_eq_true rfl) dX5_knownWith_52 ⟨Nat.zero_le _, Nat.zero_le _⟩ ?_
      have hP9 : va_P D vwCl [(mo, oMo th a1 a2 a3 re a4 a5 a6 tl a7 a8), (a1, aI yI 96 S), (a7, aI yI 1681 Bd), (a8, aI yI 1681 (bndA Bd a b ke (S 2)))] _ := hP.sub [0, 1, 2, 3] rfl
      exact W.iret hx hb hr (fun t ht hW => ⟨⟨iI (knownIn (bndA Bd a b ke (S 2)) (S 0)), (bndA Bd a b ke (S 2)), rfl, ⟨rfl, trivial⟩, by show va_P D vwCl _ t.heap; rw [ht]; exact hP9⟩, hS.F ht⟩) hS.2.2 dX5_knownWith_55
    · refine lv_aload_n hx hb dX5_knownWith_11 rfl (lv_at hl 1 rfl) ?_
      refine va_get (D := D) (ci := 5) (v := .ref a8) (C := RX5) (T := TX5) (N := 11) hx hb hts hinX5 hown hK hP 0 rfl rfl 10 (by decide) hf31 (fun _ h9 => h9) rfl dX5_knownWith_12 ?_
      refine lv_iload hx hb dX5_knownWith_15 (lv_at hl 0 rfl) ?_
      refine lv_aload_n hx hb dX5_knownWith_17 rfl (lv_at hl 1 rfl) ?_
      refine va_get (D := D) (ci := 5) (v := .ref a7) (C := RX5) (T := TX5) (N := 11) hx hb hts hinX5 hown hK hP 0 rfl rfl 9 (by decide) hf28 (fun _ h9 => h9) rfl dX5_knownWith_18 ?_
      refine lv_iload hx hb dX5_knownWith_21 (lv_at hl 0 rfl) ?_
      refine iv_ald hx hb hK hP 2 0 rfl rfl (z := x4) (by omega) (by omega) (by omega) dX5_knownWith_23 ?_
      refine iv_ast hx hb hK hP hD hS 3 0 rfl rfl (z := x4) (v := Bd x4) (by omega) (by omega) (by omega) dX5_knownWith_24 (fun H locs hP hD hS => ?_)
      have hP : va_P D vwCl [(mo, oMo th a1 a2 a3 re a4 a5 a6 tl a7 a8), (a1, aI yI 96 S), (a7, aI yI 1681 Bd), (a8, aI yI 1681 (up G x4 (Bd x4)))] H := hP
      have hD : va_D A [(mo, oMo th a1 a2 a3 re a4 a5 a6 tl a7 a8), (a1, aI yI 96 S), (a7, aI yI 1681 Bd), (a8, aI yI 1681 (up G x4 (Bd x4)))] := hD
      refine iv_inc (lv' := [(4, .int (iI (x4 + 1))), (0, .ref mo), (1, .int (iI a)), (2, .int (iI b)), (3, .int (iI ke))]) hx hb dX5_knownWith_25 hl (k := 0) rfl (by decide) rfl (fun ls hl => ?_)
      refine lv_goto (tgt := 3) hx hb dX5_knownWith_28 (by decide) ?_
      refine ih3 (k + 1, x4 + 1, up G x4 (Bd x4)) _ _ (by show (1681 - (k + 1) : Nat) < 1681 - k; omega) ?_
      exact ⟨by omega, by omega, fun z h1 h2 => (if e : z = x4 then (by rw [e]; exact up_s) else (by rw [up_n e]; exact hG z h1 (by omega))), hP, hD, hS, lv_sub hl [0, 1, 2, 3, 4] rfl⟩
set_option maxHeartbeats 4000000 in
set_option maxRecDepth 100000 in
theorem c_X5_leastWorth (l : Launch) (D : va_G) (yI yC yD : ClassId) (mo : Nat) (th : Int) (re : Int) (tl : Int) (a1 : Nat) (a2 : Nat) (a3 : Nat) (a4 : Nat) (a5 : Nat) (a6 : Nat) (a7 : Nat) (a8 : Nat) (S : Int → Int) (Bd : Int → Int) (hI : Inv S) (sz : Nat) : Met l yX5_leastWorth wsX5_leastWorth ({ frames := 3, cells := 0, slots := 0, locals := 74 }) (rwP [.ref mo] D (tyz yI yC yD) [(mo, oMo th a1 a2 a3 re a4 a5 a6 tl a7 a8), (a1, aI yI 96 S), (a7, aI yI 1681 Bd)] sz) (va_Qi (fun (r : Int32) (G9 : (Int → Int)) => r = iI (leastW S) ∧ True) (fun (G9 : (Int → Int)) (t : State) => va_P D vwCl [(mo, oMo 0 a1 a2 a3 re a4 a5 a6 tl a7 a8), (a1, aI yI 96 S), (a7, aI yI 1681 G9)] t.heap) (va_A [(mo, oMo th a1 a2 a3 re a4 a5 a6 tl a7 a8), (a1, aI yI 96 S), (a7, aI yI 1681 Bd)] sz)) 0 0 (va_A [(mo, oMo th a1 a2 a3 re a4 a5 a6 tl a7 a8), (a1, aI yI 96 S), (a7, aI yI 1681 Bd)] sz) := by
  refine Met.ofW (cc := cX5_leastWorth) (maxL := 5) (ret := (some .int)) (by decide) rfl ?_
  intro p e s m args below meth c s₁ B hml hv
  obtain ⟨rfl, hsz, hP, hK, hD0⟩ := hv
  have hx := B.exec
  have hb := B.bytes
  have hr := B.returns
  have hts := atoms_spec (ws := wsX5_leastWorth) B.pre
  have hown : s.vm.findClass RX5 = some m.cls := findClass_of_methodNamed B.named
  have hlocks := B.notSynchronized
  subst hsz
  have hD := hD0.self (sz := s.heap.size)
  generalize hAe : va_A [(mo, oMo th a1 a2 a3 re a4 a5 a6 tl a7 a8), (a1, aI yI 96 S), (a7, aI yI 1681 Bd)] s.heap.size = A at hD ⊢
  have hA : ∀ q : Nat, s.heap.size ≤ q → A q := fun q h => by rw [← hAe]; exact Or.inr h
  have hS : va_S A s.heap s.heap [] := va_S.rf
  have hP : va_P D vwCl [(mo, oMo th a1 a2 a3 re a4 a5 a6 tl a7 a8), (a1, aI yI 96 S), (a7, aI yI 1681 Bd)] s.heap := hP
  have hinX5 : ∀ w ∈ wsX50, w ∈ wsX5_leastWorth := by decide +kernel
  have hf7 : (Cond.fieldLink RX5 7 "RiddleDriveModel" "state" "[I").before _ s = true := hts _ (by decide +kernel)
  have hf28 : (Cond.fieldLink RX5 28 "RiddleDriveModel" "bounds" "[I").before _ s = true := hts _ (by decide +kernel)
  have hf38 : (Cond.fieldLink RX5 38 "RiddleDriveModel" "thrown" "I").before _ s = true := hts _ (by decide +kernel)
  have hl := lv_entry ([.ref mo]) (n := 5) (Nat.le_of_ble_eq_true rfl)
  rw [lg_entry_eq]
  generalize (lg_sl ([.ref mo]) ++ List.replicate (5 - (lg_sl ([.ref mo])).length) Slot.unset).toArray = ls at hl ⊢
  have hl : lv_has ls 5 [(0, .ref mo)] := hl
  have hpl := hI.pl
  have hna := hI.na
  have hse := hI.se
  have hwi := hI.wi
  refine lv_aload_n hx hb dX5_leastWorth_0 rfl (lv_at hl 0 rfl) ?_
  refine lv_iconst (v := iI 0) hx hb dX5_leastWorth_1 (by decide +kernel) ?_
  refine va_put (D := D) (ci := 5) (v := .int (iI 0)) (ty := .int) (C := RX5) (T := TX5) (N := 11) hx hb hts hinX5 tyX5 tyX5_ok nmX5 hown hK hP hD hS 0 rfl rfl 0 (by decide) hf38 (fun _ h9 => h9) rfl (by decide +kernel) rfl rfl (Nat.le_of_ble_eq_true rfl) dX5_leastWorth_2 (fun H locs hP hD hS => ?_)
  have hP : va_P D vwCl [(mo, oMo 0 a1 a2 a3 re a4 a5 a6 tl a7 a8), (a1, aI yI 96 S), (a7, aI yI 1681 Bd)] H := hP
  have hD : va_D A [(mo, oMo 0 a1 a2 a3 re a4 a5 a6 tl a7 a8), (a1, aI yI 96 S), (a7, aI yI 1681 Bd)] := hD
  refine lv_iconst (v := iI (-1)) hx hb dX5_leastWorth_5 (by decide +kernel) ?_
  refine lv_istore_n (lv' := [(1, .int (iI (-1))), (0, .ref mo)]) hx hb dX5_leastWorth_6 rfl hl (by decide) rfl (fun ls hl => ?_)
  refine lv_iconst (v := iI (-1)) hx hb dX5_leastWorth_7 (by decide +kernel) ?_
  refine lv_istore_n (lv' := [(2, .int (iI (-1))), (1, .int (iI (-1))), (0, .ref mo)]) hx hb dX5_leastWorth_8 rfl hl (by decide) rfl (fun ls hl => ?_)
  refine lv_iconst (v := iI 0) hx hb dX5_leastWorth_9 (by decide +kernel) ?_
  refine lv_istore_n (lv' := [(3, .int (iI 0)), (2, .int (iI (-1))), (1, .int (iI (-1))), (0, .ref mo)]) hx hb dX5_leastWorth_10 rfl hl (by decide) rfl (fun ls hl => ?_)
  refine iv_loop (I := fun (qq : Nat × Int × Int × Int × (Int → Int)) H locs ls => match qq with | (n, x1, x2, x3, G) => ((n : Int) ≤ S 4) ∧ (x3 = n) ∧ (lwN S n = (x1, x2)) ∧ (-1 ≤ x2 ∧ x2 ≤ 40) ∧ va_P D vwCl [(mo, oMo 0 a1 a2 a3 re a4 a5 a6 tl a7 a8), (a1, aI yI 96 S), (a7, aI yI 1681 G)] H ∧ va_D A [(mo, oMo 0 a1 a2 a3 re a4 a5 a6 tl a7 a8), (a1, aI yI 96 S), (a7, aI yI 1681 G)] ∧ va_S A s.heap H locs ∧ lv_has ls 5 [(3, .int (iI x3)), (2, .int (iI x2)), (1, .int (iI x1)), (0, .ref mo)]) (μ := fun (qq : Nat × Int × Int × Int × (Int → Int)) => match qq with | (n, x1, x2, x3, G) => (S 4).toNat - n) (0, -1, -1, 0, Bd) ?_ ?_
  · exact ⟨by omega, by omega, rfl, by omega, hP, hD, hS, lv_sub hl [0, 1, 2, 3] rfl⟩
  · intro qq H locs ls hI ih11
    obtain ⟨n, x1, x2, x3, G⟩ := qq
    obtain ⟨hn, h3, hl9, hx2, hP, hD, hS, hl⟩ := hI
    refine lv_iload_n hx hb dX5_leastWorth_11 rfl (lv_at hl 0 rfl) ?_
    refine lv_aload_n hx hb dX5_leastWorth_12 rfl (lv_at hl 3 rfl) ?_
    refine va_get (D := D) (ci := 5) (v := .ref a1) (C := RX5) (T := TX5) (N := 11) hx hb hts hinX5 hown hK hP 0 rfl rfl 1 (by decide) hf7 (fun _ h9 => h9) rfl dX5_leastWorth_13 ?_
    refine lv_iconst (v := iI 4) hx hb dX5_leastWorth_16 (by decide +kernel) ?_
    refine iv_ald hx hb hK hP 1 0 rfl rfl (z := 4) (by omega) (by omega) (by omega) dX5_leastWorth_17 ?_
    refine iv_icmp_ge (a := x3) (b := S 4) (tgt := 67) hx hb (by omega) (by omega) dX5_leastWorth_18 (by decide) (fun c18 => ?_) (fun c18 => ?_)
    · refine lv_iload_n hx hb dX5_leastWorth_67 rfl (lv_at hl 2 rfl) ?_
      have hP9 : va_P D vwCl [(mo, oMo 0 a1 a2 a3 re a4 a5 a6 tl a7 a8), (a1, aI yI 96 S), (a7, aI yI 1681 G)] _ := hP.sub [0, 1, 2] rfl
      exact W.iret hx hb hr (fun t ht hW => ⟨⟨iI x1, G, rfl, ⟨congrArg iI (show x1 = leastW S by unfold leastW; rw [show (S 4).toNat = n by omega, hl9]), trivial⟩, by show va_P D vwCl _ t.heap; rw [ht]; exact hP9⟩, hS.F ht⟩) hS.2.2 dX5_leastWorth_68
    · refine lv_aload_n hx hb dX5_leastWorth_21 rfl (lv_at hl 3 rfl) ?_
      refine lv_iload_n hx hb dX5_leastWorth_22 rfl (lv_at hl 0 rfl) ?_
      refine iv_rwVv (As := [.int (iI x3)]) (rest := []) (C := RX5) (n := 1) ⟨hx, hb, hml, hown, hts⟩ (c_X5_findBounds l D yI yC yD mo 0 re tl a1 a2 a3 a4 a5 a6 a7 a8 S G x3 (by assumption) (by omega) _) (cwV 1 hts gX5_leastWorth_X5_findBounds rfl rfl rfl (by decide +kernel) ⟨Nat.le_of_ble_eq_true rfl, Nat.le_of_ble_eq_true rfl⟩) hK hP hD hS hA [0, 1, 2] (by decide) rfl 0 rfl rfl rfl hl.1 rfl (Nat.le_of_ble_eq_true rfl) dX5_leastWorth_23 ⟨Nat.zero_le _, Nat.zero_le _⟩ (fun _ => rfl) (fun u23 H locs hw23 hP hD hS => ?_)
      have hP : va_P D vwCl [(mo, oMo 0 a1 a2 a3 re a4 a5 a6 tl a7 a8), (a1, aI yI 96 S), (a7, aI yI 1681 (FB S x3))] H := hP
      have hD : va_D A [(mo, oMo 0 a1 a2 a3 re a4 a5 a6 tl a7 a8), (a1, aI yI 96 S), (a7, aI yI 1681 (FB S x3))] := hD
      have hkr := knownIn_r (r := FB S x3) (pl := S 0) (by omega)
      refine lv_aload_n hx hb dX5_leastWorth_26 rfl (lv_at hl 3 rfl) ?_
      refine lv_aload_n hx hb dX5_leastWorth_27 rfl (lv_at hl 3 rfl) ?_
      refine va_get (D := D) (ci := 5) (v := .ref a7) (C := RX5) (T := TX5) (N := 11) hx hb hts hinX5 hown hK hP 0 rfl rfl 9 (by decide) hf28 (fun _ h9 => h9) rfl dX5_leastWorth_28 ?_
      refine iv_roV (As := [.ref a7]) (rest := []) (C := RX5) (n := 1) ⟨hx, hb, hml, hown, hts⟩ (c_X5_knownIn l D yI yC yD mo 0 re tl a1 a2 a3 a4 a5 a6 a7 a8 S a7 (FB S x3) (by omega) (gb_FB hI _)) (cwV 1 hts gX5_leastWorth_X5_knownIn rfl rfl rfl (by decide +kernel) ⟨Nat.le_of_ble_eq_true rfl, Nat.le_of_ble_eq_true rfl⟩) hK hP [0, 1, 2] rfl 0 rfl rfl rfl hl.1 rfl (Nat.le_of_ble_eq_true rfl) dX5_leastWorth_31 ⟨Nat.zero_le _, Nat.zero_le _⟩ ?_
      refine lv_istore (lv' := [(4, .int (iI (knownIn (FB S x3) (S 0)))), (3, .int (iI x3)), (2, .int (iI x2)), (1, .int (iI x1)), (0, .ref mo)]) hx hb dX5_leastWorth_34 hl (by decide) rfl (fun ls hl => ?_)
      refine lv_iload hx hb dX5_leastWorth_36 (lv_at hl 0 rfl) ?_
      refine lv_iload_n hx hb dX5_leastWorth_38 rfl (lv_at hl 2 rfl) ?_
      refine iv_icmp_le (a := knownIn (FB S x3) (S 0)) (b := x2) (tgt := 46) hx hb (by omega) (by omega) dX5_leastWorth_39 (by decide) (fun c39 => ?_) (fun c39 => ?_)
      · refine lv_iload_n hx hb dX5_leastWorth_46 rfl (lv_at hl 3 rfl) ?_
        refine lv_istore_n (lv' := [(1, .int (iI x1)), (4, .int (iI (knownIn (FB S x3) (S 0)))), (3, .int (iI x3)), (2, .int (iI x2)), (0, .ref mo)]) hx hb dX5_leastWorth_47 rfl hl (by decide) rfl (fun ls hl => ?_)
        refine lv_iload hx hb dX5_leastWorth_48 (lv_at hl 1 rfl) ?_
        refine lv_iload_n hx hb dX5_leastWorth_50 rfl (lv_at hl 3 rfl) ?_
        refine iv_icmp_le (a := knownIn (FB S x3) (S 0)) (b := x2) (tgt := 59) hx hb (by omega) (by omega) dX5_leastWorth_51 (by decide) (fun c51 => ?_) (fun c51 => ?_)
        · refine lv_iload_n hx hb dX5_leastWorth_59 rfl (lv_at hl 3 rfl) ?_
          refine lv_istore_n (lv' := [(2, .int (iI x2)), (1, .int (iI x1)), (4, .int (iI (knownIn (FB S x3) (S 0)))), (3, .int (iI x3)), (0, .ref mo)]) hx hb dX5_leastWorth_60 rfl hl (by decide) rfl (fun ls hl => ?_)
          refine iv_inc (lv' := [(3, .int (iI (x3 + 1))), (2, .int (iI x2)), (1, .int (iI x1)), (4, .int (iI (knownIn (FB S x3) (S 0)))), (0, .ref mo)]) hx hb dX5_leastWorth_61 hl (k := 3) rfl (by decide) rfl (fun ls hl => ?_)
          refine lv_goto (tgt := 11) hx hb dX5_leastWorth_64 (by decide) ?_
          refine ih11 (n + 1, x1, x2, x3 + 1, FB S x3) _ _ (by show ((S 4).toNat - (n + 1) : Nat) < (S 4).toNat - n; omega) ?_
          exact ⟨by omega, by omega, by (first | (exfalso; omega; done) | skip); try (subst h3; show (if (lwN S n).2 < knownIn (FB S n) (S 0) then _ else _) = _; rw [hl9]; first | rw [if_pos (show x2 < _ by omega)] | rw [if_neg (show ¬ x2 < _ by omega)]), by omega, hP, hD, hS, lv_sub hl [0, 1, 2, 4] rfl⟩
        · refine lv_iload hx hb dX5_leastWorth_54 (lv_at hl 1 rfl) ?_
          refine lv_goto (tgt := 60) hx hb dX5_leastWorth_56 (by decide) ?_
          refine lv_istore_n (lv' := [(2, .int (iI (knownIn (FB S x3) (S 0)))), (1, .int (iI x1)), (4, .int (iI (knownIn (FB S x3) (S 0)))), (3, .int (iI x3)), (0, .ref mo)]) hx hb dX5_leastWorth_60 rfl hl (by decide) rfl (fun ls hl => ?_)
          refine iv_inc (lv' := [(3, .int (iI (x3 + 1))), (2, .int (iI (knownIn (FB S x3) (S 0)))), (1, .int (iI x1)), (4, .int (iI (knownIn (FB S x3) (S 0)))), (0, .ref mo)]) hx hb dX5_leastWorth_61 hl (k := 3) rfl (by decide) rfl (fun ls hl => ?_)
          refine lv_goto (tgt := 11) hx hb dX5_leastWorth_64 (by decide) ?_
          refine ih11 (n + 1, x1, knownIn (FB S x3) (S 0), x3 + 1, FB S x3) _ _ (by show ((S 4).toNat - (n + 1) : Nat) < (S 4).toNat - n; omega) ?_
          exact ⟨by omega, by omega, by (first | (exfalso; omega; done) | skip); try (subst h3; show (if (lwN S n).2 < knownIn (FB S n) (S 0) then _ else _) = _; rw [hl9]; first | rw [if_pos (show x2 < _ by omega)] | rw [if_neg (show ¬ x2 < _ by omega)]), by omega, hP, hD, hS, lv_sub hl [0, 1, 2, 4] rfl⟩
      · refine lv_iload_n hx hb dX5_leastWorth_42 rfl (lv_at hl 1 rfl) ?_
        refine lv_goto (tgt := 47) hx hb dX5_leastWorth_43 (by decide) ?_
        refine lv_istore_n (lv' := [(1, .int (iI x3)), (4, .int (iI (knownIn (FB S x3) (S 0)))), (3, .int (iI x3)), (2, .int (iI x2)), (0, .ref mo)]) hx hb dX5_leastWorth_47 rfl hl (by decide) rfl (fun ls hl => ?_)
        refine lv_iload hx hb dX5_leastWorth_48 (lv_at hl 1 rfl) ?_
        refine lv_iload_n hx hb dX5_leastWorth_50 rfl (lv_at hl 3 rfl) ?_
        refine iv_icmp_le (a := knownIn (FB S x3) (S 0)) (b := x2) (tgt := 59) hx hb (by omega) (by omega) dX5_leastWorth_51 (by decide) (fun c51 => ?_) (fun c51 => ?_)
        · refine lv_iload_n hx hb dX5_leastWorth_59 rfl (lv_at hl 3 rfl) ?_
          refine lv_istore_n (lv' := [(2, .int (iI x2)), (1, .int (iI x3)), (4, .int (iI (knownIn (FB S x3) (S 0)))), (3, .int (iI x3)), (0, .ref mo)]) hx hb dX5_leastWorth_60 rfl hl (by decide) rfl (fun ls hl => ?_)
          refine iv_inc (lv' := [(3, .int (iI (x3 + 1))), (2, .int (iI x2)), (1, .int (iI x3)), (4, .int (iI (knownIn (FB S x3) (S 0)))), (0, .ref mo)]) hx hb dX5_leastWorth_61 hl (k := 3) rfl (by decide) rfl (fun ls hl => ?_)
          refine lv_goto (tgt := 11) hx hb dX5_leastWorth_64 (by decide) ?_
          refine ih11 (n + 1, x3, x2, x3 + 1, FB S x3) _ _ (by show ((S 4).toNat - (n + 1) : Nat) < (S 4).toNat - n; omega) ?_
          exact ⟨by omega, by omega, by (first | (exfalso; omega; done) | skip); try (subst h3; show (if (lwN S n).2 < knownIn (FB S n) (S 0) then _ else _) = _; rw [hl9]; first | rw [if_pos (show x2 < _ by omega)] | rw [if_neg (show ¬ x2 < _ by omega)]), by omega, hP, hD, hS, lv_sub hl [0, 1, 2, 4] rfl⟩
        · refine lv_iload hx hb dX5_leastWorth_54 (lv_at hl 1 rfl) ?_
          refine lv_goto (tgt := 60) hx hb dX5_leastWorth_56 (by decide) ?_
          refine lv_istore_n (lv' := [(2, .int (iI (knownIn (FB S x3) (S 0)))), (1, .int (iI x3)), (4, .int (iI (knownIn (FB S x3) (S 0)))), (3, .int (iI x3)), (0, .ref mo)]) hx hb dX5_leastWorth_60 rfl hl (by decide) rfl (fun ls hl => ?_)
          refine iv_inc (lv' := [(3, .int (iI (x3 + 1))), (2, .int (iI (knownIn (FB S x3) (S 0)))), (1, .int (iI x3)), (4, .int (iI (knownIn (FB S x3) (S 0)))), (0, .ref mo)]) hx hb dX5_leastWorth_61 hl (k := 3) rfl (by decide) rfl (fun ls hl => ?_)
          refine lv_goto (tgt := 11) hx hb dX5_leastWorth_64 (by decide) ?_
          refine ih11 (n + 1, x3, knownIn (FB S x3) (S 0), x3 + 1, FB S x3) _ _ (by show ((S 4).toNat - (n + 1) : Nat) < (S 4).toNat - n; omega) ?_
          exact ⟨by omega, by omega, by (first | (exfalso; omega; done) | skip); try (subst h3; show (if (lwN S n).2 < knownIn (FB S n) (S 0) then _ else _) = _; rw [hl9]; first | rw [if_pos (show x2 < _ by omega)] | rw [if_neg (show ¬ x2 < _ by omega)]), by omega, hP, hD, hS, lv_sub hl [0, 1, 2, 4] rfl⟩
set_option maxHeartbeats 4000000 in
set_option maxRecDepth 100000 in
theorem c_X5_tryAsk (l : Launch) (D : va_G) (yI yC yD : ClassId) (mo : Nat) (th : Int) (re : Int) (tl : Int) (a1 : Nat) (a2 : Nat) (a3 : Nat) (a4 : Nat) (a5 : Nat) (a6 : Nat) (a7 : Nat) (a8 : Nat) (S : Int → Int) (a : Int) (b : Int) (hI : Inv S) (hab : inR a ∧ inR b) (sz : Nat) : Met l yX5_tryAsk wsX5_tryAsk ({ frames := 4, cells := 0, slots := 0, locals := 94 }) (rwP [.ref mo, .int (iI a), .int (iI b)] D (tyz yI yC yD) [(mo, oMo th a1 a2 a3 re a4 a5 a6 tl a7 a8), (a1, aI yI 96 S)] sz) (va_Qi (fun (r : Int32) (_ : Unit) => r = iI (bI (whyA S a b = 0)) ∧ True) (fun (_ : Unit) (t : State) => va_P D vwCl [(mo, oMo th a1 a2 a3 re a4 a5 a6 tl a7 a8), (a1, aI yI 96 (if whyA S a b = 0 then askd S a b else S))] t.heap) (va_A [(mo, oMo th a1 a2 a3 re a4 a5 a6 tl a7 a8), (a1, aI yI 96 S)] sz)) 0 0 (va_A [(mo, oMo th a1 a2 a3 re a4 a5 a6 tl a7 a8), (a1, aI yI 96 S)] sz) := by
  refine Met.ofW (cc := cX5_tryAsk) (maxL := 4) (ret := (some .boolean)) (by decide) rfl ?_
  intro p e s m args below meth c s₁ B hml hv
  obtain ⟨rfl, hsz, hP, hK, hD0⟩ := hv
  have hx := B.exec
  have hb := B.bytes
  have hr := B.returns
  have hts := atoms_spec (ws := wsX5_tryAsk) B.pre
  have hown : s.vm.findClass RX5 = some m.cls := findClass_of_methodNamed B.named
  have hlocks := B.notSynchronized
  subst hsz
  have hD := hD0.self (sz := s.heap.size)
  generalize hAe : va_A [(mo, oMo th a1 a2 a3 re a4 a5 a6 tl a7 a8), (a1, aI yI 96 S)] s.heap.size = A at hD ⊢
  have hA : ∀ q : Nat, s.heap.size ≤ q → A q := fun q h => by rw [← hAe]; exact Or.inr h
  have hS : va_S A s.heap s.heap [] := va_S.rf
  have hP : va_P D vwCl [(mo, oMo th a1 a2 a3 re a4 a5 a6 tl a7 a8), (a1, aI yI 96 S)] s.heap := hP
  have hl := lv_entry ([.ref mo, .int (iI a), .int (iI b)]) (n := 4) (Nat.le_of_ble_eq_true rfl)
  rw [lg_entry_eq]
  generalize (lg_sl ([.ref mo, .int (iI a), .int (iI b)]) ++ List.replicate (4 - (lg_sl ([.ref mo, .int (iI a), .int (iI b)])).length) Slot.unset).toArray = ls at hl ⊢
  have hl : lv_has ls 4 [(0, .ref mo), (1, .int (iI a)), (2, .int (iI b))] := hl
  have hpl := hI.pl
  have hna := hI.na
  have hse := hI.se
  have hwi := hI.wi
  have hwa := whyA_r (S := S) (a := a) (b := b)
  refine lv_aload_n hx hb dX5_tryAsk_0 rfl (lv_at hl 0 rfl) ?_
  refine lv_iload_n hx hb dX5_tryAsk_1 rfl (lv_at hl 1 rfl) ?_
  refine lv_iload_n hx hb dX5_tryAsk_2 rfl (lv_at hl 2 rfl) ?_
  refine iv_roV (As := [.int (iI a), .int (iI b)]) (rest := []) (C := RX5) (n := 2) ⟨hx, hb, hml, hown, hts⟩ (c_X5_whyNotAsked l D yI yC yD mo th re tl a1 a2 a3 a4 a5 a6 a7 a8 S a b (by assumption) (by assumption)) (cwV 2 hts gX5_tryAsk_X5_whyNotAsked rfl rfl rfl (by decide +kernel) ⟨Nat.le_of_ble_eq_true rfl, Nat.le_of_ble_eq_true rfl⟩) hK hP [0, 1] rfl 0 rfl rfl rfl hl.1 rfl (Nat.le_of_ble_eq_true rfl) dX5_tryAsk_3 ⟨Nat.zero_le _, Nat.zero_le _⟩ ?_
  refine iv_if_ne (a := whyA S a b) (tgt := 13) hx hb (by omega) dX5_tryAsk_6 (by decide) (fun c6 => ?_) (fun c6 => ?_)
  · refine lv_iconst (v := iI 0) hx hb dX5_tryAsk_13 (by decide +kernel) ?_
    refine lv_istore_n (lv' := [(3, .int (iI 0)), (0, .ref mo), (1, .int (iI a)), (2, .int (iI b))]) hx hb dX5_tryAsk_14 rfl hl (by decide) rfl (fun ls hl => ?_)
    refine lv_iload_n hx hb dX5_tryAsk_15 rfl (lv_at hl 0 rfl) ?_
    refine iv_if_eq (a := 0) (tgt := 26) hx hb (by omega) dX5_tryAsk_16 (by decide) (fun c16 => ?_) (fun c16 => ?_)
    · refine lv_iload_n hx hb dX5_tryAsk_26 rfl (lv_at hl 0 rfl) ?_
      have hP9 : va_P D vwCl [(mo, oMo th a1 a2 a3 re a4 a5 a6 tl a7 a8), (a1, aI yI 96 (if whyA S a b = 0 then askd S a b else S))] _ := (hP.sub (ws' := [(mo, oMo th a1 a2 a3 re a4 a5 a6 tl a7 a8), (a1, aI yI 96 S)]) [0, 1] rfl).cv (by first | rw [if_pos (by omega)] | rw [if_neg (by omega)])
      exact W.zret hx hb hr (by decide +kernel) (fun t ht hW => ⟨⟨iI 0, (), rfl, ⟨congrArg iI (show 0 = bI (whyA S a b = 0) by first | exact (bI_t (by omega)).symm | exact (bI_f (by omega)).symm), trivial⟩, by show va_P D vwCl _ t.heap; rw [ht]; exact hP9⟩, hS.F ht⟩) hS.2.2 dX5_tryAsk_27
    · exact absurd c16 (by omega)
  · refine lv_iconst (v := iI 1) hx hb dX5_tryAsk_9 (by decide +kernel) ?_
    refine lv_goto (tgt := 14) hx hb dX5_tryAsk_10 (by decide) ?_
    refine lv_istore_n (lv' := [(3, .int (iI 1)), (0, .ref mo), (1, .int (iI a)), (2, .int (iI b))]) hx hb dX5_tryAsk_14 rfl hl (by decide) rfl (fun ls hl => ?_)
    refine lv_iload_n hx hb dX5_tryAsk_15 rfl (lv_at hl 0 rfl) ?_
    refine iv_if_eq (a := 1) (tgt := 26) hx hb (by omega) dX5_tryAsk_16 (by decide) (fun c16 => ?_) (fun c16 => ?_)
    · exact absurd c16 (by omega)
    · refine lv_aload_n hx hb dX5_tryAsk_19 rfl (lv_at hl 1 rfl) ?_
      have hwa0 := whyA_0.mp (show whyA S a b = 0 by omega)
      have hrr := whyR_0.mp hwa0.1
      refine lv_iload_n hx hb dX5_tryAsk_20 rfl (lv_at hl 2 rfl) ?_
      refine lv_iload_n hx hb dX5_tryAsk_21 rfl (lv_at hl 3 rfl) ?_
      refine iv_rwV (As := [.int (iI a), .int (iI b)]) (rest := []) (C := RX5) (n := 2) ⟨hx, hb, hml, hown, hts⟩ (c_X5_asked l D yI yC yD mo th re tl a1 a2 a3 a4 a5 a6 a7 a8 S a b (by assumption) (by omega) _) (cwV 2 hts gX5_tryAsk_X5_asked rfl rfl rfl (by decide +kernel) ⟨Nat.le_of_ble_eq_true rfl, Nat.le_of_ble_eq_true rfl⟩) hK hP hD hS hA [0, 1] (by decide) rfl 0 rfl rfl rfl hl.1 rfl (Nat.le_of_ble_eq_true rfl) dX5_tryAsk_22 ⟨Nat.zero_le _, Nat.zero_le _⟩ (fun _ => rfl) (fun r22 u22 H locs hw22 hP hD hS => ?_)
      obtain ⟨hr22, -⟩ := hw22
      subst hr22
      have hP : va_P D vwCl [(mo, oMo th a1 a2 a3 re a4 a5 a6 tl a7 a8), (a1, aI yI 96 (askd S a b))] H := hP
      have hD : va_D A [(mo, oMo th a1 a2 a3 re a4 a5 a6 tl a7 a8), (a1, aI yI 96 (askd S a b))] := hD
      refine lv_pop hx hb dX5_tryAsk_25 rfl ?_
      refine lv_iload_n hx hb dX5_tryAsk_26 rfl (lv_at hl 0 rfl) ?_
      have hP9 : va_P D vwCl [(mo, oMo th a1 a2 a3 re a4 a5 a6 tl a7 a8), (a1, aI yI 96 (if whyA S a b = 0 then askd S a b else S))] _ := (hP.sub (ws' := [(mo, oMo th a1 a2 a3 re a4 a5 a6 tl a7 a8), (a1, aI yI 96 (askd S a b))]) [0, 1] rfl).cv (by first | rw [if_pos (by omega)] | rw [if_neg (by omega)])
      exact W.zret hx hb hr (by decide +kernel) (fun t ht hW => ⟨⟨iI 1, (), rfl, ⟨congrArg iI (show 1 = bI (whyA S a b = 0) by first | exact (bI_t (by omega)).symm | exact (bI_f (by omega)).symm), trivial⟩, by show va_P D vwCl _ t.heap; rw [ht]; exact hP9⟩, hS.F ht⟩) hS.2.2 dX5_tryAsk_27
set_option maxHeartbeats 4000000 in
set_option maxRecDepth 100000 in
theorem c_X5_tryWrite (l : Launch) (D : va_G) (yI yC yD : ClassId) (mo : Nat) (th : Int) (re : Int) (tl : Int) (a1 : Nat) (a2 : Nat) (a3 : Nat) (a4 : Nat) (a5 : Nat) (a6 : Nat) (a7 : Nat) (a8 : Nat) (S : Int → Int) (i : Int) (v : Int) (hI : Inv S) (hi : inR i) (hv : 0 ≤ v ∧ v ≤ 100) (sz : Nat) : Met l yX5_tryWrite wsX5_tryWrite ({ frames := 2, cells := 0, slots := 0, locals := 46 }) (rwP [.ref mo, .int (iI i), .int (iI v)] D (tyz yI yC yD) [(mo, oMo th a1 a2 a3 re a4 a5 a6 tl a7 a8), (a1, aI yI 96 S)] sz) (va_Qi (fun (r : Int32) (_ : Unit) => r = iI (bI ((0 ≤ i ∧ i < S 0) ∧ v < 2)) ∧ True) (fun (_ : Unit) (t : State) => va_P D vwCl [(mo, oMo th a1 a2 a3 re a4 a5 a6 tl a7 a8), (a1, aI yI 96 (if (0 ≤ i ∧ i < S 0) ∧ v < 2 then wr S i v else S))] t.heap) (va_A [(mo, oMo th a1 a2 a3 re a4 a5 a6 tl a7 a8), (a1, aI yI 96 S)] sz)) 0 0 (va_A [(mo, oMo th a1 a2 a3 re a4 a5 a6 tl a7 a8), (a1, aI yI 96 S)] sz) := by
  refine Met.ofW (cc := cX5_tryWrite) (maxL := 4) (ret := (some .boolean)) (by decide) rfl ?_
  intro p e s m args below meth c s₁ B hml hv
  obtain ⟨rfl, hsz, hP, hK, hD0⟩ := hv
  have hx := B.exec
  have hb := B.bytes
  have hr := B.returns
  have hts := atoms_spec (ws := wsX5_tryWrite) B.pre
  have hown : s.vm.findClass RX5 = some m.cls := findClass_of_methodNamed B.named
  have hlocks := B.notSynchronized
  subst hsz
  have hD := hD0.self (sz := s.heap.size)
  generalize hAe : va_A [(mo, oMo th a1 a2 a3 re a4 a5 a6 tl a7 a8), (a1, aI yI 96 S)] s.heap.size = A at hD ⊢
  have hA : ∀ q : Nat, s.heap.size ≤ q → A q := fun q h => by rw [← hAe]; exact Or.inr h
  have hS : va_S A s.heap s.heap [] := va_S.rf
  have hP : va_P D vwCl [(mo, oMo th a1 a2 a3 re a4 a5 a6 tl a7 a8), (a1, aI yI 96 S)] s.heap := hP
  have hl := lv_entry ([.ref mo, .int (iI i), .int (iI v)]) (n := 4) (Nat.le_of_ble_eq_true rfl)
  rw [lg_entry_eq]
  generalize (lg_sl ([.ref mo, .int (iI i), .int (iI v)]) ++ List.replicate (4 - (lg_sl ([.ref mo, .int (iI i), .int (iI v)])).length) Slot.unset).toArray = ls at hl ⊢
  have hl : lv_has ls 4 [(0, .ref mo), (1, .int (iI i)), (2, .int (iI v))] := hl
  have hpl := hI.pl
  have hna := hI.na
  have hse := hI.se
  have hwi := hI.wi
  have han := hI.anr
  refine lv_aload_n hx hb dX5_tryWrite_0 rfl (lv_at hl 0 rfl) ?_
  refine lv_iload_n hx hb dX5_tryWrite_1 rfl (lv_at hl 1 rfl) ?_
  refine iv_roV (As := [.int (iI i)]) (rest := []) (C := RX5) (n := 1) ⟨hx, hb, hml, hown, hts⟩ (c_X5_isPlace l D yI yC yD mo th re tl a1 a2 a3 a4 a5 a6 a7 a8 S i (by omega) (by omega)) (cwV 1 hts gX5_tryWrite_X5_isPlace rfl rfl rfl (by decide +kernel) ⟨Nat.le_of_ble_eq_true rfl, Nat.le_of_ble_eq_true rfl⟩) hK hP [0, 1] rfl 0 rfl rfl rfl hl.1 rfl (Nat.le_of_ble_eq_true rfl) dX5_tryWrite_2 ⟨Nat.zero_le _, Nat.zero_le _⟩ ?_
  refine iv_ifb_eq (P := 0 ≤ i ∧ i < S 0) (tgt := 17) hx hb dX5_tryWrite_5 (by decide) (fun c5 => ?_) (fun c5 => ?_)
  · refine lv_iconst (v := iI 0) hx hb dX5_tryWrite_17 (by decide +kernel) ?_
    refine lv_istore_n (lv' := [(3, .int (iI 0)), (0, .ref mo), (1, .int (iI i)), (2, .int (iI v))]) hx hb dX5_tryWrite_18 rfl hl (by decide) rfl (fun ls hl => ?_)
    refine lv_iload_n hx hb dX5_tryWrite_19 rfl (lv_at hl 0 rfl) ?_
    refine iv_if_eq (a := 0) (tgt := 30) hx hb (by omega) dX5_tryWrite_20 (by decide) (fun c20 => ?_) (fun c20 => ?_)
    · refine lv_iload_n hx hb dX5_tryWrite_30 rfl (lv_at hl 0 rfl) ?_
      have hP9 : va_P D vwCl [(mo, oMo th a1 a2 a3 re a4 a5 a6 tl a7 a8), (a1, aI yI 96 (if (0 ≤ i ∧ i < S 0) ∧ v < 2 then wr S i v else S))] _ := (hP.sub (ws' := [(mo, oMo th a1 a2 a3 re a4 a5 a6 tl a7 a8), (a1, aI yI 96 S)]) [0, 1] rfl).cv (by first | rw [if_pos (by omega)] | rw [if_neg (by omega)])
      exact W.zret hx hb hr (by decide +kernel) (fun t ht hW => ⟨⟨iI 0, (), rfl, ⟨congrArg iI (show 0 = bI ((0 ≤ i ∧ i < S 0) ∧ v < 2) by first | exact (bI_t (by omega)).symm | exact (bI_f (by omega)).symm), trivial⟩, by show va_P D vwCl _ t.heap; rw [ht]; exact hP9⟩, hS.F ht⟩) hS.2.2 dX5_tryWrite_31
    · exact absurd c20 (by omega)
  · refine lv_iload_n hx hb dX5_tryWrite_8 rfl (lv_at hl 2 rfl) ?_
    refine lv_iconst (v := iI 2) hx hb dX5_tryWrite_9 (by decide +kernel) ?_
    refine iv_icmp_ge (a := v) (b := 2) (tgt := 17) hx hb (by omega) (by omega) dX5_tryWrite_10 (by decide) (fun c10 => ?_) (fun c10 => ?_)
    · refine lv_iconst (v := iI 0) hx hb dX5_tryWrite_17 (by decide +kernel) ?_
      refine lv_istore_n (lv' := [(3, .int (iI 0)), (0, .ref mo), (1, .int (iI i)), (2, .int (iI v))]) hx hb dX5_tryWrite_18 rfl hl (by decide) rfl (fun ls hl => ?_)
      refine lv_iload_n hx hb dX5_tryWrite_19 rfl (lv_at hl 0 rfl) ?_
      refine iv_if_eq (a := 0) (tgt := 30) hx hb (by omega) dX5_tryWrite_20 (by decide) (fun c20 => ?_) (fun c20 => ?_)
      · refine lv_iload_n hx hb dX5_tryWrite_30 rfl (lv_at hl 0 rfl) ?_
        have hP9 : va_P D vwCl [(mo, oMo th a1 a2 a3 re a4 a5 a6 tl a7 a8), (a1, aI yI 96 (if (0 ≤ i ∧ i < S 0) ∧ v < 2 then wr S i v else S))] _ := (hP.sub (ws' := [(mo, oMo th a1 a2 a3 re a4 a5 a6 tl a7 a8), (a1, aI yI 96 S)]) [0, 1] rfl).cv (by first | rw [if_pos (by omega)] | rw [if_neg (by omega)])
        exact W.zret hx hb hr (by decide +kernel) (fun t ht hW => ⟨⟨iI 0, (), rfl, ⟨congrArg iI (show 0 = bI ((0 ≤ i ∧ i < S 0) ∧ v < 2) by first | exact (bI_t (by omega)).symm | exact (bI_f (by omega)).symm), trivial⟩, by show va_P D vwCl _ t.heap; rw [ht]; exact hP9⟩, hS.F ht⟩) hS.2.2 dX5_tryWrite_31
      · exact absurd c20 (by omega)
    · refine lv_iconst (v := iI 1) hx hb dX5_tryWrite_13 (by decide +kernel) ?_
      refine lv_goto (tgt := 18) hx hb dX5_tryWrite_14 (by decide) ?_
      refine lv_istore_n (lv' := [(3, .int (iI 1)), (0, .ref mo), (1, .int (iI i)), (2, .int (iI v))]) hx hb dX5_tryWrite_18 rfl hl (by decide) rfl (fun ls hl => ?_)
      refine lv_iload_n hx hb dX5_tryWrite_19 rfl (lv_at hl 0 rfl) ?_
      refine iv_if_eq (a := 1) (tgt := 30) hx hb (by omega) dX5_tryWrite_20 (by decide) (fun c20 => ?_) (fun c20 => ?_)
      · exact absurd c20 (by omega)
      · refine lv_aload_n hx hb dX5_tryWrite_23 rfl (lv_at hl 1 rfl) ?_
        refine lv_iload_n hx hb dX5_tryWrite_24 rfl (lv_at hl 2 rfl) ?_
        refine lv_iload_n hx hb dX5_tryWrite_25 rfl (lv_at hl 3 rfl) ?_
        refine iv_rwV (As := [.int (iI i), .int (iI v)]) (rest := []) (C := RX5) (n := 2) ⟨hx, hb, hml, hown, hts⟩ (c_X5_written l D yI yC yD mo th re tl a1 a2 a3 a4 a5 a6 a7 a8 S i v (by omega) (by omega) (by have := hI.key (j := i) (by omega) (by omega); omega) (by omega) (by assumption) _) (cwV 2 hts gX5_tryWrite_X5_written rfl rfl rfl (by decide +kernel) ⟨Nat.le_of_ble_eq_true rfl, Nat.le_of_ble_eq_true rfl⟩) hK hP hD hS hA [0, 1] (by decide) rfl 0 rfl rfl rfl hl.1 rfl (Nat.le_of_ble_eq_true rfl) dX5_tryWrite_26 ⟨Nat.zero_le _, Nat.zero_le _⟩ (fun _ => rfl) (fun r26 u26 H locs hw26 hP hD hS => ?_)
        obtain ⟨hr26, -⟩ := hw26
        subst hr26
        have hP : va_P D vwCl [(mo, oMo th a1 a2 a3 re a4 a5 a6 tl a7 a8), (a1, aI yI 96 (wr S i v))] H := hP
        have hD : va_D A [(mo, oMo th a1 a2 a3 re a4 a5 a6 tl a7 a8), (a1, aI yI 96 (wr S i v))] := hD
        refine lv_pop hx hb dX5_tryWrite_29 rfl ?_
        refine lv_iload_n hx hb dX5_tryWrite_30 rfl (lv_at hl 0 rfl) ?_
        have hP9 : va_P D vwCl [(mo, oMo th a1 a2 a3 re a4 a5 a6 tl a7 a8), (a1, aI yI 96 (if (0 ≤ i ∧ i < S 0) ∧ v < 2 then wr S i v else S))] _ := (hP.sub (ws' := [(mo, oMo th a1 a2 a3 re a4 a5 a6 tl a7 a8), (a1, aI yI 96 (wr S i v))]) [0, 1] rfl).cv (by first | rw [if_pos (by omega)] | rw [if_neg (by omega)])
        exact W.zret hx hb hr (by decide +kernel) (fun t ht hW => ⟨⟨iI 1, (), rfl, ⟨congrArg iI (show 1 = bI ((0 ≤ i ∧ i < S 0) ∧ v < 2) by first | exact (bI_t (by omega)).symm | exact (bI_f (by omega)).symm), trivial⟩, by show va_P D vwCl _ t.heap; rw [ht]; exact hP9⟩, hS.F ht⟩) hS.2.2 dX5_tryWrite_31
set_option maxHeartbeats 4000000 in
set_option maxRecDepth 100000 in
theorem c_X5_trySet (l : Launch) (D : va_G) (yI yC yD : ClassId) (mo : Nat) (th : Int) (re : Int) (tl : Int) (a1 : Nat) (a2 : Nat) (a3 : Nat) (a4 : Nat) (a5 : Nat) (a6 : Nat) (a7 : Nat) (a8 : Nat) (S : Int → Int) (w : Int) (v : Int) (hI : Inv S) (hw9 : inR w ∧ inR v) (sz : Nat) : Met l yX5_trySet wsX5_trySet ({ frames := 2, cells := 0, slots := 0, locals := 43 }) (rwP [.ref mo, .int (iI w), .int (iI v)] D (tyz yI yC yD) [(mo, oMo th a1 a2 a3 re a4 a5 a6 tl a7 a8), (a1, aI yI 96 S)] sz) (va_Qi (fun (r : Int32) (_ : Unit) => r = iI (bI (okS w v)) ∧ True) (fun (_ : Unit) (t : State) => va_P D vwCl [(mo, oMo th a1 a2 a3 re a4 a5 a6 tl a7 a8), (a1, aI yI 96 (if okS w v then setg S w v else S))] t.heap) (va_A [(mo, oMo th a1 a2 a3 re a4 a5 a6 tl a7 a8), (a1, aI yI 96 S)] sz)) 0 0 (va_A [(mo, oMo th a1 a2 a3 re a4 a5 a6 tl a7 a8), (a1, aI yI 96 S)] sz) := by
  refine Met.ofW (cc := cX5_trySet) (maxL := 4) (ret := (some .boolean)) (by decide) rfl ?_
  intro p e s m args below meth c s₁ B hml hv
  obtain ⟨rfl, hsz, hP, hK, hD0⟩ := hv
  have hx := B.exec
  have hb := B.bytes
  have hr := B.returns
  have hts := atoms_spec (ws := wsX5_trySet) B.pre
  have hown : s.vm.findClass RX5 = some m.cls := findClass_of_methodNamed B.named
  have hlocks := B.notSynchronized
  subst hsz
  have hD := hD0.self (sz := s.heap.size)
  generalize hAe : va_A [(mo, oMo th a1 a2 a3 re a4 a5 a6 tl a7 a8), (a1, aI yI 96 S)] s.heap.size = A at hD ⊢
  have hA : ∀ q : Nat, s.heap.size ≤ q → A q := fun q h => by rw [← hAe]; exact Or.inr h
  have hS : va_S A s.heap s.heap [] := va_S.rf
  have hP : va_P D vwCl [(mo, oMo th a1 a2 a3 re a4 a5 a6 tl a7 a8), (a1, aI yI 96 S)] s.heap := hP
  have hl := lv_entry ([.ref mo, .int (iI w), .int (iI v)]) (n := 4) (Nat.le_of_ble_eq_true rfl)
  rw [lg_entry_eq]
  generalize (lg_sl ([.ref mo, .int (iI w), .int (iI v)]) ++ List.replicate (4 - (lg_sl ([.ref mo, .int (iI w), .int (iI v)])).length) Slot.unset).toArray = ls at hl ⊢
  have hl : lv_has ls 4 [(0, .ref mo), (1, .int (iI w)), (2, .int (iI v))] := hl
  refine lv_iload_n hx hb dX5_trySet_0 rfl (lv_at hl 1 rfl) ?_
  refine lv_iload_n hx hb dX5_trySet_1 rfl (lv_at hl 2 rfl) ?_
  refine iv_roS (As := [.int (iI w), .int (iI v)]) (rest := []) (n := 2) ⟨hx, hb, hml, hown, hts⟩ (c_X5_isSetting l D yI yC yD w v (by omega)) (va_cwS 2 hts gX5_trySet_X5_isSetting rfl rfl rfl (by decide +kernel) ⟨Nat.le_of_ble_eq_true rfl, Nat.le_of_ble_eq_true rfl⟩) hK hP [] rfl rfl hl.1 rfl (Nat.le_of_ble_eq_true rfl) dX5_trySet_2 ⟨Nat.zero_le _, Nat.zero_le _⟩ ?_
  refine lv_istore_n (lv' := [(3, .int (iI (bI (okS w v)))), (0, .ref mo), (1, .int (iI w)), (2, .int (iI v))]) hx hb dX5_trySet_5 rfl hl (by decide) rfl (fun ls hl => ?_)
  refine lv_iload_n hx hb dX5_trySet_6 rfl (lv_at hl 0 rfl) ?_
  refine iv_ifb_eq (P := okS w v) (tgt := 17) hx hb dX5_trySet_7 (by decide) (fun c7 => ?_) (fun c7 => ?_)
  · refine lv_iload_n hx hb dX5_trySet_17 rfl (lv_at hl 0 rfl) ?_
    have hP9 : va_P D vwCl [(mo, oMo th a1 a2 a3 re a4 a5 a6 tl a7 a8), (a1, aI yI 96 (if okS w v then setg S w v else S))] _ := (hP.sub (ws' := [(mo, oMo th a1 a2 a3 re a4 a5 a6 tl a7 a8), (a1, aI yI 96 S)]) [0, 1] rfl).cv (by first | rw [if_pos (by assumption)] | rw [if_neg (by assumption)])
    exact W.zret hx hb hr (narB _) (fun t ht hW => ⟨⟨iI (bI (okS w v)), (), rfl, ⟨rfl, trivial⟩, by show va_P D vwCl _ t.heap; rw [ht]; exact hP9⟩, hS.F ht⟩) hS.2.2 dX5_trySet_18
  · refine lv_aload_n hx hb dX5_trySet_10 rfl (lv_at hl 1 rfl) ?_
    refine lv_iload_n hx hb dX5_trySet_11 rfl (lv_at hl 2 rfl) ?_
    refine lv_iload_n hx hb dX5_trySet_12 rfl (lv_at hl 3 rfl) ?_
    refine iv_rwV (As := [.int (iI w), .int (iI v)]) (rest := []) (C := RX5) (n := 2) ⟨hx, hb, hml, hown, hts⟩ (c_X5_changed l D yI yC yD mo th re tl a1 a2 a3 a4 a5 a6 a7 a8 S w v (by unfold okS at *; omega) (set_h2 hI (by assumption)) _) (cwV 2 hts gX5_trySet_X5_changed rfl rfl rfl (by decide +kernel) ⟨Nat.le_of_ble_eq_true rfl, Nat.le_of_ble_eq_true rfl⟩) hK hP hD hS hA [0, 1] (by decide) rfl 0 rfl rfl rfl hl.1 rfl (Nat.le_of_ble_eq_true rfl) dX5_trySet_13 ⟨Nat.zero_le _, Nat.zero_le _⟩ (fun _ => rfl) (fun r13 u13 H locs hw13 hP hD hS => ?_)
    obtain ⟨hr13, -⟩ := hw13
    subst hr13
    have hP : va_P D vwCl [(mo, oMo th a1 a2 a3 re a4 a5 a6 tl a7 a8), (a1, aI yI 96 (setg S w v))] H := hP
    have hD : va_D A [(mo, oMo th a1 a2 a3 re a4 a5 a6 tl a7 a8), (a1, aI yI 96 (setg S w v))] := hD
    refine lv_pop hx hb dX5_trySet_16 rfl ?_
    refine lv_iload_n hx hb dX5_trySet_17 rfl (lv_at hl 0 rfl) ?_
    have hP9 : va_P D vwCl [(mo, oMo th a1 a2 a3 re a4 a5 a6 tl a7 a8), (a1, aI yI 96 (if okS w v then setg S w v else S))] _ := (hP.sub (ws' := [(mo, oMo th a1 a2 a3 re a4 a5 a6 tl a7 a8), (a1, aI yI 96 (setg S w v))]) [0, 1] rfl).cv (by first | rw [if_pos (by assumption)] | rw [if_neg (by assumption)])
    exact W.zret hx hb hr (narB _) (fun t ht hW => ⟨⟨iI (bI (okS w v)), (), rfl, ⟨rfl, trivial⟩, by show va_P D vwCl _ t.heap; rw [ht]; exact hP9⟩, hS.F ht⟩) hS.2.2 dX5_trySet_18
set_option maxHeartbeats 4000000 in
set_option maxRecDepth 100000 in
theorem c_X5_tryForget (l : Launch) (D : va_G) (yI yC yD : ClassId) (mo : Nat) (th : Int) (re : Int) (tl : Int) (a1 : Nat) (a2 : Nat) (a3 : Nat) (a4 : Nat) (a5 : Nat) (a6 : Nat) (a7 : Nat) (a8 : Nat) (S : Int → Int) (i : Int) (hI : Inv S) (hi : inR i) (sz : Nat) : Met l yX5_tryForget wsX5_tryForget ({ frames := 2, cells := 0, slots := 0, locals := 43 }) (rwP [.ref mo, .int (iI i)] D (tyz yI yC yD) [(mo, oMo th a1 a2 a3 re a4 a5 a6 tl a7 a8), (a1, aI yI 96 S)] sz) (va_Qi (fun (r : Int32) (_ : Unit) => r = iI (bI (0 ≤ i ∧ i < S 4)) ∧ True) (fun (_ : Unit) (t : State) => va_P D vwCl [(mo, oMo th a1 a2 a3 re a4 a5 a6 tl a7 a8), (a1, aI yI 96 (if 0 ≤ i ∧ i < S 4 then forget1 S i else S))] t.heap) (va_A [(mo, oMo th a1 a2 a3 re a4 a5 a6 tl a7 a8), (a1, aI yI 96 S)] sz)) 0 0 (va_A [(mo, oMo th a1 a2 a3 re a4 a5 a6 tl a7 a8), (a1, aI yI 96 S)] sz) := by
  refine Met.ofW (cc := cX5_tryForget) (maxL := 3) (ret := (some .boolean)) (by decide) rfl ?_
  intro p e s m args below meth c s₁ B hml hv
  obtain ⟨rfl, hsz, hP, hK, hD0⟩ := hv
  have hx := B.exec
  have hb := B.bytes
  have hr := B.returns
  have hts := atoms_spec (ws := wsX5_tryForget) B.pre
  have hown : s.vm.findClass RX5 = some m.cls := findClass_of_methodNamed B.named
  have hlocks := B.notSynchronized
  subst hsz
  have hD := hD0.self (sz := s.heap.size)
  generalize hAe : va_A [(mo, oMo th a1 a2 a3 re a4 a5 a6 tl a7 a8), (a1, aI yI 96 S)] s.heap.size = A at hD ⊢
  have hA : ∀ q : Nat, s.heap.size ≤ q → A q := fun q h => by rw [← hAe]; exact Or.inr h
  have hS : va_S A s.heap s.heap [] := va_S.rf
  have hP : va_P D vwCl [(mo, oMo th a1 a2 a3 re a4 a5 a6 tl a7 a8), (a1, aI yI 96 S)] s.heap := hP
  have hl := lv_entry ([.ref mo, .int (iI i)]) (n := 3) (Nat.le_of_ble_eq_true rfl)
  rw [lg_entry_eq]
  generalize (lg_sl ([.ref mo, .int (iI i)]) ++ List.replicate (3 - (lg_sl ([.ref mo, .int (iI i)])).length) Slot.unset).toArray = ls at hl ⊢
  have hl : lv_has ls 3 [(0, .ref mo), (1, .int (iI i))] := hl
  have hpl := hI.pl
  have hna := hI.na
  have hse := hI.se
  have hwi := hI.wi
  refine lv_aload_n hx hb dX5_tryForget_0 rfl (lv_at hl 0 rfl) ?_
  refine lv_iload_n hx hb dX5_tryForget_1 rfl (lv_at hl 1 rfl) ?_
  refine iv_roV (As := [.int (iI i)]) (rest := []) (C := RX5) (n := 1) ⟨hx, hb, hml, hown, hts⟩ (c_X5_isAnswer l D yI yC yD mo th re tl a1 a2 a3 a4 a5 a6 a7 a8 S i (by omega) (by omega)) (cwV 1 hts gX5_tryForget_X5_isAnswer rfl rfl rfl (by decide +kernel) ⟨Nat.le_of_ble_eq_true rfl, Nat.le_of_ble_eq_true rfl⟩) hK hP [0, 1] rfl 0 rfl rfl rfl hl.1 rfl (Nat.le_of_ble_eq_true rfl) dX5_tryForget_2 ⟨Nat.zero_le _, Nat.zero_le _⟩ ?_
  refine lv_istore_n (lv' := [(2, .int (iI (bI (0 ≤ i ∧ i < S 4)))), (0, .ref mo), (1, .int (iI i))]) hx hb dX5_tryForget_5 rfl hl (by decide) rfl (fun ls hl => ?_)
  refine lv_iload_n hx hb dX5_tryForget_6 rfl (lv_at hl 0 rfl) ?_
  refine iv_ifb_eq (P := 0 ≤ i ∧ i < S 4) (tgt := 15) hx hb dX5_tryForget_7 (by decide) (fun c7 => ?_) (fun c7 => ?_)
  · refine lv_iload_n hx hb dX5_tryForget_15 rfl (lv_at hl 0 rfl) ?_
    have hP9 : va_P D vwCl [(mo, oMo th a1 a2 a3 re a4 a5 a6 tl a7 a8), (a1, aI yI 96 (if 0 ≤ i ∧ i < S 4 then forget1 S i else S))] _ := (hP.sub (ws' := [(mo, oMo th a1 a2 a3 re a4 a5 a6 tl a7 a8), (a1, aI yI 96 S)]) [0, 1] rfl).cv (by first | rw [if_pos (by omega)] | rw [if_neg (by omega)])
    exact W.zret hx hb hr (narB _) (fun t ht hW => ⟨⟨iI (bI (0 ≤ i ∧ i < S 4)), (), rfl, ⟨rfl, trivial⟩, by show va_P D vwCl _ t.heap; rw [ht]; exact hP9⟩, hS.F ht⟩) hS.2.2 dX5_tryForget_16
  · refine lv_aload_n hx hb dX5_tryForget_10 rfl (lv_at hl 1 rfl) ?_
    refine lv_iload_n hx hb dX5_tryForget_11 rfl (lv_at hl 2 rfl) ?_
    refine iv_rwVv (As := [.int (iI i)]) (rest := []) (C := RX5) (n := 1) ⟨hx, hb, hml, hown, hts⟩ (c_X5_forgetOne l D yI yC yD mo th re tl a1 a2 a3 a4 a5 a6 a7 a8 S i (by omega) _) (cwV 1 hts gX5_tryForget_X5_forgetOne rfl rfl rfl (by decide +kernel) ⟨Nat.le_of_ble_eq_true rfl, Nat.le_of_ble_eq_true rfl⟩) hK hP hD hS hA [0, 1] (by decide) rfl 0 rfl rfl rfl hl.1 rfl (Nat.le_of_ble_eq_true rfl) dX5_tryForget_12 ⟨Nat.zero_le _, Nat.zero_le _⟩ (fun _ => rfl) (fun u12 H locs hw12 hP hD hS => ?_)
    have hP : va_P D vwCl [(mo, oMo th a1 a2 a3 re a4 a5 a6 tl a7 a8), (a1, aI yI 96 (forget1 S i))] H := hP
    have hD : va_D A [(mo, oMo th a1 a2 a3 re a4 a5 a6 tl a7 a8), (a1, aI yI 96 (forget1 S i))] := hD
    refine lv_iload_n hx hb dX5_tryForget_15 rfl (lv_at hl 0 rfl) ?_
    have hP9 : va_P D vwCl [(mo, oMo th a1 a2 a3 re a4 a5 a6 tl a7 a8), (a1, aI yI 96 (if 0 ≤ i ∧ i < S 4 then forget1 S i else S))] _ := (hP.sub (ws' := [(mo, oMo th a1 a2 a3 re a4 a5 a6 tl a7 a8), (a1, aI yI 96 (forget1 S i))]) [0, 1] rfl).cv (by first | rw [if_pos (by omega)] | rw [if_neg (by omega)])
    exact W.zret hx hb hr (narB _) (fun t ht hW => ⟨⟨iI (bI (0 ≤ i ∧ i < S 4)), (), rfl, ⟨rfl, trivial⟩, by show va_P D vwCl _ t.heap; rw [ht]; exact hP9⟩, hS.F ht⟩) hS.2.2 dX5_tryForget_16
set_option maxHeartbeats 4000000 in
set_option maxRecDepth 100000 in
theorem c_X5_isKnownAs (l : Launch) (D : va_G) (yI yC yD : ClassId) (mo : Nat) (th : Int) (re : Int) (tl : Int) (a1 : Nat) (a2 : Nat) (a3 : Nat) (a4 : Nat) (a5 : Nat) (a6 : Nat) (a7 : Nat) (a8 : Nat) (S : Int → Int) (Bd : Int → Int) (i : Int) (v : Int) (hI : Inv S) (hi : inR i) (hv : 0 ≤ v ∧ v ≤ 100) (sz : Nat) : Met l yX5_isKnownAs wsX5_isKnownAs ({ frames := 3, cells := 0, slots := 0, locals := 74 }) (rwP [.ref mo, .int (iI i), .int (iI v)] D (tyz yI yC yD) [(mo, oMo th a1 a2 a3 re a4 a5 a6 tl a7 a8), (a1, aI yI 96 S), (a7, aI yI 1681 Bd)] sz) (va_Qi (fun (r : Int32) (G9 : (Int → Int)) => r = iI (bI ((0 ≤ i ∧ i < S 0) ∧ v < 2 ∧ knownOf (FB S (-1)) i = v)) ∧ True) (fun (G9 : (Int → Int)) (t : State) => va_P D vwCl [(mo, oMo th a1 a2 a3 re a4 a5 a6 tl a7 a8), (a1, aI yI 96 S), (a7, aI yI 1681 G9)] t.heap) (va_A [(mo, oMo th a1 a2 a3 re a4 a5 a6 tl a7 a8), (a1, aI yI 96 S), (a7, aI yI 1681 Bd)] sz)) 0 0 (va_A [(mo, oMo th a1 a2 a3 re a4 a5 a6 tl a7 a8), (a1, aI yI 96 S), (a7, aI yI 1681 Bd)] sz) := by
  refine Met.ofW (cc := cX5_isKnownAs) (maxL := 3) (ret := (some .boolean)) (by decide) rfl ?_
  intro p e s m args below meth c s₁ B hml hv
  obtain ⟨rfl, hsz, hP, hK, hD0⟩ := hv
  have hx := B.exec
  have hb := B.bytes
  have hr := B.returns
  have hts := atoms_spec (ws := wsX5_isKnownAs) B.pre
  have hown : s.vm.findClass RX5 = some m.cls := findClass_of_methodNamed B.named
  have hlocks := B.notSynchronized
  subst hsz
  have hD := hD0.self (sz := s.heap.size)
  generalize hAe : va_A [(mo, oMo th a1 a2 a3 re a4 a5 a6 tl a7 a8), (a1, aI yI 96 S), (a7, aI yI 1681 Bd)] s.heap.size = A at hD ⊢
  have hA : ∀ q : Nat, s.heap.size ≤ q → A q := fun q h => by rw [← hAe]; exact Or.inr h
  have hS : va_S A s.heap s.heap [] := va_S.rf
  have hP : va_P D vwCl [(mo, oMo th a1 a2 a3 re a4 a5 a6 tl a7 a8), (a1, aI yI 96 S), (a7, aI yI 1681 Bd)] s.heap := hP
  have hl := lv_entry ([.ref mo, .int (iI i), .int (iI v)]) (n := 3) (Nat.le_of_ble_eq_true rfl)
  rw [lg_entry_eq]
  generalize (lg_sl ([.ref mo, .int (iI i), .int (iI v)]) ++ List.replicate (3 - (lg_sl ([.ref mo, .int (iI i), .int (iI v)])).length) Slot.unset).toArray = ls at hl ⊢
  have hl : lv_has ls 3 [(0, .ref mo), (1, .int (iI i)), (2, .int (iI v))] := hl
  have hpl := hI.pl
  have hna := hI.na
  have hse := hI.se
  have hwi := hI.wi
  have hb1 := gb_FB hI (-1)
  refine lv_aload_n hx hb dX5_isKnownAs_0 rfl (lv_at hl 0 rfl) ?_
  refine lv_iconst (v := iI (-1)) hx hb dX5_isKnownAs_1 (by decide +kernel) ?_
  refine iv_rwVv (As := [.int (iI (-1))]) (rest := []) (C := RX5) (n := 1) ⟨hx, hb, hml, hown, hts⟩ (c_X5_findBounds l D yI yC yD mo th re tl a1 a2 a3 a4 a5 a6 a7 a8 S Bd (-1) (by assumption) (by omega) _) (cwV 1 hts gX5_isKnownAs_X5_findBounds rfl rfl rfl (by decide +kernel) ⟨Nat.le_of_ble_eq_true rfl, Nat.le_of_ble_eq_true rfl⟩) hK hP hD hS hA [0, 1, 2] (by decide) rfl 0 rfl rfl rfl hl.1 rfl (Nat.le_of_ble_eq_true rfl) dX5_isKnownAs_2 ⟨Nat.zero_le _, Nat.zero_le _⟩ (fun _ => rfl) (fun u2 H locs hw2 hP hD hS => ?_)
  have hP : va_P D vwCl [(mo, oMo th a1 a2 a3 re a4 a5 a6 tl a7 a8), (a1, aI yI 96 S), (a7, aI yI 1681 (FB S (-1)))] H := hP
  have hD : va_D A [(mo, oMo th a1 a2 a3 re a4 a5 a6 tl a7 a8), (a1, aI yI 96 S), (a7, aI yI 1681 (FB S (-1)))] := hD
  refine lv_aload_n hx hb dX5_isKnownAs_5 rfl (lv_at hl 0 rfl) ?_
  refine lv_iload_n hx hb dX5_isKnownAs_6 rfl (lv_at hl 1 rfl) ?_
  refine iv_roV (As := [.int (iI i)]) (rest := []) (C := RX5) (n := 1) ⟨hx, hb, hml, hown, hts⟩ (c_X5_isPlace l D yI yC yD mo th re tl a1 a2 a3 a4 a5 a6 a7 a8 S i (by omega) (by omega)) (cwV 1 hts gX5_isKnownAs_X5_isPlace rfl rfl rfl (by decide +kernel) ⟨Nat.le_of_ble_eq_true rfl, Nat.le_of_ble_eq_true rfl⟩) hK hP [0, 1] rfl 0 rfl rfl rfl hl.1 rfl (Nat.le_of_ble_eq_true rfl) dX5_isKnownAs_7 ⟨Nat.zero_le _, Nat.zero_le _⟩ ?_
  refine iv_ifb_eq (P := 0 ≤ i ∧ i < S 0) (tgt := 31) hx hb dX5_isKnownAs_10 (by decide) (fun c10 => ?_) (fun c10 => ?_)
  · refine lv_iconst (v := iI 0) hx hb dX5_isKnownAs_31 (by decide +kernel) ?_
    have hP9 : va_P D vwCl [(mo, oMo th a1 a2 a3 re a4 a5 a6 tl a7 a8), (a1, aI yI 96 S), (a7, aI yI 1681 (FB S (-1)))] _ := hP.sub [0, 1, 2] rfl
    exact W.zret hx hb hr (by decide +kernel) (fun t ht hW => ⟨⟨iI 0, (FB S (-1)), rfl, ⟨congrArg iI (show 0 = bI ((0 ≤ i ∧ i < S 0) ∧ v < 2 ∧ knownOf (FB S (-1)) i = v) by first | exact (bI_t (by omega)).symm | exact (bI_f (by omega)).symm), trivial⟩, by show va_P D vwCl _ t.heap; rw [ht]; exact hP9⟩, hS.F ht⟩) hS.2.2 dX5_isKnownAs_32
  · refine lv_iload_n hx hb dX5_isKnownAs_13 rfl (lv_at hl 2 rfl) ?_
    refine lv_iconst (v := iI 2) hx hb dX5_isKnownAs_14 (by decide +kernel) ?_
    refine iv_icmp_ge (a := v) (b := 2) (tgt := 31) hx hb (by omega) (by omega) dX5_isKnownAs_15 (by decide) (fun c15 => ?_) (fun c15 => ?_)
    · refine lv_iconst (v := iI 0) hx hb dX5_isKnownAs_31 (by decide +kernel) ?_
      have hP9 : va_P D vwCl [(mo, oMo th a1 a2 a3 re a4 a5 a6 tl a7 a8), (a1, aI yI 96 S), (a7, aI yI 1681 (FB S (-1)))] _ := hP.sub [0, 1, 2] rfl
      exact W.zret hx hb hr (by decide +kernel) (fun t ht hW => ⟨⟨iI 0, (FB S (-1)), rfl, ⟨congrArg iI (show 0 = bI ((0 ≤ i ∧ i < S 0) ∧ v < 2 ∧ knownOf (FB S (-1)) i = v) by first | exact (bI_t (by omega)).symm | exact (bI_f (by omega)).symm), trivial⟩, by show va_P D vwCl _ t.heap; rw [ht]; exact hP9⟩, hS.F ht⟩) hS.2.2 dX5_isKnownAs_32
    · have hko := knownOf_r hb1 (i := i) (by omega)
      refine lv_aload_n hx hb dX5_isKnownAs_18 rfl (lv_at hl 0 rfl) ?_
      refine lv_iload_n hx hb dX5_isKnownAs_19 rfl (lv_at hl 1 rfl) ?_
      refine iv_roV (As := [.int (iI i)]) (rest := []) (C := RX5) (n := 1) ⟨hx, hb, hml, hown, hts⟩ (c_X5_knownOf l D yI yC yD mo th re tl a1 a2 a3 a4 a5 a6 a7 a8 S (FB S (-1)) i (by omega) (hb1)) (cwV 1 hts gX5_isKnownAs_X5_knownOf rfl rfl rfl (by decide +kernel) ⟨Nat.le_of_ble_eq_true rfl, Nat.le_of_ble_eq_true rfl⟩) hK hP [0, 1, 2] rfl 0 rfl rfl rfl hl.1 rfl (Nat.le_of_ble_eq_true rfl) dX5_isKnownAs_20 ⟨Nat.zero_le _, Nat.zero_le _⟩ ?_
      refine lv_iload_n hx hb dX5_isKnownAs_23 rfl (lv_at hl 2 rfl) ?_
      refine iv_icmp_ne (a := knownOf (FB S (-1)) i) (b := v) (tgt := 31) hx hb (by omega) (by omega) dX5_isKnownAs_24 (by decide) (fun c24 => ?_) (fun c24 => ?_)
      · refine lv_iconst (v := iI 0) hx hb dX5_isKnownAs_31 (by decide +kernel) ?_
        have hP9 : va_P D vwCl [(mo, oMo th a1 a2 a3 re a4 a5 a6 tl a7 a8), (a1, aI yI 96 S), (a7, aI yI 1681 (FB S (-1)))] _ := hP.sub [0, 1, 2] rfl
        exact W.zret hx hb hr (by decide +kernel) (fun t ht hW => ⟨⟨iI 0, (FB S (-1)), rfl, ⟨congrArg iI (show 0 = bI ((0 ≤ i ∧ i < S 0) ∧ v < 2 ∧ knownOf (FB S (-1)) i = v) by first | exact (bI_t (by omega)).symm | exact (bI_f (by omega)).symm), trivial⟩, by show va_P D vwCl _ t.heap; rw [ht]; exact hP9⟩, hS.F ht⟩) hS.2.2 dX5_isKnownAs_32
      · refine lv_iconst (v := iI 1) hx hb dX5_isKnownAs_27 (by decide +kernel) ?_
        refine lv_goto (tgt := 32) hx hb dX5_isKnownAs_28 (by decide) ?_
        have hP9 : va_P D vwCl [(mo, oMo th a1 a2 a3 re a4 a5 a6 tl a7 a8), (a1, aI yI 96 S), (a7, aI yI 1681 (FB S (-1)))] _ := hP.sub [0, 1, 2] rfl
        exact W.zret hx hb hr (by decide +kernel) (fun t ht hW => ⟨⟨iI 1, (FB S (-1)), rfl, ⟨congrArg iI (show 1 = bI ((0 ≤ i ∧ i < S 0) ∧ v < 2 ∧ knownOf (FB S (-1)) i = v) by first | exact (bI_t (by omega)).symm | exact (bI_f (by omega)).symm), trivial⟩, by show va_P D vwCl _ t.heap; rw [ht]; exact hP9⟩, hS.F ht⟩) hS.2.2 dX5_isKnownAs_32
set_option maxHeartbeats 4000000 in
set_option maxRecDepth 100000 in
theorem c_X5_knownMany (l : Launch) (D : va_G) (yI yC yD : ClassId) (mo : Nat) (th : Int) (re : Int) (tl : Int) (a1 : Nat) (a2 : Nat) (a3 : Nat) (a4 : Nat) (a5 : Nat) (a6 : Nat) (a7 : Nat) (a8 : Nat) (S : Int → Int) (Bd : Int → Int) (hI : Inv S) (sz : Nat) : Met l yX5_knownMany wsX5_knownMany ({ frames := 3, cells := 0, slots := 0, locals := 74 }) (rwP [.ref mo] D (tyz yI yC yD) [(mo, oMo th a1 a2 a3 re a4 a5 a6 tl a7 a8), (a1, aI yI 96 S), (a7, aI yI 1681 Bd)] sz) (va_Qi (fun (r : Int32) (G9 : (Int → Int)) => r = iI (knownIn (FB S (-1)) (S 0)) ∧ True) (fun (G9 : (Int → Int)) (t : State) => va_P D vwCl [(mo, oMo th a1 a2 a3 re a4 a5 a6 tl a7 a8), (a1, aI yI 96 S), (a7, aI yI 1681 G9)] t.heap) (va_A [(mo, oMo th a1 a2 a3 re a4 a5 a6 tl a7 a8), (a1, aI yI 96 S), (a7, aI yI 1681 Bd)] sz)) 0 0 (va_A [(mo, oMo th a1 a2 a3 re a4 a5 a6 tl a7 a8), (a1, aI yI 96 S), (a7, aI yI 1681 Bd)] sz) := by
  refine Met.ofW (cc := cX5_knownMany) (maxL := 1) (ret := (some .int)) (by decide) rfl ?_
  intro p e s m args below meth c s₁ B hml hv
  obtain ⟨rfl, hsz, hP, hK, hD0⟩ := hv
  have hx := B.exec
  have hb := B.bytes
  have hr := B.returns
  have hts := atoms_spec (ws := wsX5_knownMany) B.pre
  have hown : s.vm.findClass RX5 = some m.cls := findClass_of_methodNamed B.named
  have hlocks := B.notSynchronized
  subst hsz
  have hD := hD0.self (sz := s.heap.size)
  generalize hAe : va_A [(mo, oMo th a1 a2 a3 re a4 a5 a6 tl a7 a8), (a1, aI yI 96 S), (a7, aI yI 1681 Bd)] s.heap.size = A at hD ⊢
  have hA : ∀ q : Nat, s.heap.size ≤ q → A q := fun q h => by rw [← hAe]; exact Or.inr h
  have hS : va_S A s.heap s.heap [] := va_S.rf
  have hP : va_P D vwCl [(mo, oMo th a1 a2 a3 re a4 a5 a6 tl a7 a8), (a1, aI yI 96 S), (a7, aI yI 1681 Bd)] s.heap := hP
  have hinX5 : ∀ w ∈ wsX50, w ∈ wsX5_knownMany := by decide +kernel
  have hf28 : (Cond.fieldLink RX5 28 "RiddleDriveModel" "bounds" "[I").before _ s = true := hts _ (by decide +kernel)
  have hl := lv_entry ([.ref mo]) (n := 1) (Nat.le_of_ble_eq_true rfl)
  rw [lg_entry_eq]
  generalize (lg_sl ([.ref mo]) ++ List.replicate (1 - (lg_sl ([.ref mo])).length) Slot.unset).toArray = ls at hl ⊢
  have hl : lv_has ls 1 [(0, .ref mo)] := hl
  have hpl := hI.pl
  have hna := hI.na
  have hse := hI.se
  have hwi := hI.wi
  refine lv_aload_n hx hb dX5_knownMany_0 rfl (lv_at hl 0 rfl) ?_
  refine lv_iconst (v := iI (-1)) hx hb dX5_knownMany_1 (by decide +kernel) ?_
  refine iv_rwVv (As := [.int (iI (-1))]) (rest := []) (C := RX5) (n := 1) ⟨hx, hb, hml, hown, hts⟩ (c_X5_findBounds l D yI yC yD mo th re tl a1 a2 a3 a4 a5 a6 a7 a8 S Bd (-1) (by assumption) (by omega) _) (cwV 1 hts gX5_knownMany_X5_findBounds rfl rfl rfl (by decide +kernel) ⟨Nat.le_of_ble_eq_true rfl, Nat.le_of_ble_eq_true rfl⟩) hK hP hD hS hA [0, 1, 2] (by decide) rfl 0 rfl rfl rfl hl.1 rfl (Nat.le_of_ble_eq_true rfl) dX5_knownMany_2 ⟨Nat.zero_le _, Nat.zero_le _⟩ (fun _ => rfl) (fun u2 H locs hw2 hP hD hS => ?_)
  have hP : va_P D vwCl [(mo, oMo th a1 a2 a3 re a4 a5 a6 tl a7 a8), (a1, aI yI 96 S), (a7, aI yI 1681 (FB S (-1)))] H := hP
  have hD : va_D A [(mo, oMo th a1 a2 a3 re a4 a5 a6 tl a7 a8), (a1, aI yI 96 S), (a7, aI yI 1681 (FB S (-1)))] := hD
  refine lv_aload_n hx hb dX5_knownMany_5 rfl (lv_at hl 0 rfl) ?_
  refine lv_aload_n hx hb dX5_knownMany_6 rfl (lv_at hl 0 rfl) ?_
  refine va_get (D := D) (ci := 5) (v := .ref a7) (C := RX5) (T := TX5) (N := 11) hx hb hts hinX5 hown hK hP 0 rfl rfl 9 (by decide) hf28 (fun _ h9 => h9) rfl dX5_knownMany_7 ?_
  refine iv_roV (As := [.ref a7]) (rest := []) (C := RX5) (n := 1) ⟨hx, hb, hml, hown, hts⟩ (c_X5_knownIn l D yI yC yD mo th re tl a1 a2 a3 a4 a5 a6 a7 a8 S a7 (FB S (-1)) (by omega) (gb_FB hI _)) (cwV 1 hts gX5_knownMany_X5_knownIn rfl rfl rfl (by decide +kernel) ⟨Nat.le_of_ble_eq_true rfl, Nat.le_of_ble_eq_true rfl⟩) hK hP [0, 1, 2] rfl 0 rfl rfl rfl hl.1 rfl (Nat.le_of_ble_eq_true rfl) dX5_knownMany_10 ⟨Nat.zero_le _, Nat.zero_le _⟩ ?_
  have hP9 : va_P D vwCl [(mo, oMo th a1 a2 a3 re a4 a5 a6 tl a7 a8), (a1, aI yI 96 S), (a7, aI yI 1681 (FB S (-1)))] _ := hP.sub [0, 1, 2] rfl
  exact W.iret hx hb hr (fun t ht hW => ⟨⟨iI (knownIn (FB S (-1)) (S 0)), (FB S (-1)), rfl, ⟨rfl, trivial⟩, by show va_P D vwCl _ t.heap; rw [ht]; exact hP9⟩, hS.F ht⟩) hS.2.2 dX5_knownMany_13
