set_option maxHeartbeats 4000000 in
set_option maxRecDepth 100000 in
theorem c_X3_readNumber (l : Launch) (D : va_G) (yI yC yD : ClassId) (tx : Nat) (sg : Nat) (T : Int → Int) (tl : Int) (po : Int) (lo : Int) (low : Int) (high : Int) (htl : 0 ≤ tl ∧ tl ≤ 100) (hrt : ∀ z, 0 ≤ z → z < tl → 0 ≤ T z ∧ T z < 65536) (hpo : 0 ≤ po ∧ po ≤ 900) (hlh : 0 ≤ low ∧ low ≤ 99 ∧ 0 ≤ high ∧ high ≤ 99) (sz : Nat) : Met l yX3_readNumber wsX3_readNumber ({ frames := 2, cells := 0, slots := 0, locals := 43 }) (rwP [.ref tx, .int (iI low), .int (iI high)] D (tyz yI yC yD) [(tx, oTx sg tl po lo), (sg, aC yC 100 T)] sz) (va_Qi (fun (r : Int32) (_ : Unit) => r = iI (nmD T tl po low high) ∧ True) (fun (_ : Unit) (t : State) => va_P D vwCl [(tx, oTx sg tl (nmP T tl po low high) lo), (sg, aC yC 100 T)] t.heap) (va_A [(tx, oTx sg tl po lo), (sg, aC yC 100 T)] sz)) 0 0 (va_A [(tx, oTx sg tl po lo), (sg, aC yC 100 T)] sz) := by
  refine Met.ofW (cc := cX3_readNumber) (maxL := 5) (ret := (some .int)) (by decide) rfl ?_
  intro p e s m args below meth c s₁ B hml hv
  obtain ⟨rfl, hsz, hP, hK, hD0⟩ := hv
  have hx := B.exec
  have hb := B.bytes
  have hr := B.returns
  have hts := atoms_spec (ws := wsX3_readNumber) B.pre
  have hown : s.vm.findClass RX3 = some m.cls := findClass_of_methodNamed B.named
  have hlocks := B.notSynchronized
  subst hsz
  have hD := hD0.self (sz := s.heap.size)
  generalize hAe : va_A [(tx, oTx sg tl po lo), (sg, aC yC 100 T)] s.heap.size = A at hD ⊢
  have hA : ∀ q : Nat, s.heap.size ≤ q → A q := fun q h => by rw [← hAe]; exact Or.inr h
  have hS : va_S A s.heap s.heap [] := va_S.rf
  have hP : va_P D vwCl [(tx, oTx sg tl po lo), (sg, aC yC 100 T)] s.heap := hP
  have hl := lv_entry ([.ref tx, .int (iI low), .int (iI high)]) (n := 5) (Nat.le_of_ble_eq_true rfl)
  rw [lg_entry_eq]
  generalize (lg_sl ([.ref tx, .int (iI low), .int (iI high)]) ++ List.replicate (5 - (lg_sl ([.ref tx, .int (iI low), .int (iI high)])).length) Slot.unset).toArray = ls at hl ⊢
  have hl : lv_has ls 5 [(0, .ref tx), (1, .int (iI low)), (2, .int (iI high))] := hl
  have hd1 := rdD_r (T := T) (n := tl) (p := po) (low := low / 10) (high := high / 10)
  have hp1 := rdP_r (T := T) (n := tl) (p := po) (low := low / 10) (high := high / 10)
  refine lv_aload_n hx hb dX3_readNumber_0 rfl (lv_at hl 0 rfl) ?_
  refine lv_iload_n hx hb dX3_readNumber_1 rfl (lv_at hl 1 rfl) ?_
  refine lv_bipush (v := iI 10) hx hb dX3_readNumber_2 (by decide +kernel) ?_
  refine iv_div hx hb (by omega) (by omega) (by omega) (by omega) dX3_readNumber_4 ?_
  refine lv_iload_n hx hb dX3_readNumber_5 rfl (lv_at hl 2 rfl) ?_
  refine lv_bipush (v := iI 10) hx hb dX3_readNumber_6 (by decide +kernel) ?_
  refine iv_div hx hb (by omega) (by omega) (by omega) (by omega) dX3_readNumber_8 ?_
  refine iv_rwV (As := [.int (iI (low / 10)), .int (iI (high / 10))]) (rest := []) (C := RX3) (n := 2) ⟨hx, hb, hml, hown, hts⟩ (c_X3_readDigit l D yI yC yD tx sg T tl po lo (low / 10) (high / 10) (by omega) (by assumption) (by omega) (by omega) _) (cwV 2 hts gX3_readNumber_X3_readDigit rfl rfl rfl (by decide +kernel) ⟨Nat.le_of_ble_eq_true rfl, Nat.le_of_ble_eq_true rfl⟩) hK hP hD hS hA [0, 1] (by decide) rfl 0 rfl rfl rfl hl.1 rfl (Nat.le_of_ble_eq_true rfl) dX3_readNumber_9 ⟨Nat.zero_le _, Nat.zero_le _⟩ (fun _ => rfl) (fun r9 u9 H locs hw9 hP hD hS => ?_)
  obtain ⟨hr9, -⟩ := hw9
  subst hr9
  have hP : va_P D vwCl [(tx, oTx sg tl (rdP T tl po (low / 10) (high / 10)) lo), (sg, aC yC 100 T)] H := hP
  have hD : va_D A [(tx, oTx sg tl (rdP T tl po (low / 10) (high / 10)) lo), (sg, aC yC 100 T)] := hD
  refine lv_istore_n (lv' := [(3, .int (iI (rdD T tl po (low / 10) (high / 10)))), (0, .ref tx), (1, .int (iI low)), (2, .int (iI high))]) hx hb dX3_readNumber_12 rfl hl (by decide) rfl (fun ls hl => ?_)
  refine lv_iload_n hx hb dX3_readNumber_13 rfl (lv_at hl 0 rfl) ?_
  refine lv_iconst (v := iI (-1)) hx hb dX3_readNumber_14 (by decide +kernel) ?_
  refine iv_icmp_ne (a := rdD T tl po (low / 10) (high / 10)) (b := -1) (tgt := 20) hx hb (by omega) (by omega) dX3_readNumber_15 (by decide) (fun c15 => ?_) (fun c15 => ?_)
  · obtain ⟨hs1, hs2, hs3⟩ := nm_s (n := tl) (p := po) (lo := low) (hi := high) (T := T) (by omega) (by omega) (by omega)
    obtain ⟨hs4, hs5, hs6⟩ := hs3 _ _ rfl rfl
    have hok := rdD_ok (T := T) (n := tl) (p := po) (low := low / 10) (high := high / 10) (by omega)
    rw [← hs2, ← hs1] at hs4 hs5 hs6
    have hd2 := rdD_r (T := T) (n := tl) (p := rdP T tl po (low / 10) (high / 10)) (low := max 0 (low - 10 * rdD T tl po (low / 10) (high / 10))) (high := min 9 (high - 10 * rdD T tl po (low / 10) (high / 10)))
    refine lv_aload_n hx hb dX3_readNumber_20 rfl (lv_at hl 1 rfl) ?_
    refine lv_iconst (v := iI 0) hx hb dX3_readNumber_21 (by decide +kernel) ?_
    refine lv_iload_n hx hb dX3_readNumber_22 rfl (lv_at hl 2 rfl) ?_
    refine lv_bipush (v := iI 10) hx hb dX3_readNumber_23 (by decide +kernel) ?_
    refine lv_iload_n hx hb dX3_readNumber_25 rfl (lv_at hl 0 rfl) ?_
    refine iv_mul hx hb dX3_readNumber_26 ?_
    refine iv_sub hx hb dX3_readNumber_27 ?_
    refine iv_max hx hb (hml.trans hl.1.symm) hown (hts (.methodLink RX3 73 Lib.Math.max.name) (by decide +kernel)) (hts (.static Lib.Math.max.name) (by decide +kernel)) (hts (.initialized "java/lang/Math") (by decide +kernel)) (hts (.code Lib.Math.max.name Lib.Math.max.code 2 (some .int)) (by decide +kernel)) (Nat.le_of_ble_eq_true rfl) (Nat.le_of_ble_eq_true rfl) (Nat.zero_le _) (Nat.zero_le _) (by omega) (by omega) dX3_readNumber_28 ?_
    refine lv_bipush (v := iI 9) hx hb dX3_readNumber_31 (by decide +kernel) ?_
    refine lv_iload_n hx hb dX3_readNumber_33 rfl (lv_at hl 3 rfl) ?_
    refine lv_bipush (v := iI 10) hx hb dX3_readNumber_34 (by decide +kernel) ?_
    refine lv_iload_n hx hb dX3_readNumber_36 rfl (lv_at hl 0 rfl) ?_
    refine iv_mul hx hb dX3_readNumber_37 ?_
    refine iv_sub hx hb dX3_readNumber_38 ?_
    refine iv_min hx hb (hml.trans hl.1.symm) hown (hts (.methodLink RX3 78 Lib.Math.min.name) (by decide +kernel)) (hts (.static Lib.Math.min.name) (by decide +kernel)) (hts (.initialized "java/lang/Math") (by decide +kernel)) (hts (.code Lib.Math.min.name Lib.Math.min.code 2 (some .int)) (by decide +kernel)) (Nat.le_of_ble_eq_true rfl) (Nat.le_of_ble_eq_true rfl) (Nat.zero_le _) (Nat.zero_le _) (by omega) (by omega) dX3_readNumber_39 ?_
    refine iv_rwV (As := [.int (iI (max 0 (low - (10 * (rdD T tl po (low / 10) (high / 10)))))), .int (iI (min 9 (high - (10 * (rdD T tl po (low / 10) (high / 10))))))]) (rest := []) (C := RX3) (n := 2) ⟨hx, hb, hml, hown, hts⟩ (c_X3_readDigit l D yI yC yD tx sg T tl (rdP T tl po (low / 10) (high / 10)) lo (max 0 (low - (10 * (rdD T tl po (low / 10) (high / 10))))) (min 9 (high - (10 * (rdD T tl po (low / 10) (high / 10))))) (by omega) (by assumption) (by omega) (by omega) _) (cwV 2 hts gX3_readNumber_X3_readDigit rfl rfl rfl (by decide +kernel) ⟨Nat.le_of_ble_eq_true rfl, Nat.le_of_ble_eq_true rfl⟩) hK hP hD hS hA [0, 1] (by decide) rfl 0 rfl rfl rfl hl.1 rfl (Nat.le_of_ble_eq_true rfl) dX3_readNumber_42 ⟨Nat.zero_le _, Nat.zero_le _⟩ (fun _ => rfl) (fun r42 u42 H locs hw42 hP hD hS => ?_)
    obtain ⟨hr42, -⟩ := hw42
    subst hr42
    have hP : va_P D vwCl [(tx, oTx sg tl (rdP T tl (rdP T tl po (low / 10) (high / 10)) (max 0 (low - (10 * (rdD T tl po (low / 10) (high / 10))))) (min 9 (high - (10 * (rdD T tl po (low / 10) (high / 10)))))) lo), (sg, aC yC 100 T)] H := hP
    have hD : va_D A [(tx, oTx sg tl (rdP T tl (rdP T tl po (low / 10) (high / 10)) (max 0 (low - (10 * (rdD T tl po (low / 10) (high / 10))))) (min 9 (high - (10 * (rdD T tl po (low / 10) (high / 10)))))) lo), (sg, aC yC 100 T)] := hD
    refine lv_istore (lv' := [(4, .int (iI (rdD T tl (rdP T tl po (low / 10) (high / 10)) (max 0 (low - (10 * (rdD T tl po (low / 10) (high / 10))))) (min 9 (high - (10 * (rdD T tl po (low / 10) (high / 10)))))))), (3, .int (iI (rdD T tl po (low / 10) (high / 10)))), (0, .ref tx), (1, .int (iI low)), (2, .int (iI high))]) hx hb dX3_readNumber_45 hl (by decide) rfl (fun ls hl => ?_)
    refine lv_iload hx hb dX3_readNumber_47 (lv_at hl 0 rfl) ?_
    refine lv_iconst (v := iI (-1)) hx hb dX3_readNumber_49 (by decide +kernel) ?_
    have hox : oTx sg tl (rdP T tl (rdP T tl po (low / 10) (high / 10)) (max 0 (low - (10 * (rdD T tl po (low / 10) (high / 10))))) (min 9 (high - (10 * (rdD T tl po (low / 10) (high / 10)))))) lo = oTx sg tl (nmP T tl po low high) lo := congrArg (fun z => oTx sg tl z lo) (hs4.symm)
    rw [hox] at hP hD
    refine iv_icmp_ne (a := rdD T tl (rdP T tl po (low / 10) (high / 10)) (max 0 (low - (10 * (rdD T tl po (low / 10) (high / 10))))) (min 9 (high - (10 * (rdD T tl po (low / 10) (high / 10)))))) (b := -1) (tgt := 57) hx hb (by omega) (by omega) dX3_readNumber_50 (by decide) (fun c50 => ?_) (fun c50 => ?_)
    · refine lv_bipush (v := iI 10) hx hb dX3_readNumber_57 (by decide +kernel) ?_
      refine lv_iload_n hx hb dX3_readNumber_59 rfl (lv_at hl 1 rfl) ?_
      refine iv_mul hx hb dX3_readNumber_60 ?_
      refine lv_iload hx hb dX3_readNumber_61 (lv_at hl 0 rfl) ?_
      refine iv_add hx hb dX3_readNumber_63 ?_
      have hP9 : va_P D vwCl [(tx, oTx sg tl (nmP T tl po low high) lo), (sg, aC yC 100 T)] _ := hP.sub [0, 1] rfl
      exact W.iret hx hb hr (fun t ht hW => ⟨⟨iI (10 * (rdD T tl po (low / 10) (high / 10)) + (rdD T tl (rdP T tl po (low / 10) (high / 10)) (max 0 (low - (10 * (rdD T tl po (low / 10) (high / 10))))) (min 9 (high - (10 * (rdD T tl po (low / 10) (high / 10))))))), (), rfl, ⟨congrArg iI (show 10 * (rdD T tl po (low / 10) (high / 10)) + (rdD T tl (rdP T tl po (low / 10) (high / 10)) (max 0 (low - (10 * (rdD T tl po (low / 10) (high / 10))))) (min 9 (high - (10 * (rdD T tl po (low / 10) (high / 10)))))) = nmD T tl po low high by first | exact (hs6 (by omega)).symm | exact (hs5 (by omega)).symm | exact (nm_f (by omega) (by omega) (by omega)).1.symm | (rw [hs6 (by omega)]; omega) | rw [hs5 (by omega)]), trivial⟩, by show va_P D vwCl _ t.heap; rw [ht]; exact hP9⟩, hS.F ht⟩) hS.2.2 dX3_readNumber_64
    · refine lv_iconst (v := iI (-1)) hx hb dX3_readNumber_53 (by decide +kernel) ?_
      refine lv_goto (tgt := 64) hx hb dX3_readNumber_54 (by decide) ?_
      have hP9 : va_P D vwCl [(tx, oTx sg tl (nmP T tl po low high) lo), (sg, aC yC 100 T)] _ := hP.sub [0, 1] rfl
      exact W.iret hx hb hr (fun t ht hW => ⟨⟨iI (-1), (), rfl, ⟨congrArg iI (show -1 = nmD T tl po low high by first | exact (hs6 (by omega)).symm | exact (hs5 (by omega)).symm | exact (nm_f (by omega) (by omega) (by omega)).1.symm | (rw [hs6 (by omega)]; omega) | rw [hs5 (by omega)]), trivial⟩, by show va_P D vwCl _ t.heap; rw [ht]; exact hP9⟩, hS.F ht⟩) hS.2.2 dX3_readNumber_64
  · have hox : oTx sg tl (rdP T tl po (low / 10) (high / 10)) lo = oTx sg tl (nmP T tl po low high) lo := congrArg (fun z => oTx sg tl z lo) ((nm_f (by omega) (by omega) (by omega)).2.symm)
    rw [hox] at hP hD
    refine lv_iconst (v := iI (-1)) hx hb dX3_readNumber_18 (by decide +kernel) ?_
    have hP9 : va_P D vwCl [(tx, oTx sg tl (nmP T tl po low high) lo), (sg, aC yC 100 T)] _ := hP.sub [0, 1] rfl
    exact W.iret hx hb hr (fun t ht hW => ⟨⟨iI (-1), (), rfl, ⟨congrArg iI (show -1 = nmD T tl po low high by first | exact (hs6 (by omega)).symm | exact (hs5 (by omega)).symm | exact (nm_f (by omega) (by omega) (by omega)).1.symm | (rw [hs6 (by omega)]; omega) | rw [hs5 (by omega)]), trivial⟩, by show va_P D vwCl _ t.heap; rw [ht]; exact hP9⟩, hS.F ht⟩) hS.2.2 dX3_readNumber_19
