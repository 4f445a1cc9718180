set_option maxHeartbeats 4000000 in
set_option maxRecDepth 100000 in
theorem c_X3_sign (l : Launch) (D : va_G) (yI yC yD : ClassId) (tx : Nat) (sg : Nat) (T : Int → Int) (tl : Int) (po : Int) (lo : Int) (htl : 0 ≤ tl ∧ tl ≤ 100) (hrt : ∀ z, 0 ≤ z → z < tl → 0 ≤ T z ∧ T z < 65536) (hpo : 0 ≤ po ∧ po ≤ 1000) : Met l yX3_sign wsX3_sign ({ frames := 0, cells := 0, slots := 0, locals := 0 }) (roP [.ref tx] D (tyz yI yC yD) [(tx, oTx sg tl po lo), (sg, aC yC 100 T)]) (QcRead (iI (sgn T tl po))) 0 0 (fun _ => False) := by
  refine Met.ofW (cc := cX3_sign) (maxL := 1) (ret := (some .int)) (by decide) rfl ?_
  intro p e s m args below meth c s₁ B hml hv
  obtain ⟨rfl, hP, hK⟩ := hv
  have hx := B.exec
  have hb := B.bytes
  have hr := B.returns
  have hts := atoms_spec (ws := wsX3_sign) B.pre
  have hown : s.vm.findClass RX3 = some m.cls := findClass_of_methodNamed B.named
  have hlocks := B.notSynchronized
  have hP : va_P D vwCl [(tx, oTx sg tl po lo), (sg, aC yC 100 T)] s.heap := hP
  have hinX3 : ∀ w ∈ wsX30, w ∈ wsX3_sign := by decide +kernel
  have hf9 : (Cond.fieldLink RX3 9 "RiddleDrive$Text" "signs" "[C").before _ s = true := hts _ (by decide +kernel)
  have hf15 : (Cond.fieldLink RX3 15 "RiddleDrive$Text" "length" "I").before _ s = true := hts _ (by decide +kernel)
  have hf19 : (Cond.fieldLink RX3 19 "RiddleDrive$Text" "position" "I").before _ s = true := hts _ (by decide +kernel)
  have hl := lv_entry ([.ref tx]) (n := 1) (Nat.le_of_ble_eq_true rfl)
  rw [lg_entry_eq]
  generalize (lg_sl ([.ref tx]) ++ List.replicate (1 - (lg_sl ([.ref tx])).length) Slot.unset).toArray = ls at hl ⊢
  have hl : lv_has ls 1 [(0, .ref tx)] := hl
  refine lv_aload_n hx hb dX3_sign_0 rfl (lv_at hl 0 rfl) ?_
  refine va_get (D := D) (ci := 3) (v := .int (iI po)) (C := RX3) (T := TX3) (N := 4) hx hb hts hinX3 hown hK hP 0 rfl rfl 2 (by decide) hf19 (fun _ h9 => h9) rfl dX3_sign_1 ?_
  refine iv_if_lt (a := po) (tgt := 42) hx hb (by omega) dX3_sign_4 (by decide) (fun c4 => ?_) (fun c4 => ?_)
  · refine lv_iconst (v := iI (-1)) hx hb dX3_sign_42 (by decide +kernel) ?_
    exact W.iret hx hb hr (fun t ht hW => ⟨congrArg (fun z => Outcome.returned (some (Value.int (iI z)))) (show -1 = sgn T tl po by unfold sgn; first | (exfalso; omega) | rw [if_pos (by omega)] | rw [if_neg (by omega)]), ht⟩) (fun q h => by cases h) dX3_sign_43
  · refine lv_aload_n hx hb dX3_sign_7 rfl (lv_at hl 0 rfl) ?_
    refine va_get (D := D) (ci := 3) (v := .int (iI po)) (C := RX3) (T := TX3) (N := 4) hx hb hts hinX3 hown hK hP 0 rfl rfl 2 (by decide) hf19 (fun _ h9 => h9) rfl dX3_sign_8 ?_
    refine lv_aload_n hx hb dX3_sign_11 rfl (lv_at hl 0 rfl) ?_
    refine va_get (D := D) (ci := 3) (v := .int (iI tl)) (C := RX3) (T := TX3) (N := 4) hx hb hts hinX3 hown hK hP 0 rfl rfl 1 (by decide) hf15 (fun _ h9 => h9) rfl dX3_sign_12 ?_
    refine iv_icmp_ge (a := po) (b := tl) (tgt := 42) hx hb (by omega) (by omega) dX3_sign_15 (by decide) (fun c15 => ?_) (fun c15 => ?_)
    · refine lv_iconst (v := iI (-1)) hx hb dX3_sign_42 (by decide +kernel) ?_
      exact W.iret hx hb hr (fun t ht hW => ⟨congrArg (fun z => Outcome.returned (some (Value.int (iI z)))) (show -1 = sgn T tl po by unfold sgn; first | (exfalso; omega) | rw [if_pos (by omega)] | rw [if_neg (by omega)]), ht⟩) (fun q h => by cases h) dX3_sign_43
    · refine lv_aload_n hx hb dX3_sign_18 rfl (lv_at hl 0 rfl) ?_
      refine va_get (D := D) (ci := 3) (v := .int (iI po)) (C := RX3) (T := TX3) (N := 4) hx hb hts hinX3 hown hK hP 0 rfl rfl 2 (by decide) hf19 (fun _ h9 => h9) rfl dX3_sign_19 ?_
      refine lv_aload_n hx hb dX3_sign_22 rfl (lv_at hl 0 rfl) ?_
      refine va_get (D := D) (ci := 3) (v := .ref sg) (C := RX3) (T := TX3) (N := 4) hx hb hts hinX3 hown hK hP 0 rfl rfl 0 (by decide) hf9 (fun _ h9 => h9) rfl dX3_sign_23 ?_
      refine va_alen (v := iI 100) hx hb hK hP 1 1 rfl rfl (by show Int32.ofNat 100 = iI 100; decide +kernel) dX3_sign_26 ?_
      refine iv_icmp_ge (a := po) (b := 100) (tgt := 42) hx hb (by omega) (by omega) dX3_sign_27 (by decide) (fun c27 => ?_) (fun c27 => ?_)
      · refine lv_iconst (v := iI (-1)) hx hb dX3_sign_42 (by decide +kernel) ?_
        exact W.iret hx hb hr (fun t ht hW => ⟨congrArg (fun z => Outcome.returned (some (Value.int (iI z)))) (show -1 = sgn T tl po by unfold sgn; first | (exfalso; omega) | rw [if_pos (by omega)] | rw [if_neg (by omega)]), ht⟩) (fun q h => by cases h) dX3_sign_43
      · refine lv_aload_n hx hb dX3_sign_30 rfl (lv_at hl 0 rfl) ?_
        refine va_get (D := D) (ci := 3) (v := .ref sg) (C := RX3) (T := TX3) (N := 4) hx hb hts hinX3 hown hK hP 0 rfl rfl 0 (by decide) hf9 (fun _ h9 => h9) rfl dX3_sign_31 ?_
        refine lv_aload_n hx hb dX3_sign_34 rfl (lv_at hl 0 rfl) ?_
        refine va_get (D := D) (ci := 3) (v := .int (iI po)) (C := RX3) (T := TX3) (N := 4) hx hb hts hinX3 hown hK hP 0 rfl rfl 2 (by decide) hf19 (fun _ h9 => h9) rfl dX3_sign_35 ?_
        have hz := hrt po (by omega) (by omega)
        refine iv_cald hx hb hK hP 1 1 rfl rfl (z := po) (by omega) (by omega) (by omega) dX3_sign_38 ?_
        refine lv_goto (tgt := 43) hx hb dX3_sign_39 (by decide) ?_
        exact W.iret hx hb hr (fun t ht hW => ⟨congrArg (fun z => Outcome.returned (some (Value.int (iI z)))) (show T po = sgn T tl po by unfold sgn; first | (exfalso; omega) | rw [if_pos (by omega)] | rw [if_neg (by omega)]), ht⟩) (fun q h => by cases h) dX3_sign_43
set_option maxHeartbeats 4000000 in
set_option maxRecDepth 100000 in
theorem c_X3_readDigit (l : Launch) (D : va_G) (yI yC yD : ClassId) (tx : Nat) (sg : Nat) (T : Int → Int) (tl : Int) (po : Int) (lo : Int) (low : Int) (high : Int) (htl : 0 ≤ tl ∧ tl ≤ 100) (hrt : ∀ z, 0 ≤ z → z < tl → 0 ≤ T z ∧ T z < 65536) (hpo : 0 ≤ po ∧ po ≤ 1000) (hlh : 0 ≤ low ∧ low ≤ 9 ∧ -1000 ≤ high ∧ high ≤ 9) (sz : Nat) : Met l yX3_readDigit wsX3_readDigit ({ frames := 1, cells := 0, slots := 0, locals := 20 }) (rwP [.ref tx, .int (iI low), .int (iI high)] D (tyz yI yC yD) [(tx, oTx sg tl po lo), (sg, aC yC 100 T)] sz) (va_Qi (fun (r : Int32) (_ : Unit) => r = iI (rdD T tl po low high) ∧ True) (fun (_ : Unit) (t : State) => va_P D vwCl [(tx, oTx sg tl (rdP T tl po low high) lo), (sg, aC yC 100 T)] t.heap) (va_A [(tx, oTx sg tl po lo), (sg, aC yC 100 T)] sz)) 0 0 (va_A [(tx, oTx sg tl po lo), (sg, aC yC 100 T)] sz) := by
  refine Met.ofW (cc := cX3_readDigit) (maxL := 4) (ret := (some .int)) (by decide) rfl ?_
  intro p e s m args below meth c s₁ B hml hv
  obtain ⟨rfl, hsz, hP, hK, hD0⟩ := hv
  have hx := B.exec
  have hb := B.bytes
  have hr := B.returns
  have hts := atoms_spec (ws := wsX3_readDigit) B.pre
  have hown : s.vm.findClass RX3 = some m.cls := findClass_of_methodNamed B.named
  have hlocks := B.notSynchronized
  subst hsz
  have hD := hD0.self (sz := s.heap.size)
  generalize hAe : va_A [(tx, oTx sg tl po lo), (sg, aC yC 100 T)] s.heap.size = A at hD ⊢
  have hA : ∀ q : Nat, s.heap.size ≤ q → A q := fun q h => by rw [← hAe]; exact Or.inr h
  have hS : va_S A s.heap s.heap [] := va_S.rf
  have hP : va_P D vwCl [(tx, oTx sg tl po lo), (sg, aC yC 100 T)] s.heap := hP
  have hinX3 : ∀ w ∈ wsX30, w ∈ wsX3_readDigit := by decide +kernel
  have hf19 : (Cond.fieldLink RX3 19 "RiddleDrive$Text" "position" "I").before _ s = true := hts _ (by decide +kernel)
  have hl := lv_entry ([.ref tx, .int (iI low), .int (iI high)]) (n := 4) (Nat.le_of_ble_eq_true rfl)
  rw [lg_entry_eq]
  generalize (lg_sl ([.ref tx, .int (iI low), .int (iI high)]) ++ List.replicate (4 - (lg_sl ([.ref tx, .int (iI low), .int (iI high)])).length) Slot.unset).toArray = ls at hl ⊢
  have hl : lv_has ls 4 [(0, .ref tx), (1, .int (iI low)), (2, .int (iI high))] := hl
  have hsr := sgn_r (n := tl) hrt hpo.1
  obtain ⟨hsd, hse⟩ := sgn_d (T := T) (n := tl) (p := po)
  refine lv_aload_n hx hb dX3_readDigit_0 rfl (lv_at hl 0 rfl) ?_
  refine iv_roV (As := []) (rest := []) (C := RX3) (n := 0) ⟨hx, hb, hml, hown, hts⟩ (c_X3_sign l D yI yC yD tx sg T tl po lo (by omega) (by assumption) (by omega)) (cwV 0 hts gX3_readDigit_X3_sign rfl rfl rfl (by decide +kernel) ⟨Nat.le_of_ble_eq_true rfl, Nat.le_of_ble_eq_true rfl⟩) hK hP [0, 1] rfl 0 rfl rfl rfl hl.1 rfl (Nat.le_of_ble_eq_true rfl) dX3_readDigit_1 ⟨Nat.zero_le _, Nat.zero_le _⟩ ?_
  refine lv_bipush (v := iI 48) hx hb dX3_readDigit_4 (by decide +kernel) ?_
  refine iv_sub hx hb dX3_readDigit_6 ?_
  refine lv_istore_n (lv' := [(3, .int (iI (sgn T tl po - 48))), (0, .ref tx), (1, .int (iI low)), (2, .int (iI high))]) hx hb dX3_readDigit_7 rfl hl (by decide) rfl (fun ls hl => ?_)
  refine lv_iload_n hx hb dX3_readDigit_8 rfl (lv_at hl 0 rfl) ?_
  refine lv_iload_n hx hb dX3_readDigit_9 rfl (lv_at hl 2 rfl) ?_
  refine iv_icmp_lt (a := sgn T tl po - 48) (b := low) (tgt := 18) hx hb (by omega) (by omega) dX3_readDigit_10 (by decide) (fun c10 => ?_) (fun c10 => ?_)
  · have hox : oTx sg tl po lo = oTx sg tl (rdP T tl po low high) lo := congrArg (fun z => oTx sg tl z lo) ((rd_n (by omega)).2.symm)
    rw [hox] at hP hD
    refine lv_iconst (v := iI (-1)) hx hb dX3_readDigit_18 (by decide +kernel) ?_
    have hP9 : va_P D vwCl [(tx, oTx sg tl (rdP T tl po low high) lo), (sg, aC yC 100 T)] _ := hP.sub [0, 1] rfl
    exact W.iret hx hb hr (fun t ht hW => ⟨⟨iI (-1), (), rfl, ⟨congrArg iI (show -1 = rdD T tl po low high by first | (rw [(rd_y (by omega)).1]; omega) | rw [(rd_n (by omega)).1]), trivial⟩, by show va_P D vwCl _ t.heap; rw [ht]; exact hP9⟩, hS.F ht⟩) hS.2.2 dX3_readDigit_19
  · refine lv_iload_n hx hb dX3_readDigit_13 rfl (lv_at hl 0 rfl) ?_
    refine lv_iload_n hx hb dX3_readDigit_14 rfl (lv_at hl 3 rfl) ?_
    refine iv_icmp_le (a := sgn T tl po - 48) (b := high) (tgt := 20) hx hb (by omega) (by omega) dX3_readDigit_15 (by decide) (fun c15 => ?_) (fun c15 => ?_)
    · refine lv_aload_n hx hb dX3_readDigit_20 rfl (lv_at hl 1 rfl) ?_
      refine lv_dup hx hb dX3_readDigit_21 rfl ?_
      refine va_get (D := D) (ci := 3) (v := .int (iI po)) (C := RX3) (T := TX3) (N := 4) hx hb hts hinX3 hown hK hP 0 rfl rfl 2 (by decide) hf19 (fun _ h9 => h9) rfl dX3_readDigit_22 ?_
      refine lv_iconst (v := iI 1) hx hb dX3_readDigit_25 (by decide +kernel) ?_
      refine iv_add hx hb dX3_readDigit_26 ?_
      refine va_put (D := D) (ci := 3) (v := .int (iI (po + 1))) (ty := .int) (C := RX3) (T := TX3) (N := 4) hx hb hts hinX3 tyX3 tyX3_ok nmX3 hown hK hP hD hS 0 rfl rfl 2 (by decide) hf19 (fun _ h9 => h9) rfl (by decide +kernel) rfl rfl (Nat.le_of_ble_eq_true rfl) dX3_readDigit_27 (fun H locs hP hD hS => ?_)
      have hP : va_P D vwCl [(tx, oTx sg tl (po + 1) lo), (sg, aC yC 100 T)] H := hP
      have hD : va_D A [(tx, oTx sg tl (po + 1) lo), (sg, aC yC 100 T)] := hD
      refine lv_iload_n hx hb dX3_readDigit_30 rfl (lv_at hl 0 rfl) ?_
      have hox : oTx sg tl (po + 1) lo = oTx sg tl (rdP T tl po low high) lo := congrArg (fun z => oTx sg tl z lo) ((rd_y (by omega)).2.symm)
      rw [hox] at hP hD
      have hP9 : va_P D vwCl [(tx, oTx sg tl (rdP T tl po low high) lo), (sg, aC yC 100 T)] _ := hP.sub [0, 1] rfl
      exact W.iret hx hb hr (fun t ht hW => ⟨⟨iI (sgn T tl po - 48), (), rfl, ⟨congrArg iI (show sgn T tl po - 48 = rdD T tl po low high by first | (rw [(rd_y (by omega)).1]; omega) | rw [(rd_n (by omega)).1]), trivial⟩, by show va_P D vwCl _ t.heap; rw [ht]; exact hP9⟩, hS.F ht⟩) hS.2.2 dX3_readDigit_31
    · have hox : oTx sg tl po lo = oTx sg tl (rdP T tl po low high) lo := congrArg (fun z => oTx sg tl z lo) ((rd_n (by omega)).2.symm)
      rw [hox] at hP hD
      refine lv_iconst (v := iI (-1)) hx hb dX3_readDigit_18 (by decide +kernel) ?_
      have hP9 : va_P D vwCl [(tx, oTx sg tl (rdP T tl po low high) lo), (sg, aC yC 100 T)] _ := hP.sub [0, 1] rfl
      exact W.iret hx hb hr (fun t ht hW => ⟨⟨iI (-1), (), rfl, ⟨congrArg iI (show -1 = rdD T tl po low high by first | (rw [(rd_y (by omega)).1]; omega) | rw [(rd_n (by omega)).1]), trivial⟩, by show va_P D vwCl _ t.heap; rw [ht]; exact hP9⟩, hS.F ht⟩) hS.2.2 dX3_readDigit_19
