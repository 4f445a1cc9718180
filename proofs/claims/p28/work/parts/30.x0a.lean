set_option maxHeartbeats 4000000 in
set_option maxRecDepth 100000 in
theorem c_X0_cell (l : Launch) (D : va_G) (yI yC yD : ClassId) (d : Nat) (dc : Nat) (S : Int → Int) (g : Int → Int) (k : Int64) (i : Int) (w : Int) (h1 : 0 ≤ i ∧ i < 12) (h2 : 0 ≤ w ∧ w < 4) : Met l yX0_cell wsX0_cell ({ frames := 0, cells := 0, slots := 0, locals := 0 }) (roP [.ref d, .int (iI i), .int (iI w)] D (tyz yI yC yD) [(d, oDrv dc S k), (dc, aI yI 48 g)]) (QcRead (iI (g (i * 4 + w)))) 0 0 (fun _ => False) := by
  refine Met.ofW (cc := cX0_cell) (maxL := 4) (ret := (some .int)) (by decide) rfl ?_
  intro p e s m args below meth c s₁ B hml hv
  obtain ⟨rfl, hP, hK⟩ := hv
  have hx := B.exec
  have hb := B.bytes
  have hr := B.returns
  have hts := atoms_spec (ws := wsX0_cell) B.pre
  have hown : s.vm.findClass RX0 = some m.cls := findClass_of_methodNamed B.named
  have hlocks := B.notSynchronized
  have hP : va_P D vwCl [(d, oDrv dc S k), (dc, aI yI 48 g)] s.heap := hP
  have hinX0 : ∀ w ∈ wsX00, w ∈ wsX0_cell := by decide +kernel
  have hf9 : (Cond.fieldLink RX0 9 "RiddleDrive$Drive" "cells" "[I").before _ s = true := hts _ (by decide +kernel)
  have hl := lv_entry ([.ref d, .int (iI i), .int (iI w)]) (n := 4) (Nat.le_of_ble_eq_true rfl)
  rw [lg_entry_eq]
  generalize (lg_sl ([.ref d, .int (iI i), .int (iI w)]) ++ List.replicate (4 - (lg_sl ([.ref d, .int (iI i), .int (iI w)])).length) Slot.unset).toArray = ls at hl ⊢
  have hl : lv_has ls 4 [(0, .ref d), (1, .int (iI i)), (2, .int (iI w))] := hl
  refine lv_iload_n hx hb dX0_cell_0 rfl (lv_at hl 1 rfl) ?_
  refine lv_iconst (v := iI 4) hx hb dX0_cell_1 (by decide +kernel) ?_
  refine iv_mul hx hb dX0_cell_2 ?_
  refine lv_iload_n hx hb dX0_cell_3 rfl (lv_at hl 2 rfl) ?_
  refine iv_add hx hb dX0_cell_4 ?_
  refine lv_istore_n (lv' := [(3, .int (iI (i * 4 + w))), (0, .ref d), (1, .int (iI i)), (2, .int (iI w))]) hx hb dX0_cell_5 rfl hl (by decide) rfl (fun ls hl => ?_)
  refine lv_iload_n hx hb dX0_cell_6 rfl (lv_at hl 0 rfl) ?_
  refine iv_if_lt (a := i * 4 + w) (tgt := 28) hx hb (by omega) dX0_cell_7 (by decide) (fun c7 => ?_) (fun c7 => ?_)
  · exact absurd c7 (by omega)
  · refine lv_iload_n hx hb dX0_cell_10 rfl (lv_at hl 0 rfl) ?_
    refine lv_aload_n hx hb dX0_cell_11 rfl (lv_at hl 1 rfl) ?_
    refine va_get (D := D) (ci := 0) (v := .ref dc) (C := RX0) (T := TX0) (N := 10) hx hb hts hinX0 hown hK hP 0 rfl rfl 9 (by decide) hf9 (fun _ h9 => h9) rfl dX0_cell_12 ?_
    refine va_alen (v := iI 48) hx hb hK hP 1 0 rfl rfl (by show Int32.ofNat 48 = iI 48; decide +kernel) dX0_cell_15 ?_
    refine iv_icmp_ge (a := i * 4 + w) (b := 48) (tgt := 28) hx hb (by omega) (by omega) dX0_cell_16 (by decide) (fun c16 => ?_) (fun c16 => ?_)
    · exact absurd c16 (by omega)
    · refine lv_aload_n hx hb dX0_cell_19 rfl (lv_at hl 1 rfl) ?_
      refine va_get (D := D) (ci := 0) (v := .ref dc) (C := RX0) (T := TX0) (N := 10) hx hb hts hinX0 hown hK hP 0 rfl rfl 9 (by decide) hf9 (fun _ h9 => h9) rfl dX0_cell_20 ?_
      refine lv_iload_n hx hb dX0_cell_23 rfl (lv_at hl 0 rfl) ?_
      refine iv_ald hx hb hK hP 1 0 rfl rfl (z := i * 4 + w) (by omega) (by omega) (by omega) dX0_cell_24 ?_
      refine lv_goto (tgt := 29) hx hb dX0_cell_25 (by decide) ?_
      exact W.iret hx hb hr (fun t ht hW => ⟨rfl, ht⟩) (fun q h => by cases h) dX0_cell_29
set_option maxHeartbeats 4000000 in
set_option maxRecDepth 100000 in
theorem c_X0_isPlace (l : Launch) (D : va_G) (yI yC yD : ClassId) (d : Nat) (dc : Nat) (S : Int → Int) (g : Int → Int) (k : Int64) (i : Int) (hi : inR i) (hp : inR (S 0)) : Met l yX0_isPlace wsX0_isPlace ({ frames := 0, cells := 0, slots := 0, locals := 0 }) (roP [.ref d, .int (iI i)] D (tyz yI yC yD) [(d, oDrv dc S k), (dc, aI yI 48 g)]) (QcRead (iI (bI (0 ≤ i ∧ i < S 0)))) 0 0 (fun _ => False) := by
  refine Met.ofW (cc := cX0_isPlace) (maxL := 2) (ret := (some .boolean)) (by decide) rfl ?_
  intro p e s m args below meth c s₁ B hml hv
  obtain ⟨rfl, hP, hK⟩ := hv
  have hx := B.exec
  have hb := B.bytes
  have hr := B.returns
  have hts := atoms_spec (ws := wsX0_isPlace) B.pre
  have hown : s.vm.findClass RX0 = some m.cls := findClass_of_methodNamed B.named
  have hlocks := B.notSynchronized
  have hP : va_P D vwCl [(d, oDrv dc S k), (dc, aI yI 48 g)] s.heap := hP
  have hinX0 : ∀ w ∈ wsX00, w ∈ wsX0_isPlace := by decide +kernel
  have hf15 : (Cond.fieldLink RX0 15 "RiddleDrive$Drive" "places" "I").before _ s = true := hts _ (by decide +kernel)
  have hl := lv_entry ([.ref d, .int (iI i)]) (n := 2) (Nat.le_of_ble_eq_true rfl)
  rw [lg_entry_eq]
  generalize (lg_sl ([.ref d, .int (iI i)]) ++ List.replicate (2 - (lg_sl ([.ref d, .int (iI i)])).length) Slot.unset).toArray = ls at hl ⊢
  have hl : lv_has ls 2 [(0, .ref d), (1, .int (iI i))] := hl
  refine lv_iload_n hx hb dX0_isPlace_0 rfl (lv_at hl 1 rfl) ?_
  refine iv_if_lt (a := i) (tgt := 16) hx hb (by omega) dX0_isPlace_1 (by decide) (fun c1 => ?_) (fun c1 => ?_)
  · refine lv_iconst (v := iI 0) hx hb dX0_isPlace_16 (by decide +kernel) ?_
    exact W.zret hx hb hr (by decide +kernel) (fun t ht hW => ⟨congrArg (fun z => Outcome.returned (some (Value.int (iI z)))) (show 0 = bI (0 ≤ i ∧ i < S 0) by first | exact (bI_t (by omega)).symm | exact (bI_f (by omega)).symm), ht⟩) (fun q h => by cases h) dX0_isPlace_17
  · refine lv_iload_n hx hb dX0_isPlace_4 rfl (lv_at hl 1 rfl) ?_
    refine lv_aload_n hx hb dX0_isPlace_5 rfl (lv_at hl 0 rfl) ?_
    refine va_get (D := D) (ci := 0) (v := .int (iI (S 0))) (C := RX0) (T := TX0) (N := 10) hx hb hts hinX0 hown hK hP 0 rfl rfl 0 (by decide) hf15 (fun _ h9 => h9) rfl dX0_isPlace_6 ?_
    refine iv_icmp_ge (a := i) (b := S 0) (tgt := 16) hx hb (by omega) (by omega) dX0_isPlace_9 (by decide) (fun c9 => ?_) (fun c9 => ?_)
    · refine lv_iconst (v := iI 0) hx hb dX0_isPlace_16 (by decide +kernel) ?_
      exact W.zret hx hb hr (by decide +kernel) (fun t ht hW => ⟨congrArg (fun z => Outcome.returned (some (Value.int (iI z)))) (show 0 = bI (0 ≤ i ∧ i < S 0) by first | exact (bI_t (by omega)).symm | exact (bI_f (by omega)).symm), ht⟩) (fun q h => by cases h) dX0_isPlace_17
    · refine lv_iconst (v := iI 1) hx hb dX0_isPlace_12 (by decide +kernel) ?_
      refine lv_goto (tgt := 17) hx hb dX0_isPlace_13 (by decide) ?_
      exact W.zret hx hb hr (by decide +kernel) (fun t ht hW => ⟨congrArg (fun z => Outcome.returned (some (Value.int (iI z)))) (show 1 = bI (0 ≤ i ∧ i < S 0) by first | exact (bI_t (by omega)).symm | exact (bI_f (by omega)).symm), ht⟩) (fun q h => by cases h) dX0_isPlace_17
set_option maxHeartbeats 4000000 in
set_option maxRecDepth 100000 in
theorem c_X0_isAnswer (l : Launch) (D : va_G) (yI yC yD : ClassId) (d : Nat) (dc : Nat) (S : Int → Int) (g : Int → Int) (k : Int64) (i : Int) (hi : inR i) (hp : inR (S 4)) : Met l yX0_isAnswer wsX0_isAnswer ({ frames := 0, cells := 0, slots := 0, locals := 0 }) (roP [.ref d, .int (iI i)] D (tyz yI yC yD) [(d, oDrv dc S k), (dc, aI yI 48 g)]) (QcRead (iI (bI (0 ≤ i ∧ i < S 4)))) 0 0 (fun _ => False) := by
  refine Met.ofW (cc := cX0_isAnswer) (maxL := 2) (ret := (some .boolean)) (by decide) rfl ?_
  intro p e s m args below meth c s₁ B hml hv
  obtain ⟨rfl, hP, hK⟩ := hv
  have hx := B.exec
  have hb := B.bytes
  have hr := B.returns
  have hts := atoms_spec (ws := wsX0_isAnswer) B.pre
  have hown : s.vm.findClass RX0 = some m.cls := findClass_of_methodNamed B.named
  have hlocks := B.notSynchronized
  have hP : va_P D vwCl [(d, oDrv dc S k), (dc, aI yI 48 g)] s.heap := hP
  have hinX0 : ∀ w ∈ wsX00, w ∈ wsX0_isAnswer := by decide +kernel
  have hf28 : (Cond.fieldLink RX0 28 "RiddleDrive$Drive" "answers" "I").before _ s = true := hts _ (by decide +kernel)
  have hl := lv_entry ([.ref d, .int (iI i)]) (n := 2) (Nat.le_of_ble_eq_true rfl)
  rw [lg_entry_eq]
  generalize (lg_sl ([.ref d, .int (iI i)]) ++ List.replicate (2 - (lg_sl ([.ref d, .int (iI i)])).length) Slot.unset).toArray = ls at hl ⊢
  have hl : lv_has ls 2 [(0, .ref d), (1, .int (iI i))] := hl
  refine lv_iload_n hx hb dX0_isAnswer_0 rfl (lv_at hl 1 rfl) ?_
  refine iv_if_lt (a := i) (tgt := 16) hx hb (by omega) dX0_isAnswer_1 (by decide) (fun c1 => ?_) (fun c1 => ?_)
  · refine lv_iconst (v := iI 0) hx hb dX0_isAnswer_16 (by decide +kernel) ?_
    exact W.zret hx hb hr (by decide +kernel) (fun t ht hW => ⟨congrArg (fun z => Outcome.returned (some (Value.int (iI z)))) (show 0 = bI (0 ≤ i ∧ i < S 4) by first | exact (bI_t (by omega)).symm | exact (bI_f (by omega)).symm), ht⟩) (fun q h => by cases h) dX0_isAnswer_17
  · refine lv_iload_n hx hb dX0_isAnswer_4 rfl (lv_at hl 1 rfl) ?_
    refine lv_aload_n hx hb dX0_isAnswer_5 rfl (lv_at hl 0 rfl) ?_
    refine va_get (D := D) (ci := 0) (v := .int (iI (S 4))) (C := RX0) (T := TX0) (N := 10) hx hb hts hinX0 hown hK hP 0 rfl rfl 4 (by decide) hf28 (fun _ h9 => h9) rfl dX0_isAnswer_6 ?_
    refine iv_icmp_ge (a := i) (b := S 4) (tgt := 16) hx hb (by omega) (by omega) dX0_isAnswer_9 (by decide) (fun c9 => ?_) (fun c9 => ?_)
    · refine lv_iconst (v := iI 0) hx hb dX0_isAnswer_16 (by decide +kernel) ?_
      exact W.zret hx hb hr (by decide +kernel) (fun t ht hW => ⟨congrArg (fun z => Outcome.returned (some (Value.int (iI z)))) (show 0 = bI (0 ≤ i ∧ i < S 4) by first | exact (bI_t (by omega)).symm | exact (bI_f (by omega)).symm), ht⟩) (fun q h => by cases h) dX0_isAnswer_17
    · refine lv_iconst (v := iI 1) hx hb dX0_isAnswer_12 (by decide +kernel) ?_
      refine lv_goto (tgt := 17) hx hb dX0_isAnswer_13 (by decide) ?_
      exact W.zret hx hb hr (by decide +kernel) (fun t ht hW => ⟨congrArg (fun z => Outcome.returned (some (Value.int (iI z)))) (show 1 = bI (0 ≤ i ∧ i < S 4) by first | exact (bI_t (by omega)).symm | exact (bI_f (by omega)).symm), ht⟩) (fun q h => by cases h) dX0_isAnswer_17
set_option maxHeartbeats 4000000 in
set_option maxRecDepth 100000 in
theorem c_X0_isNarrow (l : Launch) (D : va_G) (yI yC yD : ClassId) (d : Nat) (dc : Nat) (S : Int → Int) (g : Int → Int) (k : Int64) (a : Int) (b : Int) (hi : inR (b - a + 1)) (hp : inR (S 1)) : Met l yX0_isNarrow wsX0_isNarrow ({ frames := 0, cells := 0, slots := 0, locals := 0 }) (roP [.ref d, .int (iI a), .int (iI b)] D (tyz yI yC yD) [(d, oDrv dc S k), (dc, aI yI 48 g)]) (QcRead (iI (bI (b - a + 1 < S 1)))) 0 0 (fun _ => False) := by
  refine Met.ofW (cc := cX0_isNarrow) (maxL := 3) (ret := (some .boolean)) (by decide) rfl ?_
  intro p e s m args below meth c s₁ B hml hv
  obtain ⟨rfl, hP, hK⟩ := hv
  have hx := B.exec
  have hb := B.bytes
  have hr := B.returns
  have hts := atoms_spec (ws := wsX0_isNarrow) B.pre
  have hown : s.vm.findClass RX0 = some m.cls := findClass_of_methodNamed B.named
  have hlocks := B.notSynchronized
  have hP : va_P D vwCl [(d, oDrv dc S k), (dc, aI yI 48 g)] s.heap := hP
  have hinX0 : ∀ w ∈ wsX00, w ∈ wsX0_isNarrow := by decide +kernel
  have hf19 : (Cond.fieldLink RX0 19 "RiddleDrive$Drive" "width" "I").before _ s = true := hts _ (by decide +kernel)
  have hl := lv_entry ([.ref d, .int (iI a), .int (iI b)]) (n := 3) (Nat.le_of_ble_eq_true rfl)
  rw [lg_entry_eq]
  generalize (lg_sl ([.ref d, .int (iI a), .int (iI b)]) ++ List.replicate (3 - (lg_sl ([.ref d, .int (iI a), .int (iI b)])).length) Slot.unset).toArray = ls at hl ⊢
  have hl : lv_has ls 3 [(0, .ref d), (1, .int (iI a)), (2, .int (iI b))] := hl
  refine lv_iload_n hx hb dX0_isNarrow_0 rfl (lv_at hl 2 rfl) ?_
  refine lv_iload_n hx hb dX0_isNarrow_1 rfl (lv_at hl 1 rfl) ?_
  refine iv_sub hx hb dX0_isNarrow_2 ?_
  refine lv_iconst (v := iI 1) hx hb dX0_isNarrow_3 (by decide +kernel) ?_
  refine iv_add hx hb dX0_isNarrow_4 ?_
  refine lv_aload_n hx hb dX0_isNarrow_5 rfl (lv_at hl 0 rfl) ?_
  refine va_get (D := D) (ci := 0) (v := .int (iI (S 1))) (C := RX0) (T := TX0) (N := 10) hx hb hts hinX0 hown hK hP 0 rfl rfl 1 (by decide) hf19 (fun _ h9 => h9) rfl dX0_isNarrow_6 ?_
  refine iv_icmp_ge (a := b - a + 1) (b := S 1) (tgt := 16) hx hb (by omega) (by omega) dX0_isNarrow_9 (by decide) (fun c9 => ?_) (fun c9 => ?_)
  · refine lv_iconst (v := iI 0) hx hb dX0_isNarrow_16 (by decide +kernel) ?_
    exact W.zret hx hb hr (by decide +kernel) (fun t ht hW => ⟨congrArg (fun z => Outcome.returned (some (Value.int (iI z)))) (show 0 = bI (b - a + 1 < S 1) by first | exact (bI_t (by omega)).symm | exact (bI_f (by omega)).symm), ht⟩) (fun q h => by cases h) dX0_isNarrow_17
  · refine lv_iconst (v := iI 1) hx hb dX0_isNarrow_12 (by decide +kernel) ?_
    refine lv_goto (tgt := 17) hx hb dX0_isNarrow_13 (by decide) ?_
    exact W.zret hx hb hr (by decide +kernel) (fun t ht hW => ⟨congrArg (fun z => Outcome.returned (some (Value.int (iI z)))) (show 1 = bI (b - a + 1 < S 1) by first | exact (bI_t (by omega)).symm | exact (bI_f (by omega)).symm), ht⟩) (fun q h => by cases h) dX0_isNarrow_17
set_option maxHeartbeats 4000000 in
set_option maxRecDepth 100000 in
theorem c_X0_fullPrice (l : Launch) (D : va_G) (yI yC yD : ClassId) (d : Nat) (dc : Nat) (S : Int → Int) (g : Int → Int) (k : Int64) (a : Int) (b : Int) (hi : 0 ≤ b - a + 1) (hj : b - a + 1 < 2147483648) : Met l yX0_fullPrice wsX0_fullPrice ({ frames := 0, cells := 0, slots := 0, locals := 0 }) (roP [.ref d, .int (iI a), .int (iI b)] D (tyz yI yC yD) [(d, oDrv dc S k), (dc, aI yI 48 g)]) (QcRead (iI (S 3 + (b - a + 1) / 4))) 0 0 (fun _ => False) := by
  refine Met.ofW (cc := cX0_fullPrice) (maxL := 3) (ret := (some .int)) (by decide) rfl ?_
  intro p e s m args below meth c s₁ B hml hv
  obtain ⟨rfl, hP, hK⟩ := hv
  have hx := B.exec
  have hb := B.bytes
  have hr := B.returns
  have hts := atoms_spec (ws := wsX0_fullPrice) B.pre
  have hown : s.vm.findClass RX0 = some m.cls := findClass_of_methodNamed B.named
  have hlocks := B.notSynchronized
  have hP : va_P D vwCl [(d, oDrv dc S k), (dc, aI yI 48 g)] s.heap := hP
  have hinX0 : ∀ w ∈ wsX00, w ∈ wsX0_fullPrice := by decide +kernel
  have hf25 : (Cond.fieldLink RX0 25 "RiddleDrive$Drive" "fee" "I").before _ s = true := hts _ (by decide +kernel)
  have hl := lv_entry ([.ref d, .int (iI a), .int (iI b)]) (n := 3) (Nat.le_of_ble_eq_true rfl)
  rw [lg_entry_eq]
  generalize (lg_sl ([.ref d, .int (iI a), .int (iI b)]) ++ List.replicate (3 - (lg_sl ([.ref d, .int (iI a), .int (iI b)])).length) Slot.unset).toArray = ls at hl ⊢
  have hl : lv_has ls 3 [(0, .ref d), (1, .int (iI a)), (2, .int (iI b))] := hl
  refine lv_aload_n hx hb dX0_fullPrice_0 rfl (lv_at hl 0 rfl) ?_
  refine va_get (D := D) (ci := 0) (v := .int (iI (S 3))) (C := RX0) (T := TX0) (N := 10) hx hb hts hinX0 hown hK hP 0 rfl rfl 3 (by decide) hf25 (fun _ h9 => h9) rfl dX0_fullPrice_1 ?_
  refine lv_iload_n hx hb dX0_fullPrice_4 rfl (lv_at hl 2 rfl) ?_
  refine lv_iload_n hx hb dX0_fullPrice_5 rfl (lv_at hl 1 rfl) ?_
  refine iv_sub hx hb dX0_fullPrice_6 ?_
  refine lv_iconst (v := iI 1) hx hb dX0_fullPrice_7 (by decide +kernel) ?_
  refine iv_add hx hb dX0_fullPrice_8 ?_
  refine lv_iconst (v := iI 4) hx hb dX0_fullPrice_9 (by decide +kernel) ?_
  refine iv_div hx hb (by omega) (by omega) (by omega) (by omega) dX0_fullPrice_10 ?_
  refine iv_add hx hb dX0_fullPrice_11 ?_
  exact W.iret hx hb hr (fun t ht hW => ⟨congrArg (fun z => Outcome.returned (some (Value.int (iI z)))) (show S 3 + ((b - a + 1) / 4) = S 3 + (b - a + 1) / 4 by omega), ht⟩) (fun q h => by cases h) dX0_fullPrice_12
