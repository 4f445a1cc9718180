set_option maxHeartbeats 4000000 in
set_option maxRecDepth 100000 in
theorem c_X3_isFull (l : Launch) (D : va_G) (yI yC yD : ClassId) (tx : Nat) (sg : Nat) (T : Int → Int) (tl : Int) (po : Int) (lo : Int) (htl : 0 ≤ tl ∧ tl ≤ 100) : Met l yX3_isFull wsX3_isFull ({ frames := 0, cells := 0, slots := 0, locals := 0 }) (roP [.ref tx] D (tyz yI yC yD) [(tx, oTx sg tl po lo), (sg, aC yC 100 T)]) (QcRead (iI (bI (100 ≤ tl)))) 0 0 (fun _ => False) := by
  refine Met.ofW (cc := cX3_isFull) (maxL := 1) (ret := (some .boolean)) (by decide) rfl ?_
  intro p e s m args below meth c s₁ B hml hv
  obtain ⟨rfl, hP, hK⟩ := hv
  have hx := B.exec
  have hb := B.bytes
  have hr := B.returns
  have hts := atoms_spec (ws := wsX3_isFull) B.pre
  have hown : s.vm.findClass RX3 = some m.cls := findClass_of_methodNamed B.named
  have hlocks := B.notSynchronized
  have hP : va_P D vwCl [(tx, oTx sg tl po lo), (sg, aC yC 100 T)] s.heap := hP
  have hinX3 : ∀ w ∈ wsX30, w ∈ wsX3_isFull := by decide +kernel
  have hf9 : (Cond.fieldLink RX3 9 "RiddleDrive$Text" "signs" "[C").before _ s = true := hts _ (by decide +kernel)
  have hf15 : (Cond.fieldLink RX3 15 "RiddleDrive$Text" "length" "I").before _ s = true := hts _ (by decide +kernel)
  have hl := lv_entry ([.ref tx]) (n := 1) (Nat.le_of_ble_eq_true rfl)
  rw [lg_entry_eq]
  generalize (lg_sl ([.ref tx]) ++ List.replicate (1 - (lg_sl ([.ref tx])).length) Slot.unset).toArray = ls at hl ⊢
  have hl : lv_has ls 1 [(0, .ref tx)] := hl
  refine lv_aload_n hx hb dX3_isFull_0 rfl (lv_at hl 0 rfl) ?_
  refine va_get (D := D) (ci := 3) (v := .int (iI tl)) (C := RX3) (T := TX3) (N := 4) hx hb hts hinX3 hown hK hP 0 rfl rfl 1 (by decide) hf15 (fun _ h9 => h9) rfl dX3_isFull_1 ?_
  refine lv_aload_n hx hb dX3_isFull_4 rfl (lv_at hl 0 rfl) ?_
  refine va_get (D := D) (ci := 3) (v := .ref sg) (C := RX3) (T := TX3) (N := 4) hx hb hts hinX3 hown hK hP 0 rfl rfl 0 (by decide) hf9 (fun _ h9 => h9) rfl dX3_isFull_5 ?_
  refine va_alen (v := iI 100) hx hb hK hP 1 1 rfl rfl (by show Int32.ofNat 100 = iI 100; decide +kernel) dX3_isFull_8 ?_
  refine iv_icmp_lt (a := tl) (b := 100) (tgt := 16) hx hb (by omega) (by omega) dX3_isFull_9 (by decide) (fun c9 => ?_) (fun c9 => ?_)
  · refine lv_iconst (v := iI 0) hx hb dX3_isFull_16 (by decide +kernel) ?_
    exact W.zret hx hb hr (by decide +kernel) (fun t ht hW => ⟨congrArg (fun z => Outcome.returned (some (Value.int (iI z)))) (show 0 = bI (100 ≤ tl) by first | exact (bI_t (by omega)).symm | exact (bI_f (by omega)).symm), ht⟩) (fun q h => by cases h) dX3_isFull_17
  · refine lv_iconst (v := iI 1) hx hb dX3_isFull_12 (by decide +kernel) ?_
    refine lv_goto (tgt := 17) hx hb dX3_isFull_13 (by decide) ?_
    exact W.zret hx hb hr (by decide +kernel) (fun t ht hW => ⟨congrArg (fun z => Outcome.returned (some (Value.int (iI z)))) (show 1 = bI (100 ≤ tl) by first | exact (bI_t (by omega)).symm | exact (bI_f (by omega)).symm), ht⟩) (fun q h => by cases h) dX3_isFull_17
set_option maxHeartbeats 4000000 in
set_option maxRecDepth 100000 in
theorem c_X3_empty (l : Launch) (D : va_G) (yI yC yD : ClassId) (tx : Nat) (sg : Nat) (T : Int → Int) (tl : Int) (po : Int) (lo : Int) (htl : 0 ≤ tl ∧ tl ≤ 100) (sz : Nat) : Met l yX3_empty wsX3_empty ({ frames := 0, cells := 0, slots := 0, locals := 0 }) (rwP [.ref tx] D (tyz yI yC yD) [(tx, oTx sg tl po lo), (sg, aC yC 100 T)] sz) (va_Qi (fun (r : Int32) (_ : Unit) => r = iI tl ∧ True) (fun (_ : Unit) (t : State) => va_P D vwCl [(tx, oTx sg 0 po lo), (sg, aC yC 100 T)] t.heap) (va_A [(tx, oTx sg tl po lo), (sg, aC yC 100 T)] sz)) 0 0 (va_A [(tx, oTx sg tl po lo), (sg, aC yC 100 T)] sz) := by
  refine Met.ofW (cc := cX3_empty) (maxL := 2) (ret := (some .int)) (by decide) rfl ?_
  intro p e s m args below meth c s₁ B hml hv
  obtain ⟨rfl, hsz, hP, hK, hD0⟩ := hv
  have hx := B.exec
  have hb := B.bytes
  have hr := B.returns
  have hts := atoms_spec (ws := wsX3_empty) B.pre
  have hown : s.vm.findClass RX3 = some m.cls := findClass_of_methodNamed B.named
  have hlocks := B.notSynchronized
  subst hsz
  have hD := hD0.self (sz := s.heap.size)
  generalize hAe : va_A [(tx, oTx sg tl po lo), (sg, aC yC 100 T)] s.heap.size = A at hD ⊢
  have hA : ∀ q : Nat, s.heap.size ≤ q → A q := fun q h => by rw [← hAe]; exact Or.inr h
  have hS : va_S A s.heap s.heap [] := va_S.rf
  have hP : va_P D vwCl [(tx, oTx sg tl po lo), (sg, aC yC 100 T)] s.heap := hP
  have hinX3 : ∀ w ∈ wsX30, w ∈ wsX3_empty := by decide +kernel
  have hf15 : (Cond.fieldLink RX3 15 "RiddleDrive$Text" "length" "I").before _ s = true := hts _ (by decide +kernel)
  have hl := lv_entry ([.ref tx]) (n := 2) (Nat.le_of_ble_eq_true rfl)
  rw [lg_entry_eq]
  generalize (lg_sl ([.ref tx]) ++ List.replicate (2 - (lg_sl ([.ref tx])).length) Slot.unset).toArray = ls at hl ⊢
  have hl : lv_has ls 2 [(0, .ref tx)] := hl
  refine lv_aload_n hx hb dX3_empty_0 rfl (lv_at hl 0 rfl) ?_
  refine va_get (D := D) (ci := 3) (v := .int (iI tl)) (C := RX3) (T := TX3) (N := 4) hx hb hts hinX3 hown hK hP 0 rfl rfl 1 (by decide) hf15 (fun _ h9 => h9) rfl dX3_empty_1 ?_
  refine lv_istore_n (lv' := [(1, .int (iI tl)), (0, .ref tx)]) hx hb dX3_empty_4 rfl hl (by decide) rfl (fun ls hl => ?_)
  refine lv_aload_n hx hb dX3_empty_5 rfl (lv_at hl 1 rfl) ?_
  refine lv_iconst (v := iI 0) hx hb dX3_empty_6 (by decide +kernel) ?_
  refine va_put (D := D) (ci := 3) (v := .int (iI 0)) (ty := .int) (C := RX3) (T := TX3) (N := 4) hx hb hts hinX3 tyX3 tyX3_ok nmX3 hown hK hP hD hS 0 rfl rfl 1 (by decide) hf15 (fun _ h9 => h9) rfl (by decide +kernel) rfl rfl (Nat.le_of_ble_eq_true rfl) dX3_empty_7 (fun H locs hP hD hS => ?_)
  have hP : va_P D vwCl [(tx, oTx sg 0 po lo), (sg, aC yC 100 T)] H := hP
  have hD : va_D A [(tx, oTx sg 0 po lo), (sg, aC yC 100 T)] := hD
  refine lv_iload_n hx hb dX3_empty_10 rfl (lv_at hl 0 rfl) ?_
  have hP9 : va_P D vwCl [(tx, oTx sg 0 po lo), (sg, aC yC 100 T)] _ := hP.sub [0, 1] rfl
  exact W.iret hx hb hr (fun t ht hW => ⟨⟨iI tl, (), rfl, ⟨rfl, trivial⟩, by show va_P D vwCl _ t.heap; rw [ht]; exact hP9⟩, hS.F ht⟩) hS.2.2 dX3_empty_11
set_option maxHeartbeats 4000000 in
set_option maxRecDepth 100000 in
theorem c_X3_position (l : Launch) (D : va_G) (yI yC yD : ClassId) (tx : Nat) (sg : Nat) (T : Int → Int) (tl : Int) (po : Int) (lo : Int)  : Met l yX3_position wsX3_position ({ frames := 0, cells := 0, slots := 0, locals := 0 }) (roP [.ref tx] D (tyz yI yC yD) [(tx, oTx sg tl po lo), (sg, aC yC 100 T)]) (QcRead (iI po)) 0 0 (fun _ => False) := by
  refine Met.ofW (cc := cX3_position) (maxL := 1) (ret := (some .int)) (by decide) rfl ?_
  intro p e s m args below meth c s₁ B hml hv
  obtain ⟨rfl, hP, hK⟩ := hv
  have hx := B.exec
  have hb := B.bytes
  have hr := B.returns
  have hts := atoms_spec (ws := wsX3_position) B.pre
  have hown : s.vm.findClass RX3 = some m.cls := findClass_of_methodNamed B.named
  have hlocks := B.notSynchronized
  have hP : va_P D vwCl [(tx, oTx sg tl po lo), (sg, aC yC 100 T)] s.heap := hP
  have hinX3 : ∀ w ∈ wsX30, w ∈ wsX3_position := by decide +kernel
  have hf19 : (Cond.fieldLink RX3 19 "RiddleDrive$Text" "position" "I").before _ s = true := hts _ (by decide +kernel)
  have hl := lv_entry ([.ref tx]) (n := 1) (Nat.le_of_ble_eq_true rfl)
  rw [lg_entry_eq]
  generalize (lg_sl ([.ref tx]) ++ List.replicate (1 - (lg_sl ([.ref tx])).length) Slot.unset).toArray = ls at hl ⊢
  have hl : lv_has ls 1 [(0, .ref tx)] := hl
  refine lv_aload_n hx hb dX3_position_0 rfl (lv_at hl 0 rfl) ?_
  refine va_get (D := D) (ci := 3) (v := .int (iI po)) (C := RX3) (T := TX3) (N := 4) hx hb hts hinX3 hown hK hP 0 rfl rfl 2 (by decide) hf19 (fun _ h9 => h9) rfl dX3_position_1 ?_
  exact W.iret hx hb hr (fun t ht hW => ⟨rfl, ht⟩) (fun q h => by cases h) dX3_position_4
set_option maxHeartbeats 4000000 in
set_option maxRecDepth 100000 in
theorem c_X3_questionsLeftOut (l : Launch) (D : va_G) (yI yC yD : ClassId) (tx : Nat) (sg : Nat) (T : Int → Int) (tl : Int) (po : Int) (lo : Int)  : Met l yX3_questionsLeftOut wsX3_questionsLeftOut ({ frames := 0, cells := 0, slots := 0, locals := 0 }) (roP [.ref tx] D (tyz yI yC yD) [(tx, oTx sg tl po lo), (sg, aC yC 100 T)]) (QcRead (iI lo)) 0 0 (fun _ => False) := by
  refine Met.ofW (cc := cX3_questionsLeftOut) (maxL := 1) (ret := (some .int)) (by decide) rfl ?_
  intro p e s m args below meth c s₁ B hml hv
  obtain ⟨rfl, hP, hK⟩ := hv
  have hx := B.exec
  have hb := B.bytes
  have hr := B.returns
  have hts := atoms_spec (ws := wsX3_questionsLeftOut) B.pre
  have hown : s.vm.findClass RX3 = some m.cls := findClass_of_methodNamed B.named
  have hlocks := B.notSynchronized
  have hP : va_P D vwCl [(tx, oTx sg tl po lo), (sg, aC yC 100 T)] s.heap := hP
  have hinX3 : ∀ w ∈ wsX30, w ∈ wsX3_questionsLeftOut := by decide +kernel
  have hf22 : (Cond.fieldLink RX3 22 "RiddleDrive$Text" "leftOut" "I").before _ s = true := hts _ (by decide +kernel)
  have hl := lv_entry ([.ref tx]) (n := 1) (Nat.le_of_ble_eq_true rfl)
  rw [lg_entry_eq]
  generalize (lg_sl ([.ref tx]) ++ List.replicate (1 - (lg_sl ([.ref tx])).length) Slot.unset).toArray = ls at hl ⊢
  have hl : lv_has ls 1 [(0, .ref tx)] := hl
  refine lv_aload_n hx hb dX3_questionsLeftOut_0 rfl (lv_at hl 0 rfl) ?_
  refine va_get (D := D) (ci := 3) (v := .int (iI lo)) (C := RX3) (T := TX3) (N := 4) hx hb hts hinX3 hown hK hP 0 rfl rfl 3 (by decide) hf22 (fun _ h9 => h9) rfl dX3_questionsLeftOut_1 ?_
  exact W.iret hx hb hr (fun t ht hW => ⟨rfl, ht⟩) (fun q h => by cases h) dX3_questionsLeftOut_4
set_option maxHeartbeats 4000000 in
set_option maxRecDepth 100000 in
theorem c_X3_add (l : Launch) (D : va_G) (yI yC yD : ClassId) (tx : Nat) (sg : Nat) (T : Int → Int) (tl : Int) (po : Int) (lo : Int) (q : Int) (htl : 0 ≤ tl ∧ tl < 100) (hq : 0 ≤ q ∧ q ≤ 255) (sz : Nat) : Met l yX3_add wsX3_add ({ frames := 0, cells := 0, slots := 0, locals := 0 }) (rwP [.ref tx, .int (iI q)] D (tyz yI yC yD) [(tx, oTx sg tl po lo), (sg, aC yC 100 T)] sz) (va_Qi (fun (r : Int32) (_ : Unit) => r = iI (tl + 1) ∧ True) (fun (_ : Unit) (t : State) => va_P D vwCl [(tx, oTx sg (tl + 1) po lo), (sg, aC yC 100 (up T tl q))] t.heap) (va_A [(tx, oTx sg tl po lo), (sg, aC yC 100 T)] sz)) 0 0 (va_A [(tx, oTx sg tl po lo), (sg, aC yC 100 T)] sz) := by
  refine Met.ofW (cc := cX3_add) (maxL := 2) (ret := (some .int)) (by decide) rfl ?_
  intro p e s m args below meth c s₁ B hml hv
  obtain ⟨rfl, hsz, hP, hK, hD0⟩ := hv
  have hx := B.exec
  have hb := B.bytes
  have hr := B.returns
  have hts := atoms_spec (ws := wsX3_add) B.pre
  have hown : s.vm.findClass RX3 = some m.cls := findClass_of_methodNamed B.named
  have hlocks := B.notSynchronized
  subst hsz
  have hD := hD0.self (sz := s.heap.size)
  generalize hAe : va_A [(tx, oTx sg tl po lo), (sg, aC yC 100 T)] s.heap.size = A at hD ⊢
  have hA : ∀ q : Nat, s.heap.size ≤ q → A q := fun q h => by rw [← hAe]; exact Or.inr h
  have hS : va_S A s.heap s.heap [] := va_S.rf
  have hP : va_P D vwCl [(tx, oTx sg tl po lo), (sg, aC yC 100 T)] s.heap := hP
  have hinX3 : ∀ w ∈ wsX30, w ∈ wsX3_add := by decide +kernel
  have hf9 : (Cond.fieldLink RX3 9 "RiddleDrive$Text" "signs" "[C").before _ s = true := hts _ (by decide +kernel)
  have hf15 : (Cond.fieldLink RX3 15 "RiddleDrive$Text" "length" "I").before _ s = true := hts _ (by decide +kernel)
  have hl := lv_entry ([.ref tx, .int (iI q)]) (n := 2) (Nat.le_of_ble_eq_true rfl)
  rw [lg_entry_eq]
  generalize (lg_sl ([.ref tx, .int (iI q)]) ++ List.replicate (2 - (lg_sl ([.ref tx, .int (iI q)])).length) Slot.unset).toArray = ls at hl ⊢
  have hl : lv_has ls 2 [(0, .ref tx), (1, .int (iI q))] := hl
  refine lv_aload_n hx hb dX3_add_0 rfl (lv_at hl 0 rfl) ?_
  refine va_get (D := D) (ci := 3) (v := .int (iI tl)) (C := RX3) (T := TX3) (N := 4) hx hb hts hinX3 hown hK hP 0 rfl rfl 1 (by decide) hf15 (fun _ h9 => h9) rfl dX3_add_1 ?_
  refine iv_if_lt (a := tl) (tgt := 39) hx hb (by omega) dX3_add_4 (by decide) (fun c4 => ?_) (fun c4 => ?_)
  · exact absurd c4 (by omega)
  · refine lv_aload_n hx hb dX3_add_7 rfl (lv_at hl 0 rfl) ?_
    refine va_get (D := D) (ci := 3) (v := .int (iI tl)) (C := RX3) (T := TX3) (N := 4) hx hb hts hinX3 hown hK hP 0 rfl rfl 1 (by decide) hf15 (fun _ h9 => h9) rfl dX3_add_8 ?_
    refine lv_aload_n hx hb dX3_add_11 rfl (lv_at hl 0 rfl) ?_
    refine va_get (D := D) (ci := 3) (v := .ref sg) (C := RX3) (T := TX3) (N := 4) hx hb hts hinX3 hown hK hP 0 rfl rfl 0 (by decide) hf9 (fun _ h9 => h9) rfl dX3_add_12 ?_
    refine va_alen (v := iI 100) hx hb hK hP 1 1 rfl rfl (by show Int32.ofNat 100 = iI 100; decide +kernel) dX3_add_15 ?_
    refine iv_icmp_ge (a := tl) (b := 100) (tgt := 39) hx hb (by omega) (by omega) dX3_add_16 (by decide) (fun c16 => ?_) (fun c16 => ?_)
    · exact absurd c16 (by omega)
    · refine lv_aload_n hx hb dX3_add_19 rfl (lv_at hl 0 rfl) ?_
      refine va_get (D := D) (ci := 3) (v := .ref sg) (C := RX3) (T := TX3) (N := 4) hx hb hts hinX3 hown hK hP 0 rfl rfl 0 (by decide) hf9 (fun _ h9 => h9) rfl dX3_add_20 ?_
      refine lv_aload_n hx hb dX3_add_23 rfl (lv_at hl 0 rfl) ?_
      refine va_get (D := D) (ci := 3) (v := .int (iI tl)) (C := RX3) (T := TX3) (N := 4) hx hb hts hinX3 hown hK hP 0 rfl rfl 1 (by decide) hf15 (fun _ h9 => h9) rfl dX3_add_24 ?_
      refine lv_iload_n hx hb dX3_add_27 rfl (lv_at hl 1 rfl) ?_
      refine iv_cst hx hb hK hP hD hS 1 1 rfl rfl (z := tl) (v := q) (by omega) (by omega) (by omega) (nar_c hq) dX3_add_28 (fun H locs hP hD hS => ?_)
      have hP : va_P D vwCl [(tx, oTx sg tl po lo), (sg, aC yC 100 (up T tl q))] H := hP
      have hD : va_D A [(tx, oTx sg tl po lo), (sg, aC yC 100 (up T tl q))] := hD
      refine lv_aload_n hx hb dX3_add_29 rfl (lv_at hl 0 rfl) ?_
      refine lv_dup hx hb dX3_add_30 rfl ?_
      refine va_get (D := D) (ci := 3) (v := .int (iI tl)) (C := RX3) (T := TX3) (N := 4) hx hb hts hinX3 hown hK hP 0 rfl rfl 1 (by decide) hf15 (fun _ h9 => h9) rfl dX3_add_31 ?_
      refine lv_iconst (v := iI 1) hx hb dX3_add_34 (by decide +kernel) ?_
      refine iv_add hx hb dX3_add_35 ?_
      refine va_put (D := D) (ci := 3) (v := .int (iI (tl + 1))) (ty := .int) (C := RX3) (T := TX3) (N := 4) hx hb hts hinX3 tyX3 tyX3_ok nmX3 hown hK hP hD hS 0 rfl rfl 1 (by decide) hf15 (fun _ h9 => h9) rfl (by decide +kernel) rfl rfl (Nat.le_of_ble_eq_true rfl) dX3_add_36 (fun H locs hP hD hS => ?_)
      have hP : va_P D vwCl [(tx, oTx sg (tl + 1) po lo), (sg, aC yC 100 (up T tl q))] H := hP
      have hD : va_D A [(tx, oTx sg (tl + 1) po lo), (sg, aC yC 100 (up T tl q))] := hD
      refine lv_aload_n hx hb dX3_add_39 rfl (lv_at hl 0 rfl) ?_
      refine va_get (D := D) (ci := 3) (v := .int (iI (tl + 1))) (C := RX3) (T := TX3) (N := 4) hx hb hts hinX3 hown hK hP 0 rfl rfl 1 (by decide) hf15 (fun _ h9 => h9) rfl dX3_add_40 ?_
      have hP9 : va_P D vwCl [(tx, oTx sg (tl + 1) po lo), (sg, aC yC 100 (up T tl q))] _ := hP.sub [0, 1] rfl
      exact W.iret hx hb hr (fun t ht hW => ⟨⟨iI (tl + 1), (), rfl, ⟨rfl, trivial⟩, by show va_P D vwCl _ t.heap; rw [ht]; exact hP9⟩, hS.F ht⟩) hS.2.2 dX3_add_43
set_option maxHeartbeats 4000000 in
set_option maxRecDepth 100000 in
theorem c_X3_readKey (l : Launch) (D : va_G) (yI yC yD : ClassId) (tx : Nat) (sg : Nat) (T : Int → Int) (tl : Int) (po : Int) (lo : Int) (d : Nat) (dc : Nat) (S : Int → Int) (g : Int → Int) (htl : 0 ≤ tl ∧ tl ≤ 100) (hrt : ∀ z, 0 ≤ z → z < tl → 0 ≤ T z ∧ T z < 65536) (hpo : 0 ≤ po ∧ po ≤ 800) (hI : Inv S) (hR : Rc S g) (sz : Nat) : Met l yX3_readKey wsX3_readKey ({ frames := 3, cells := 0, slots := 0, locals := 67 }) (rwP [.ref tx, .ref d] D (tyz yI yC yD) [(tx, oTx sg tl po lo), (sg, aC yC 100 T), (d, oDrv dc S (lN (kL (S) 0 40))), (dc, aI yI 48 g)] sz) (va_Qi (fun (r : Int32) (G9 : (Int → Int)) => r = iI (bI (wrongIn T tl (po + 1) 0 (S 0 - 1) = -1)) ∧ Rc (if wrongIn T tl (po + 1) 0 (S 0 - 1) = -1 then wr S (numb T tl (po + 1)) 1 else S) G9) (fun (G9 : (Int → Int)) (t : State) => va_P D vwCl [(tx, oTx sg tl (nmP T tl (po + 1) 0 (S 0 - 1)) lo), (sg, aC yC 100 T), (d, oDrv dc (if wrongIn T tl (po + 1) 0 (S 0 - 1) = -1 then wr S (numb T tl (po + 1)) 1 else S) (lN (kL (if wrongIn T tl (po + 1) 0 (S 0 - 1) = -1 then wr S (numb T tl (po + 1)) 1 else S) 0 40))), (dc, aI yI 48 G9)] t.heap) (va_A [(tx, oTx sg tl po lo), (sg, aC yC 100 T), (d, oDrv dc S (lN (kL (S) 0 40))), (dc, aI yI 48 g)] sz)) 0 0 (va_A [(tx, oTx sg tl po lo), (sg, aC yC 100 T), (d, oDrv dc S (lN (kL (S) 0 40))), (dc, aI yI 48 g)] sz) := by
  refine Met.ofW (cc := cX3_readKey) (maxL := 3) (ret := (some .boolean)) (by decide) rfl ?_
  intro p e s m args below meth c s₁ B hml hv
  obtain ⟨rfl, hsz, hP, hK, hD0⟩ := hv
  have hx := B.exec
  have hb := B.bytes
  have hr := B.returns
  have hts := atoms_spec (ws := wsX3_readKey) B.pre
  have hown : s.vm.findClass RX3 = some m.cls := findClass_of_methodNamed B.named
  have hlocks := B.notSynchronized
  subst hsz
  have hD := hD0.self (sz := s.heap.size)
  generalize hAe : va_A [(tx, oTx sg tl po lo), (sg, aC yC 100 T), (d, oDrv dc S (lN (kL (S) 0 40))), (dc, aI yI 48 g)] s.heap.size = A at hD ⊢
  have hA : ∀ q : Nat, s.heap.size ≤ q → A q := fun q h => by rw [← hAe]; exact Or.inr h
  have hS : va_S A s.heap s.heap [] := va_S.rf
  have hP : va_P D vwCl [(tx, oTx sg tl po lo), (sg, aC yC 100 T), (d, oDrv dc S (lN (kL (S) 0 40))), (dc, aI yI 48 g)] s.heap := hP
  have hinX0 : ∀ w ∈ wsX00, w ∈ wsX3_readKey := by decide +kernel
  have hinX3 : ∀ w ∈ wsX30, w ∈ wsX3_readKey := by decide +kernel
  have hf19 : (Cond.fieldLink RX3 19 "RiddleDrive$Text" "position" "I").before _ s = true := hts _ (by decide +kernel)
  have hf53 : (Cond.fieldLink RX3 53 "RiddleDrive$Drive" "places" "I").before _ s = true := hts _ (by decide +kernel)
  have hl := lv_entry ([.ref tx, .ref d]) (n := 3) (Nat.le_of_ble_eq_true rfl)
  rw [lg_entry_eq]
  generalize (lg_sl ([.ref tx, .ref d]) ++ List.replicate (3 - (lg_sl ([.ref tx, .ref d])).length) Slot.unset).toArray = ls at hl ⊢
  have hl : lv_has ls 3 [(0, .ref tx), (1, .ref d)] := hl
  have hpl := hI.pl
  have hna := hI.na
  have hse := hI.se
  have hwi := hI.wi
  have hfe := hI.fe
  obtain ⟨n1, n2, n3, n4, n5, n6⟩ := nm_iff (T := T) (n := tl) (p := po + 1) (lo := 0) (hi := S 0 - 1) (by omega) (by omega)
  refine lv_aload_n hx hb dX3_readKey_0 rfl (lv_at hl 0 rfl) ?_
  refine lv_dup hx hb dX3_readKey_1 rfl ?_
  refine va_get (D := D) (ci := 3) (v := .int (iI po)) (C := RX3) (T := TX3) (N := 4) hx hb hts hinX3 hown hK hP 0 rfl rfl 2 (by decide) hf19 (fun _ h9 => h9) rfl dX3_readKey_2 ?_
  refine lv_iconst (v := iI 1) hx hb dX3_readKey_5 (by decide +kernel) ?_
  refine iv_add hx hb dX3_readKey_6 ?_
  refine va_put (D := D) (ci := 3) (v := .int (iI (po + 1))) (ty := .int) (C := RX3) (T := TX3) (N := 4) hx hb hts hinX3 tyX3 tyX3_ok nmX3 hown hK hP hD hS 0 rfl rfl 2 (by decide) hf19 (fun _ h9 => h9) rfl (by decide +kernel) rfl rfl (Nat.le_of_ble_eq_true rfl) dX3_readKey_7 (fun H locs hP hD hS => ?_)
  have hP : va_P D vwCl [(tx, oTx sg tl (po + 1) lo), (sg, aC yC 100 T), (d, oDrv dc S (lN (kL (S) 0 40))), (dc, aI yI 48 g)] H := hP
  have hD : va_D A [(tx, oTx sg tl (po + 1) lo), (sg, aC yC 100 T), (d, oDrv dc S (lN (kL (S) 0 40))), (dc, aI yI 48 g)] := hD
  refine lv_aload_n hx hb dX3_readKey_10 rfl (lv_at hl 0 rfl) ?_
  refine lv_iconst (v := iI 0) hx hb dX3_readKey_11 (by decide +kernel) ?_
  refine lv_aload_n hx hb dX3_readKey_12 rfl (lv_at hl 1 rfl) ?_
  refine va_get (D := D) (ci := 0) (v := .int (iI (S 0))) (C := RX0) (T := TX0) (N := 10) hx hb hts hinX0 hown hK hP 2 rfl rfl 0 (by decide) hf53 (fun _ h9 => h9) rfl dX3_readKey_13 ?_
  refine lv_iconst (v := iI 1) hx hb dX3_readKey_16 (by decide +kernel) ?_
  refine iv_sub hx hb dX3_readKey_17 ?_
  refine iv_rwV (As := [.int (iI 0), .int (iI (S 0 - 1))]) (rest := []) (C := RX3) (n := 2) ⟨hx, hb, hml, hown, hts⟩ (c_X3_readNumber l D yI yC yD tx sg T tl (po + 1) lo 0 (S 0 - 1) (by omega) (by assumption) (by omega) (by omega) _) (cwV 2 hts gX3_readKey_X3_readNumber rfl rfl rfl (by decide +kernel) ⟨Nat.le_of_ble_eq_true rfl, Nat.le_of_ble_eq_true rfl⟩) hK hP hD hS hA [0, 1] (by decide) rfl 0 rfl rfl rfl hl.1 rfl (Nat.le_of_ble_eq_true rfl) dX3_readKey_18 ⟨Nat.zero_le _, Nat.zero_le _⟩ (fun _ => rfl) (fun r18 u18 H locs hw18 hP hD hS => ?_)
  obtain ⟨hr18, -⟩ := hw18
  subst hr18
  have hP : va_P D vwCl [(tx, oTx sg tl (nmP T tl (po + 1) 0 (S 0 - 1)) lo), (sg, aC yC 100 T), (d, oDrv dc S (lN (kL (S) 0 40))), (dc, aI yI 48 g)] H := hP
  have hD : va_D A [(tx, oTx sg tl (nmP T tl (po + 1) 0 (S 0 - 1)) lo), (sg, aC yC 100 T), (d, oDrv dc S (lN (kL (S) 0 40))), (dc, aI yI 48 g)] := hD
  refine lv_istore_n (lv' := [(2, .int (iI (nmD T tl (po + 1) 0 (S 0 - 1)))), (0, .ref tx), (1, .ref d)]) hx hb dX3_readKey_21 rfl hl (by decide) rfl (fun ls hl => ?_)
  refine lv_iload_n hx hb dX3_readKey_22 rfl (lv_at hl 0 rfl) ?_
  refine lv_iconst (v := iI (-1)) hx hb dX3_readKey_23 (by decide +kernel) ?_
  refine iv_icmp_ne (a := nmD T tl (po + 1) 0 (S 0 - 1)) (b := -1) (tgt := 29) hx hb (by omega) (by omega) dX3_readKey_24 (by decide) (fun c24 => ?_) (fun c24 => ?_)
  · obtain ⟨m1, m2, m3⟩ := n2 (by omega)
    refine lv_aload_n hx hb dX3_readKey_29 rfl (lv_at hl 2 rfl) ?_
    refine lv_iload_n hx hb dX3_readKey_30 rfl (lv_at hl 0 rfl) ?_
    refine lv_iconst (v := iI 1) hx hb dX3_readKey_31 (by decide +kernel) ?_
    refine iv_rwV (As := [.int (iI (nmD T tl (po + 1) 0 (S 0 - 1))), .int (iI 1)]) (rest := []) (C := RX0) (n := 2) ⟨hx, hb, hml, hown, hts⟩ (c_X0_putKey l D yI yC yD d dc S g (nmD T tl (po + 1) 0 (S 0 - 1)) 1 (by assumption) (by assumption) (by omega) (by omega) _) (cwV 2 hts gX3_readKey_X0_putKey rfl rfl rfl (by decide +kernel) ⟨Nat.le_of_ble_eq_true rfl, Nat.le_of_ble_eq_true rfl⟩) hK hP hD hS hA [2, 3] (by decide) rfl 2 rfl rfl rfl hl.1 rfl (Nat.le_of_ble_eq_true rfl) dX3_readKey_32 ⟨Nat.zero_le _, Nat.zero_le _⟩ (fun _ => rfl) (fun r32 u32 H locs hw32 hP hD hS => ?_)
    obtain ⟨G932, hu32⟩ : ∃ z, z = u32 := ⟨_, rfl⟩
    subst hu32
    obtain ⟨hr32, hR2_32⟩ := hw32
    subst hr32
    have hP : va_P D vwCl [(tx, oTx sg tl (nmP T tl (po + 1) 0 (S 0 - 1)) lo), (sg, aC yC 100 T), (d, oDrv dc (wr S (nmD T tl (po + 1) 0 (S 0 - 1)) 1) (lN (kL (wr S (nmD T tl (po + 1) 0 (S 0 - 1)) 1) 0 40))), (dc, aI yI 48 G932)] H := hP
    have hD : va_D A [(tx, oTx sg tl (nmP T tl (po + 1) 0 (S 0 - 1)) lo), (sg, aC yC 100 T), (d, oDrv dc (wr S (nmD T tl (po + 1) 0 (S 0 - 1)) 1) (lN (kL (wr S (nmD T tl (po + 1) 0 (S 0 - 1)) 1) 0 40))), (dc, aI yI 48 G932)] := hD
    refine lv_pop hx hb dX3_readKey_35 rfl ?_
    refine lv_iconst (v := iI 1) hx hb dX3_readKey_36 (by decide +kernel) ?_
    have hq : wrongIn T tl (po + 1) 0 (S 0 - 1) = -1 := by omega
    have hP9 : va_P D vwCl [(tx, oTx sg tl (nmP T tl (po + 1) 0 (S 0 - 1)) lo), (sg, aC yC 100 T), (d, oDrv dc (if wrongIn T tl (po + 1) 0 (S 0 - 1) = -1 then wr S (numb T tl (po + 1)) 1 else S) (lN (kL (if wrongIn T tl (po + 1) 0 (S 0 - 1) = -1 then wr S (numb T tl (po + 1)) 1 else S) 0 40))), (dc, aI yI 48 G932)] _ := (hP.sub (ws' := [(tx, oTx sg tl (nmP T tl (po + 1) 0 (S 0 - 1)) lo), (sg, aC yC 100 T), (d, oDrv dc (wr S (nmD T tl (po + 1) 0 (S 0 - 1)) 1) (lN (kL (wr S (nmD T tl (po + 1) 0 (S 0 - 1)) 1) 0 40))), (dc, aI yI 48 G932)]) [0, 1, 2, 3] rfl).cv (by simp only [if_pos hq, ← m1])
    exact W.zret hx hb hr (by decide +kernel) (fun t ht hW => ⟨⟨iI 1, G932, rfl, ⟨congrArg iI (show 1 = bI (wrongIn T tl (po + 1) 0 (S 0 - 1) = -1) by exact (bI_t hq).symm), (by rw [if_pos hq, ← m1]; exact hR2_32)⟩, by show va_P D vwCl _ t.heap; rw [ht]; exact hP9⟩, hS.F ht⟩) hS.2.2 dX3_readKey_37
  · refine lv_iconst (v := iI 0) hx hb dX3_readKey_27 (by decide +kernel) ?_
    have hq : ¬ (wrongIn T tl (po + 1) 0 (S 0 - 1) = -1) := by omega
    have hP9 : va_P D vwCl [(tx, oTx sg tl (nmP T tl (po + 1) 0 (S 0 - 1)) lo), (sg, aC yC 100 T), (d, oDrv dc (if wrongIn T tl (po + 1) 0 (S 0 - 1) = -1 then wr S (numb T tl (po + 1)) 1 else S) (lN (kL (if wrongIn T tl (po + 1) 0 (S 0 - 1) = -1 then wr S (numb T tl (po + 1)) 1 else S) 0 40))), (dc, aI yI 48 g)] _ := (hP.sub (ws' := [(tx, oTx sg tl (nmP T tl (po + 1) 0 (S 0 - 1)) lo), (sg, aC yC 100 T), (d, oDrv dc S (lN (kL (S) 0 40))), (dc, aI yI 48 g)]) [0, 1, 2, 3] rfl).cv (by simp only [if_neg hq])
    exact W.zret hx hb hr (by decide +kernel) (fun t ht hW => ⟨⟨iI 0, g, rfl, ⟨congrArg iI (show 0 = bI (wrongIn T tl (po + 1) 0 (S 0 - 1) = -1) by exact (bI_f hq).symm), (by rw [if_neg hq]; exact hR)⟩, by show va_P D vwCl _ t.heap; rw [ht]; exact hP9⟩, hS.F ht⟩) hS.2.2 dX3_readKey_28
set_option maxHeartbeats 4000000 in
set_option maxRecDepth 100000 in
theorem c_X3_readSetting (l : Launch) (D : va_G) (yI yC yD : ClassId) (tx : Nat) (sg : Nat) (T : Int → Int) (tl : Int) (po : Int) (lo : Int) (d : Nat) (dc : Nat) (S : Int → Int) (g : Int → Int) (w : Int) (low : Int) (high : Int) (htl : 0 ≤ tl ∧ tl ≤ 100) (hrt : ∀ z, 0 ≤ z → z < tl → 0 ≤ T z ∧ T z < 65536) (hpo : 0 ≤ po ∧ po ≤ 800) (hI : Inv S) (hR : Rc S g) (hw9 : (w = 0 ∧ low = 1 ∧ high = 8) ∨ (w = 1 ∧ low = 0 ∧ high = 4) ∨ (w = 2 ∧ low = 0 ∧ high = 9)) (sz : Nat) : Met l yX3_readSetting wsX3_readSetting ({ frames := 2, cells := 0, slots := 0, locals := 43 }) (rwP [.ref tx, .ref d, .int (iI w), .int (iI low), .int (iI high)] D (tyz yI yC yD) [(tx, oTx sg tl po lo), (sg, aC yC 100 T), (d, oDrv dc S (lN (kL (S) 0 40))), (dc, aI yI 48 g)] sz) (va_Qi (fun (r : Int32) (_ : Unit) => r = iI (bI (low ≤ digit T tl (po + 1) ∧ digit T tl (po + 1) ≤ high)) ∧ Rc (if low ≤ digit T tl (po + 1) ∧ digit T tl (po + 1) ≤ high then setg S w (digit T tl (po + 1)) else S) g) (fun (_ : Unit) (t : State) => va_P D vwCl [(tx, oTx sg tl (rdP T tl (po + 1) low high) lo), (sg, aC yC 100 T), (d, oDrv dc (if low ≤ digit T tl (po + 1) ∧ digit T tl (po + 1) ≤ high then setg S w (digit T tl (po + 1)) else S) (lN (kL (if low ≤ digit T tl (po + 1) ∧ digit T tl (po + 1) ≤ high then setg S w (digit T tl (po + 1)) else S) 0 40))), (dc, aI yI 48 g)] t.heap) (va_A [(tx, oTx sg tl po lo), (sg, aC yC 100 T), (d, oDrv dc S (lN (kL (S) 0 40))), (dc, aI yI 48 g)] sz)) 0 0 (va_A [(tx, oTx sg tl po lo), (sg, aC yC 100 T), (d, oDrv dc S (lN (kL (S) 0 40))), (dc, aI yI 48 g)] sz) := by
  refine Met.ofW (cc := cX3_readSetting) (maxL := 6) (ret := (some .boolean)) (by decide) rfl ?_
  intro p e s m args below meth c s₁ B hml hv
  obtain ⟨rfl, hsz, hP, hK, hD0⟩ := hv
  have hx := B.exec
  have hb := B.bytes
  have hr := B.returns
  have hts := atoms_spec (ws := wsX3_readSetting) B.pre
  have hown : s.vm.findClass RX3 = some m.cls := findClass_of_methodNamed B.named
  have hlocks := B.notSynchronized
  subst hsz
  have hD := hD0.self (sz := s.heap.size)
  generalize hAe : va_A [(tx, oTx sg tl po lo), (sg, aC yC 100 T), (d, oDrv dc S (lN (kL (S) 0 40))), (dc, aI yI 48 g)] s.heap.size = A at hD ⊢
  have hA : ∀ q : Nat, s.heap.size ≤ q → A q := fun q h => by rw [← hAe]; exact Or.inr h
  have hS : va_S A s.heap s.heap [] := va_S.rf
  have hP : va_P D vwCl [(tx, oTx sg tl po lo), (sg, aC yC 100 T), (d, oDrv dc S (lN (kL (S) 0 40))), (dc, aI yI 48 g)] s.heap := hP
  have hinX3 : ∀ w ∈ wsX30, w ∈ wsX3_readSetting := by decide +kernel
  have hf19 : (Cond.fieldLink RX3 19 "RiddleDrive$Text" "position" "I").before _ s = true := hts _ (by decide +kernel)
  have hl := lv_entry ([.ref tx, .ref d, .int (iI w), .int (iI low), .int (iI high)]) (n := 6) (Nat.le_of_ble_eq_true rfl)
  rw [lg_entry_eq]
  generalize (lg_sl ([.ref tx, .ref d, .int (iI w), .int (iI low), .int (iI high)]) ++ List.replicate (6 - (lg_sl ([.ref tx, .ref d, .int (iI w), .int (iI low), .int (iI high)])).length) Slot.unset).toArray = ls at hl ⊢
  have hl : lv_has ls 6 [(0, .ref tx), (1, .ref d), (2, .int (iI w)), (3, .int (iI low)), (4, .int (iI high))] := hl
  have hpl := hI.pl
  have hna := hI.na
  have hse := hI.se
  have hwi := hI.wi
  have hfe := hI.fe
  have hdr := digit_r (T := T) (n := tl) (p := po + 1)
  have hrr := rdD_r (T := T) (n := tl) (p := po + 1) (low := low) (high := high)
  have hok := rdD_ok (T := T) (n := tl) (p := po + 1) (low := low) (high := high)
  refine lv_aload_n hx hb dX3_readSetting_0 rfl (lv_at hl 0 rfl) ?_
  refine lv_dup hx hb dX3_readSetting_1 rfl ?_
  refine va_get (D := D) (ci := 3) (v := .int (iI po)) (C := RX3) (T := TX3) (N := 4) hx hb hts hinX3 hown hK hP 0 rfl rfl 2 (by decide) hf19 (fun _ h9 => h9) rfl dX3_readSetting_2 ?_
  refine lv_iconst (v := iI 1) hx hb dX3_readSetting_5 (by decide +kernel) ?_
  refine iv_add hx hb dX3_readSetting_6 ?_
  refine va_put (D := D) (ci := 3) (v := .int (iI (po + 1))) (ty := .int) (C := RX3) (T := TX3) (N := 4) hx hb hts hinX3 tyX3 tyX3_ok nmX3 hown hK hP hD hS 0 rfl rfl 2 (by decide) hf19 (fun _ h9 => h9) rfl (by decide +kernel) rfl rfl (Nat.le_of_ble_eq_true rfl) dX3_readSetting_7 (fun H locs hP hD hS => ?_)
  have hP : va_P D vwCl [(tx, oTx sg tl (po + 1) lo), (sg, aC yC 100 T), (d, oDrv dc S (lN (kL (S) 0 40))), (dc, aI yI 48 g)] H := hP
  have hD : va_D A [(tx, oTx sg tl (po + 1) lo), (sg, aC yC 100 T), (d, oDrv dc S (lN (kL (S) 0 40))), (dc, aI yI 48 g)] := hD
  refine lv_aload_n hx hb dX3_readSetting_10 rfl (lv_at hl 0 rfl) ?_
  refine lv_iload_n hx hb dX3_readSetting_11 rfl (lv_at hl 3 rfl) ?_
  refine lv_iload hx hb dX3_readSetting_12 (lv_at hl 4 rfl) ?_
  refine iv_rwV (As := [.int (iI low), .int (iI high)]) (rest := []) (C := RX3) (n := 2) ⟨hx, hb, hml, hown, hts⟩ (c_X3_readDigit l D yI yC yD tx sg T tl (po + 1) lo low high (by omega) (by assumption) (by omega) (by omega) _) (cwV 2 hts gX3_readSetting_X3_readDigit rfl rfl rfl (by decide +kernel) ⟨Nat.le_of_ble_eq_true rfl, Nat.le_of_ble_eq_true rfl⟩) hK hP hD hS hA [0, 1] (by decide) rfl 0 rfl rfl rfl hl.1 rfl (Nat.le_of_ble_eq_true rfl) dX3_readSetting_14 ⟨Nat.zero_le _, Nat.zero_le _⟩ (fun _ => rfl) (fun r14 u14 H locs hw14 hP hD hS => ?_)
  obtain ⟨hr14, -⟩ := hw14
  subst hr14
  have hP : va_P D vwCl [(tx, oTx sg tl (rdP T tl (po + 1) low high) lo), (sg, aC yC 100 T), (d, oDrv dc S (lN (kL (S) 0 40))), (dc, aI yI 48 g)] H := hP
  have hD : va_D A [(tx, oTx sg tl (rdP T tl (po + 1) low high) lo), (sg, aC yC 100 T), (d, oDrv dc S (lN (kL (S) 0 40))), (dc, aI yI 48 g)] := hD
  refine lv_istore (lv' := [(5, .int (iI (rdD T tl (po + 1) low high))), (0, .ref tx), (1, .ref d), (2, .int (iI w)), (3, .int (iI low)), (4, .int (iI high))]) hx hb dX3_readSetting_17 hl (by decide) rfl (fun ls hl => ?_)
  refine lv_iload hx hb dX3_readSetting_19 (lv_at hl 0 rfl) ?_
  refine lv_iconst (v := iI (-1)) hx hb dX3_readSetting_21 (by decide +kernel) ?_
  refine iv_icmp_ne (a := rdD T tl (po + 1) low high) (b := -1) (tgt := 27) hx hb (by omega) (by omega) dX3_readSetting_22 (by decide) (fun c22 => ?_) (fun c22 => ?_)
  · have hy : low ≤ digit T tl (po + 1) ∧ digit T tl (po + 1) ≤ high := by (by_cases z : low ≤ digit T tl (po + 1) ∧ digit T tl (po + 1) ≤ high); exact z; exact absurd (rd_n z).1 c22
    have m1 := (rd_y hy).1
    refine lv_aload_n hx hb dX3_readSetting_27 rfl (lv_at hl 2 rfl) ?_
    refine lv_iload_n hx hb dX3_readSetting_28 rfl (lv_at hl 3 rfl) ?_
    refine lv_iload hx hb dX3_readSetting_29 (lv_at hl 0 rfl) ?_
    refine iv_rwV (As := [.int (iI w), .int (iI (rdD T tl (po + 1) low high))]) (rest := []) (C := RX0) (n := 2) ⟨hx, hb, hml, hown, hts⟩ (c_X0_change l D yI yC yD d dc S g w (rdD T tl (po + 1) low high) (by assumption) (by assumption) (by rw [m1]; show (_ ∧ _ ∧ _) ∨ _; omega) _) (cwV 2 hts gX3_readSetting_X0_change rfl rfl rfl (by decide +kernel) ⟨Nat.le_of_ble_eq_true rfl, Nat.le_of_ble_eq_true rfl⟩) hK hP hD hS hA [2, 3] (by decide) rfl 2 rfl rfl rfl hl.1 rfl (Nat.le_of_ble_eq_true rfl) dX3_readSetting_31 ⟨Nat.zero_le _, Nat.zero_le _⟩ (fun _ => rfl) (fun r31 u31 H locs hw31 hP hD hS => ?_)
    obtain ⟨hr31, hR2_31⟩ := hw31
    subst hr31
    have hP : va_P D vwCl [(tx, oTx sg tl (rdP T tl (po + 1) low high) lo), (sg, aC yC 100 T), (d, oDrv dc (setg S w (rdD T tl (po + 1) low high)) (lN (kL (setg S w (rdD T tl (po + 1) low high)) 0 40))), (dc, aI yI 48 g)] H := hP
    have hD : va_D A [(tx, oTx sg tl (rdP T tl (po + 1) low high) lo), (sg, aC yC 100 T), (d, oDrv dc (setg S w (rdD T tl (po + 1) low high)) (lN (kL (setg S w (rdD T tl (po + 1) low high)) 0 40))), (dc, aI yI 48 g)] := hD
    refine lv_pop hx hb dX3_readSetting_34 rfl ?_
    refine lv_iconst (v := iI 1) hx hb dX3_readSetting_35 (by decide +kernel) ?_
    have hq : low ≤ digit T tl (po + 1) ∧ digit T tl (po + 1) ≤ high := hy
    have hP9 : va_P D vwCl [(tx, oTx sg tl (rdP T tl (po + 1) low high) lo), (sg, aC yC 100 T), (d, oDrv dc (if low ≤ digit T tl (po + 1) ∧ digit T tl (po + 1) ≤ high then setg S w (digit T tl (po + 1)) else S) (lN (kL (if low ≤ digit T tl (po + 1) ∧ digit T tl (po + 1) ≤ high then setg S w (digit T tl (po + 1)) else S) 0 40))), (dc, aI yI 48 g)] _ := (hP.sub (ws' := [(tx, oTx sg tl (rdP T tl (po + 1) low high) lo), (sg, aC yC 100 T), (d, oDrv dc (setg S w (rdD T tl (po + 1) low high)) (lN (kL (setg S w (rdD T tl (po + 1) low high)) 0 40))), (dc, aI yI 48 g)]) [0, 1, 2, 3] rfl).cv (by simp only [if_pos hq, m1])
    exact W.zret hx hb hr (by decide +kernel) (fun t ht hW => ⟨⟨iI 1, (), rfl, ⟨congrArg iI (show 1 = bI (low ≤ digit T tl (po + 1) ∧ digit T tl (po + 1) ≤ high) by exact (bI_t hq).symm), (by rw [if_pos hq, ← m1]; exact hR2_31)⟩, by show va_P D vwCl _ t.heap; rw [ht]; exact hP9⟩, hS.F ht⟩) hS.2.2 dX3_readSetting_36
  · refine lv_iconst (v := iI 0) hx hb dX3_readSetting_25 (by decide +kernel) ?_
    have hq : ¬ (low ≤ digit T tl (po + 1) ∧ digit T tl (po + 1) ≤ high) := by intro z; rw [(rd_y z).1] at c22; omega
    have hP9 : va_P D vwCl [(tx, oTx sg tl (rdP T tl (po + 1) low high) lo), (sg, aC yC 100 T), (d, oDrv dc (if low ≤ digit T tl (po + 1) ∧ digit T tl (po + 1) ≤ high then setg S w (digit T tl (po + 1)) else S) (lN (kL (if low ≤ digit T tl (po + 1) ∧ digit T tl (po + 1) ≤ high then setg S w (digit T tl (po + 1)) else S) 0 40))), (dc, aI yI 48 g)] _ := (hP.sub (ws' := [(tx, oTx sg tl (rdP T tl (po + 1) low high) lo), (sg, aC yC 100 T), (d, oDrv dc S (lN (kL (S) 0 40))), (dc, aI yI 48 g)]) [0, 1, 2, 3] rfl).cv (by simp only [if_neg hq])
    exact W.zret hx hb hr (by decide +kernel) (fun t ht hW => ⟨⟨iI 0, (), rfl, ⟨congrArg iI (show 0 = bI (low ≤ digit T tl (po + 1) ∧ digit T tl (po + 1) ≤ high) by exact (bI_f hq).symm), (by rw [if_neg hq]; exact hR)⟩, by show va_P D vwCl _ t.heap; rw [ht]; exact hP9⟩, hS.F ht⟩) hS.2.2 dX3_readSetting_26
set_option maxHeartbeats 4000000 in
set_option maxRecDepth 100000 in
theorem c_X3_readQuestion (l : Launch) (D : va_G) (yI yC yD : ClassId) (tx : Nat) (sg : Nat) (T : Int → Int) (tl : Int) (po : Int) (lo : Int) (d : Nat) (dc : Nat) (S : Int → Int) (g : Int → Int) (htl : 0 ≤ tl ∧ tl ≤ 100) (hrt : ∀ z, 0 ≤ z → z < tl → 0 ≤ T z ∧ T z < 65536) (hpo : 0 ≤ po ∧ po ≤ 800) (hI : Inv S) (hR : Rc S g) (sz : Nat) : Met l yX3_readQuestion wsX3_readQuestion ({ frames := 4, cells := 0, slots := 0, locals := 80 }) (rwP [.ref tx, .ref d] D (tyz yI yC yD) [(tx, oTx sg tl po lo), (sg, aC yC 100 T), (d, oDrv dc S (lN (kL (S) 0 40))), (dc, aI yI 48 g)] sz) (va_Qi (fun (r : Int32) (G9 : (Int → Int)) => r = iI (bI (wrQ T tl po (S 0) = -1)) ∧ Rc (qS T tl po S) G9) (fun (G9 : (Int → Int)) (t : State) => va_P D vwCl [(tx, oTx sg tl (qP T tl po (S 0)) (qL T tl po S lo)), (sg, aC yC 100 T), (d, oDrv dc (qS T tl po S) (lN (kL (qS T tl po S) 0 40))), (dc, aI yI 48 G9)] t.heap) (va_A [(tx, oTx sg tl po lo), (sg, aC yC 100 T), (d, oDrv dc S (lN (kL (S) 0 40))), (dc, aI yI 48 g)] sz)) 0 0 (va_A [(tx, oTx sg tl po lo), (sg, aC yC 100 T), (d, oDrv dc S (lN (kL (S) 0 40))), (dc, aI yI 48 g)] sz) := by
  refine Met.ofW (cc := cX3_readQuestion) (maxL := 4) (ret := (some .boolean)) (by decide) rfl ?_
  intro p e s m args below meth c s₁ B hml hv
  obtain ⟨rfl, hsz, hP, hK, hD0⟩ := hv
  have hx := B.exec
  have hb := B.bytes
  have hr := B.returns
  have hts := atoms_spec (ws := wsX3_readQuestion) B.pre
  have hown : s.vm.findClass RX3 = some m.cls := findClass_of_methodNamed B.named
  have hlocks := B.notSynchronized
  subst hsz
  have hD := hD0.self (sz := s.heap.size)
  generalize hAe : va_A [(tx, oTx sg tl po lo), (sg, aC yC 100 T), (d, oDrv dc S (lN (kL (S) 0 40))), (dc, aI yI 48 g)] s.heap.size = A at hD ⊢
  have hA : ∀ q : Nat, s.heap.size ≤ q → A q := fun q h => by rw [← hAe]; exact Or.inr h
  have hS : va_S A s.heap s.heap [] := va_S.rf
  have hP : va_P D vwCl [(tx, oTx sg tl po lo), (sg, aC yC 100 T), (d, oDrv dc S (lN (kL (S) 0 40))), (dc, aI yI 48 g)] s.heap := hP
  have hinX0 : ∀ w ∈ wsX00, w ∈ wsX3_readQuestion := by decide +kernel
  have hinX3 : ∀ w ∈ wsX30, w ∈ wsX3_readQuestion := by decide +kernel
  have hf19 : (Cond.fieldLink RX3 19 "RiddleDrive$Text" "position" "I").before _ s = true := hts _ (by decide +kernel)
  have hf22 : (Cond.fieldLink RX3 22 "RiddleDrive$Text" "leftOut" "I").before _ s = true := hts _ (by decide +kernel)
  have hf53 : (Cond.fieldLink RX3 53 "RiddleDrive$Drive" "places" "I").before _ s = true := hts _ (by decide +kernel)
  have hl := lv_entry ([.ref tx, .ref d]) (n := 4) (Nat.le_of_ble_eq_true rfl)
  rw [lg_entry_eq]
  generalize (lg_sl ([.ref tx, .ref d]) ++ List.replicate (4 - (lg_sl ([.ref tx, .ref d])).length) Slot.unset).toArray = ls at hl ⊢
  have hl : lv_has ls 4 [(0, .ref tx), (1, .ref d)] := hl
  have hpl := hI.pl
  have hna := hI.na
  have hse := hI.se
  have hwi := hI.wi
  have hfe := hI.fe
  obtain ⟨n1, n2, n3, n4, n5, n6⟩ := nm_iff (T := T) (n := tl) (p := po + 1) (lo := 0) (hi := S 0 - 1) (by omega) (by omega)
  refine lv_aload_n hx hb dX3_readQuestion_0 rfl (lv_at hl 0 rfl) ?_
  refine lv_dup hx hb dX3_readQuestion_1 rfl ?_
  refine va_get (D := D) (ci := 3) (v := .int (iI po)) (C := RX3) (T := TX3) (N := 4) hx hb hts hinX3 hown hK hP 0 rfl rfl 2 (by decide) hf19 (fun _ h9 => h9) rfl dX3_readQuestion_2 ?_
  refine lv_iconst (v := iI 1) hx hb dX3_readQuestion_5 (by decide +kernel) ?_
  refine iv_add hx hb dX3_readQuestion_6 ?_
  refine va_put (D := D) (ci := 3) (v := .int (iI (po + 1))) (ty := .int) (C := RX3) (T := TX3) (N := 4) hx hb hts hinX3 tyX3 tyX3_ok nmX3 hown hK hP hD hS 0 rfl rfl 2 (by decide) hf19 (fun _ h9 => h9) rfl (by decide +kernel) rfl rfl (Nat.le_of_ble_eq_true rfl) dX3_readQuestion_7 (fun H locs hP hD hS => ?_)
  have hP : va_P D vwCl [(tx, oTx sg tl (po + 1) lo), (sg, aC yC 100 T), (d, oDrv dc S (lN (kL (S) 0 40))), (dc, aI yI 48 g)] H := hP
  have hD : va_D A [(tx, oTx sg tl (po + 1) lo), (sg, aC yC 100 T), (d, oDrv dc S (lN (kL (S) 0 40))), (dc, aI yI 48 g)] := hD
  refine lv_aload_n hx hb dX3_readQuestion_10 rfl (lv_at hl 0 rfl) ?_
  refine lv_iconst (v := iI 0) hx hb dX3_readQuestion_11 (by decide +kernel) ?_
  refine lv_aload_n hx hb dX3_readQuestion_12 rfl (lv_at hl 1 rfl) ?_
  refine va_get (D := D) (ci := 0) (v := .int (iI (S 0))) (C := RX0) (T := TX0) (N := 10) hx hb hts hinX0 hown hK hP 2 rfl rfl 0 (by decide) hf53 (fun _ h9 => h9) rfl dX3_readQuestion_13 ?_
  refine lv_iconst (v := iI 1) hx hb dX3_readQuestion_16 (by decide +kernel) ?_
  refine iv_sub hx hb dX3_readQuestion_17 ?_
  refine iv_rwV (As := [.int (iI 0), .int (iI (S 0 - 1))]) (rest := []) (C := RX3) (n := 2) ⟨hx, hb, hml, hown, hts⟩ (c_X3_readNumber l D yI yC yD tx sg T tl (po + 1) lo 0 (S 0 - 1) (by omega) (by assumption) (by omega) (by omega) _) (cwV 2 hts gX3_readQuestion_X3_readNumber rfl rfl rfl (by decide +kernel) ⟨Nat.le_of_ble_eq_true rfl, Nat.le_of_ble_eq_true rfl⟩) hK hP hD hS hA [0, 1] (by decide) rfl 0 rfl rfl rfl hl.1 rfl (Nat.le_of_ble_eq_true rfl) dX3_readQuestion_18 ⟨Nat.zero_le _, Nat.zero_le _⟩ (fun _ => rfl) (fun r18 u18 H locs hw18 hP hD hS => ?_)
  obtain ⟨hr18, -⟩ := hw18
  subst hr18
  have hP : va_P D vwCl [(tx, oTx sg tl (nmP T tl (po + 1) 0 (S 0 - 1)) lo), (sg, aC yC 100 T), (d, oDrv dc S (lN (kL (S) 0 40))), (dc, aI yI 48 g)] H := hP
  have hD : va_D A [(tx, oTx sg tl (nmP T tl (po + 1) 0 (S 0 - 1)) lo), (sg, aC yC 100 T), (d, oDrv dc S (lN (kL (S) 0 40))), (dc, aI yI 48 g)] := hD
  refine lv_istore_n (lv' := [(2, .int (iI (nmD T tl (po + 1) 0 (S 0 - 1)))), (0, .ref tx), (1, .ref d)]) hx hb dX3_readQuestion_21 rfl hl (by decide) rfl (fun ls hl => ?_)
  refine lv_iload_n hx hb dX3_readQuestion_22 rfl (lv_at hl 0 rfl) ?_
  refine lv_iconst (v := iI (-1)) hx hb dX3_readQuestion_23 (by decide +kernel) ?_
  refine iv_icmp_ne (a := nmD T tl (po + 1) 0 (S 0 - 1)) (b := -1) (tgt := 29) hx hb (by omega) (by omega) dX3_readQuestion_24 (by decide) (fun c24 => ?_) (fun c24 => ?_)
  · have w1 : wrongIn T tl (po + 1) 0 (S 0 - 1) = -1 := (by by_cases z : wrongIn T tl (po + 1) 0 (S 0 - 1) = -1; exact z; exact absurd (n1.mpr z) c24)
    obtain ⟨m1, m2, m3⟩ := n2 w1
    obtain ⟨k1, k2, k3, k4, k5, k6⟩ := nm_iff (T := T) (n := tl) (p := po + 3) (lo := numb T tl (po + 1)) (hi := S 0 - 1) (by omega) (by omega)
    have hre2 : nmD T tl (po + 1) 0 (S 0 - 1) = numb T tl (po + 1) := m1
    rw [hre2] at hl
    have hox : oTx sg tl (nmP T tl (po + 1) 0 (S 0 - 1)) lo = oTx sg tl (po + 3) lo := congrArg (fun z => oTx sg tl z lo) (by omega)
    rw [hox] at hP hD
    refine lv_aload_n hx hb dX3_readQuestion_29 rfl (lv_at hl 1 rfl) ?_
    refine lv_iload_n hx hb dX3_readQuestion_30 rfl (lv_at hl 0 rfl) ?_
    refine lv_aload_n hx hb dX3_readQuestion_31 rfl (lv_at hl 2 rfl) ?_
    refine va_get (D := D) (ci := 0) (v := .int (iI (S 0))) (C := RX0) (T := TX0) (N := 10) hx hb hts hinX0 hown hK hP 2 rfl rfl 0 (by decide) hf53 (fun _ h9 => h9) rfl dX3_readQuestion_32 ?_
    refine lv_iconst (v := iI 1) hx hb dX3_readQuestion_35 (by decide +kernel) ?_
    refine iv_sub hx hb dX3_readQuestion_36 ?_
    refine iv_rwV (As := [.int (iI (numb T tl (po + 1))), .int (iI (S 0 - 1))]) (rest := []) (C := RX3) (n := 2) ⟨hx, hb, hml, hown, hts⟩ (c_X3_readNumber l D yI yC yD tx sg T tl (po + 3) lo (numb T tl (po + 1)) (S 0 - 1) (by omega) (by assumption) (by omega) (by omega) _) (cwV 2 hts gX3_readQuestion_X3_readNumber rfl rfl rfl (by decide +kernel) ⟨Nat.le_of_ble_eq_true rfl, Nat.le_of_ble_eq_true rfl⟩) hK hP hD hS hA [0, 1] (by decide) rfl 0 rfl rfl rfl hl.1 rfl (Nat.le_of_ble_eq_true rfl) dX3_readQuestion_37 ⟨Nat.zero_le _, Nat.zero_le _⟩ (fun _ => rfl) (fun r37 u37 H locs hw37 hP hD hS => ?_)
    obtain ⟨hr37, -⟩ := hw37
    subst hr37
    have hP : va_P D vwCl [(tx, oTx sg tl (nmP T tl (po + 3) (numb T tl (po + 1)) (S 0 - 1)) lo), (sg, aC yC 100 T), (d, oDrv dc S (lN (kL (S) 0 40))), (dc, aI yI 48 g)] H := hP
    have hD : va_D A [(tx, oTx sg tl (nmP T tl (po + 3) (numb T tl (po + 1)) (S 0 - 1)) lo), (sg, aC yC 100 T), (d, oDrv dc S (lN (kL (S) 0 40))), (dc, aI yI 48 g)] := hD
    refine lv_istore_n (lv' := [(3, .int (iI (nmD T tl (po + 3) (numb T tl (po + 1)) (S 0 - 1)))), (2, .int (iI (numb T tl (po + 1)))), (0, .ref tx), (1, .ref d)]) hx hb dX3_readQuestion_40 rfl hl (by decide) rfl (fun ls hl => ?_)
    refine lv_iload_n hx hb dX3_readQuestion_41 rfl (lv_at hl 0 rfl) ?_
    refine lv_iconst (v := iI (-1)) hx hb dX3_readQuestion_42 (by decide +kernel) ?_
    refine iv_icmp_ne (a := nmD T tl (po + 3) (numb T tl (po + 1)) (S 0 - 1)) (b := -1) (tgt := 48) hx hb (by omega) (by omega) dX3_readQuestion_43 (by decide) (fun c43 => ?_) (fun c43 => ?_)
    · have w2 : wrongIn T tl (po + 3) (numb T tl (po + 1)) (S 0 - 1) = -1 := (by by_cases z : wrongIn T tl (po + 3) (numb T tl (po + 1)) (S 0 - 1) = -1; exact z; exact absurd (k1.mpr z) c43)
      obtain ⟨l1, l2, l3⟩ := k2 w2
      obtain ⟨y1, y2, y3, y4⟩ := q_yes (T := T) (n := tl) (p := po) (S := S) (l := lo) w1 w2
      have hre3 : nmD T tl (po + 3) (numb T tl (po + 1)) (S 0 - 1) = numb T tl (po + 3) := l1
      rw [hre3] at hl
      have hox : oTx sg tl (nmP T tl (po + 3) (numb T tl (po + 1)) (S 0 - 1)) lo = oTx sg tl (po + 5) lo := congrArg (fun z => oTx sg tl z lo) (by omega)
      rw [hox] at hP hD
      refine lv_aload_n hx hb dX3_readQuestion_48 rfl (lv_at hl 3 rfl) ?_
      refine lv_iload_n hx hb dX3_readQuestion_49 rfl (lv_at hl 1 rfl) ?_
      refine lv_iload_n hx hb dX3_readQuestion_50 rfl (lv_at hl 0 rfl) ?_
      refine iv_roV (As := [.int (iI (numb T tl (po + 1))), .int (iI (numb T tl (po + 3)))]) (rest := []) (C := RX0) (n := 2) ⟨hx, hb, hml, hown, hts⟩ (c_X0_isNarrow l D yI yC yD d dc S g (lN (kL (S) 0 40)) (numb T tl (po + 1)) (numb T tl (po + 3)) (by omega) (by omega)) (cwV 2 hts gX3_readQuestion_X0_isNarrow rfl rfl rfl (by decide +kernel) ⟨Nat.le_of_ble_eq_true rfl, Nat.le_of_ble_eq_true rfl⟩) hK hP [2, 3] rfl 2 rfl rfl rfl hl.1 rfl (Nat.le_of_ble_eq_true rfl) dX3_readQuestion_51 ⟨Nat.zero_le _, Nat.zero_le _⟩ ?_
      refine iv_ifb_eq (P := (numb T tl (po + 3)) - (numb T tl (po + 1)) + 1 < S 1) (tgt := 70) hx hb dX3_readQuestion_54 (by decide) (fun c54 => ?_) (fun c54 => ?_)
      · refine lv_aload_n hx hb dX3_readQuestion_70 rfl (lv_at hl 3 rfl) ?_
        refine lv_iload_n hx hb dX3_readQuestion_71 rfl (lv_at hl 1 rfl) ?_
        refine lv_iload_n hx hb dX3_readQuestion_72 rfl (lv_at hl 0 rfl) ?_
        refine iv_rwV (As := [.int (iI (numb T tl (po + 1))), .int (iI (numb T tl (po + 3)))]) (rest := []) (C := RX0) (n := 2) ⟨hx, hb, hml, hown, hts⟩ (c_X0_question l D yI yC yD d dc S g (numb T tl (po + 1)) (numb T tl (po + 3)) (by assumption) (by assumption) (by omega) _) (cwV 2 hts gX3_readQuestion_X0_question rfl rfl rfl (by decide +kernel) ⟨Nat.le_of_ble_eq_true rfl, Nat.le_of_ble_eq_true rfl⟩) hK hP hD hS hA [2, 3] (by decide) rfl 2 rfl rfl rfl hl.1 rfl (Nat.le_of_ble_eq_true rfl) dX3_readQuestion_73 ⟨Nat.zero_le _, Nat.zero_le _⟩ (fun _ => rfl) (fun r73 u73 H locs hw73 hP hD hS => ?_)
        obtain ⟨G973, hu73⟩ : ∃ z, z = u73 := ⟨_, rfl⟩
        subst hu73
        obtain ⟨hr73, hR2_73⟩ := hw73
        subst hr73
        have hP : va_P D vwCl [(tx, oTx sg tl (po + 5) lo), (sg, aC yC 100 T), (d, oDrv dc (askd S (numb T tl (po + 1)) (numb T tl (po + 3))) (lN (kL (askd S (numb T tl (po + 1)) (numb T tl (po + 3))) 0 40))), (dc, aI yI 48 G973)] H := hP
        have hD : va_D A [(tx, oTx sg tl (po + 5) lo), (sg, aC yC 100 T), (d, oDrv dc (askd S (numb T tl (po + 1)) (numb T tl (po + 3))) (lN (kL (askd S (numb T tl (po + 1)) (numb T tl (po + 3))) 0 40))), (dc, aI yI 48 G973)] := hD
        refine lv_pop hx hb dX3_readQuestion_76 rfl ?_
        refine lv_iconst (v := iI 1) hx hb dX3_readQuestion_77 (by decide +kernel) ?_
        have hq : wrQ T tl po (S 0) = -1 := y1
        have hP9 : va_P D vwCl [(tx, oTx sg tl (qP T tl po (S 0)) (qL T tl po S lo)), (sg, aC yC 100 T), (d, oDrv dc (qS T tl po S) (lN (kL (qS T tl po S) 0 40))), (dc, aI yI 48 G973)] _ := (hP.sub (ws' := [(tx, oTx sg tl (po + 5) lo), (sg, aC yC 100 T), (d, oDrv dc (askd S (numb T tl (po + 1)) (numb T tl (po + 3))) (lN (kL (askd S (numb T tl (po + 1)) (numb T tl (po + 3))) 0 40))), (dc, aI yI 48 G973)]) [0, 1, 2, 3] rfl).cv (by rw [y2, (y3 (by omega)).1, (y3 (by omega)).2])
        exact W.zret hx hb hr (by decide +kernel) (fun t ht hW => ⟨⟨iI 1, G973, rfl, ⟨congrArg iI (show 1 = bI (wrQ T tl po (S 0) = -1) by exact (bI_t hq).symm), (by rw [(y3 (by omega)).1]; exact hR2_73)⟩, by show va_P D vwCl _ t.heap; rw [ht]; exact hP9⟩, hS.F ht⟩) hS.2.2 dX3_readQuestion_78
      · refine lv_aload_n hx hb dX3_readQuestion_57 rfl (lv_at hl 2 rfl) ?_
        refine lv_dup hx hb dX3_readQuestion_58 rfl ?_
        refine va_get (D := D) (ci := 3) (v := .int (iI lo)) (C := RX3) (T := TX3) (N := 4) hx hb hts hinX3 hown hK hP 0 rfl rfl 3 (by decide) hf22 (fun _ h9 => h9) rfl dX3_readQuestion_59 ?_
        refine lv_iconst (v := iI 1) hx hb dX3_readQuestion_62 (by decide +kernel) ?_
        refine iv_add hx hb dX3_readQuestion_63 ?_
        refine va_put (D := D) (ci := 3) (v := .int (iI (lo + 1))) (ty := .int) (C := RX3) (T := TX3) (N := 4) hx hb hts hinX3 tyX3 tyX3_ok nmX3 hown hK hP hD hS 0 rfl rfl 3 (by decide) hf22 (fun _ h9 => h9) rfl (by decide +kernel) rfl rfl (Nat.le_of_ble_eq_true rfl) dX3_readQuestion_64 (fun H locs hP hD hS => ?_)
        have hP : va_P D vwCl [(tx, oTx sg tl (po + 5) (lo + 1)), (sg, aC yC 100 T), (d, oDrv dc S (lN (kL (S) 0 40))), (dc, aI yI 48 g)] H := hP
        have hD : va_D A [(tx, oTx sg tl (po + 5) (lo + 1)), (sg, aC yC 100 T), (d, oDrv dc S (lN (kL (S) 0 40))), (dc, aI yI 48 g)] := hD
        refine lv_goto (tgt := 77) hx hb dX3_readQuestion_67 (by decide) ?_
        refine lv_iconst (v := iI 1) hx hb dX3_readQuestion_77 (by decide +kernel) ?_
        have hq : wrQ T tl po (S 0) = -1 := y1
        have hP9 : va_P D vwCl [(tx, oTx sg tl (qP T tl po (S 0)) (qL T tl po S lo)), (sg, aC yC 100 T), (d, oDrv dc (qS T tl po S) (lN (kL (qS T tl po S) 0 40))), (dc, aI yI 48 g)] _ := (hP.sub (ws' := [(tx, oTx sg tl (po + 5) (lo + 1)), (sg, aC yC 100 T), (d, oDrv dc S (lN (kL (S) 0 40))), (dc, aI yI 48 g)]) [0, 1, 2, 3] rfl).cv (by rw [y2, (y4 (by omega)).1, (y4 (by omega)).2])
        exact W.zret hx hb hr (by decide +kernel) (fun t ht hW => ⟨⟨iI 1, g, rfl, ⟨congrArg iI (show 1 = bI (wrQ T tl po (S 0) = -1) by exact (bI_t hq).symm), (by rw [(y4 (by omega)).1]; exact hR)⟩, by show va_P D vwCl _ t.heap; rw [ht]; exact hP9⟩, hS.F ht⟩) hS.2.2 dX3_readQuestion_78
    · refine lv_iconst (v := iI 0) hx hb dX3_readQuestion_46 (by decide +kernel) ?_
      have z1 := q_no2 (T := T) (n := tl) (p := po) (S := S) (l := lo) w1 (k1.mp (by omega)) (by omega)
      have hq : ¬ (wrQ T tl po (S 0) = -1) := z1.1
      have hP9 : va_P D vwCl [(tx, oTx sg tl (qP T tl po (S 0)) (qL T tl po S lo)), (sg, aC yC 100 T), (d, oDrv dc (qS T tl po S) (lN (kL (qS T tl po S) 0 40))), (dc, aI yI 48 g)] _ := (hP.sub (ws' := [(tx, oTx sg tl (nmP T tl (po + 3) (numb T tl (po + 1)) (S 0 - 1)) lo), (sg, aC yC 100 T), (d, oDrv dc S (lN (kL (S) 0 40))), (dc, aI yI 48 g)]) [0, 1, 2, 3] rfl).cv (by rw [z1.2.1, z1.2.2.1, z1.2.2.2])
      exact W.zret hx hb hr (by decide +kernel) (fun t ht hW => ⟨⟨iI 0, g, rfl, ⟨congrArg iI (show 0 = bI (wrQ T tl po (S 0) = -1) by exact (bI_f hq).symm), (by rw [z1.2.2.1]; exact hR)⟩, by show va_P D vwCl _ t.heap; rw [ht]; exact hP9⟩, hS.F ht⟩) hS.2.2 dX3_readQuestion_47
  · refine lv_iconst (v := iI 0) hx hb dX3_readQuestion_27 (by decide +kernel) ?_
    have z1 := q_no1 (T := T) (n := tl) (p := po) (S := S) (l := lo) (n1.mp (by omega)) (by omega)
    have hq : ¬ (wrQ T tl po (S 0) = -1) := z1.2.1
    have hP9 : va_P D vwCl [(tx, oTx sg tl (qP T tl po (S 0)) (qL T tl po S lo)), (sg, aC yC 100 T), (d, oDrv dc (qS T tl po S) (lN (kL (qS T tl po S) 0 40))), (dc, aI yI 48 g)] _ := (hP.sub (ws' := [(tx, oTx sg tl (nmP T tl (po + 1) 0 (S 0 - 1)) lo), (sg, aC yC 100 T), (d, oDrv dc S (lN (kL (S) 0 40))), (dc, aI yI 48 g)]) [0, 1, 2, 3] rfl).cv (by rw [z1.2.2.1, z1.2.2.2.1, z1.2.2.2.2])
    exact W.zret hx hb hr (by decide +kernel) (fun t ht hW => ⟨⟨iI 0, g, rfl, ⟨congrArg iI (show 0 = bI (wrQ T tl po (S 0) = -1) by exact (bI_f hq).symm), (by rw [z1.2.2.2.1]; exact hR)⟩, by show va_P D vwCl _ t.heap; rw [ht]; exact hP9⟩, hS.F ht⟩) hS.2.2 dX3_readQuestion_28
