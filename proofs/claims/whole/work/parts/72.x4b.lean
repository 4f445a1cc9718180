set_option maxHeartbeats 4000000 in
set_option maxRecDepth 100000 in
theorem c_X4_append (l : Launch) (hla : l.stackTraces = false) (D : va_G) (yI yC yD : ClassId) (x : Nat) (tx : Nat) (nw : Nat) (tr : Nat) (kn : Nat) (me : Nat) (sl : Nat) (sg : Nat) (T : Int → Int) (tl : Int) (po : Int) (lo : Int) (q : Int) (htl : 0 ≤ tl ∧ tl ≤ 100) (hq9 : inR q) (sz : Nat) : vx_Met l yX4_append wsX4_append ({ frames := 6, cells := 8, slots := 150, locals := 82 }) (vxP [.ref x, .int (iI q)] D (tyz yI yC yD) [(x, oRD tx nw tr kn me sl), (tx, oTx sg tl po lo), (sg, aC yC 100 T)] sz) (va_Qi (fun (r : Int32) (_ : Unit) => r = iI (tl + 1) ∧ whyAp tl q = 0) (fun (_ : Unit) (t : State) => va_P D vwCl [(x, oRD tx nw tr kn me sl), (tx, oTx sg (tl + 1) po lo), (sg, aC yC 100 (up T tl q))] t.heap) (va_A [(x, oRD tx nw tr kn me sl), (tx, oTx sg tl po lo), (sg, aC yC 100 T)] sz)) (vxX D (fun E => (E = eA ∧ whyAp tl q = 1) ∨ (E = eS ∧ whyAp tl q = 2)) (fun (_ : Unit) => [(x, oRD tx nw tr kn me sl), (tx, oTx sg tl po lo), (sg, aC yC 100 T)]) (va_A [(x, oRD tx nw tr kn me sl), (tx, oTx sg tl po lo), (sg, aC yC 100 T)] sz)) 8 150 (va_A [(x, oRD tx nw tr kn me sl), (tx, oTx sg tl po lo), (sg, aC yC 100 T)] sz) := by
  refine vx_ofW (cc := cX4_append) (maxL := 2) (ret := (some .int)) (by decide) rfl ?_
  intro p e s m args below meth c s₁ B hml hno hv
  obtain ⟨rfl, hsz, hP, hK, hD0, hB⟩ := hv
  have hx := B.exec
  have hb := B.bytes
  have hr := B.returns
  have hts := atoms_spec (ws := wsX4_append) B.pre
  have hown : s.vm.findClass RX4 = some m.cls := findClass_of_methodNamed B.named
  have hlocks := B.notSynchronized
  subst hsz
  have hD := hD0.self (sz := s.heap.size)
  generalize hAe : va_A [(x, oRD tx nw tr kn me sl), (tx, oTx sg tl po lo), (sg, aC yC 100 T)] s.heap.size = A at hD hB ⊢
  have hA : ∀ q : Nat, s.heap.size ≤ q → A q := fun q h => by rw [← hAe]; exact Or.inr h
  have hS : va_S A s.heap s.heap [] := va_S.rf
  have hP : va_P D vwCl [(x, oRD tx nw tr kn me sl), (tx, oTx sg tl po lo), (sg, aC yC 100 T)] s.heap := hP
  have hinX4 : ∀ w ∈ wsX40, w ∈ wsX4_append := by decide +kernel
  have hf10 : (Cond.fieldLink RX4 10 "RiddleDrive" "text" "LRiddleDrive$Text;").before _ s = true := hts _ (by decide +kernel)
  have hl := lv_entry ([.ref x, .int (iI q)]) (n := 2) (Nat.le_of_ble_eq_true rfl)
  rw [lg_entry_eq]
  generalize (lg_sl ([.ref x, .int (iI q)]) ++ List.replicate (2 - (lg_sl ([.ref x, .int (iI q)])).length) Slot.unset).toArray = ls at hl ⊢
  have hl : lv_has ls 2 [(0, .ref x), (1, .int (iI q))] := hl
  refine lv_iload_n hx hb dX4_append_0 rfl (lv_at hl 1 rfl) ?_
  refine iv_if_lt (a := q) (tgt := 11) hx hb (by omega) dX4_append_1 (by decide) (fun c1 => ?_) (fun c1 => ?_)
  · exact iv_thrG (ic := 52) (ik := 48) (is := 50) (cls := eA) (text := "not a character") hx hb hla hown bfA xfA xgA hB.1.1 hts (fun w h => List.mem_cons_of_mem _ (List.mem_append_left _ (List.mem_append_right _ h))) (by decide +kernel) (by decide +kernel) hB hS (()) (by exact hP) (Or.inl ⟨rfl, if_pos (by omega)⟩) (hl.1.trans hml.symm) hlocks hno (by decide +kernel) ⟨Nat.le_of_ble_eq_true rfl, Nat.le_of_ble_eq_true rfl, Nat.le_of_ble_eq_true rfl, Nat.le_of_ble_eq_true rfl⟩ (Nat.le_of_ble_eq_true rfl) (Nat.le_of_ble_eq_true rfl) dX4_append_11 dX4_append_14 (Or.inl ⟨dX4_append_15, dX4_append_17, dX4_append_20⟩)
  · refine lv_iload_n hx hb dX4_append_4 rfl (lv_at hl 1 rfl) ?_
    refine lv_sipush (v := iI 255) hx hb dX4_append_5 (by decide +kernel) ?_
    refine iv_icmp_le (a := q) (b := 255) (tgt := 21) hx hb (by omega) (by omega) dX4_append_8 (by decide) (fun c8 => ?_) (fun c8 => ?_)
    · refine lv_aload_n hx hb dX4_append_21 rfl (lv_at hl 0 rfl) ?_
      refine va_get (D := D) (ci := 4) (v := .ref tx) (C := RX4) (T := TX4) (N := 6) hx hb hts hinX4 hown hK hP 0 rfl rfl 0 (by decide) hf10 (fun _ h9 => h9) rfl dX4_append_22 ?_
      refine iv_roV (As := []) (rest := []) (C := RX3) (n := 0) ⟨hx, hb, hml, hown, hts⟩ (c_X3_isFull l D yI yC yD tx sg T tl po lo (by omega)) (cwV 0 hts gX4_append_X3_isFull rfl rfl rfl (by decide +kernel) ⟨Nat.le_of_ble_eq_true rfl, Nat.le_of_ble_eq_true rfl⟩) hK hP [1, 2] rfl 1 rfl rfl rfl hl.1 rfl (Nat.le_of_ble_eq_true rfl) dX4_append_25 ⟨Nat.le_of_ble_eq_true rfl, Nat.le_of_ble_eq_true rfl⟩ ?_
      refine iv_ifb_eq (P := 100 ≤ tl) (tgt := 41) hx hb dX4_append_28 (by decide) (fun c28 => ?_) (fun c28 => ?_)
      · refine lv_aload_n hx hb dX4_append_41 rfl (lv_at hl 0 rfl) ?_
        refine va_get (D := D) (ci := 4) (v := .ref tx) (C := RX4) (T := TX4) (N := 6) hx hb hts hinX4 hown hK hP 0 rfl rfl 0 (by decide) hf10 (fun _ h9 => h9) rfl dX4_append_42 ?_
        refine lv_iload_n hx hb dX4_append_45 rfl (lv_at hl 1 rfl) ?_
        refine lv_i2c (v := iI q) hx hb dX4_append_46 (i2c_c (by omega)) ?_
        refine iv_rwV (As := [.int (iI q)]) (rest := []) (C := RX3) (n := 1) ⟨hx, hb, hml, hown, hts⟩ (c_X3_add l D yI yC yD tx sg T tl po lo q (by omega) (by omega) _) (cwV 1 hts gX4_append_X3_add rfl rfl rfl (by decide +kernel) ⟨Nat.le_of_ble_eq_true rfl, Nat.le_of_ble_eq_true rfl⟩) hK hP hD hS hA [1, 2] (by decide) rfl 1 rfl rfl rfl hl.1 rfl (Nat.le_of_ble_eq_true rfl) dX4_append_47 ⟨Nat.le_of_ble_eq_true rfl, Nat.le_of_ble_eq_true rfl⟩ (fun _ => rfl) (fun r47 u47 H locs hw47 hP hD hS => ?_)
        obtain ⟨hr47, -⟩ := hw47
        subst hr47
        have hP : va_P D vwCl [(x, oRD tx nw tr kn me sl), (tx, oTx sg (tl + 1) po lo), (sg, aC yC 100 (up T tl q))] H := hP
        have hD : va_D A [(x, oRD tx nw tr kn me sl), (tx, oTx sg (tl + 1) po lo), (sg, aC yC 100 (up T tl q))] := hD
        have hP9 : va_P D vwCl [(x, oRD tx nw tr kn me sl), (tx, oTx sg (tl + 1) po lo), (sg, aC yC 100 (up T tl q))] _ := hP.sub [0, 1, 2] rfl
        refine W.widen (k := 8) (n := 150) (Nat.le_of_ble_eq_true rfl) (Nat.le_of_ble_eq_true rfl) ?_
        refine vx_ret ?_
        exact W.iret hx hb hr (fun t ht hW => ⟨⟨iI (tl + 1), (), rfl, ⟨rfl, (by exact (if_neg (by omega)).trans (if_neg (by omega)))⟩, by show va_P D vwCl _ t.heap; rw [ht]; exact hP9⟩, hS.F ht⟩) hS.2.2 dX4_append_50
      · exact iv_thrG (ic := 63) (ik := 59) (is := 61) (cls := eS) (text := "the text is full") hx hb hla hown bfS xfS xgS hB.1.2.1 hts (fun w h => List.mem_cons_of_mem _ (List.mem_append_right _ h)) (by decide +kernel) (by decide +kernel) hB hS (()) (by exact hP) (Or.inr ⟨rfl, (if_neg (by omega)).trans (if_pos (by omega))⟩) (hl.1.trans hml.symm) hlocks hno (by decide +kernel) ⟨Nat.le_of_ble_eq_true rfl, Nat.le_of_ble_eq_true rfl, Nat.le_of_ble_eq_true rfl, Nat.le_of_ble_eq_true rfl⟩ (Nat.le_of_ble_eq_true rfl) (Nat.le_of_ble_eq_true rfl) dX4_append_31 dX4_append_34 (Or.inl ⟨dX4_append_35, dX4_append_37, dX4_append_40⟩)
    · exact iv_thrG (ic := 52) (ik := 48) (is := 50) (cls := eA) (text := "not a character") hx hb hla hown bfA xfA xgA hB.1.1 hts (fun w h => List.mem_cons_of_mem _ (List.mem_append_left _ (List.mem_append_right _ h))) (by decide +kernel) (by decide +kernel) hB hS (()) (by exact hP) (Or.inl ⟨rfl, if_pos (by omega)⟩) (hl.1.trans hml.symm) hlocks hno (by decide +kernel) ⟨Nat.le_of_ble_eq_true rfl, Nat.le_of_ble_eq_true rfl, Nat.le_of_ble_eq_true rfl, Nat.le_of_ble_eq_true rfl⟩ (Nat.le_of_ble_eq_true rfl) (Nat.le_of_ble_eq_true rfl) dX4_append_11 dX4_append_14 (Or.inl ⟨dX4_append_15, dX4_append_17, dX4_append_20⟩)
set_option maxHeartbeats 4000000 in
set_option maxRecDepth 100000 in
theorem c_X4_clearText (l : Launch) (D : va_G) (yI yC yD : ClassId) (x : Nat) (tx : Nat) (nw : Nat) (tr : Nat) (kn : Nat) (me : Nat) (sl : Nat) (sg : Nat) (T : Int → Int) (tl : Int) (po : Int) (lo : Int) (htl : 0 ≤ tl ∧ tl ≤ 100) (sz : Nat) : Met l yX4_clearText wsX4_clearText ({ frames := 1, cells := 0, slots := 0, locals := 21 }) (rwP [.ref x] D (tyz yI yC yD) [(x, oRD tx nw tr kn me sl), (tx, oTx sg tl po lo), (sg, aC yC 100 T)] sz) (va_Qi (fun (r : Int32) (_ : Unit) => r = iI tl ∧ True) (fun (_ : Unit) (t : State) => va_P D vwCl [(x, oRD tx nw tr kn me sl), (tx, oTx sg 0 po lo), (sg, aC yC 100 T)] t.heap) (va_A [(x, oRD tx nw tr kn me sl), (tx, oTx sg tl po lo), (sg, aC yC 100 T)] sz)) 0 0 (va_A [(x, oRD tx nw tr kn me sl), (tx, oTx sg tl po lo), (sg, aC yC 100 T)] sz) := by
  refine Met.ofW (cc := cX4_clearText) (maxL := 1) (ret := (some .int)) (by decide) rfl ?_
  intro p e s m args below meth c s₁ B hml hv
  obtain ⟨rfl, hsz, hP, hK, hD0⟩ := hv
  have hx := B.exec
  have hb := B.bytes
  have hr := B.returns
  have hts := atoms_spec (ws := wsX4_clearText) B.pre
  have hown : s.vm.findClass RX4 = some m.cls := findClass_of_methodNamed B.named
  have hlocks := B.notSynchronized
  subst hsz
  have hD := hD0.self (sz := s.heap.size)
  generalize hAe : va_A [(x, oRD tx nw tr kn me sl), (tx, oTx sg tl po lo), (sg, aC yC 100 T)] s.heap.size = A at hD ⊢
  have hA : ∀ q : Nat, s.heap.size ≤ q → A q := fun q h => by rw [← hAe]; exact Or.inr h
  have hS : va_S A s.heap s.heap [] := va_S.rf
  have hP : va_P D vwCl [(x, oRD tx nw tr kn me sl), (tx, oTx sg tl po lo), (sg, aC yC 100 T)] s.heap := hP
  have hinX4 : ∀ w ∈ wsX40, w ∈ wsX4_clearText := by decide +kernel
  have hf10 : (Cond.fieldLink RX4 10 "RiddleDrive" "text" "LRiddleDrive$Text;").before _ s = true := hts _ (by decide +kernel)
  have hl := lv_entry ([.ref x]) (n := 1) (Nat.le_of_ble_eq_true rfl)
  rw [lg_entry_eq]
  generalize (lg_sl ([.ref x]) ++ List.replicate (1 - (lg_sl ([.ref x])).length) Slot.unset).toArray = ls at hl ⊢
  have hl : lv_has ls 1 [(0, .ref x)] := hl
  refine lv_aload_n hx hb dX4_clearText_0 rfl (lv_at hl 0 rfl) ?_
  refine va_get (D := D) (ci := 4) (v := .ref tx) (C := RX4) (T := TX4) (N := 6) hx hb hts hinX4 hown hK hP 0 rfl rfl 0 (by decide) hf10 (fun _ h9 => h9) rfl dX4_clearText_1 ?_
  refine iv_rwV (As := []) (rest := []) (C := RX3) (n := 0) ⟨hx, hb, hml, hown, hts⟩ (c_X3_empty l D yI yC yD tx sg T tl po lo (by omega) _) (cwV 0 hts gX4_clearText_X3_empty rfl rfl rfl (by decide +kernel) ⟨Nat.le_of_ble_eq_true rfl, Nat.le_of_ble_eq_true rfl⟩) hK hP hD hS hA [1, 2] (by decide) rfl 1 rfl rfl rfl hl.1 rfl (Nat.le_of_ble_eq_true rfl) dX4_clearText_4 ⟨Nat.zero_le _, Nat.zero_le _⟩ (fun _ => rfl) (fun r4 u4 H locs hw4 hP hD hS => ?_)
  obtain ⟨hr4, -⟩ := hw4
  subst hr4
  have hP : va_P D vwCl [(x, oRD tx nw tr kn me sl), (tx, oTx sg 0 po lo), (sg, aC yC 100 T)] H := hP
  have hD : va_D A [(x, oRD tx nw tr kn me sl), (tx, oTx sg 0 po lo), (sg, aC yC 100 T)] := hD
  have hP9 : va_P D vwCl [(x, oRD tx nw tr kn me sl), (tx, oTx sg 0 po lo), (sg, aC yC 100 T)] _ := hP.sub [0, 1, 2] rfl
  exact W.iret hx hb hr (fun t ht hW => ⟨⟨iI tl, (), rfl, ⟨rfl, trivial⟩, by show va_P D vwCl _ t.heap; rw [ht]; exact hP9⟩, hS.F ht⟩) hS.2.2 dX4_clearText_7
set_option maxHeartbeats 4000000 in
set_option maxRecDepth 100000 in
theorem c_X4_errorPosition (l : Launch) (D : va_G) (yI yC yD : ClassId) (x : Nat) (tx : Nat) (nw : Nat) (tr : Nat) (kn : Nat) (me : Nat) (sl : Nat) (sg : Nat) (T : Int → Int) (tl : Int) (po : Int) (lo : Int) (tc : Nat) (S2 : Int → Int) (g2 : Int → Int) (k2 : Int64) (htl : 0 ≤ tl ∧ tl ≤ 100) (hrt : ∀ z, 0 ≤ z → z < tl → 0 ≤ T z ∧ T z < 65536) (sz : Nat) : Met l yX4_errorPosition wsX4_errorPosition ({ frames := 7, cells := 0, slots := 0, locals := 147 }) (rwP [.ref x] D (tyz yI yC yD) [(x, oRD tx nw tr kn me sl), (tx, oTx sg tl po lo), (sg, aC yC 100 T), (tr, oDrv tc S2 k2), (tc, aI yI 48 g2)] sz) (va_Qi (fun (r : Int32) (u : (Int → Int) × (Int → Int) × Int64 × Int × Int) => match u with | (S9, G9, k9, p9, l9) => r = iI (findE T tl) ∧ True) (fun (u : (Int → Int) × (Int → Int) × Int64 × Int × Int) (t : State) => match u with | (S9, G9, k9, p9, l9) => va_P D vwCl [(x, oRD tx nw tr kn me sl), (tx, oTx sg tl p9 l9), (sg, aC yC 100 T), (tr, oDrv tc S9 k9), (tc, aI yI 48 G9)] t.heap) (va_A [(x, oRD tx nw tr kn me sl), (tx, oTx sg tl po lo), (sg, aC yC 100 T), (tr, oDrv tc S2 k2), (tc, aI yI 48 g2)] sz)) 0 0 (va_A [(x, oRD tx nw tr kn me sl), (tx, oTx sg tl po lo), (sg, aC yC 100 T), (tr, oDrv tc S2 k2), (tc, aI yI 48 g2)] sz) := by
  refine Met.ofW (cc := cX4_errorPosition) (maxL := 1) (ret := (some .int)) (by decide) rfl ?_
  intro p e s m args below meth c s₁ B hml hv
  obtain ⟨rfl, hsz, hP, hK, hD0⟩ := hv
  have hx := B.exec
  have hb := B.bytes
  have hr := B.returns
  have hts := atoms_spec (ws := wsX4_errorPosition) B.pre
  have hown : s.vm.findClass RX4 = some m.cls := findClass_of_methodNamed B.named
  have hlocks := B.notSynchronized
  subst hsz
  have hD := hD0.self (sz := s.heap.size)
  generalize hAe : va_A [(x, oRD tx nw tr kn me sl), (tx, oTx sg tl po lo), (sg, aC yC 100 T), (tr, oDrv tc S2 k2), (tc, aI yI 48 g2)] s.heap.size = A at hD ⊢
  have hA : ∀ q : Nat, s.heap.size ≤ q → A q := fun q h => by rw [← hAe]; exact Or.inr h
  have hS : va_S A s.heap s.heap [] := va_S.rf
  have hP : va_P D vwCl [(x, oRD tx nw tr kn me sl), (tx, oTx sg tl po lo), (sg, aC yC 100 T), (tr, oDrv tc S2 k2), (tc, aI yI 48 g2)] s.heap := hP
  have hinX4 : ∀ w ∈ wsX40, w ∈ wsX4_errorPosition := by decide +kernel
  have hf10 : (Cond.fieldLink RX4 10 "RiddleDrive" "text" "LRiddleDrive$Text;").before _ s = true := hts _ (by decide +kernel)
  have hf23 : (Cond.fieldLink RX4 23 "RiddleDrive" "trial" "LRiddleDrive$Drive;").before _ s = true := hts _ (by decide +kernel)
  have hl := lv_entry ([.ref x]) (n := 1) (Nat.le_of_ble_eq_true rfl)
  rw [lg_entry_eq]
  generalize (lg_sl ([.ref x]) ++ List.replicate (1 - (lg_sl ([.ref x])).length) Slot.unset).toArray = ls at hl ⊢
  have hl : lv_has ls 1 [(0, .ref x)] := hl
  refine lv_aload_n hx hb dX4_errorPosition_0 rfl (lv_at hl 0 rfl) ?_
  refine va_get (D := D) (ci := 4) (v := .ref tx) (C := RX4) (T := TX4) (N := 6) hx hb hts hinX4 hown hK hP 0 rfl rfl 0 (by decide) hf10 (fun _ h9 => h9) rfl dX4_errorPosition_1 ?_
  refine lv_aload_n hx hb dX4_errorPosition_4 rfl (lv_at hl 0 rfl) ?_
  refine va_get (D := D) (ci := 4) (v := .ref tr) (C := RX4) (T := TX4) (N := 6) hx hb hts hinX4 hown hK hP 0 rfl rfl 2 (by decide) hf23 (fun _ h9 => h9) rfl dX4_errorPosition_5 ?_
  refine iv_rwV (As := [.ref tr]) (rest := []) (C := RX3) (n := 1) ⟨hx, hb, hml, hown, hts⟩ (c_X3_readInto l D yI yC yD tx sg T tl po lo tr tc S2 g2 k2 (by omega) (by assumption) _) (cwV 1 hts gX4_errorPosition_X3_readInto rfl rfl rfl (by decide +kernel) ⟨Nat.le_of_ble_eq_true rfl, Nat.le_of_ble_eq_true rfl⟩) hK hP hD hS hA [1, 2, 3, 4] (by decide) rfl 1 rfl rfl rfl hl.1 rfl (Nat.le_of_ble_eq_true rfl) dX4_errorPosition_8 ⟨Nat.zero_le _, Nat.zero_le _⟩ (fun _ => rfl) (fun r8 u8 H locs hw8 hP hD hS => ?_)
  obtain ⟨S9, G9, k9, p9, l9⟩ := u8
  obtain ⟨hr8, hf9_8, hg9_8⟩ := hw8
  subst hr8
  have hP : va_P D vwCl [(x, oRD tx nw tr kn me sl), (tx, oTx sg tl p9 l9), (sg, aC yC 100 T), (tr, oDrv tc S9 k9), (tc, aI yI 48 G9)] H := hP
  have hD : va_D A [(x, oRD tx nw tr kn me sl), (tx, oTx sg tl p9 l9), (sg, aC yC 100 T), (tr, oDrv tc S9 k9), (tc, aI yI 48 G9)] := hD
  refine iv_ifb_eq (P := findE T tl = -1) (tgt := 18) hx hb dX4_errorPosition_11 (by decide) (fun c11 => ?_) (fun c11 => ?_)
  · refine lv_aload_n hx hb dX4_errorPosition_18 rfl (lv_at hl 0 rfl) ?_
    refine va_get (D := D) (ci := 4) (v := .ref tx) (C := RX4) (T := TX4) (N := 6) hx hb hts hinX4 hown hK hP 0 rfl rfl 0 (by decide) hf10 (fun _ h9 => h9) rfl dX4_errorPosition_19 ?_
    refine iv_roV (As := []) (rest := []) (C := RX3) (n := 0) ⟨hx, hb, hml, hown, hts⟩ (c_X3_position l D yI yC yD tx sg T tl p9 l9 ) (cwV 0 hts gX4_errorPosition_X3_position rfl rfl rfl (by decide +kernel) ⟨Nat.le_of_ble_eq_true rfl, Nat.le_of_ble_eq_true rfl⟩) hK hP [1, 2] rfl 1 rfl rfl rfl hl.1 rfl (Nat.le_of_ble_eq_true rfl) dX4_errorPosition_22 ⟨Nat.zero_le _, Nat.zero_le _⟩ ?_
    have hP9 : va_P D vwCl [(x, oRD tx nw tr kn me sl), (tx, oTx sg tl p9 l9), (sg, aC yC 100 T), (tr, oDrv tc S9 k9), (tc, aI yI 48 G9)] _ := hP.sub [0, 1, 2, 3, 4] rfl
    exact W.iret hx hb hr (fun t ht hW => ⟨⟨iI p9, (S9, G9, k9, p9, l9), rfl, ⟨congrArg iI (show p9 = findE T tl by exact hg9_8 c11), trivial⟩, by show va_P D vwCl _ t.heap; rw [ht]; exact hP9⟩, hS.F ht⟩) hS.2.2 dX4_errorPosition_25
  · refine lv_iconst (v := iI (-1)) hx hb dX4_errorPosition_14 (by decide +kernel) ?_
    refine lv_goto (tgt := 25) hx hb dX4_errorPosition_15 (by decide) ?_
    have hP9 : va_P D vwCl [(x, oRD tx nw tr kn me sl), (tx, oTx sg tl p9 l9), (sg, aC yC 100 T), (tr, oDrv tc S9 k9), (tc, aI yI 48 G9)] _ := hP.sub [0, 1, 2, 3, 4] rfl
    exact W.iret hx hb hr (fun t ht hW => ⟨⟨iI (-1), (S9, G9, k9, p9, l9), rfl, ⟨congrArg iI (show -1 = findE T tl by exact c11.symm), trivial⟩, by show va_P D vwCl _ t.heap; rw [ht]; exact hP9⟩, hS.F ht⟩) hS.2.2 dX4_errorPosition_25
set_option maxHeartbeats 4000000 in
set_option maxRecDepth 100000 in
theorem c_X4_load (l : Launch) (hla : l.stackTraces = false) (D : va_G) (yI yC yD : ClassId) (x : Nat) (tx : Nat) (nw : Nat) (tr : Nat) (kn : Nat) (me : Nat) (sl : Nat) (sg : Nat) (T : Int → Int) (tl : Int) (po : Int) (lo : Int) (nc : Nat) (S : Int → Int) (g : Int → Int) (tc : Nat) (S2 : Int → Int) (g2 : Int → Int) (k2 : Int64) (rg : Nat) (f : Nat → Option Nat) (nx : Int) (ct : Int) (fs : Nat → Option Nat) (htl : 0 ≤ tl ∧ tl ≤ 100) (hrt : ∀ z, 0 ≤ z → z < tl → 0 ≤ T z ∧ T z < 65536) (sz : Nat) : vx_Met l yX4_load wsX4_load ({ frames := 7, cells := 8, slots := 150, locals := 147 }) (vxP [.ref x] D (tyz yI yC yD) [(x, oRD tx nw tr kn me sl), (tx, oTx sg tl po lo), (sg, aC yC 100 T), (nw, oDrv nc S (lN (kL (S) 0 40))), (nc, aI yI 48 g), (tr, oDrv tc S2 k2), (tc, aI yI 48 g2), (me, oMem rg nx ct), (rg, aD yD 14 f), (sl, aD yD 2 fs)] sz) (va_Qi (fun (r : Int32) (u : (Int → Int) × (Int → Int) × Int64 × Int × Int × (Nat → Option Nat)) => match u with | (S9, G9, k9, p9, l9, fs9) => r = iI ((ldAll T tl).2) ∧ findE T tl = -1 ∧ (S9 = (ldAll T tl).1 ∧ Rc S9 G9 ∧ Inv S9) ∧ ∀ j : Nat, j < 2 → fs9 j = none) (fun (u : (Int → Int) × (Int → Int) × Int64 × Int × Int × (Nat → Option Nat)) (t : State) => match u with | (S9, G9, k9, p9, l9, fs9) => va_P D vwCl [(x, oRD tx nw tr kn me sl), (tx, oTx sg tl p9 l9), (sg, aC yC 100 T), (nw, oDrv nc S9 (lN (kL (S9) 0 40))), (nc, aI yI 48 G9), (tr, oDrv tc S9 k9), (tc, aI yI 48 G9), (me, oMem rg nx 0), (rg, aD yD 14 f), (sl, aD yD 2 fs9)] t.heap) (va_A [(x, oRD tx nw tr kn me sl), (tx, oTx sg tl po lo), (sg, aC yC 100 T), (nw, oDrv nc S (lN (kL (S) 0 40))), (nc, aI yI 48 g), (tr, oDrv tc S2 k2), (tc, aI yI 48 g2), (me, oMem rg nx ct), (rg, aD yD 14 f), (sl, aD yD 2 fs)] sz)) (vxX D (fun E => E = eS ∧ findE T tl ≠ -1) (fun (u : (Int → Int) × (Int → Int) × Int64 × Int × Int) => match u with | (S9, G9, k9, p9, l9) => [(x, oRD tx nw tr kn me sl), (tx, oTx sg tl p9 l9), (sg, aC yC 100 T), (nw, oDrv nc S (lN (kL (S) 0 40))), (nc, aI yI 48 g), (tr, oDrv tc S9 k9), (tc, aI yI 48 G9), (me, oMem rg nx ct), (rg, aD yD 14 f), (sl, aD yD 2 fs)]) (va_A [(x, oRD tx nw tr kn me sl), (tx, oTx sg tl po lo), (sg, aC yC 100 T), (nw, oDrv nc S (lN (kL (S) 0 40))), (nc, aI yI 48 g), (tr, oDrv tc S2 k2), (tc, aI yI 48 g2), (me, oMem rg nx ct), (rg, aD yD 14 f), (sl, aD yD 2 fs)] sz)) 8 150 (va_A [(x, oRD tx nw tr kn me sl), (tx, oTx sg tl po lo), (sg, aC yC 100 T), (nw, oDrv nc S (lN (kL (S) 0 40))), (nc, aI yI 48 g), (tr, oDrv tc S2 k2), (tc, aI yI 48 g2), (me, oMem rg nx ct), (rg, aD yD 14 f), (sl, aD yD 2 fs)] sz) := by
  refine vx_ofW (cc := cX4_load) (maxL := 2) (ret := (some .int)) (by decide) rfl ?_
  intro p e s m args below meth c s₁ B hml hno hv
  obtain ⟨rfl, hsz, hP, hK, hD0, hB⟩ := hv
  have hx := B.exec
  have hb := B.bytes
  have hr := B.returns
  have hts := atoms_spec (ws := wsX4_load) B.pre
  have hown : s.vm.findClass RX4 = some m.cls := findClass_of_methodNamed B.named
  have hlocks := B.notSynchronized
  subst hsz
  have hD := hD0.self (sz := s.heap.size)
  generalize hAe : va_A [(x, oRD tx nw tr kn me sl), (tx, oTx sg tl po lo), (sg, aC yC 100 T), (nw, oDrv nc S (lN (kL (S) 0 40))), (nc, aI yI 48 g), (tr, oDrv tc S2 k2), (tc, aI yI 48 g2), (me, oMem rg nx ct), (rg, aD yD 14 f), (sl, aD yD 2 fs)] s.heap.size = A at hD hB ⊢
  have hA : ∀ q : Nat, s.heap.size ≤ q → A q := fun q h => by rw [← hAe]; exact Or.inr h
  have hS : va_S A s.heap s.heap [] := va_S.rf
  have hP : va_P D vwCl [(x, oRD tx nw tr kn me sl), (tx, oTx sg tl po lo), (sg, aC yC 100 T), (nw, oDrv nc S (lN (kL (S) 0 40))), (nc, aI yI 48 g), (tr, oDrv tc S2 k2), (tc, aI yI 48 g2), (me, oMem rg nx ct), (rg, aD yD 14 f), (sl, aD yD 2 fs)] s.heap := hP
  have hinX4 : ∀ w ∈ wsX40, w ∈ wsX4_load := by decide +kernel
  have hf10 : (Cond.fieldLink RX4 10 "RiddleDrive" "text" "LRiddleDrive$Text;").before _ s = true := hts _ (by decide +kernel)
  have hf19 : (Cond.fieldLink RX4 19 "RiddleDrive" "now" "LRiddleDrive$Drive;").before _ s = true := hts _ (by decide +kernel)
  have hf23 : (Cond.fieldLink RX4 23 "RiddleDrive" "trial" "LRiddleDrive$Drive;").before _ s = true := hts _ (by decide +kernel)
  have hf36 : (Cond.fieldLink RX4 36 "RiddleDrive" "memory" "LRiddleDrive$Memory;").before _ s = true := hts _ (by decide +kernel)
  have hf40 : (Cond.fieldLink RX4 40 "RiddleDrive" "slots" "[LRiddleDrive$Drive;").before _ s = true := hts _ (by decide +kernel)
  have hl := lv_entry ([.ref x]) (n := 2) (Nat.le_of_ble_eq_true rfl)
  rw [lg_entry_eq]
  generalize (lg_sl ([.ref x]) ++ List.replicate (2 - (lg_sl ([.ref x])).length) Slot.unset).toArray = ls at hl ⊢
  have hl : lv_has ls 2 [(0, .ref x)] := hl
  have hyy : True := trivial
  refine lv_aload_n hx hb dX4_load_0 rfl (lv_at hl 0 rfl) ?_
  refine va_get (D := D) (ci := 4) (v := .ref tx) (C := RX4) (T := TX4) (N := 6) hx hb hts hinX4 hown hK hP 0 rfl rfl 0 (by decide) hf10 (fun _ h9 => h9) rfl dX4_load_1 ?_
  refine lv_aload_n hx hb dX4_load_4 rfl (lv_at hl 0 rfl) ?_
  refine va_get (D := D) (ci := 4) (v := .ref tr) (C := RX4) (T := TX4) (N := 6) hx hb hts hinX4 hown hK hP 0 rfl rfl 2 (by decide) hf23 (fun _ h9 => h9) rfl dX4_load_5 ?_
  refine iv_rwV (As := [.ref tr]) (rest := []) (C := RX3) (n := 1) ⟨hx, hb, hml, hown, hts⟩ (c_X3_readInto l D yI yC yD tx sg T tl po lo tr tc S2 g2 k2 (by omega) (by assumption) _) (cwV 1 hts gX4_load_X3_readInto rfl rfl rfl (by decide +kernel) ⟨Nat.le_of_ble_eq_true rfl, Nat.le_of_ble_eq_true rfl⟩) hK hP hD hS hA [1, 2, 5, 6] (by decide) rfl 1 rfl rfl rfl hl.1 rfl (Nat.le_of_ble_eq_true rfl) dX4_load_8 ⟨Nat.le_of_ble_eq_true rfl, Nat.le_of_ble_eq_true rfl⟩ (fun _ => rfl) (fun r8 u8 H locs hw8 hP hD hS => ?_)
  obtain ⟨S9, G9, k9, p9, l9⟩ := u8
  obtain ⟨hr8, hf9_8, hg9_8⟩ := hw8
  subst hr8
  have hP : va_P D vwCl [(x, oRD tx nw tr kn me sl), (tx, oTx sg tl p9 l9), (sg, aC yC 100 T), (nw, oDrv nc S (lN (kL (S) 0 40))), (nc, aI yI 48 g), (tr, oDrv tc S9 k9), (tc, aI yI 48 G9), (me, oMem rg nx ct), (rg, aD yD 14 f), (sl, aD yD 2 fs)] H := hP
  have hD : va_D A [(x, oRD tx nw tr kn me sl), (tx, oTx sg tl p9 l9), (sg, aC yC 100 T), (nw, oDrv nc S (lN (kL (S) 0 40))), (nc, aI yI 48 g), (tr, oDrv tc S9 k9), (tc, aI yI 48 G9), (me, oMem rg nx ct), (rg, aD yD 14 f), (sl, aD yD 2 fs)] := hD
  refine iv_ifb_ne (P := findE T tl = -1) (tgt := 24) hx hb dX4_load_11 (by decide) (fun c11 => ?_) (fun c11 => ?_)
  · have hok : findE T tl = -1 := by assumption
    obtain ⟨o1, o2, o3, o4, o5⟩ := hf9_8 hok
    refine lv_aload_n hx hb dX4_load_24 rfl (lv_at hl 0 rfl) ?_
    refine va_get (D := D) (ci := 4) (v := .ref nw) (C := RX4) (T := TX4) (N := 6) hx hb hts hinX4 hown hK hP 0 rfl rfl 1 (by decide) hf19 (fun _ h9 => h9) rfl dX4_load_25 ?_
    refine lv_aload_n hx hb dX4_load_28 rfl (lv_at hl 0 rfl) ?_
    refine va_get (D := D) (ci := 4) (v := .ref tr) (C := RX4) (T := TX4) (N := 6) hx hb hts hinX4 hown hK hP 0 rfl rfl 2 (by decide) hf23 (fun _ h9 => h9) rfl dX4_load_29 ?_
    refine iv_rwVv (As := [.ref tr]) (rest := []) (C := RX0) (n := 1) ⟨hx, hb, hml, hown, hts⟩ (c_X0_takeFrom l D yI yC yD nw nc S g (lN (kL (S) 0 40)) tr tc S9 G9 k9  _) (cwV 1 hts gX4_load_X0_takeFrom rfl rfl rfl (by decide +kernel) ⟨Nat.le_of_ble_eq_true rfl, Nat.le_of_ble_eq_true rfl⟩) hK hP hD hS hA [3, 4, 5, 6] (by decide) rfl 3 rfl rfl rfl hl.1 rfl (Nat.le_of_ble_eq_true rfl) dX4_load_32 ⟨Nat.le_of_ble_eq_true rfl, Nat.le_of_ble_eq_true rfl⟩ (fun _ => rfl) (fun u32 H locs hw32 hP hD hS => ?_)
    have hP : va_P D vwCl [(x, oRD tx nw tr kn me sl), (tx, oTx sg tl p9 l9), (sg, aC yC 100 T), (nw, oDrv nc S9 k9), (nc, aI yI 48 G9), (tr, oDrv tc S9 k9), (tc, aI yI 48 G9), (me, oMem rg nx ct), (rg, aD yD 14 f), (sl, aD yD 2 fs)] H := hP
    have hD : va_D A [(x, oRD tx nw tr kn me sl), (tx, oTx sg tl p9 l9), (sg, aC yC 100 T), (nw, oDrv nc S9 k9), (nc, aI yI 48 G9), (tr, oDrv tc S9 k9), (tc, aI yI 48 G9), (me, oMem rg nx ct), (rg, aD yD 14 f), (sl, aD yD 2 fs)] := hD
    refine lv_aload_n hx hb dX4_load_35 rfl (lv_at hl 0 rfl) ?_
    refine va_get (D := D) (ci := 4) (v := .ref me) (C := RX4) (T := TX4) (N := 6) hx hb hts hinX4 hown hK hP 0 rfl rfl 4 (by decide) hf36 (fun _ h9 => h9) rfl dX4_load_36 ?_
    refine iv_rwVv (As := []) (rest := []) (C := RX2) (n := 0) ⟨hx, hb, hml, hown, hts⟩ (c_X2_forgetStates l D yI yC yD me rg f nx ct  _) (cwV 0 hts gX4_load_X2_forgetStates rfl rfl rfl (by decide +kernel) ⟨Nat.le_of_ble_eq_true rfl, Nat.le_of_ble_eq_true rfl⟩) hK hP hD hS hA [7, 8] (by decide) rfl 7 rfl rfl rfl hl.1 rfl (Nat.le_of_ble_eq_true rfl) dX4_load_39 ⟨Nat.le_of_ble_eq_true rfl, Nat.le_of_ble_eq_true rfl⟩ (fun _ => rfl) (fun u39 H locs hw39 hP hD hS => ?_)
    have hP : va_P D vwCl [(x, oRD tx nw tr kn me sl), (tx, oTx sg tl p9 l9), (sg, aC yC 100 T), (nw, oDrv nc S9 k9), (nc, aI yI 48 G9), (tr, oDrv tc S9 k9), (tc, aI yI 48 G9), (me, oMem rg nx 0), (rg, aD yD 14 f), (sl, aD yD 2 fs)] H := hP
    have hD : va_D A [(x, oRD tx nw tr kn me sl), (tx, oTx sg tl p9 l9), (sg, aC yC 100 T), (nw, oDrv nc S9 k9), (nc, aI yI 48 G9), (tr, oDrv tc S9 k9), (tc, aI yI 48 G9), (me, oMem rg nx 0), (rg, aD yD 14 f), (sl, aD yD 2 fs)] := hD
    refine lv_iconst (v := iI 0) hx hb dX4_load_42 (by decide +kernel) ?_
    refine lv_istore_n (lv' := [(1, .int (iI 0)), (0, .ref x)]) hx hb dX4_load_43 rfl hl (by decide) rfl (fun ls hl => ?_)
    refine iv_loop (I := fun (qq : Nat × Int × (Nat → Option Nat)) H locs ls => match qq with | (n, x1, fz) => (n ≤ 2) ∧ (x1 = n) ∧ (∀ j : Nat, j < n → fz j = none) ∧ va_P D vwCl [(x, oRD tx nw tr kn me sl), (tx, oTx sg tl p9 l9), (sg, aC yC 100 T), (nw, oDrv nc S9 k9), (nc, aI yI 48 G9), (tr, oDrv tc S9 k9), (tc, aI yI 48 G9), (me, oMem rg nx 0), (rg, aD yD 14 f), (sl, aD yD 2 fz)] H ∧ va_D A [(x, oRD tx nw tr kn me sl), (tx, oTx sg tl p9 l9), (sg, aC yC 100 T), (nw, oDrv nc S9 k9), (nc, aI yI 48 G9), (tr, oDrv tc S9 k9), (tc, aI yI 48 G9), (me, oMem rg nx 0), (rg, aD yD 14 f), (sl, aD yD 2 fz)] ∧ va_S A s.heap H locs ∧ lv_has ls 2 [(1, .int (iI x1)), (0, .ref x)]) (μ := fun (qq : Nat × Int × (Nat → Option Nat)) => match qq with | (n, x1, fz) => 2 - n) (0, 0, fs) ?_ ?_
    · exact ⟨by omega, by omega, fun j h => by omega, hP, hD, hS, lv_sub hl [0, 1] rfl⟩
    · intro qq H locs ls hI ih44
      obtain ⟨n, x1, fz⟩ := qq
      obtain ⟨hn, h1, hfz, hP, hD, hS, hl⟩ := hI
      refine lv_iload_n hx hb dX4_load_44 rfl (lv_at hl 0 rfl) ?_
      refine lv_aload_n hx hb dX4_load_45 rfl (lv_at hl 1 rfl) ?_
      refine va_get (D := D) (ci := 4) (v := .ref sl) (C := RX4) (T := TX4) (N := 6) hx hb hts hinX4 hown hK hP 0 rfl rfl 5 (by decide) hf40 (fun _ h9 => h9) rfl dX4_load_46 ?_
      refine va_alen (v := iI 2) hx hb hK hP 9 2 rfl rfl (by show Int32.ofNat 2 = iI 2; decide +kernel) dX4_load_49 ?_
      refine iv_icmp_ge (a := x1) (b := 2) (tgt := 66) hx hb (by omega) (by omega) dX4_load_50 (by decide) (fun c50 => ?_) (fun c50 => ?_)
      · refine lv_aload_n hx hb dX4_load_66 rfl (lv_at hl 1 rfl) ?_
        refine va_get (D := D) (ci := 4) (v := .ref tx) (C := RX4) (T := TX4) (N := 6) hx hb hts hinX4 hown hK hP 0 rfl rfl 0 (by decide) hf10 (fun _ h9 => h9) rfl dX4_load_67 ?_
        refine iv_roV (As := []) (rest := []) (C := RX3) (n := 0) ⟨hx, hb, hml, hown, hts⟩ (c_X3_questionsLeftOut l D yI yC yD tx sg T tl p9 l9 ) (cwV 0 hts gX4_load_X3_questionsLeftOut rfl rfl rfl (by decide +kernel) ⟨Nat.le_of_ble_eq_true rfl, Nat.le_of_ble_eq_true rfl⟩) hK hP [1, 2] rfl 1 rfl rfl rfl hl.1 rfl (Nat.le_of_ble_eq_true rfl) dX4_load_70 ⟨Nat.le_of_ble_eq_true rfl, Nat.le_of_ble_eq_true rfl⟩ ?_
        have hP9 : va_P D vwCl [(x, oRD tx nw tr kn me sl), (tx, oTx sg tl p9 l9), (sg, aC yC 100 T), (nw, oDrv nc S9 (lN (kL (S9) 0 40))), (nc, aI yI 48 G9), (tr, oDrv tc S9 k9), (tc, aI yI 48 G9), (me, oMem rg nx 0), (rg, aD yD 14 f), (sl, aD yD 2 fz)] _ := (hP.sub (ws' := [(x, oRD tx nw tr kn me sl), (tx, oTx sg tl p9 l9), (sg, aC yC 100 T), (nw, oDrv nc S9 k9), (nc, aI yI 48 G9), (tr, oDrv tc S9 k9), (tc, aI yI 48 G9), (me, oMem rg nx 0), (rg, aD yD 14 f), (sl, aD yD 2 fz)]) [0, 1, 2, 3, 4, 5, 6, 7, 8, 9] rfl).cv (by rw [← o3])
        refine W.widen (k := 8) (n := 150) (Nat.le_of_ble_eq_true rfl) (Nat.le_of_ble_eq_true rfl) ?_
        refine vx_ret ?_
        exact W.iret hx hb hr (fun t ht hW => ⟨⟨iI l9, (S9, G9, k9, p9, l9, fz), rfl, ⟨congrArg iI (show l9 = (ldAll T tl).2 by rw [o4]), (by exact hok), (by exact ⟨o1, o2, o5⟩), (by exact fun j h => hfz j (by omega))⟩, by show va_P D vwCl _ t.heap; rw [ht]; exact hP9⟩, hS.F ht⟩) hS.2.2 dX4_load_73
      · refine lv_aload_n hx hb dX4_load_53 rfl (lv_at hl 1 rfl) ?_
        refine va_get (D := D) (ci := 4) (v := .ref sl) (C := RX4) (T := TX4) (N := 6) hx hb hts hinX4 hown hK hP 0 rfl rfl 5 (by decide) hf40 (fun _ h9 => h9) rfl dX4_load_54 ?_
        refine lv_iload_n hx hb dX4_load_57 rfl (lv_at hl 0 rfl) ?_
        refine lv_null hx hb dX4_load_58 ?_
        refine va_astqN hx hb hK hP hD hS 9 2 rfl rfl (iI_in (by omega) (by omega) (by omega)) dX4_load_59 (fun H locs hP hD hS => ?_)
        rw [iI_cl (show inR (x1) by omega)] at hP hD
        have hP : va_P D vwCl [(x, oRD tx nw tr kn me sl), (tx, oTx sg tl p9 l9), (sg, aC yC 100 T), (nw, oDrv nc S9 k9), (nc, aI yI 48 G9), (tr, oDrv tc S9 k9), (tc, aI yI 48 G9), (me, oMem rg nx 0), (rg, aD yD 14 f), (sl, aD yD 2 (va_up fz ((x1).toNat) none))] H := hP
        have hD : va_D A [(x, oRD tx nw tr kn me sl), (tx, oTx sg tl p9 l9), (sg, aC yC 100 T), (nw, oDrv nc S9 k9), (nc, aI yI 48 G9), (tr, oDrv tc S9 k9), (tc, aI yI 48 G9), (me, oMem rg nx 0), (rg, aD yD 14 f), (sl, aD yD 2 (va_up fz ((x1).toNat) none))] := hD
        refine iv_inc (lv' := [(1, .int (iI (x1 + 1))), (0, .ref x)]) hx hb dX4_load_60 hl (k := 0) rfl (by decide) rfl (fun ls hl => ?_)
        refine lv_goto (tgt := 44) hx hb dX4_load_63 (by decide) ?_
        refine ih44 (n + 1, x1 + 1, va_up fz ((x1).toNat) none) _ _ (by show (2 - (n + 1) : Nat) < 2 - n; omega) ?_
        exact ⟨by omega, by omega, fun j h => by unfold va_up; split; rfl; exact hfz j (by omega), hP, hD, hS, lv_sub hl [0, 1] rfl⟩
  · exact iv_thrG (ic := 63) (ik := 59) (is := 79) (cls := eS) (text := "the text is not a drive") hx hb hla hown bfS xfS xgS hB.1.2.1 hts (fun w h => List.mem_cons_of_mem _ (List.mem_append_right _ h)) (by decide +kernel) (by decide +kernel) hB hS ((S9, G9, k9, p9, l9)) (by exact hP) (⟨rfl, by assumption⟩) (hl.1.trans hml.symm) hlocks hno (by decide +kernel) ⟨Nat.le_of_ble_eq_true rfl, Nat.le_of_ble_eq_true rfl, Nat.le_of_ble_eq_true rfl, Nat.le_of_ble_eq_true rfl⟩ (Nat.le_of_ble_eq_true rfl) (Nat.le_of_ble_eq_true rfl) dX4_load_14 dX4_load_17 (Or.inl ⟨dX4_load_18, dX4_load_20, dX4_load_23⟩)
