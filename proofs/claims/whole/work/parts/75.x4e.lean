set_option maxHeartbeats 4000000 in
set_option maxRecDepth 100000 in
theorem c_X4_undo_n (l : Launch) (hla : l.stackTraces = false) (D : va_G) (yI yC yD : ClassId) (x : Nat) (tx : Nat) (nw : Nat) (tr : Nat) (kn : Nat) (me : Nat) (sl : Nat) (nc : Nat) (S : Int → Int) (g : Int → Int) (rg : Nat) (f : Nat → Option Nat) (nx : Int) (ct : Int) (hI : Inv S) (hme : 0 ≤ nx ∧ nx < 14 ∧ ct = 0) (sz : Nat) : vx_Met l yX4_undo wsX4_undo ({ frames := 6, cells := 8, slots := 150, locals := 82 }) (vxP [.ref x] D (tyz yI yC yD) [(x, oRD tx nw tr kn me sl), (nw, oDrv nc S (lN (kL (S) 0 40))), (nc, aI yI 48 g), (me, oMem rg nx ct), (rg, aD yD 14 f)] sz) (va_Qi (fun (r : Int32) (_ : Unit) => r = iI 0 ∧ False) (fun (_ : Unit) (t : State) => va_P D vwCl [(x, oRD tx nw tr kn me sl), (nw, oDrv nc S (lN (kL (S) 0 40))), (nc, aI yI 48 g), (me, oMem rg nx ct), (rg, aD yD 14 f)] t.heap) (va_A [(x, oRD tx nw tr kn me sl), (nw, oDrv nc S (lN (kL (S) 0 40))), (nc, aI yI 48 g), (me, oMem rg nx ct), (rg, aD yD 14 f)] sz)) (vxX D (fun E => E = eS) (fun (_ : Unit) => [(x, oRD tx nw tr kn me sl), (nw, oDrv nc S (lN (kL (S) 0 40))), (nc, aI yI 48 g), (me, oMem rg nx ct), (rg, aD yD 14 f)]) (va_A [(x, oRD tx nw tr kn me sl), (nw, oDrv nc S (lN (kL (S) 0 40))), (nc, aI yI 48 g), (me, oMem rg nx ct), (rg, aD yD 14 f)] sz)) 8 150 (va_A [(x, oRD tx nw tr kn me sl), (nw, oDrv nc S (lN (kL (S) 0 40))), (nc, aI yI 48 g), (me, oMem rg nx ct), (rg, aD yD 14 f)] sz) := by
  refine vx_ofW (cc := cX4_undo) (maxL := 1) (ret := (some .int)) (by decide) rfl ?_
  intro p e s m args below meth c s₁ B hml hno hv
  obtain ⟨rfl, hsz, hP, hK, hD0, hB⟩ := hv
  have hx := B.exec
  have hb := B.bytes
  have hr := B.returns
  have hts := atoms_spec (ws := wsX4_undo) B.pre
  have hown : s.vm.findClass RX4 = some m.cls := findClass_of_methodNamed B.named
  have hlocks := B.notSynchronized
  subst hsz
  have hD := hD0.self (sz := s.heap.size)
  generalize hAe : va_A [(x, oRD tx nw tr kn me sl), (nw, oDrv nc S (lN (kL (S) 0 40))), (nc, aI yI 48 g), (me, oMem rg nx ct), (rg, aD yD 14 f)] s.heap.size = A at hD hB ⊢
  have hA : ∀ q : Nat, s.heap.size ≤ q → A q := fun q h => by rw [← hAe]; exact Or.inr h
  have hS : va_S A s.heap s.heap [] := va_S.rf
  have hP : va_P D vwCl [(x, oRD tx nw tr kn me sl), (nw, oDrv nc S (lN (kL (S) 0 40))), (nc, aI yI 48 g), (me, oMem rg nx ct), (rg, aD yD 14 f)] s.heap := hP
  have hinX4 : ∀ w ∈ wsX40, w ∈ wsX4_undo := by decide +kernel
  have hf36 : (Cond.fieldLink RX4 36 "RiddleDrive" "memory" "LRiddleDrive$Memory;").before _ s = true := hts _ (by decide +kernel)
  have hl := lv_entry ([.ref x]) (n := 1) (Nat.le_of_ble_eq_true rfl)
  rw [lg_entry_eq]
  generalize (lg_sl ([.ref x]) ++ List.replicate (1 - (lg_sl ([.ref x])).length) Slot.unset).toArray = ls at hl ⊢
  have hl : lv_has ls 1 [(0, .ref x)] := hl
  refine lv_aload_n hx hb dX4_undo_0 rfl (lv_at hl 0 rfl) ?_
  refine va_get (D := D) (ci := 4) (v := .ref me) (C := RX4) (T := TX4) (N := 6) hx hb hts hinX4 hown hK hP 0 rfl rfl 4 (by decide) hf36 (fun _ h9 => h9) rfl dX4_undo_1 ?_
  refine iv_roV (As := []) (rest := []) (C := RX2) (n := 0) ⟨hx, hb, hml, hown, hts⟩ (c_X2_isEmpty l D yI yC yD me rg f nx ct (by omega)) (cwV 0 hts gX4_undo_X2_isEmpty rfl rfl rfl (by decide +kernel) ⟨Nat.le_of_ble_eq_true rfl, Nat.le_of_ble_eq_true rfl⟩) hK hP [3, 4] rfl 3 rfl rfl rfl hl.1 rfl (Nat.le_of_ble_eq_true rfl) dX4_undo_4 ⟨Nat.le_of_ble_eq_true rfl, Nat.le_of_ble_eq_true rfl⟩ ?_
  refine iv_ifb_eq (P := ct = 0) (tgt := 20) hx hb dX4_undo_7 (by decide) (fun c7 => ?_) (fun c7 => ?_)
  · exact absurd hme.2.2 c7
  · exact iv_thrG (ic := 63) (ik := 59) (is := 198) (cls := eS) (text := "nothing is remembered") hx hb hla hown bfS xfS xgS hB.1.2.1 hts (fun w h => List.mem_cons_of_mem _ (List.mem_append_right _ h)) (by decide +kernel) (by decide +kernel) hB hS (()) (by exact hP) (rfl) (hl.1.trans hml.symm) hlocks hno (by decide +kernel) ⟨Nat.le_of_ble_eq_true rfl, Nat.le_of_ble_eq_true rfl, Nat.le_of_ble_eq_true rfl, Nat.le_of_ble_eq_true rfl⟩ (Nat.le_of_ble_eq_true rfl) (Nat.le_of_ble_eq_true rfl) dX4_undo_10 dX4_undo_13 (Or.inl ⟨dX4_undo_14, dX4_undo_16, dX4_undo_19⟩)
set_option maxHeartbeats 4000000 in
set_option maxRecDepth 100000 in
theorem c_X4_undo_y (l : Launch) (hla : l.stackTraces = false) (D : va_G) (yI yC yD : ClassId) (x : Nat) (tx : Nat) (nw : Nat) (tr : Nat) (kn : Nat) (me : Nat) (sl : Nat) (nc : Nat) (S : Int → Int) (g : Int → Int) (rg : Nat) (f : Nat → Option Nat) (nx : Int) (ct : Int) (nw9 : Int) (q : Nat) (qc : Nat) (Sq : Int → Int) (gq : Int → Int) (kq : Int64) (hI : Inv S) (hme : 0 ≤ nx ∧ nx < 14 ∧ 0 < ct ∧ ct ≤ 14) (hnw : (0 < nx ∧ nw9 = nx - 1) ∨ (¬ 0 < nx ∧ nw9 = 13)) (hf : f nw9.toNat = some q) (sz : Nat) : vx_Met l yX4_undo wsX4_undo ({ frames := 2, cells := 8, slots := 150, locals := 45 }) (vxP [.ref x] D (tyz yI yC yD) [(x, oRD tx nw tr kn me sl), (nw, oDrv nc S (lN (kL (S) 0 40))), (nc, aI yI 48 g), (me, oMem rg nx ct), (rg, aD yD 14 f), (q, oDrv qc Sq kq), (qc, aI yI 48 gq)] sz) (va_Qi (fun (r : Int32) (_ : Unit) => r = iI (ct - 1) ∧ True) (fun (_ : Unit) (t : State) => va_P D vwCl [(x, oRD tx nw tr kn me sl), (nw, oDrv nc Sq kq), (nc, aI yI 48 gq), (me, oMem rg nw9 (ct - 1)), (rg, aD yD 14 f), (q, oDrv qc Sq kq), (qc, aI yI 48 gq)] t.heap) (va_A [(x, oRD tx nw tr kn me sl), (nw, oDrv nc S (lN (kL (S) 0 40))), (nc, aI yI 48 g), (me, oMem rg nx ct), (rg, aD yD 14 f), (q, oDrv qc Sq kq), (qc, aI yI 48 gq)] sz)) (vxX D (fun E => E = eS ∧ ct = 0) (fun (_ : Unit) => [(x, oRD tx nw tr kn me sl), (nw, oDrv nc S (lN (kL (S) 0 40))), (nc, aI yI 48 g), (me, oMem rg nx ct), (rg, aD yD 14 f), (q, oDrv qc Sq kq), (qc, aI yI 48 gq)]) (va_A [(x, oRD tx nw tr kn me sl), (nw, oDrv nc S (lN (kL (S) 0 40))), (nc, aI yI 48 g), (me, oMem rg nx ct), (rg, aD yD 14 f), (q, oDrv qc Sq kq), (qc, aI yI 48 gq)] sz)) 8 150 (va_A [(x, oRD tx nw tr kn me sl), (nw, oDrv nc S (lN (kL (S) 0 40))), (nc, aI yI 48 g), (me, oMem rg nx ct), (rg, aD yD 14 f), (q, oDrv qc Sq kq), (qc, aI yI 48 gq)] sz) := by
  refine vx_ofW (cc := cX4_undo) (maxL := 1) (ret := (some .int)) (by decide) rfl ?_
  intro p e s m args below meth c s₁ B hml hno hv
  obtain ⟨rfl, hsz, hP, hK, hD0, hB⟩ := hv
  have hx := B.exec
  have hb := B.bytes
  have hr := B.returns
  have hts := atoms_spec (ws := wsX4_undo) B.pre
  have hown : s.vm.findClass RX4 = some m.cls := findClass_of_methodNamed B.named
  have hlocks := B.notSynchronized
  subst hsz
  have hD := hD0.self (sz := s.heap.size)
  generalize hAe : va_A [(x, oRD tx nw tr kn me sl), (nw, oDrv nc S (lN (kL (S) 0 40))), (nc, aI yI 48 g), (me, oMem rg nx ct), (rg, aD yD 14 f), (q, oDrv qc Sq kq), (qc, aI yI 48 gq)] s.heap.size = A at hD hB ⊢
  have hA : ∀ q : Nat, s.heap.size ≤ q → A q := fun q h => by rw [← hAe]; exact Or.inr h
  have hS : va_S A s.heap s.heap [] := va_S.rf
  have hP : va_P D vwCl [(x, oRD tx nw tr kn me sl), (nw, oDrv nc S (lN (kL (S) 0 40))), (nc, aI yI 48 g), (me, oMem rg nx ct), (rg, aD yD 14 f), (q, oDrv qc Sq kq), (qc, aI yI 48 gq)] s.heap := hP
  have hinX4 : ∀ w ∈ wsX40, w ∈ wsX4_undo := by decide +kernel
  have hf19 : (Cond.fieldLink RX4 19 "RiddleDrive" "now" "LRiddleDrive$Drive;").before _ s = true := hts _ (by decide +kernel)
  have hf36 : (Cond.fieldLink RX4 36 "RiddleDrive" "memory" "LRiddleDrive$Memory;").before _ s = true := hts _ (by decide +kernel)
  have hl := lv_entry ([.ref x]) (n := 1) (Nat.le_of_ble_eq_true rfl)
  rw [lg_entry_eq]
  generalize (lg_sl ([.ref x]) ++ List.replicate (1 - (lg_sl ([.ref x])).length) Slot.unset).toArray = ls at hl ⊢
  have hl : lv_has ls 1 [(0, .ref x)] := hl
  refine lv_aload_n hx hb dX4_undo_0 rfl (lv_at hl 0 rfl) ?_
  refine va_get (D := D) (ci := 4) (v := .ref me) (C := RX4) (T := TX4) (N := 6) hx hb hts hinX4 hown hK hP 0 rfl rfl 4 (by decide) hf36 (fun _ h9 => h9) rfl dX4_undo_1 ?_
  refine iv_roV (As := []) (rest := []) (C := RX2) (n := 0) ⟨hx, hb, hml, hown, hts⟩ (c_X2_isEmpty l D yI yC yD me rg f nx ct (by omega)) (cwV 0 hts gX4_undo_X2_isEmpty rfl rfl rfl (by decide +kernel) ⟨Nat.le_of_ble_eq_true rfl, Nat.le_of_ble_eq_true rfl⟩) hK hP [3, 4] rfl 3 rfl rfl rfl hl.1 rfl (Nat.le_of_ble_eq_true rfl) dX4_undo_4 ⟨Nat.le_of_ble_eq_true rfl, Nat.le_of_ble_eq_true rfl⟩ ?_
  refine iv_ifb_eq (P := ct = 0) (tgt := 20) hx hb dX4_undo_7 (by decide) (fun c7 => ?_) (fun c7 => ?_)
  · refine lv_aload_n hx hb dX4_undo_20 rfl (lv_at hl 0 rfl) ?_
    refine va_get (D := D) (ci := 4) (v := .ref me) (C := RX4) (T := TX4) (N := 6) hx hb hts hinX4 hown hK hP 0 rfl rfl 4 (by decide) hf36 (fun _ h9 => h9) rfl dX4_undo_21 ?_
    refine lv_aload_n hx hb dX4_undo_24 rfl (lv_at hl 0 rfl) ?_
    refine va_get (D := D) (ci := 4) (v := .ref nw) (C := RX4) (T := TX4) (N := 6) hx hb hts hinX4 hown hK hP 0 rfl rfl 1 (by decide) hf19 (fun _ h9 => h9) rfl dX4_undo_25 ?_
    refine iv_rwV (As := [.ref nw]) (rest := []) (C := RX2) (n := 1) ⟨hx, hb, hml, hown, hts⟩ (c_X2_takeBack l D yI yC yD me rg f nx ct nw9 nw nc S g (lN (kL (S) 0 40)) q qc Sq gq kq (by omega) (by omega) (by assumption) _) (cwV 1 hts gX4_undo_X2_takeBack rfl rfl rfl (by decide +kernel) ⟨Nat.le_of_ble_eq_true rfl, Nat.le_of_ble_eq_true rfl⟩) hK hP hD hS hA [3, 4, 1, 2, 5, 6] (by decide) rfl 3 rfl rfl rfl hl.1 rfl (Nat.le_of_ble_eq_true rfl) dX4_undo_28 ⟨Nat.le_of_ble_eq_true rfl, Nat.le_of_ble_eq_true rfl⟩ (fun _ => rfl) (fun r28 u28 H locs hw28 hP hD hS => ?_)
    obtain ⟨hr28, -⟩ := hw28
    subst hr28
    have hP : va_P D vwCl [(x, oRD tx nw tr kn me sl), (nw, oDrv nc Sq kq), (nc, aI yI 48 gq), (me, oMem rg nw9 (ct - 1)), (rg, aD yD 14 f), (q, oDrv qc Sq kq), (qc, aI yI 48 gq)] H := hP
    have hD : va_D A [(x, oRD tx nw tr kn me sl), (nw, oDrv nc Sq kq), (nc, aI yI 48 gq), (me, oMem rg nw9 (ct - 1)), (rg, aD yD 14 f), (q, oDrv qc Sq kq), (qc, aI yI 48 gq)] := hD
    have hP9 : va_P D vwCl [(x, oRD tx nw tr kn me sl), (nw, oDrv nc Sq kq), (nc, aI yI 48 gq), (me, oMem rg nw9 (ct - 1)), (rg, aD yD 14 f), (q, oDrv qc Sq kq), (qc, aI yI 48 gq)] _ := hP.sub [0, 1, 2, 3, 4, 5, 6] rfl
    refine W.widen (k := 8) (n := 150) (Nat.le_of_ble_eq_true rfl) (Nat.le_of_ble_eq_true rfl) ?_
    refine vx_ret ?_
    exact W.iret hx hb hr (fun t ht hW => ⟨⟨iI (ct - 1), (), rfl, ⟨rfl, trivial⟩, by show va_P D vwCl _ t.heap; rw [ht]; exact hP9⟩, hS.F ht⟩) hS.2.2 dX4_undo_31
  · exact absurd c7 (by omega)
set_option maxHeartbeats 4000000 in
set_option maxRecDepth 100000 in
theorem c_X4_save_n (l : Launch) (hla : l.stackTraces = false) (D : va_G) (yI yC yD : ClassId) (x : Nat) (tx : Nat) (nw : Nat) (tr : Nat) (kn : Nat) (me : Nat) (sl : Nat) (nc : Nat) (S : Int → Int) (g : Int → Int) (fs : Nat → Option Nat) (i : Int) (hi9 : inR i) (hf : 0 ≤ i ∧ i < 2 → fs i.toNat = none) (sz : Nat) : vx_Met l yX4_save wsX4_save ({ frames := 7, cells := 8, slots := 150, locals := 103 }) (vxP [.ref x, .int (iI i)] D (tyz yI yC yD) [(x, oRD tx nw tr kn me sl), (nw, oDrv nc S (lN (kL (S) 0 40))), (nc, aI yI 48 g), (sl, aD yD 2 fs)] sz) (va_Qi (fun (r : Int32) (u : Nat × Nat) => match u with | (q, qc) => r = iI (S 4) ∧ 0 ≤ i ∧ i < 2) (fun (u : Nat × Nat) (t : State) => match u with | (q, qc) => va_P D vwCl [(x, oRD tx nw tr kn me sl), (nw, oDrv nc S (lN (kL (S) 0 40))), (nc, aI yI 48 g), (sl, aD yD 2 (va_up fs i.toNat (some q))), (q, oDrv qc S (lN (kL (S) 0 40))), (qc, aI yI 48 g)] t.heap ∧ va_D (va_A [(x, oRD tx nw tr kn me sl), (nw, oDrv nc S (lN (kL (S) 0 40))), (nc, aI yI 48 g), (sl, aD yD 2 fs)] sz) [(x, oRD tx nw tr kn me sl), (nw, oDrv nc S (lN (kL (S) 0 40))), (nc, aI yI 48 g), (sl, aD yD 2 (va_up fs i.toNat (some q))), (q, oDrv qc S (lN (kL (S) 0 40))), (qc, aI yI 48 g)]) (va_A [(x, oRD tx nw tr kn me sl), (nw, oDrv nc S (lN (kL (S) 0 40))), (nc, aI yI 48 g), (sl, aD yD 2 fs)] sz)) (vxX D (fun E => E = eI ∧ ¬ (0 ≤ i ∧ i < 2)) (fun (_ : Unit) => [(x, oRD tx nw tr kn me sl), (nw, oDrv nc S (lN (kL (S) 0 40))), (nc, aI yI 48 g), (sl, aD yD 2 fs)]) (va_A [(x, oRD tx nw tr kn me sl), (nw, oDrv nc S (lN (kL (S) 0 40))), (nc, aI yI 48 g), (sl, aD yD 2 fs)] sz)) 8 150 (va_A [(x, oRD tx nw tr kn me sl), (nw, oDrv nc S (lN (kL (S) 0 40))), (nc, aI yI 48 g), (sl, aD yD 2 fs)] sz) := by
  refine vx_ofW (cc := cX4_save) (maxL := 3) (ret := (some .int)) (by decide) rfl ?_
  intro p e s m args below meth c s₁ B hml hno hv
  obtain ⟨rfl, hsz, hP, hK, hD0, hB⟩ := hv
  have hx := B.exec
  have hb := B.bytes
  have hr := B.returns
  have hts := atoms_spec (ws := wsX4_save) B.pre
  have hown : s.vm.findClass RX4 = some m.cls := findClass_of_methodNamed B.named
  have hlocks := B.notSynchronized
  subst hsz
  have hD := hD0.self (sz := s.heap.size)
  generalize hAe : va_A [(x, oRD tx nw tr kn me sl), (nw, oDrv nc S (lN (kL (S) 0 40))), (nc, aI yI 48 g), (sl, aD yD 2 fs)] s.heap.size = A at hD hB ⊢
  have hA : ∀ q : Nat, s.heap.size ≤ q → A q := fun q h => by rw [← hAe]; exact Or.inr h
  have hS : va_S A s.heap s.heap [] := va_S.rf
  have hP : va_P D vwCl [(x, oRD tx nw tr kn me sl), (nw, oDrv nc S (lN (kL (S) 0 40))), (nc, aI yI 48 g), (sl, aD yD 2 fs)] s.heap := hP
  have hinX0 : ∀ w ∈ wsX00, w ∈ wsX4_save := by decide +kernel
  have hinX4 : ∀ w ∈ wsX40, w ∈ wsX4_save := by decide +kernel
  have hf19 : (Cond.fieldLink RX4 19 "RiddleDrive" "now" "LRiddleDrive$Drive;").before _ s = true := hts _ (by decide +kernel)
  have hf40 : (Cond.fieldLink RX4 40 "RiddleDrive" "slots" "[LRiddleDrive$Drive;").before _ s = true := hts _ (by decide +kernel)
  have hf107 : (Cond.fieldLink RX4 107 "RiddleDrive$Drive" "answers" "I").before _ s = true := hts _ (by decide +kernel)
  have hl := lv_entry ([.ref x, .int (iI i)]) (n := 3) (Nat.le_of_ble_eq_true rfl)
  rw [lg_entry_eq]
  generalize (lg_sl ([.ref x, .int (iI i)]) ++ List.replicate (3 - (lg_sl ([.ref x, .int (iI i)])).length) Slot.unset).toArray = ls at hl ⊢
  have hl : lv_has ls 3 [(0, .ref x), (1, .int (iI i))] := hl
  refine lv_aload_n hx hb dX4_save_0 rfl (lv_at hl 0 rfl) ?_
  refine lv_iload_n hx hb dX4_save_1 rfl (lv_at hl 1 rfl) ?_
  refine iv_vxVv (As := [.int (iI i)]) (rest := []) (C := RX4) (n := 1) ⟨hx, hb, hml, hown, hts⟩ (c_X4_checkSlot l hla D yI yC yD x tx nw tr kn me sl fs i (by assumption) _) (cwV 1 hts gX4_save_X4_checkSlot rfl rfl rfl (by decide +kernel) ⟨Nat.le_of_ble_eq_true rfl, Nat.le_of_ble_eq_true rfl⟩) hK hP hD hS hA hB [0, 3] (by decide) rfl 0 rfl rfl rfl hl.1 rfl (Nat.le_of_ble_eq_true rfl) dX4_save_2 ⟨Nat.le_of_ble_eq_true rfl, Nat.le_of_ble_eq_true rfl⟩ (fun _ => rfl) (fun _ => rfl) (fun E9 ce9 q9 ux H locs hxe hP hD hS hc9 hv9 hcl9 => ?_) (fun u2 H locs hw2 hP hD hS => ?_)
  · exact iv_out hno hlocks hc9 hv9 hcl9 hS () (by exact hP) (hxe) (Nat.le_of_ble_eq_true rfl) (Nat.le_of_ble_eq_true rfl)
  have hps9_2 := hw2
  have hP : va_P D vwCl [(x, oRD tx nw tr kn me sl), (nw, oDrv nc S (lN (kL (S) 0 40))), (nc, aI yI 48 g), (sl, aD yD 2 fs)] H := hP
  have hD : va_D A [(x, oRD tx nw tr kn me sl), (nw, oDrv nc S (lN (kL (S) 0 40))), (nc, aI yI 48 g), (sl, aD yD 2 fs)] := hD
  refine lv_aload_n hx hb dX4_save_5 rfl (lv_at hl 0 rfl) ?_
  refine va_get (D := D) (ci := 4) (v := .ref sl) (C := RX4) (T := TX4) (N := 6) hx hb hts hinX4 hown hK hP 0 rfl rfl 5 (by decide) hf40 (fun _ h9 => h9) rfl dX4_save_6 ?_
  refine lv_iload_n hx hb dX4_save_9 rfl (lv_at hl 1 rfl) ?_
  refine va_aldq hx hb hK hP 3 2 rfl rfl (iI_in (by omega) (by omega) (by omega)) dX4_save_10 ?_
  rw [iI_cl (by omega), hf hps9_2, rf_n]
  refine lv_astore_nN (lv' := [(2, .null), (0, .ref x), (1, .int (iI i))]) hx hb dX4_save_11 rfl hl (by decide) rfl (fun ls hl => ?_)
  refine lv_aload_nN hx hb dX4_save_12 rfl (lv_at hl 0 rfl) ?_
  refine lv_ifnonnullN hx hb dX4_save_13 ?_
  refine iv_newN (C := RX0) (T := TX0) (N := 10) (ci := 0) (raw := rawX0) (wp := fun q (dc : Nat) => [(q, oDrv dc (fun _ => 0) 0), (dc, aI yI 48 (fun _ => 0))]) ⟨hx, hb, hml, hown, hts⟩ hinX0 tyX0 tyX0_ok (hts (.classLink RX4 16 RX0) (by decide +kernel)) (hts (.instantiable RX0 10) (by decide +kernel)) (hts (.initialized RX0) (by decide +kernel)) rfl dfX0 (fun q9 sz9 => c_X0_init l D yI yC yD q9  sz9) ⟨va_cnB 0 hts gX4_save_X0_init_n18 rfl rfl rfl hB.2.2.2.2.2.2.1 (hts (.initialized RX0) (by decide +kernel)) (by decide +kernel) ⟨Nat.le_of_ble_eq_true rfl, Nat.le_of_ble_eq_true rfl⟩, rfl, hts (.instanceMethod yX0_init) (by decide +kernel)⟩ hK hP hD hS hA hl.1 dX4_save_16 dX4_save_19 dX4_save_20 (Nat.le_of_ble_eq_true rfl) ⟨Nat.le_of_ble_eq_true rfl, Nat.le_of_ble_eq_true rfl⟩ (fun q qc H locs hP hD hS => ?_)
  have hP : va_P D vwCl [(x, oRD tx nw tr kn me sl), (nw, oDrv nc S (lN (kL (S) 0 40))), (nc, aI yI 48 g), (sl, aD yD 2 fs), (q, oDrv qc (fun _ => 0) 0), (qc, aI yI 48 (fun _ => 0))] H := hP
  have hD : va_D A [(x, oRD tx nw tr kn me sl), (nw, oDrv nc S (lN (kL (S) 0 40))), (nc, aI yI 48 g), (sl, aD yD 2 fs), (q, oDrv qc (fun _ => 0) 0), (qc, aI yI 48 (fun _ => 0))] := hD
  refine lv_astore_n (lv' := [(2, .ref q), (0, .ref x), (1, .int (iI i))]) hx hb dX4_save_23 rfl hl (by decide) rfl (fun ls hl => ?_)
  refine lv_aload_n hx hb dX4_save_24 rfl (lv_at hl 1 rfl) ?_
  refine va_get (D := D) (ci := 4) (v := .ref sl) (C := RX4) (T := TX4) (N := 6) hx hb hts hinX4 hown hK hP 0 rfl rfl 5 (by decide) hf40 (fun _ h9 => h9) rfl dX4_save_25 ?_
  refine lv_iload_n hx hb dX4_save_28 rfl (lv_at hl 2 rfl) ?_
  refine lv_aload_n hx hb dX4_save_29 rfl (lv_at hl 0 rfl) ?_
  refine va_astq hx hb hK hP hD hS 3 2 4 0 rfl rfl rfl rfl (iI_in (by omega) (by omega) (by omega)) dX4_save_30 (fun H locs hP hD hS => ?_)
  rw [iI_cl (show inR (i) by omega)] at hP hD
  have hP : va_P D vwCl [(x, oRD tx nw tr kn me sl), (nw, oDrv nc S (lN (kL (S) 0 40))), (nc, aI yI 48 g), (sl, aD yD 2 (va_up fs ((i).toNat) (some q))), (q, oDrv qc (fun _ => 0) 0), (qc, aI yI 48 (fun _ => 0))] H := hP
  have hD : va_D A [(x, oRD tx nw tr kn me sl), (nw, oDrv nc S (lN (kL (S) 0 40))), (nc, aI yI 48 g), (sl, aD yD 2 (va_up fs ((i).toNat) (some q))), (q, oDrv qc (fun _ => 0) 0), (qc, aI yI 48 (fun _ => 0))] := hD
  refine lv_aload_n hx hb dX4_save_31 rfl (lv_at hl 0 rfl) ?_
  refine lv_aload_n hx hb dX4_save_32 rfl (lv_at hl 1 rfl) ?_
  refine va_get (D := D) (ci := 4) (v := .ref nw) (C := RX4) (T := TX4) (N := 6) hx hb hts hinX4 hown hK hP 0 rfl rfl 1 (by decide) hf19 (fun _ h9 => h9) rfl dX4_save_33 ?_
  refine iv_rwVv (As := [.ref nw]) (rest := []) (C := RX0) (n := 1) ⟨hx, hb, hml, hown, hts⟩ (c_X0_takeFrom l D yI yC yD q qc (fun _ => 0) (fun _ => 0) 0 nw nc S g (lN (kL (S) 0 40))  _) (cwV 1 hts gX4_save_X0_takeFrom rfl rfl rfl (by decide +kernel) ⟨Nat.le_of_ble_eq_true rfl, Nat.le_of_ble_eq_true rfl⟩) hK hP hD hS hA [4, 5, 1, 2] (by decide) rfl 4 rfl rfl rfl hl.1 rfl (Nat.le_of_ble_eq_true rfl) dX4_save_36 ⟨Nat.le_of_ble_eq_true rfl, Nat.le_of_ble_eq_true rfl⟩ (fun _ => rfl) (fun u36 H locs hw36 hP hD hS => ?_)
  have hP : va_P D vwCl [(x, oRD tx nw tr kn me sl), (nw, oDrv nc S (lN (kL (S) 0 40))), (nc, aI yI 48 g), (sl, aD yD 2 (va_up fs ((i).toNat) (some q))), (q, oDrv qc S (lN (kL (S) 0 40))), (qc, aI yI 48 g)] H := hP
  have hD : va_D A [(x, oRD tx nw tr kn me sl), (nw, oDrv nc S (lN (kL (S) 0 40))), (nc, aI yI 48 g), (sl, aD yD 2 (va_up fs ((i).toNat) (some q))), (q, oDrv qc S (lN (kL (S) 0 40))), (qc, aI yI 48 g)] := hD
  refine lv_aload_n hx hb dX4_save_39 rfl (lv_at hl 1 rfl) ?_
  refine va_get (D := D) (ci := 4) (v := .ref nw) (C := RX4) (T := TX4) (N := 6) hx hb hts hinX4 hown hK hP 0 rfl rfl 1 (by decide) hf19 (fun _ h9 => h9) rfl dX4_save_40 ?_
  refine va_get (D := D) (ci := 0) (v := .int (iI (S 4))) (C := RX0) (T := TX0) (N := 10) hx hb hts hinX0 hown hK hP 1 rfl rfl 4 (by decide) hf107 (fun _ h9 => h9) rfl dX4_save_43 ?_
  have hP9 : va_P D vwCl [(x, oRD tx nw tr kn me sl), (nw, oDrv nc S (lN (kL (S) 0 40))), (nc, aI yI 48 g), (sl, aD yD 2 (va_up fs i.toNat (some q))), (q, oDrv qc S (lN (kL (S) 0 40))), (qc, aI yI 48 g)] _ := hP.sub [0, 1, 2, 3, 4, 5] rfl
  have hD9 : va_D A [(x, oRD tx nw tr kn me sl), (nw, oDrv nc S (lN (kL (S) 0 40))), (nc, aI yI 48 g), (sl, aD yD 2 (va_up fs i.toNat (some q))), (q, oDrv qc S (lN (kL (S) 0 40))), (qc, aI yI 48 g)] := hD.sub [0, 1, 2, 3, 4, 5] (by decide) rfl
  refine W.widen (k := 8) (n := 150) (Nat.le_of_ble_eq_true rfl) (Nat.le_of_ble_eq_true rfl) ?_
  refine vx_ret ?_
  exact W.iret hx hb hr (fun t ht hW => ⟨⟨iI (S 4), (q, qc), rfl, ⟨rfl, (by exact hps9_2)⟩, ⟨by show va_P D vwCl _ t.heap; rw [ht]; exact hP9, hD9⟩⟩, hS.F ht⟩) hS.2.2 dX4_save_46
set_option maxHeartbeats 4000000 in
set_option maxRecDepth 100000 in
theorem c_X4_save_y (l : Launch) (hla : l.stackTraces = false) (D : va_G) (yI yC yD : ClassId) (x : Nat) (tx : Nat) (nw : Nat) (tr : Nat) (kn : Nat) (me : Nat) (sl : Nat) (nc : Nat) (S : Int → Int) (g : Int → Int) (fs : Nat → Option Nat) (i : Int) (q : Nat) (qc : Nat) (Sq : Int → Int) (gq : Int → Int) (kq : Int64) (hi9 : inR i) (hf : fs i.toNat = some q) (sz : Nat) : vx_Met l yX4_save wsX4_save ({ frames := 7, cells := 8, slots := 150, locals := 103 }) (vxP [.ref x, .int (iI i)] D (tyz yI yC yD) [(x, oRD tx nw tr kn me sl), (nw, oDrv nc S (lN (kL (S) 0 40))), (nc, aI yI 48 g), (sl, aD yD 2 fs), (q, oDrv qc Sq kq), (qc, aI yI 48 gq)] sz) (va_Qi (fun (r : Int32) (_ : Unit) => r = iI (S 4) ∧ 0 ≤ i ∧ i < 2) (fun (_ : Unit) (t : State) => va_P D vwCl [(x, oRD tx nw tr kn me sl), (nw, oDrv nc S (lN (kL (S) 0 40))), (nc, aI yI 48 g), (sl, aD yD 2 fs), (q, oDrv qc S (lN (kL (S) 0 40))), (qc, aI yI 48 g)] t.heap) (va_A [(x, oRD tx nw tr kn me sl), (nw, oDrv nc S (lN (kL (S) 0 40))), (nc, aI yI 48 g), (sl, aD yD 2 fs), (q, oDrv qc Sq kq), (qc, aI yI 48 gq)] sz)) (vxX D (fun E => E = eI ∧ ¬ (0 ≤ i ∧ i < 2)) (fun (_ : Unit) => [(x, oRD tx nw tr kn me sl), (nw, oDrv nc S (lN (kL (S) 0 40))), (nc, aI yI 48 g), (sl, aD yD 2 fs), (q, oDrv qc Sq kq), (qc, aI yI 48 gq)]) (va_A [(x, oRD tx nw tr kn me sl), (nw, oDrv nc S (lN (kL (S) 0 40))), (nc, aI yI 48 g), (sl, aD yD 2 fs), (q, oDrv qc Sq kq), (qc, aI yI 48 gq)] sz)) 8 150 (va_A [(x, oRD tx nw tr kn me sl), (nw, oDrv nc S (lN (kL (S) 0 40))), (nc, aI yI 48 g), (sl, aD yD 2 fs), (q, oDrv qc Sq kq), (qc, aI yI 48 gq)] sz) := by
  refine vx_ofW (cc := cX4_save) (maxL := 3) (ret := (some .int)) (by decide) rfl ?_
  intro p e s m args below meth c s₁ B hml hno hv
  obtain ⟨rfl, hsz, hP, hK, hD0, hB⟩ := hv
  have hx := B.exec
  have hb := B.bytes
  have hr := B.returns
  have hts := atoms_spec (ws := wsX4_save) B.pre
  have hown : s.vm.findClass RX4 = some m.cls := findClass_of_methodNamed B.named
  have hlocks := B.notSynchronized
  subst hsz
  have hD := hD0.self (sz := s.heap.size)
  generalize hAe : va_A [(x, oRD tx nw tr kn me sl), (nw, oDrv nc S (lN (kL (S) 0 40))), (nc, aI yI 48 g), (sl, aD yD 2 fs), (q, oDrv qc Sq kq), (qc, aI yI 48 gq)] s.heap.size = A at hD hB ⊢
  have hA : ∀ q : Nat, s.heap.size ≤ q → A q := fun q h => by rw [← hAe]; exact Or.inr h
  have hS : va_S A s.heap s.heap [] := va_S.rf
  have hP : va_P D vwCl [(x, oRD tx nw tr kn me sl), (nw, oDrv nc S (lN (kL (S) 0 40))), (nc, aI yI 48 g), (sl, aD yD 2 fs), (q, oDrv qc Sq kq), (qc, aI yI 48 gq)] s.heap := hP
  have hinX0 : ∀ w ∈ wsX00, w ∈ wsX4_save := by decide +kernel
  have hinX4 : ∀ w ∈ wsX40, w ∈ wsX4_save := by decide +kernel
  have hf19 : (Cond.fieldLink RX4 19 "RiddleDrive" "now" "LRiddleDrive$Drive;").before _ s = true := hts _ (by decide +kernel)
  have hf40 : (Cond.fieldLink RX4 40 "RiddleDrive" "slots" "[LRiddleDrive$Drive;").before _ s = true := hts _ (by decide +kernel)
  have hf107 : (Cond.fieldLink RX4 107 "RiddleDrive$Drive" "answers" "I").before _ s = true := hts _ (by decide +kernel)
  have hl := lv_entry ([.ref x, .int (iI i)]) (n := 3) (Nat.le_of_ble_eq_true rfl)
  rw [lg_entry_eq]
  generalize (lg_sl ([.ref x, .int (iI i)]) ++ List.replicate (3 - (lg_sl ([.ref x, .int (iI i)])).length) Slot.unset).toArray = ls at hl ⊢
  have hl : lv_has ls 3 [(0, .ref x), (1, .int (iI i))] := hl
  refine lv_aload_n hx hb dX4_save_0 rfl (lv_at hl 0 rfl) ?_
  refine lv_iload_n hx hb dX4_save_1 rfl (lv_at hl 1 rfl) ?_
  refine iv_vxVv (As := [.int (iI i)]) (rest := []) (C := RX4) (n := 1) ⟨hx, hb, hml, hown, hts⟩ (c_X4_checkSlot l hla D yI yC yD x tx nw tr kn me sl fs i (by assumption) _) (cwV 1 hts gX4_save_X4_checkSlot rfl rfl rfl (by decide +kernel) ⟨Nat.le_of_ble_eq_true rfl, Nat.le_of_ble_eq_true rfl⟩) hK hP hD hS hA hB [0, 3] (by decide) rfl 0 rfl rfl rfl hl.1 rfl (Nat.le_of_ble_eq_true rfl) dX4_save_2 ⟨Nat.le_of_ble_eq_true rfl, Nat.le_of_ble_eq_true rfl⟩ (fun _ => rfl) (fun _ => rfl) (fun E9 ce9 q9 ux H locs hxe hP hD hS hc9 hv9 hcl9 => ?_) (fun u2 H locs hw2 hP hD hS => ?_)
  · exact iv_out hno hlocks hc9 hv9 hcl9 hS () (by exact hP) (hxe) (Nat.le_of_ble_eq_true rfl) (Nat.le_of_ble_eq_true rfl)
  have hps9_2 := hw2
  have hP : va_P D vwCl [(x, oRD tx nw tr kn me sl), (nw, oDrv nc S (lN (kL (S) 0 40))), (nc, aI yI 48 g), (sl, aD yD 2 fs), (q, oDrv qc Sq kq), (qc, aI yI 48 gq)] H := hP
  have hD : va_D A [(x, oRD tx nw tr kn me sl), (nw, oDrv nc S (lN (kL (S) 0 40))), (nc, aI yI 48 g), (sl, aD yD 2 fs), (q, oDrv qc Sq kq), (qc, aI yI 48 gq)] := hD
  refine lv_aload_n hx hb dX4_save_5 rfl (lv_at hl 0 rfl) ?_
  refine va_get (D := D) (ci := 4) (v := .ref sl) (C := RX4) (T := TX4) (N := 6) hx hb hts hinX4 hown hK hP 0 rfl rfl 5 (by decide) hf40 (fun _ h9 => h9) rfl dX4_save_6 ?_
  refine lv_iload_n hx hb dX4_save_9 rfl (lv_at hl 1 rfl) ?_
  refine va_aldq hx hb hK hP 3 2 rfl rfl (iI_in (by omega) (by omega) (by omega)) dX4_save_10 ?_
  rw [iI_cl (by omega), hf, rf_s]
  refine lv_astore_n (lv' := [(2, .ref q), (0, .ref x), (1, .int (iI i))]) hx hb dX4_save_11 rfl hl (by decide) rfl (fun ls hl => ?_)
  refine lv_aload_n hx hb dX4_save_12 rfl (lv_at hl 0 rfl) ?_
  refine lv_ifnonnull (tgt := 31) hx hb dX4_save_13 (by decide) ?_
  refine lv_aload_n hx hb dX4_save_31 rfl (lv_at hl 0 rfl) ?_
  refine lv_aload_n hx hb dX4_save_32 rfl (lv_at hl 1 rfl) ?_
  refine va_get (D := D) (ci := 4) (v := .ref nw) (C := RX4) (T := TX4) (N := 6) hx hb hts hinX4 hown hK hP 0 rfl rfl 1 (by decide) hf19 (fun _ h9 => h9) rfl dX4_save_33 ?_
  refine iv_rwVv (As := [.ref nw]) (rest := []) (C := RX0) (n := 1) ⟨hx, hb, hml, hown, hts⟩ (c_X0_takeFrom l D yI yC yD q qc Sq gq kq nw nc S g (lN (kL (S) 0 40))  _) (cwV 1 hts gX4_save_X0_takeFrom rfl rfl rfl (by decide +kernel) ⟨Nat.le_of_ble_eq_true rfl, Nat.le_of_ble_eq_true rfl⟩) hK hP hD hS hA [4, 5, 1, 2] (by decide) rfl 4 rfl rfl rfl hl.1 rfl (Nat.le_of_ble_eq_true rfl) dX4_save_36 ⟨Nat.le_of_ble_eq_true rfl, Nat.le_of_ble_eq_true rfl⟩ (fun _ => rfl) (fun u36 H locs hw36 hP hD hS => ?_)
  have hP : va_P D vwCl [(x, oRD tx nw tr kn me sl), (nw, oDrv nc S (lN (kL (S) 0 40))), (nc, aI yI 48 g), (sl, aD yD 2 fs), (q, oDrv qc S (lN (kL (S) 0 40))), (qc, aI yI 48 g)] H := hP
  have hD : va_D A [(x, oRD tx nw tr kn me sl), (nw, oDrv nc S (lN (kL (S) 0 40))), (nc, aI yI 48 g), (sl, aD yD 2 fs), (q, oDrv qc S (lN (kL (S) 0 40))), (qc, aI yI 48 g)] := hD
  refine lv_aload_n hx hb dX4_save_39 rfl (lv_at hl 1 rfl) ?_
  refine va_get (D := D) (ci := 4) (v := .ref nw) (C := RX4) (T := TX4) (N := 6) hx hb hts hinX4 hown hK hP 0 rfl rfl 1 (by decide) hf19 (fun _ h9 => h9) rfl dX4_save_40 ?_
  refine va_get (D := D) (ci := 0) (v := .int (iI (S 4))) (C := RX0) (T := TX0) (N := 10) hx hb hts hinX0 hown hK hP 1 rfl rfl 4 (by decide) hf107 (fun _ h9 => h9) rfl dX4_save_43 ?_
  have hP9 : va_P D vwCl [(x, oRD tx nw tr kn me sl), (nw, oDrv nc S (lN (kL (S) 0 40))), (nc, aI yI 48 g), (sl, aD yD 2 fs), (q, oDrv qc S (lN (kL (S) 0 40))), (qc, aI yI 48 g)] _ := hP.sub [0, 1, 2, 3, 4, 5] rfl
  refine W.widen (k := 8) (n := 150) (Nat.le_of_ble_eq_true rfl) (Nat.le_of_ble_eq_true rfl) ?_
  refine vx_ret ?_
  exact W.iret hx hb hr (fun t ht hW => ⟨⟨iI (S 4), (), rfl, ⟨rfl, (by exact hps9_2)⟩, by show va_P D vwCl _ t.heap; rw [ht]; exact hP9⟩, hS.F ht⟩) hS.2.2 dX4_save_46
set_option maxHeartbeats 4000000 in
set_option maxRecDepth 100000 in
theorem c_X4_restore_n (l : Launch) (hla : l.stackTraces = false) (D : va_G) (yI yC yD : ClassId) (x : Nat) (tx : Nat) (nw : Nat) (tr : Nat) (kn : Nat) (me : Nat) (sl : Nat) (nc : Nat) (S : Int → Int) (g : Int → Int) (rg : Nat) (f : Nat → Option Nat) (nx : Int) (ct : Int) (fs : Nat → Option Nat) (i : Int) (hi9 : inR i) (hf : 0 ≤ i ∧ i < 2 → fs i.toNat = none) (sz : Nat) : vx_Met l yX4_restore wsX4_restore ({ frames := 7, cells := 8, slots := 150, locals := 103 }) (vxP [.ref x, .int (iI i)] D (tyz yI yC yD) [(x, oRD tx nw tr kn me sl), (nw, oDrv nc S (lN (kL (S) 0 40))), (nc, aI yI 48 g), (me, oMem rg nx ct), (rg, aD yD 14 f), (sl, aD yD 2 fs)] sz) (va_Qi (fun (r : Int32) (_ : Unit) => r = iI 0 ∧ False) (fun (_ : Unit) (t : State) => va_P D vwCl [(x, oRD tx nw tr kn me sl), (nw, oDrv nc S (lN (kL (S) 0 40))), (nc, aI yI 48 g), (me, oMem rg nx ct), (rg, aD yD 14 f), (sl, aD yD 2 fs)] t.heap) (va_A [(x, oRD tx nw tr kn me sl), (nw, oDrv nc S (lN (kL (S) 0 40))), (nc, aI yI 48 g), (me, oMem rg nx ct), (rg, aD yD 14 f), (sl, aD yD 2 fs)] sz)) (vxX D (fun E => (E = eI ∧ ¬ (0 ≤ i ∧ i < 2)) ∨ (E = eS ∧ (0 ≤ i ∧ i < 2))) (fun (_ : Unit) => [(x, oRD tx nw tr kn me sl), (nw, oDrv nc S (lN (kL (S) 0 40))), (nc, aI yI 48 g), (me, oMem rg nx ct), (rg, aD yD 14 f), (sl, aD yD 2 fs)]) (va_A [(x, oRD tx nw tr kn me sl), (nw, oDrv nc S (lN (kL (S) 0 40))), (nc, aI yI 48 g), (me, oMem rg nx ct), (rg, aD yD 14 f), (sl, aD yD 2 fs)] sz)) 8 150 (va_A [(x, oRD tx nw tr kn me sl), (nw, oDrv nc S (lN (kL (S) 0 40))), (nc, aI yI 48 g), (me, oMem rg nx ct), (rg, aD yD 14 f), (sl, aD yD 2 fs)] sz) := by
  refine vx_ofW (cc := cX4_restore) (maxL := 3) (ret := (some .int)) (by decide) rfl ?_
  intro p e s m args below meth c s₁ B hml hno hv
  obtain ⟨rfl, hsz, hP, hK, hD0, hB⟩ := hv
  have hx := B.exec
  have hb := B.bytes
  have hr := B.returns
  have hts := atoms_spec (ws := wsX4_restore) B.pre
  have hown : s.vm.findClass RX4 = some m.cls := findClass_of_methodNamed B.named
  have hlocks := B.notSynchronized
  subst hsz
  have hD := hD0.self (sz := s.heap.size)
  generalize hAe : va_A [(x, oRD tx nw tr kn me sl), (nw, oDrv nc S (lN (kL (S) 0 40))), (nc, aI yI 48 g), (me, oMem rg nx ct), (rg, aD yD 14 f), (sl, aD yD 2 fs)] s.heap.size = A at hD hB ⊢
  have hA : ∀ q : Nat, s.heap.size ≤ q → A q := fun q h => by rw [← hAe]; exact Or.inr h
  have hS : va_S A s.heap s.heap [] := va_S.rf
  have hP : va_P D vwCl [(x, oRD tx nw tr kn me sl), (nw, oDrv nc S (lN (kL (S) 0 40))), (nc, aI yI 48 g), (me, oMem rg nx ct), (rg, aD yD 14 f), (sl, aD yD 2 fs)] s.heap := hP
  have hinX4 : ∀ w ∈ wsX40, w ∈ wsX4_restore := by decide +kernel
  have hf40 : (Cond.fieldLink RX4 40 "RiddleDrive" "slots" "[LRiddleDrive$Drive;").before _ s = true := hts _ (by decide +kernel)
  have hl := lv_entry ([.ref x, .int (iI i)]) (n := 3) (Nat.le_of_ble_eq_true rfl)
  rw [lg_entry_eq]
  generalize (lg_sl ([.ref x, .int (iI i)]) ++ List.replicate (3 - (lg_sl ([.ref x, .int (iI i)])).length) Slot.unset).toArray = ls at hl ⊢
  have hl : lv_has ls 3 [(0, .ref x), (1, .int (iI i))] := hl
  refine lv_aload_n hx hb dX4_restore_0 rfl (lv_at hl 0 rfl) ?_
  refine lv_iload_n hx hb dX4_restore_1 rfl (lv_at hl 1 rfl) ?_
  refine iv_vxVv (As := [.int (iI i)]) (rest := []) (C := RX4) (n := 1) ⟨hx, hb, hml, hown, hts⟩ (c_X4_checkSlot l hla D yI yC yD x tx nw tr kn me sl fs i (by assumption) _) (cwV 1 hts gX4_restore_X4_checkSlot rfl rfl rfl (by decide +kernel) ⟨Nat.le_of_ble_eq_true rfl, Nat.le_of_ble_eq_true rfl⟩) hK hP hD hS hA hB [0, 5] (by decide) rfl 0 rfl rfl rfl hl.1 rfl (Nat.le_of_ble_eq_true rfl) dX4_restore_2 ⟨Nat.le_of_ble_eq_true rfl, Nat.le_of_ble_eq_true rfl⟩ (fun _ => rfl) (fun _ => rfl) (fun E9 ce9 q9 ux H locs hxe hP hD hS hc9 hv9 hcl9 => ?_) (fun u2 H locs hw2 hP hD hS => ?_)
  · exact iv_out hno hlocks hc9 hv9 hcl9 hS () (by exact hP) (Or.inl hxe) (Nat.le_of_ble_eq_true rfl) (Nat.le_of_ble_eq_true rfl)
  have hps9_2 := hw2
  have hP : va_P D vwCl [(x, oRD tx nw tr kn me sl), (nw, oDrv nc S (lN (kL (S) 0 40))), (nc, aI yI 48 g), (me, oMem rg nx ct), (rg, aD yD 14 f), (sl, aD yD 2 fs)] H := hP
  have hD : va_D A [(x, oRD tx nw tr kn me sl), (nw, oDrv nc S (lN (kL (S) 0 40))), (nc, aI yI 48 g), (me, oMem rg nx ct), (rg, aD yD 14 f), (sl, aD yD 2 fs)] := hD
  refine lv_aload_n hx hb dX4_restore_5 rfl (lv_at hl 0 rfl) ?_
  refine va_get (D := D) (ci := 4) (v := .ref sl) (C := RX4) (T := TX4) (N := 6) hx hb hts hinX4 hown hK hP 0 rfl rfl 5 (by decide) hf40 (fun _ h9 => h9) rfl dX4_restore_6 ?_
  refine lv_iload_n hx hb dX4_restore_9 rfl (lv_at hl 1 rfl) ?_
  refine va_aldq hx hb hK hP 5 2 rfl rfl (iI_in (by omega) (by omega) (by omega)) dX4_restore_10 ?_
  rw [iI_cl (by omega), hf hps9_2, rf_n]
  refine lv_astore_nN (lv' := [(2, .null), (0, .ref x), (1, .int (iI i))]) hx hb dX4_restore_11 rfl hl (by decide) rfl (fun ls hl => ?_)
  refine lv_aload_nN hx hb dX4_restore_12 rfl (lv_at hl 0 rfl) ?_
  refine lv_ifnonnullN hx hb dX4_restore_13 ?_
  exact iv_thrG (ic := 63) (ik := 59) (is := 244) (cls := eS) (text := "nothing is saved") hx hb hla hown bfS xfS xgS hB.1.2.1 hts (fun w h => List.mem_cons_of_mem _ (List.mem_append_left _ (List.mem_append_right _ h))) (by decide +kernel) (by decide +kernel) hB hS (()) (by exact hP) (Or.inr ⟨rfl, hps9_2⟩) (hl.1.trans hml.symm) hlocks hno (by decide +kernel) ⟨Nat.le_of_ble_eq_true rfl, Nat.le_of_ble_eq_true rfl, Nat.le_of_ble_eq_true rfl, Nat.le_of_ble_eq_true rfl⟩ (Nat.le_of_ble_eq_true rfl) (Nat.le_of_ble_eq_true rfl) dX4_restore_16 dX4_restore_19 (Or.inl ⟨dX4_restore_20, dX4_restore_22, dX4_restore_25⟩)
set_option maxHeartbeats 4000000 in
set_option maxRecDepth 100000 in
theorem c_X4_restore_y (l : Launch) (hla : l.stackTraces = false) (D : va_G) (yI yC yD : ClassId) (x : Nat) (tx : Nat) (nw : Nat) (tr : Nat) (kn : Nat) (me : Nat) (sl : Nat) (nc : Nat) (S : Int → Int) (g : Int → Int) (rg : Nat) (f : Nat → Option Nat) (nx : Int) (ct : Int) (fs : Nat → Option Nat) (i : Int) (q : Nat) (qc : Nat) (Sq : Int → Int) (gq : Int → Int) (kq : Int64) (hi9 : inR i) (hf : fs i.toNat = some q) (sz : Nat) : vx_Met l yX4_restore wsX4_restore ({ frames := 7, cells := 8, slots := 150, locals := 103 }) (vxP [.ref x, .int (iI i)] D (tyz yI yC yD) [(x, oRD tx nw tr kn me sl), (nw, oDrv nc S (lN (kL (S) 0 40))), (nc, aI yI 48 g), (me, oMem rg nx ct), (rg, aD yD 14 f), (sl, aD yD 2 fs), (q, oDrv qc Sq kq), (qc, aI yI 48 gq)] sz) (va_Qi (fun (r : Int32) (_ : Unit) => r = iI (Sq 4) ∧ 0 ≤ i ∧ i < 2) (fun (_ : Unit) (t : State) => va_P D vwCl [(x, oRD tx nw tr kn me sl), (nw, oDrv nc Sq kq), (nc, aI yI 48 gq), (me, oMem rg nx 0), (rg, aD yD 14 f), (sl, aD yD 2 fs), (q, oDrv qc Sq kq), (qc, aI yI 48 gq)] t.heap) (va_A [(x, oRD tx nw tr kn me sl), (nw, oDrv nc S (lN (kL (S) 0 40))), (nc, aI yI 48 g), (me, oMem rg nx ct), (rg, aD yD 14 f), (sl, aD yD 2 fs), (q, oDrv qc Sq kq), (qc, aI yI 48 gq)] sz)) (vxX D (fun E => E = eI ∧ ¬ (0 ≤ i ∧ i < 2)) (fun (_ : Unit) => [(x, oRD tx nw tr kn me sl), (nw, oDrv nc S (lN (kL (S) 0 40))), (nc, aI yI 48 g), (me, oMem rg nx ct), (rg, aD yD 14 f), (sl, aD yD 2 fs), (q, oDrv qc Sq kq), (qc, aI yI 48 gq)]) (va_A [(x, oRD tx nw tr kn me sl), (nw, oDrv nc S (lN (kL (S) 0 40))), (nc, aI yI 48 g), (me, oMem rg nx ct), (rg, aD yD 14 f), (sl, aD yD 2 fs), (q, oDrv qc Sq kq), (qc, aI yI 48 gq)] sz)) 8 150 (va_A [(x, oRD tx nw tr kn me sl), (nw, oDrv nc S (lN (kL (S) 0 40))), (nc, aI yI 48 g), (me, oMem rg nx ct), (rg, aD yD 14 f), (sl, aD yD 2 fs), (q, oDrv qc Sq kq), (qc, aI yI 48 gq)] sz) := by
  refine vx_ofW (cc := cX4_restore) (maxL := 3) (ret := (some .int)) (by decide) rfl ?_
  intro p e s m args below meth c s₁ B hml hno hv
  obtain ⟨rfl, hsz, hP, hK, hD0, hB⟩ := hv
  have hx := B.exec
  have hb := B.bytes
  have hr := B.returns
  have hts := atoms_spec (ws := wsX4_restore) B.pre
  have hown : s.vm.findClass RX4 = some m.cls := findClass_of_methodNamed B.named
  have hlocks := B.notSynchronized
  subst hsz
  have hD := hD0.self (sz := s.heap.size)
  generalize hAe : va_A [(x, oRD tx nw tr kn me sl), (nw, oDrv nc S (lN (kL (S) 0 40))), (nc, aI yI 48 g), (me, oMem rg nx ct), (rg, aD yD 14 f), (sl, aD yD 2 fs), (q, oDrv qc Sq kq), (qc, aI yI 48 gq)] s.heap.size = A at hD hB ⊢
  have hA : ∀ q : Nat, s.heap.size ≤ q → A q := fun q h => by rw [← hAe]; exact Or.inr h
  have hS : va_S A s.heap s.heap [] := va_S.rf
  have hP : va_P D vwCl [(x, oRD tx nw tr kn me sl), (nw, oDrv nc S (lN (kL (S) 0 40))), (nc, aI yI 48 g), (me, oMem rg nx ct), (rg, aD yD 14 f), (sl, aD yD 2 fs), (q, oDrv qc Sq kq), (qc, aI yI 48 gq)] s.heap := hP
  have hinX0 : ∀ w ∈ wsX00, w ∈ wsX4_restore := by decide +kernel
  have hinX4 : ∀ w ∈ wsX40, w ∈ wsX4_restore := by decide +kernel
  have hf19 : (Cond.fieldLink RX4 19 "RiddleDrive" "now" "LRiddleDrive$Drive;").before _ s = true := hts _ (by decide +kernel)
  have hf36 : (Cond.fieldLink RX4 36 "RiddleDrive" "memory" "LRiddleDrive$Memory;").before _ s = true := hts _ (by decide +kernel)
  have hf40 : (Cond.fieldLink RX4 40 "RiddleDrive" "slots" "[LRiddleDrive$Drive;").before _ s = true := hts _ (by decide +kernel)
  have hf107 : (Cond.fieldLink RX4 107 "RiddleDrive$Drive" "answers" "I").before _ s = true := hts _ (by decide +kernel)
  have hl := lv_entry ([.ref x, .int (iI i)]) (n := 3) (Nat.le_of_ble_eq_true rfl)
  rw [lg_entry_eq]
  generalize (lg_sl ([.ref x, .int (iI i)]) ++ List.replicate (3 - (lg_sl ([.ref x, .int (iI i)])).length) Slot.unset).toArray = ls at hl ⊢
  have hl : lv_has ls 3 [(0, .ref x), (1, .int (iI i))] := hl
  refine lv_aload_n hx hb dX4_restore_0 rfl (lv_at hl 0 rfl) ?_
  refine lv_iload_n hx hb dX4_restore_1 rfl (lv_at hl 1 rfl) ?_
  refine iv_vxVv (As := [.int (iI i)]) (rest := []) (C := RX4) (n := 1) ⟨hx, hb, hml, hown, hts⟩ (c_X4_checkSlot l hla D yI yC yD x tx nw tr kn me sl fs i (by assumption) _) (cwV 1 hts gX4_restore_X4_checkSlot rfl rfl rfl (by decide +kernel) ⟨Nat.le_of_ble_eq_true rfl, Nat.le_of_ble_eq_true rfl⟩) hK hP hD hS hA hB [0, 5] (by decide) rfl 0 rfl rfl rfl hl.1 rfl (Nat.le_of_ble_eq_true rfl) dX4_restore_2 ⟨Nat.le_of_ble_eq_true rfl, Nat.le_of_ble_eq_true rfl⟩ (fun _ => rfl) (fun _ => rfl) (fun E9 ce9 q9 ux H locs hxe hP hD hS hc9 hv9 hcl9 => ?_) (fun u2 H locs hw2 hP hD hS => ?_)
  · exact iv_out hno hlocks hc9 hv9 hcl9 hS () (by exact hP) (hxe) (Nat.le_of_ble_eq_true rfl) (Nat.le_of_ble_eq_true rfl)
  have hps9_2 := hw2
  have hP : va_P D vwCl [(x, oRD tx nw tr kn me sl), (nw, oDrv nc S (lN (kL (S) 0 40))), (nc, aI yI 48 g), (me, oMem rg nx ct), (rg, aD yD 14 f), (sl, aD yD 2 fs), (q, oDrv qc Sq kq), (qc, aI yI 48 gq)] H := hP
  have hD : va_D A [(x, oRD tx nw tr kn me sl), (nw, oDrv nc S (lN (kL (S) 0 40))), (nc, aI yI 48 g), (me, oMem rg nx ct), (rg, aD yD 14 f), (sl, aD yD 2 fs), (q, oDrv qc Sq kq), (qc, aI yI 48 gq)] := hD
  refine lv_aload_n hx hb dX4_restore_5 rfl (lv_at hl 0 rfl) ?_
  refine va_get (D := D) (ci := 4) (v := .ref sl) (C := RX4) (T := TX4) (N := 6) hx hb hts hinX4 hown hK hP 0 rfl rfl 5 (by decide) hf40 (fun _ h9 => h9) rfl dX4_restore_6 ?_
  refine lv_iload_n hx hb dX4_restore_9 rfl (lv_at hl 1 rfl) ?_
  refine va_aldq hx hb hK hP 5 2 rfl rfl (iI_in (by omega) (by omega) (by omega)) dX4_restore_10 ?_
  rw [iI_cl (by omega), hf, rf_s]
  refine lv_astore_n (lv' := [(2, .ref q), (0, .ref x), (1, .int (iI i))]) hx hb dX4_restore_11 rfl hl (by decide) rfl (fun ls hl => ?_)
  refine lv_aload_n hx hb dX4_restore_12 rfl (lv_at hl 0 rfl) ?_
  refine lv_ifnonnull (tgt := 26) hx hb dX4_restore_13 (by decide) ?_
  refine lv_aload_n hx hb dX4_restore_26 rfl (lv_at hl 1 rfl) ?_
  refine va_get (D := D) (ci := 4) (v := .ref nw) (C := RX4) (T := TX4) (N := 6) hx hb hts hinX4 hown hK hP 0 rfl rfl 1 (by decide) hf19 (fun _ h9 => h9) rfl dX4_restore_27 ?_
  refine lv_aload_n hx hb dX4_restore_30 rfl (lv_at hl 0 rfl) ?_
  refine iv_rwVv (As := [.ref q]) (rest := []) (C := RX0) (n := 1) ⟨hx, hb, hml, hown, hts⟩ (c_X0_takeFrom l D yI yC yD nw nc S g (lN (kL (S) 0 40)) q qc Sq gq kq  _) (cwV 1 hts gX4_restore_X0_takeFrom rfl rfl rfl (by decide +kernel) ⟨Nat.le_of_ble_eq_true rfl, Nat.le_of_ble_eq_true rfl⟩) hK hP hD hS hA [1, 2, 6, 7] (by decide) rfl 1 rfl rfl rfl hl.1 rfl (Nat.le_of_ble_eq_true rfl) dX4_restore_31 ⟨Nat.le_of_ble_eq_true rfl, Nat.le_of_ble_eq_true rfl⟩ (fun _ => rfl) (fun u31 H locs hw31 hP hD hS => ?_)
  have hP : va_P D vwCl [(x, oRD tx nw tr kn me sl), (nw, oDrv nc Sq kq), (nc, aI yI 48 gq), (me, oMem rg nx ct), (rg, aD yD 14 f), (sl, aD yD 2 fs), (q, oDrv qc Sq kq), (qc, aI yI 48 gq)] H := hP
  have hD : va_D A [(x, oRD tx nw tr kn me sl), (nw, oDrv nc Sq kq), (nc, aI yI 48 gq), (me, oMem rg nx ct), (rg, aD yD 14 f), (sl, aD yD 2 fs), (q, oDrv qc Sq kq), (qc, aI yI 48 gq)] := hD
  refine lv_aload_n hx hb dX4_restore_34 rfl (lv_at hl 1 rfl) ?_
  refine va_get (D := D) (ci := 4) (v := .ref me) (C := RX4) (T := TX4) (N := 6) hx hb hts hinX4 hown hK hP 0 rfl rfl 4 (by decide) hf36 (fun _ h9 => h9) rfl dX4_restore_35 ?_
  refine iv_rwVv (As := []) (rest := []) (C := RX2) (n := 0) ⟨hx, hb, hml, hown, hts⟩ (c_X2_forgetStates l D yI yC yD me rg f nx ct  _) (cwV 0 hts gX4_restore_X2_forgetStates rfl rfl rfl (by decide +kernel) ⟨Nat.le_of_ble_eq_true rfl, Nat.le_of_ble_eq_true rfl⟩) hK hP hD hS hA [3, 4] (by decide) rfl 3 rfl rfl rfl hl.1 rfl (Nat.le_of_ble_eq_true rfl) dX4_restore_38 ⟨Nat.le_of_ble_eq_true rfl, Nat.le_of_ble_eq_true rfl⟩ (fun _ => rfl) (fun u38 H locs hw38 hP hD hS => ?_)
  have hP : va_P D vwCl [(x, oRD tx nw tr kn me sl), (nw, oDrv nc Sq kq), (nc, aI yI 48 gq), (me, oMem rg nx 0), (rg, aD yD 14 f), (sl, aD yD 2 fs), (q, oDrv qc Sq kq), (qc, aI yI 48 gq)] H := hP
  have hD : va_D A [(x, oRD tx nw tr kn me sl), (nw, oDrv nc Sq kq), (nc, aI yI 48 gq), (me, oMem rg nx 0), (rg, aD yD 14 f), (sl, aD yD 2 fs), (q, oDrv qc Sq kq), (qc, aI yI 48 gq)] := hD
  refine lv_aload_n hx hb dX4_restore_41 rfl (lv_at hl 1 rfl) ?_
  refine va_get (D := D) (ci := 4) (v := .ref nw) (C := RX4) (T := TX4) (N := 6) hx hb hts hinX4 hown hK hP 0 rfl rfl 1 (by decide) hf19 (fun _ h9 => h9) rfl dX4_restore_42 ?_
  refine va_get (D := D) (ci := 0) (v := .int (iI (Sq 4))) (C := RX0) (T := TX0) (N := 10) hx hb hts hinX0 hown hK hP 1 rfl rfl 4 (by decide) hf107 (fun _ h9 => h9) rfl dX4_restore_45 ?_
  have hP9 : va_P D vwCl [(x, oRD tx nw tr kn me sl), (nw, oDrv nc Sq kq), (nc, aI yI 48 gq), (me, oMem rg nx 0), (rg, aD yD 14 f), (sl, aD yD 2 fs), (q, oDrv qc Sq kq), (qc, aI yI 48 gq)] _ := hP.sub [0, 1, 2, 3, 4, 5, 6, 7] rfl
  refine W.widen (k := 8) (n := 150) (Nat.le_of_ble_eq_true rfl) (Nat.le_of_ble_eq_true rfl) ?_
  refine vx_ret ?_
  exact W.iret hx hb hr (fun t ht hW => ⟨⟨iI (Sq 4), (), rfl, ⟨rfl, (by exact hps9_2)⟩, by show va_P D vwCl _ t.heap; rw [ht]; exact hP9⟩, hS.F ht⟩) hS.2.2 dX4_restore_48
set_option maxHeartbeats 4000000 in
set_option maxRecDepth 100000 in
theorem c_X4_init (l : Launch) (D : va_G) (yI yC yD : ClassId) (x : Nat)  (sz : Nat) : Met l yX4_init wsX4_init ({ frames := 2, cells := 11, slots := 1922, locals := 32 }) (aoP [.ref x] D (tyz yI yC yD) [(x, .inr (4, [.null, .null, .null, .null, .null, .null]))] sz) (va_Qv (fun (u : Nat × Nat × Nat × Nat × Nat × Nat × Nat × Nat × Nat × Nat × Nat) => match u with | (tx, sg, nw, nc, tr, tc, kn, ex, me, rg, sl) => True) (fun (u : Nat × Nat × Nat × Nat × Nat × Nat × Nat × Nat × Nat × Nat × Nat) (t : State) => match u with | (tx, sg, nw, nc, tr, tc, kn, ex, me, rg, sl) => va_P D vwCl [(x, oRD tx nw tr kn me sl), (tx, oTx sg 0 0 0), (sg, aC yC 100 (fun _ => 0)), (nw, oDrv nc (newS 16) (lN (kL (newS 16) 0 40))), (nc, aI yI 48 (fun _ => 0)), (tr, oDrv tc (fun _ => 0) 0), (tc, aI yI 48 (fun _ => 0)), (kn, oKn 0 ex), (ex, aI yI 1681 (fun _ => 0)), (me, oMem rg 0 0), (rg, aD yD 14 (fun _ => none)), (sl, aD yD 2 (fun _ => none))] t.heap ∧ va_D (va_A [(x, .inr (4, [.null, .null, .null, .null, .null, .null]))] sz) [(x, oRD tx nw tr kn me sl), (tx, oTx sg 0 0 0), (sg, aC yC 100 (fun _ => 0)), (nw, oDrv nc (newS 16) (lN (kL (newS 16) 0 40))), (nc, aI yI 48 (fun _ => 0)), (tr, oDrv tc (fun _ => 0) 0), (tc, aI yI 48 (fun _ => 0)), (kn, oKn 0 ex), (ex, aI yI 1681 (fun _ => 0)), (me, oMem rg 0 0), (rg, aD yD 14 (fun _ => none)), (sl, aD yD 2 (fun _ => none))]) (va_A [(x, .inr (4, [.null, .null, .null, .null, .null, .null]))] sz)) 11 1922 (va_A [(x, .inr (4, [.null, .null, .null, .null, .null, .null]))] sz) := by
  refine Met.ofW (cc := cX4_init) (maxL := 1) (ret := none) (by decide) rfl ?_
  intro p e s m args below meth c s₁ B hml hv
  obtain ⟨rfl, hsz, hP, hK, hD0, hao⟩ := hv
  have hx := B.exec
  have hb := B.bytes
  have hr := B.returns
  have hts := atoms_spec (ws := wsX4_init) B.pre
  have hown : s.vm.findClass RX4 = some m.cls := findClass_of_methodNamed B.named
  have hlocks := B.notSynchronized
  subst hsz
  have hD := hD0.self (sz := s.heap.size)
  have hin : meth.name = "<init>" := (name_of_methodNamed B.named B.method).1
  generalize hAe : va_A [(x, .inr (4, [.null, .null, .null, .null, .null, .null]))] s.heap.size = A at hD ⊢
  have hA : ∀ q : Nat, s.heap.size ≤ q → A q := fun q h => by rw [← hAe]; exact Or.inr h
  have hS : va_S A s.heap s.heap [] := va_S.rf
  have hP : va_P D vwCl [(x, .inr (4, [.null, .null, .null, .null, .null, .null]))] s.heap := hP
  have hinX0 : ∀ w ∈ wsX00, w ∈ wsX4_init := by decide +kernel
  have hinX1 : ∀ w ∈ wsX10, w ∈ wsX4_init := by decide +kernel
  have hinX2 : ∀ w ∈ wsX20, w ∈ wsX4_init := by decide +kernel
  have hinX3 : ∀ w ∈ wsX30, w ∈ wsX4_init := by decide +kernel
  have hinX4 : ∀ w ∈ wsX40, w ∈ wsX4_init := by decide +kernel
  have hf10 : (Cond.fieldLink RX4 10 "RiddleDrive" "text" "LRiddleDrive$Text;").before _ s = true := hts _ (by decide +kernel)
  have hf19 : (Cond.fieldLink RX4 19 "RiddleDrive" "now" "LRiddleDrive$Drive;").before _ s = true := hts _ (by decide +kernel)
  have hf23 : (Cond.fieldLink RX4 23 "RiddleDrive" "trial" "LRiddleDrive$Drive;").before _ s = true := hts _ (by decide +kernel)
  have hf29 : (Cond.fieldLink RX4 29 "RiddleDrive" "knowledge" "LRiddleDrive$Knowledge;").before _ s = true := hts _ (by decide +kernel)
  have hf36 : (Cond.fieldLink RX4 36 "RiddleDrive" "memory" "LRiddleDrive$Memory;").before _ s = true := hts _ (by decide +kernel)
  have hf40 : (Cond.fieldLink RX4 40 "RiddleDrive" "slots" "[LRiddleDrive$Drive;").before _ s = true := hts _ (by decide +kernel)
  have hl := lv_entry ([.ref x]) (n := 1) (Nat.le_of_ble_eq_true rfl)
  rw [lg_entry_eq]
  generalize (lg_sl ([.ref x]) ++ List.replicate (1 - (lg_sl ([.ref x])).length) Slot.unset).toArray = ls at hl ⊢
  have hl : lv_has ls 1 [(0, .ref x)] := hl
  refine lv_aload_n hx hb dX4_init_0 rfl (lv_at hl 0 rfl) ?_
  refine W.objInit hx hb hown (hts (.methodLink RX4 1 objectInit) (by decide +kernel)) (hts (.instanceMethod objectInit) (by decide +kernel)) (hts (.code objectInit ⟨#[0xb1]⟩ 1 none) (by decide +kernel)) rfl (by rw [hml]; exact hl.1) rfl dX4_init_1 (Nat.le_of_ble_eq_true rfl) (Nat.le_of_ble_eq_true rfl) ?_
  refine lv_aload_n hx hb dX4_init_4 rfl (lv_at hl 0 rfl) ?_
  refine iv_newN (C := RX3) (T := TX3) (N := 4) (ci := 3) (raw := rawX3) (wp := fun q (dc : Nat) => [(q, oTx dc 0 0 0), (dc, aC yC 100 (fun _ => 0))]) ⟨hx, hb, hml, hown, hts⟩ hinX3 tyX3 tyX3_ok (hts (.classLink RX4 7 RX3) (by decide +kernel)) (hts (.instantiable RX3 4) (by decide +kernel)) (hts (.initialized RX3) (by decide +kernel)) rfl dfX3 (fun q9 sz9 => c_X3_init l D yI yC yD q9  sz9) ⟨va_cnB 0 hts gX4_init_X3_init_n9 rfl rfl rfl hao.1 (hts (.initialized RX3) (by decide +kernel)) (by decide +kernel) ⟨Nat.le_of_ble_eq_true rfl, Nat.le_of_ble_eq_true rfl⟩, rfl, hts (.instanceMethod yX3_init) (by decide +kernel)⟩ hK hP hD hS hA hl.1 dX4_init_5 dX4_init_8 dX4_init_9 (Nat.le_of_ble_eq_true rfl) ⟨Nat.le_of_ble_eq_true rfl, Nat.le_of_ble_eq_true rfl⟩ (fun tx sg H locs hP hD hS => ?_)
  have hP : va_P D vwCl [(x, .inr (4, [.null, .null, .null, .null, .null, .null])), (tx, oTx sg 0 0 0), (sg, aC yC 100 (fun _ => 0))] H := hP
  have hD : va_D A [(x, .inr (4, [.null, .null, .null, .null, .null, .null])), (tx, oTx sg 0 0 0), (sg, aC yC 100 (fun _ => 0))] := hD
  refine va_putF (D := D) (ci := 4) (v := .ref tx) (ty := (.object "RiddleDrive$Text")) (C := RX4) (T := TX4) (N := 6) hx hb hts hinX4 tyX4 tyX4_ok nmX4 hown hK hP hD hS 0 rfl rfl 0 (by decide) hf10 (fun _ h9 => h9) rfl hin rfl (by decide +kernel) rfl rfl (Nat.le_of_ble_eq_true rfl) dX4_init_12 (fun H locs hP hD hS => ?_)
  have hP : va_P D vwCl [(x, .inr (4, [.ref tx, .null, .null, .null, .null, .null])), (tx, oTx sg 0 0 0), (sg, aC yC 100 (fun _ => 0))] H := hP
  have hD : va_D A [(x, .inr (4, [.ref tx, .null, .null, .null, .null, .null])), (tx, oTx sg 0 0 0), (sg, aC yC 100 (fun _ => 0))] := hD
  refine lv_aload_n hx hb dX4_init_15 rfl (lv_at hl 0 rfl) ?_
  refine iv_newN (C := RX0) (T := TX0) (N := 10) (ci := 0) (raw := rawX0) (wp := fun q (dc : Nat) => [(q, oDrv dc (fun _ => 0) 0), (dc, aI yI 48 (fun _ => 0))]) ⟨hx, hb, hml, hown, hts⟩ hinX0 tyX0 tyX0_ok (hts (.classLink RX4 16 RX0) (by decide +kernel)) (hts (.instantiable RX0 10) (by decide +kernel)) (hts (.initialized RX0) (by decide +kernel)) rfl dfX0 (fun q9 sz9 => c_X0_init l D yI yC yD q9  sz9) ⟨va_cnB 0 hts gX4_init_X0_init_n18 rfl rfl rfl hao.2.1 (hts (.initialized RX0) (by decide +kernel)) (by decide +kernel) ⟨Nat.le_of_ble_eq_true rfl, Nat.le_of_ble_eq_true rfl⟩, rfl, hts (.instanceMethod yX0_init) (by decide +kernel)⟩ hK hP hD hS hA hl.1 dX4_init_16 dX4_init_19 dX4_init_20 (Nat.le_of_ble_eq_true rfl) ⟨Nat.le_of_ble_eq_true rfl, Nat.le_of_ble_eq_true rfl⟩ (fun nw nc H locs hP hD hS => ?_)
  have hP : va_P D vwCl [(x, .inr (4, [.ref tx, .null, .null, .null, .null, .null])), (tx, oTx sg 0 0 0), (sg, aC yC 100 (fun _ => 0)), (nw, oDrv nc (fun _ => 0) 0), (nc, aI yI 48 (fun _ => 0))] H := hP
  have hD : va_D A [(x, .inr (4, [.ref tx, .null, .null, .null, .null, .null])), (tx, oTx sg 0 0 0), (sg, aC yC 100 (fun _ => 0)), (nw, oDrv nc (fun _ => 0) 0), (nc, aI yI 48 (fun _ => 0))] := hD
  refine va_putF (D := D) (ci := 4) (v := .ref nw) (ty := (.object "RiddleDrive$Drive")) (C := RX4) (T := TX4) (N := 6) hx hb hts hinX4 tyX4 tyX4_ok nmX4 hown hK hP hD hS 0 rfl rfl 1 (by decide) hf19 (fun _ h9 => h9) rfl hin rfl (by decide +kernel) rfl rfl (Nat.le_of_ble_eq_true rfl) dX4_init_23 (fun H locs hP hD hS => ?_)
  have hP : va_P D vwCl [(x, .inr (4, [.ref tx, .ref nw, .null, .null, .null, .null])), (tx, oTx sg 0 0 0), (sg, aC yC 100 (fun _ => 0)), (nw, oDrv nc (fun _ => 0) 0), (nc, aI yI 48 (fun _ => 0))] H := hP
  have hD : va_D A [(x, .inr (4, [.ref tx, .ref nw, .null, .null, .null, .null])), (tx, oTx sg 0 0 0), (sg, aC yC 100 (fun _ => 0)), (nw, oDrv nc (fun _ => 0) 0), (nc, aI yI 48 (fun _ => 0))] := hD
  refine lv_aload_n hx hb dX4_init_26 rfl (lv_at hl 0 rfl) ?_
  refine iv_newN (C := RX0) (T := TX0) (N := 10) (ci := 0) (raw := rawX0) (wp := fun q (dc : Nat) => [(q, oDrv dc (fun _ => 0) 0), (dc, aI yI 48 (fun _ => 0))]) ⟨hx, hb, hml, hown, hts⟩ hinX0 tyX0 tyX0_ok (hts (.classLink RX4 16 RX0) (by decide +kernel)) (hts (.instantiable RX0 10) (by decide +kernel)) (hts (.initialized RX0) (by decide +kernel)) rfl dfX0 (fun q9 sz9 => c_X0_init l D yI yC yD q9  sz9) ⟨va_cnB 0 hts gX4_init_X0_init_n18 rfl rfl rfl hao.2.1 (hts (.initialized RX0) (by decide +kernel)) (by decide +kernel) ⟨Nat.le_of_ble_eq_true rfl, Nat.le_of_ble_eq_true rfl⟩, rfl, hts (.instanceMethod yX0_init) (by decide +kernel)⟩ hK hP hD hS hA hl.1 dX4_init_27 dX4_init_30 dX4_init_31 (Nat.le_of_ble_eq_true rfl) ⟨Nat.le_of_ble_eq_true rfl, Nat.le_of_ble_eq_true rfl⟩ (fun tr tc H locs hP hD hS => ?_)
  have hP : va_P D vwCl [(x, .inr (4, [.ref tx, .ref nw, .null, .null, .null, .null])), (tx, oTx sg 0 0 0), (sg, aC yC 100 (fun _ => 0)), (nw, oDrv nc (fun _ => 0) 0), (nc, aI yI 48 (fun _ => 0)), (tr, oDrv tc (fun _ => 0) 0), (tc, aI yI 48 (fun _ => 0))] H := hP
  have hD : va_D A [(x, .inr (4, [.ref tx, .ref nw, .null, .null, .null, .null])), (tx, oTx sg 0 0 0), (sg, aC yC 100 (fun _ => 0)), (nw, oDrv nc (fun _ => 0) 0), (nc, aI yI 48 (fun _ => 0)), (tr, oDrv tc (fun _ => 0) 0), (tc, aI yI 48 (fun _ => 0))] := hD
  refine va_putF (D := D) (ci := 4) (v := .ref tr) (ty := (.object "RiddleDrive$Drive")) (C := RX4) (T := TX4) (N := 6) hx hb hts hinX4 tyX4 tyX4_ok nmX4 hown hK hP hD hS 0 rfl rfl 2 (by decide) hf23 (fun _ h9 => h9) rfl hin rfl (by decide +kernel) rfl rfl (Nat.le_of_ble_eq_true rfl) dX4_init_34 (fun H locs hP hD hS => ?_)
  have hP : va_P D vwCl [(x, .inr (4, [.ref tx, .ref nw, .ref tr, .null, .null, .null])), (tx, oTx sg 0 0 0), (sg, aC yC 100 (fun _ => 0)), (nw, oDrv nc (fun _ => 0) 0), (nc, aI yI 48 (fun _ => 0)), (tr, oDrv tc (fun _ => 0) 0), (tc, aI yI 48 (fun _ => 0))] H := hP
  have hD : va_D A [(x, .inr (4, [.ref tx, .ref nw, .ref tr, .null, .null, .null])), (tx, oTx sg 0 0 0), (sg, aC yC 100 (fun _ => 0)), (nw, oDrv nc (fun _ => 0) 0), (nc, aI yI 48 (fun _ => 0)), (tr, oDrv tc (fun _ => 0) 0), (tc, aI yI 48 (fun _ => 0))] := hD
  refine lv_aload_n hx hb dX4_init_37 rfl (lv_at hl 0 rfl) ?_
  refine iv_newN (C := RX1) (T := TX1) (N := 2) (ci := 1) (raw := rawX1) (wp := fun q (dc : Nat) => [(q, oKn 0 dc), (dc, aI yI 1681 (fun _ => 0))]) ⟨hx, hb, hml, hown, hts⟩ hinX1 tyX1 tyX1_ok (hts (.classLink RX4 26 RX1) (by decide +kernel)) (hts (.instantiable RX1 2) (by decide +kernel)) (hts (.initialized RX1) (by decide +kernel)) rfl dfX1 (fun q9 sz9 => c_X1_init l D yI yC yD q9  sz9) ⟨va_cnB 0 hts gX4_init_X1_init_n28 rfl rfl rfl hao.2.2.1 (hts (.initialized RX1) (by decide +kernel)) (by decide +kernel) ⟨Nat.le_of_ble_eq_true rfl, Nat.le_of_ble_eq_true rfl⟩, rfl, hts (.instanceMethod yX1_init) (by decide +kernel)⟩ hK hP hD hS hA hl.1 dX4_init_38 dX4_init_41 dX4_init_42 (Nat.le_of_ble_eq_true rfl) ⟨Nat.le_of_ble_eq_true rfl, Nat.le_of_ble_eq_true rfl⟩ (fun kn ex H locs hP hD hS => ?_)
  have hP : va_P D vwCl [(x, .inr (4, [.ref tx, .ref nw, .ref tr, .null, .null, .null])), (tx, oTx sg 0 0 0), (sg, aC yC 100 (fun _ => 0)), (nw, oDrv nc (fun _ => 0) 0), (nc, aI yI 48 (fun _ => 0)), (tr, oDrv tc (fun _ => 0) 0), (tc, aI yI 48 (fun _ => 0)), (kn, oKn 0 ex), (ex, aI yI 1681 (fun _ => 0))] H := hP
  have hD : va_D A [(x, .inr (4, [.ref tx, .ref nw, .ref tr, .null, .null, .null])), (tx, oTx sg 0 0 0), (sg, aC yC 100 (fun _ => 0)), (nw, oDrv nc (fun _ => 0) 0), (nc, aI yI 48 (fun _ => 0)), (tr, oDrv tc (fun _ => 0) 0), (tc, aI yI 48 (fun _ => 0)), (kn, oKn 0 ex), (ex, aI yI 1681 (fun _ => 0))] := hD
  refine va_putF (D := D) (ci := 4) (v := .ref kn) (ty := (.object "RiddleDrive$Knowledge")) (C := RX4) (T := TX4) (N := 6) hx hb hts hinX4 tyX4 tyX4_ok nmX4 hown hK hP hD hS 0 rfl rfl 3 (by decide) hf29 (fun _ h9 => h9) rfl hin rfl (by decide +kernel) rfl rfl (Nat.le_of_ble_eq_true rfl) dX4_init_45 (fun H locs hP hD hS => ?_)
  have hP : va_P D vwCl [(x, .inr (4, [.ref tx, .ref nw, .ref tr, .ref kn, .null, .null])), (tx, oTx sg 0 0 0), (sg, aC yC 100 (fun _ => 0)), (nw, oDrv nc (fun _ => 0) 0), (nc, aI yI 48 (fun _ => 0)), (tr, oDrv tc (fun _ => 0) 0), (tc, aI yI 48 (fun _ => 0)), (kn, oKn 0 ex), (ex, aI yI 1681 (fun _ => 0))] H := hP
  have hD : va_D A [(x, .inr (4, [.ref tx, .ref nw, .ref tr, .ref kn, .null, .null])), (tx, oTx sg 0 0 0), (sg, aC yC 100 (fun _ => 0)), (nw, oDrv nc (fun _ => 0) 0), (nc, aI yI 48 (fun _ => 0)), (tr, oDrv tc (fun _ => 0) 0), (tc, aI yI 48 (fun _ => 0)), (kn, oKn 0 ex), (ex, aI yI 1681 (fun _ => 0))] := hD
  refine lv_aload_n hx hb dX4_init_48 rfl (lv_at hl 0 rfl) ?_
  refine iv_newNa (C := RX2) (T := TX2) (N := 3) (ci := 2) (raw := rawX2) (wp := fun q (dc : Nat) => [(q, oMem dc 0 0), (dc, aD yD 14 (fun _ => none))]) ⟨hx, hb, hml, hown, hts⟩ hinX2 tyX2 tyX2_ok (hts (.classLink RX4 33 RX2) (by decide +kernel)) (hts (.instantiable RX2 3) (by decide +kernel)) (hts (.initialized RX2) (by decide +kernel)) rfl dfX2 (fun q9 sz9 => c_X2_init l D yI yC yD q9  sz9) ⟨va_cnB 0 hts gX4_init_X2_init_n35 rfl rfl rfl hao.2.2.2.1 (hts (.initialized RX2) (by decide +kernel)) (by decide +kernel) ⟨Nat.le_of_ble_eq_true rfl, Nat.le_of_ble_eq_true rfl⟩, rfl, hts (.instanceMethod yX2_init) (by decide +kernel)⟩ hao hK hP hD hS hA hl.1 dX4_init_49 dX4_init_52 dX4_init_53 (Nat.le_of_ble_eq_true rfl) ⟨Nat.le_of_ble_eq_true rfl, Nat.le_of_ble_eq_true rfl⟩ (fun me rg H locs hP hD hS => ?_)
  have hP : va_P D vwCl [(x, .inr (4, [.ref tx, .ref nw, .ref tr, .ref kn, .null, .null])), (tx, oTx sg 0 0 0), (sg, aC yC 100 (fun _ => 0)), (nw, oDrv nc (fun _ => 0) 0), (nc, aI yI 48 (fun _ => 0)), (tr, oDrv tc (fun _ => 0) 0), (tc, aI yI 48 (fun _ => 0)), (kn, oKn 0 ex), (ex, aI yI 1681 (fun _ => 0)), (me, oMem rg 0 0), (rg, aD yD 14 (fun _ => none))] H := hP
  have hD : va_D A [(x, .inr (4, [.ref tx, .ref nw, .ref tr, .ref kn, .null, .null])), (tx, oTx sg 0 0 0), (sg, aC yC 100 (fun _ => 0)), (nw, oDrv nc (fun _ => 0) 0), (nc, aI yI 48 (fun _ => 0)), (tr, oDrv tc (fun _ => 0) 0), (tc, aI yI 48 (fun _ => 0)), (kn, oKn 0 ex), (ex, aI yI 1681 (fun _ => 0)), (me, oMem rg 0 0), (rg, aD yD 14 (fun _ => none))] := hD
  refine va_putF (D := D) (ci := 4) (v := .ref me) (ty := (.object "RiddleDrive$Memory")) (C := RX4) (T := TX4) (N := 6) hx hb hts hinX4 tyX4 tyX4_ok nmX4 hown hK hP hD hS 0 rfl rfl 4 (by decide) hf36 (fun _ h9 => h9) rfl hin rfl (by decide +kernel) rfl rfl (Nat.le_of_ble_eq_true rfl) dX4_init_56 (fun H locs hP hD hS => ?_)
  have hP : va_P D vwCl [(x, .inr (4, [.ref tx, .ref nw, .ref tr, .ref kn, .ref me, .null])), (tx, oTx sg 0 0 0), (sg, aC yC 100 (fun _ => 0)), (nw, oDrv nc (fun _ => 0) 0), (nc, aI yI 48 (fun _ => 0)), (tr, oDrv tc (fun _ => 0) 0), (tc, aI yI 48 (fun _ => 0)), (kn, oKn 0 ex), (ex, aI yI 1681 (fun _ => 0)), (me, oMem rg 0 0), (rg, aD yD 14 (fun _ => none))] H := hP
  have hD : va_D A [(x, .inr (4, [.ref tx, .ref nw, .ref tr, .ref kn, .ref me, .null])), (tx, oTx sg 0 0 0), (sg, aC yC 100 (fun _ => 0)), (nw, oDrv nc (fun _ => 0) 0), (nc, aI yI 48 (fun _ => 0)), (tr, oDrv tc (fun _ => 0) 0), (tc, aI yI 48 (fun _ => 0)), (kn, oKn 0 ex), (ex, aI yI 1681 (fun _ => 0)), (me, oMem rg 0 0), (rg, aD yD 14 (fun _ => none))] := hD
  refine lv_aload_n hx hb dX4_init_59 rfl (lv_at hl 0 rfl) ?_
  refine lv_iconst (v := iI 2) hx hb dX4_init_60 (by decide +kernel) ?_
  refine iv_newD hx hb hown (hts (.classLink RX4 16 RX0) (by decide +kernel)) hao.2.2.2.2.2 hK hP hD hS hA 2 rfl (N' := 2) (by omega) (Nat.le_of_ble_eq_true rfl) (Nat.le_of_ble_eq_true rfl) dX4_init_61 (fun sl H hP hD hS => ?_)
  have hP : va_P D vwCl [(x, .inr (4, [.ref tx, .ref nw, .ref tr, .ref kn, .ref me, .null])), (tx, oTx sg 0 0 0), (sg, aC yC 100 (fun _ => 0)), (nw, oDrv nc (fun _ => 0) 0), (nc, aI yI 48 (fun _ => 0)), (tr, oDrv tc (fun _ => 0) 0), (tc, aI yI 48 (fun _ => 0)), (kn, oKn 0 ex), (ex, aI yI 1681 (fun _ => 0)), (me, oMem rg 0 0), (rg, aD yD 14 (fun _ => none)), (sl, aD yD 2 (fun _ => none))] H := hP
  have hD : va_D A [(x, .inr (4, [.ref tx, .ref nw, .ref tr, .ref kn, .ref me, .null])), (tx, oTx sg 0 0 0), (sg, aC yC 100 (fun _ => 0)), (nw, oDrv nc (fun _ => 0) 0), (nc, aI yI 48 (fun _ => 0)), (tr, oDrv tc (fun _ => 0) 0), (tc, aI yI 48 (fun _ => 0)), (kn, oKn 0 ex), (ex, aI yI 1681 (fun _ => 0)), (me, oMem rg 0 0), (rg, aD yD 14 (fun _ => none)), (sl, aD yD 2 (fun _ => none))] := hD
  refine va_putF (D := D) (ci := 4) (v := .ref sl) (ty := (.array (.object "RiddleDrive$Drive"))) (C := RX4) (T := TX4) (N := 6) hx hb hts hinX4 tyX4 tyX4_ok nmX4 hown hK hP hD hS 0 rfl rfl 5 (by decide) hf40 (fun _ h9 => h9) rfl hin rfl (by decide +kernel) rfl rfl (Nat.le_of_ble_eq_true rfl) dX4_init_64 (fun H locs hP hD hS => ?_)
  have hP : va_P D vwCl [(x, oRD tx nw tr kn me sl), (tx, oTx sg 0 0 0), (sg, aC yC 100 (fun _ => 0)), (nw, oDrv nc (fun _ => 0) 0), (nc, aI yI 48 (fun _ => 0)), (tr, oDrv tc (fun _ => 0) 0), (tc, aI yI 48 (fun _ => 0)), (kn, oKn 0 ex), (ex, aI yI 1681 (fun _ => 0)), (me, oMem rg 0 0), (rg, aD yD 14 (fun _ => none)), (sl, aD yD 2 (fun _ => none))] H := hP
  have hD : va_D A [(x, oRD tx nw tr kn me sl), (tx, oTx sg 0 0 0), (sg, aC yC 100 (fun _ => 0)), (nw, oDrv nc (fun _ => 0) 0), (nc, aI yI 48 (fun _ => 0)), (tr, oDrv tc (fun _ => 0) 0), (tc, aI yI 48 (fun _ => 0)), (kn, oKn 0 ex), (ex, aI yI 1681 (fun _ => 0)), (me, oMem rg 0 0), (rg, aD yD 14 (fun _ => none)), (sl, aD yD 2 (fun _ => none))] := hD
  refine lv_aload_n hx hb dX4_init_67 rfl (lv_at hl 0 rfl) ?_
  refine va_get (D := D) (ci := 4) (v := .ref nw) (C := RX4) (T := TX4) (N := 6) hx hb hts hinX4 hown hK hP 0 rfl rfl 1 (by decide) hf19 (fun _ h9 => h9) rfl dX4_init_68 ?_
  refine lv_bipush (v := iI 16) hx hb dX4_init_71 (by decide +kernel) ?_
  refine iv_rwVv (As := [.int (iI 16)]) (rest := []) (C := RX0) (n := 1) ⟨hx, hb, hml, hown, hts⟩ (c_X0_makeNew l D yI yC yD nw nc (fun _ => 0) (fun _ => 0) 0 16  _) (cwV 1 hts gX4_init_X0_makeNew rfl rfl rfl (by decide +kernel) ⟨Nat.le_of_ble_eq_true rfl, Nat.le_of_ble_eq_true rfl⟩) hK hP hD hS hA [3, 4] (by decide) rfl 3 rfl rfl rfl hl.1 rfl (Nat.le_of_ble_eq_true rfl) dX4_init_73 ⟨Nat.le_of_ble_eq_true rfl, Nat.le_of_ble_eq_true rfl⟩ (fun _ => rfl) (fun u73 H locs hw73 hP hD hS => ?_)
  have hP : va_P D vwCl [(x, oRD tx nw tr kn me sl), (tx, oTx sg 0 0 0), (sg, aC yC 100 (fun _ => 0)), (nw, oDrv nc (newS 16) (lN (kL (newS 16) 0 40))), (nc, aI yI 48 (fun _ => 0)), (tr, oDrv tc (fun _ => 0) 0), (tc, aI yI 48 (fun _ => 0)), (kn, oKn 0 ex), (ex, aI yI 1681 (fun _ => 0)), (me, oMem rg 0 0), (rg, aD yD 14 (fun _ => none)), (sl, aD yD 2 (fun _ => none))] H := hP
  have hD : va_D A [(x, oRD tx nw tr kn me sl), (tx, oTx sg 0 0 0), (sg, aC yC 100 (fun _ => 0)), (nw, oDrv nc (newS 16) (lN (kL (newS 16) 0 40))), (nc, aI yI 48 (fun _ => 0)), (tr, oDrv tc (fun _ => 0) 0), (tc, aI yI 48 (fun _ => 0)), (kn, oKn 0 ex), (ex, aI yI 1681 (fun _ => 0)), (me, oMem rg 0 0), (rg, aD yD 14 (fun _ => none)), (sl, aD yD 2 (fun _ => none))] := hD
  have hP9 : va_P D vwCl [(x, oRD tx nw tr kn me sl), (tx, oTx sg 0 0 0), (sg, aC yC 100 (fun _ => 0)), (nw, oDrv nc (newS 16) (lN (kL (newS 16) 0 40))), (nc, aI yI 48 (fun _ => 0)), (tr, oDrv tc (fun _ => 0) 0), (tc, aI yI 48 (fun _ => 0)), (kn, oKn 0 ex), (ex, aI yI 1681 (fun _ => 0)), (me, oMem rg 0 0), (rg, aD yD 14 (fun _ => none)), (sl, aD yD 2 (fun _ => none))] _ := hP.sub [0, 1, 2, 3, 4, 5, 6, 7, 8, 9, 10, 11] rfl
  have hD9 : va_D A [(x, oRD tx nw tr kn me sl), (tx, oTx sg 0 0 0), (sg, aC yC 100 (fun _ => 0)), (nw, oDrv nc (newS 16) (lN (kL (newS 16) 0 40))), (nc, aI yI 48 (fun _ => 0)), (tr, oDrv tc (fun _ => 0) 0), (tc, aI yI 48 (fun _ => 0)), (kn, oKn 0 ex), (ex, aI yI 1681 (fun _ => 0)), (me, oMem rg 0 0), (rg, aD yD 14 (fun _ => none)), (sl, aD yD 2 (fun _ => none))] := hD.sub [0, 1, 2, 3, 4, 5, 6, 7, 8, 9, 10, 11] (by decide) rfl
  exact W.vret hx hb hr (fun t ht hW => ⟨⟨(tx, sg, nw, nc, tr, tc, kn, ex, me, rg, sl), rfl, trivial, ⟨by show va_P D vwCl _ t.heap; rw [ht]; exact hP9, hD9⟩⟩, hS.F ht⟩) hS.2.2 dX4_init_76
