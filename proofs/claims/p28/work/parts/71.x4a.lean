set_option maxHeartbeats 4000000 in
set_option maxRecDepth 100000 in
theorem c_X4_checkPlace (l : Launch) (hla : l.stackTraces = false) (D : va_G) (yI yC yD : ClassId) (x : Nat) (tx : Nat) (nw : Nat) (tr : Nat) (kn : Nat) (me : Nat) (sl : Nat) (nc : Nat) (S : Int → Int) (g : Int → Int) (i : Int) (hI : Inv S) (hi9 : inR i) (sz : Nat) : vx_Met l yX4_checkPlace wsX4_checkPlace ({ frames := 6, cells := 1, slots := 6, locals := 82 }) (vxP [.ref x, .int (iI i)] D (tyz yI yC yD) [(x, oRD tx nw tr kn me sl), (nw, oDrv nc S (lN (kL (S) 0 40))), (nc, aI yI 48 g)] sz) (va_Qv (fun (_ : Unit) => 0 ≤ i ∧ i < S 0) (fun (_ : Unit) (t : State) => va_P D vwCl [(x, oRD tx nw tr kn me sl), (nw, oDrv nc S (lN (kL (S) 0 40))), (nc, aI yI 48 g)] t.heap) (va_A [(x, oRD tx nw tr kn me sl), (nw, oDrv nc S (lN (kL (S) 0 40))), (nc, aI yI 48 g)] sz)) (vxX D (fun E => E = eI ∧ ¬ (0 ≤ i ∧ i < S 0)) (fun (_ : Unit) => [(x, oRD tx nw tr kn me sl), (nw, oDrv nc S (lN (kL (S) 0 40))), (nc, aI yI 48 g)]) (va_A [(x, oRD tx nw tr kn me sl), (nw, oDrv nc S (lN (kL (S) 0 40))), (nc, aI yI 48 g)] sz)) 1 6 (va_A [(x, oRD tx nw tr kn me sl), (nw, oDrv nc S (lN (kL (S) 0 40))), (nc, aI yI 48 g)] sz) := by
  refine vx_ofW (cc := cX4_checkPlace) (maxL := 2) (ret := none) (by decide) rfl ?_
  intro p e s m args below meth c s₁ B hml hno hv
  obtain ⟨rfl, hsz, hP, hK, hD0, hB⟩ := hv
  have hx := B.exec
  have hb := B.bytes
  have hr := B.returns
  have hts := atoms_spec (ws := wsX4_checkPlace) B.pre
  have hown : s.vm.findClass RX4 = some m.cls := findClass_of_methodNamed B.named
  have hlocks := B.notSynchronized
  subst hsz
  have hD := hD0.self (sz := s.heap.size)
  generalize hAe : va_A [(x, oRD tx nw tr kn me sl), (nw, oDrv nc S (lN (kL (S) 0 40))), (nc, aI yI 48 g)] s.heap.size = A at hD hB ⊢
  have hA : ∀ q : Nat, s.heap.size ≤ q → A q := fun q h => by rw [← hAe]; exact Or.inr h
  have hS : va_S A s.heap s.heap [] := va_S.rf
  have hP : va_P D vwCl [(x, oRD tx nw tr kn me sl), (nw, oDrv nc S (lN (kL (S) 0 40))), (nc, aI yI 48 g)] s.heap := hP
  have hinX4 : ∀ w ∈ wsX40, w ∈ wsX4_checkPlace := by decide +kernel
  have hf19 : (Cond.fieldLink RX4 19 "RiddleDrive" "now" "LRiddleDrive$Drive;").before _ s = true := hts _ (by decide +kernel)
  have hl := lv_entry ([.ref x, .int (iI i)]) (n := 2) (Nat.le_of_ble_eq_true rfl)
  rw [lg_entry_eq]
  generalize (lg_sl ([.ref x, .int (iI i)]) ++ List.replicate (2 - (lg_sl ([.ref x, .int (iI i)])).length) Slot.unset).toArray = ls at hl ⊢
  have hl : lv_has ls 2 [(0, .ref x), (1, .int (iI i))] := hl
  have hpl := hI.pl
  have hna := hI.na
  have hse := hI.se
  have hwi := hI.wi
  have hfe := hI.fe
  refine lv_aload_n hx hb dX4_checkPlace_0 rfl (lv_at hl 0 rfl) ?_
  refine va_get (D := D) (ci := 4) (v := .ref nw) (C := RX4) (T := TX4) (N := 6) hx hb hts hinX4 hown hK hP 0 rfl rfl 1 (by decide) hf19 (fun _ h9 => h9) rfl dX4_checkPlace_1 ?_
  refine lv_iload_n hx hb dX4_checkPlace_4 rfl (lv_at hl 1 rfl) ?_
  refine iv_roV (As := [.int (iI i)]) (rest := []) (C := RX0) (n := 1) ⟨hx, hb, hml, hown, hts⟩ (c_X0_isPlace l D yI yC yD nw nc S g (lN (kL (S) 0 40)) i (by omega) (by omega)) (cwV 1 hts gX4_checkPlace_X0_isPlace rfl rfl rfl (by decide +kernel) ⟨Nat.le_of_ble_eq_true rfl, Nat.le_of_ble_eq_true rfl⟩) hK hP [1, 2] rfl 1 rfl rfl rfl hl.1 rfl (Nat.le_of_ble_eq_true rfl) dX4_checkPlace_5 ⟨Nat.le_of_ble_eq_true rfl, Nat.le_of_ble_eq_true rfl⟩ ?_
  refine iv_ifb_ne (P := 0 ≤ i ∧ i < S 0) (tgt := 21) hx hb dX4_checkPlace_8 (by decide) (fun c8 => ?_) (fun c8 => ?_)
  · have hP9 : va_P D vwCl [(x, oRD tx nw tr kn me sl), (nw, oDrv nc S (lN (kL (S) 0 40))), (nc, aI yI 48 g)] _ := hP.sub [0, 1, 2] rfl
    refine W.widen (k := 1) (n := 6) (Nat.le_of_ble_eq_true rfl) (Nat.le_of_ble_eq_true rfl) ?_
    refine vx_ret ?_
    exact W.vret hx hb hr (fun t ht hW => ⟨⟨(), rfl, (by first | assumption | omega), by show va_P D vwCl _ t.heap; rw [ht]; exact hP9⟩, hS.F ht⟩) hS.2.2 dX4_checkPlace_21
  · exact iv_thrG (ic := 253) (ik := 249) (is := 251) (cls := eI) (text := "no such place") hx hb hla hown bfI xfI xgI hB.1.2.2 hts (fun w h => List.mem_cons_of_mem _ (List.mem_append_right _ h)) (by decide +kernel) (by decide +kernel) hB hS (()) (by exact hP) (⟨rfl, by omega⟩) (hl.1.trans hml.symm) hlocks hno (by decide +kernel) ⟨Nat.le_of_ble_eq_true rfl, Nat.le_of_ble_eq_true rfl, Nat.le_of_ble_eq_true rfl, Nat.le_of_ble_eq_true rfl⟩ (Nat.le_of_ble_eq_true rfl) (Nat.le_of_ble_eq_true rfl) dX4_checkPlace_11 dX4_checkPlace_14 (Or.inl ⟨dX4_checkPlace_15, dX4_checkPlace_17, dX4_checkPlace_20⟩)
set_option maxHeartbeats 4000000 in
set_option maxRecDepth 100000 in
theorem c_X4_checkRange (l : Launch) (hla : l.stackTraces = false) (D : va_G) (yI yC yD : ClassId) (x : Nat) (tx : Nat) (nw : Nat) (tr : Nat) (kn : Nat) (me : Nat) (sl : Nat) (nc : Nat) (S : Int → Int) (g : Int → Int) (a : Int) (b : Int) (hI : Inv S) (hab9 : inR a ∧ inR b) (sz : Nat) : vx_Met l yX4_checkRange wsX4_checkRange ({ frames := 7, cells := 3, slots := 18, locals := 103 }) (vxP [.ref x, .int (iI a), .int (iI b)] D (tyz yI yC yD) [(x, oRD tx nw tr kn me sl), (nw, oDrv nc S (lN (kL (S) 0 40))), (nc, aI yI 48 g)] sz) (va_Qv (fun (_ : Unit) => whyR S a b = 0) (fun (_ : Unit) (t : State) => va_P D vwCl [(x, oRD tx nw tr kn me sl), (nw, oDrv nc S (lN (kL (S) 0 40))), (nc, aI yI 48 g)] t.heap) (va_A [(x, oRD tx nw tr kn me sl), (nw, oDrv nc S (lN (kL (S) 0 40))), (nc, aI yI 48 g)] sz)) (vxX D (fun E => (E = eI ∧ whyR S a b = 1) ∨ (E = eA ∧ whyR S a b = 2)) (fun (_ : Unit) => [(x, oRD tx nw tr kn me sl), (nw, oDrv nc S (lN (kL (S) 0 40))), (nc, aI yI 48 g)]) (va_A [(x, oRD tx nw tr kn me sl), (nw, oDrv nc S (lN (kL (S) 0 40))), (nc, aI yI 48 g)] sz)) 3 18 (va_A [(x, oRD tx nw tr kn me sl), (nw, oDrv nc S (lN (kL (S) 0 40))), (nc, aI yI 48 g)] sz) := by
  refine vx_ofW (cc := cX4_checkRange) (maxL := 3) (ret := none) (by decide) rfl ?_
  intro p e s m args below meth c s₁ B hml hno hv
  obtain ⟨rfl, hsz, hP, hK, hD0, hB⟩ := hv
  have hx := B.exec
  have hb := B.bytes
  have hr := B.returns
  have hts := atoms_spec (ws := wsX4_checkRange) B.pre
  have hown : s.vm.findClass RX4 = some m.cls := findClass_of_methodNamed B.named
  have hlocks := B.notSynchronized
  subst hsz
  have hD := hD0.self (sz := s.heap.size)
  generalize hAe : va_A [(x, oRD tx nw tr kn me sl), (nw, oDrv nc S (lN (kL (S) 0 40))), (nc, aI yI 48 g)] s.heap.size = A at hD hB ⊢
  have hA : ∀ q : Nat, s.heap.size ≤ q → A q := fun q h => by rw [← hAe]; exact Or.inr h
  have hS : va_S A s.heap s.heap [] := va_S.rf
  have hP : va_P D vwCl [(x, oRD tx nw tr kn me sl), (nw, oDrv nc S (lN (kL (S) 0 40))), (nc, aI yI 48 g)] s.heap := hP
  have hinX4 : ∀ w ∈ wsX40, w ∈ wsX4_checkRange := by decide +kernel
  have hl := lv_entry ([.ref x, .int (iI a), .int (iI b)]) (n := 3) (Nat.le_of_ble_eq_true rfl)
  rw [lg_entry_eq]
  generalize (lg_sl ([.ref x, .int (iI a), .int (iI b)]) ++ List.replicate (3 - (lg_sl ([.ref x, .int (iI a), .int (iI b)])).length) Slot.unset).toArray = ls at hl ⊢
  have hl : lv_has ls 3 [(0, .ref x), (1, .int (iI a)), (2, .int (iI b))] := hl
  have hpl := hI.pl
  have hna := hI.na
  have hse := hI.se
  have hwi := hI.wi
  have hfe := hI.fe
  refine lv_aload_n hx hb dX4_checkRange_0 rfl (lv_at hl 0 rfl) ?_
  refine lv_iload_n hx hb dX4_checkRange_1 rfl (lv_at hl 1 rfl) ?_
  refine iv_vxVv (As := [.int (iI a)]) (rest := []) (C := RX4) (n := 1) ⟨hx, hb, hml, hown, hts⟩ (c_X4_checkPlace l hla D yI yC yD x tx nw tr kn me sl nc S g a (by assumption) (hab9.1) _) (cwV 1 hts gX4_checkRange_X4_checkPlace rfl rfl rfl (by decide +kernel) ⟨Nat.le_of_ble_eq_true rfl, Nat.le_of_ble_eq_true rfl⟩) hK hP hD hS hA hB [0, 1, 2] (by decide) rfl 0 rfl rfl rfl hl.1 rfl (Nat.le_of_ble_eq_true rfl) dX4_checkRange_2 ⟨Nat.le_of_ble_eq_true rfl, Nat.le_of_ble_eq_true rfl⟩ (fun _ => rfl) (fun _ => rfl) (fun E9 ce9 q9 ux H locs hxe hP hD hS hc9 hv9 hcl9 => ?_) (fun u2 H locs hw2 hP hD hS => ?_)
  · exact iv_out hno hlocks hc9 hv9 hcl9 hS () (by exact hP) (Or.inl ⟨hxe.1, if_pos (Or.inl hxe.2)⟩) (Nat.le_of_ble_eq_true rfl) (Nat.le_of_ble_eq_true rfl)
  have hpl9_2 := hw2
  have hP : va_P D vwCl [(x, oRD tx nw tr kn me sl), (nw, oDrv nc S (lN (kL (S) 0 40))), (nc, aI yI 48 g)] H := hP
  have hD : va_D A [(x, oRD tx nw tr kn me sl), (nw, oDrv nc S (lN (kL (S) 0 40))), (nc, aI yI 48 g)] := hD
  refine lv_aload_n hx hb dX4_checkRange_5 rfl (lv_at hl 0 rfl) ?_
  refine lv_iload_n hx hb dX4_checkRange_6 rfl (lv_at hl 2 rfl) ?_
  refine iv_vxVv (As := [.int (iI b)]) (rest := []) (C := RX4) (n := 1) ⟨hx, hb, hml, hown, hts⟩ (c_X4_checkPlace l hla D yI yC yD x tx nw tr kn me sl nc S g b (by assumption) (hab9.2) _) (cwV 1 hts gX4_checkRange_X4_checkPlace rfl rfl rfl (by decide +kernel) ⟨Nat.le_of_ble_eq_true rfl, Nat.le_of_ble_eq_true rfl⟩) hK hP hD hS hA hB [0, 1, 2] (by decide) rfl 0 rfl rfl rfl hl.1 rfl (Nat.le_of_ble_eq_true rfl) dX4_checkRange_7 ⟨Nat.le_of_ble_eq_true rfl, Nat.le_of_ble_eq_true rfl⟩ (fun _ => rfl) (fun _ => rfl) (fun E9 ce9 q9 ux H locs hxe hP hD hS hc9 hv9 hcl9 => ?_) (fun u7 H locs hw7 hP hD hS => ?_)
  · exact iv_out hno hlocks hc9 hv9 hcl9 hS () (by exact hP) (Or.inl ⟨hxe.1, if_pos (Or.inr hxe.2)⟩) (Nat.le_of_ble_eq_true rfl) (Nat.le_of_ble_eq_true rfl)
  have hpl9_7 := hw7
  have hP : va_P D vwCl [(x, oRD tx nw tr kn me sl), (nw, oDrv nc S (lN (kL (S) 0 40))), (nc, aI yI 48 g)] H := hP
  have hD : va_D A [(x, oRD tx nw tr kn me sl), (nw, oDrv nc S (lN (kL (S) 0 40))), (nc, aI yI 48 g)] := hD
  refine lv_iload_n hx hb dX4_checkRange_10 rfl (lv_at hl 2 rfl) ?_
  refine lv_iload_n hx hb dX4_checkRange_11 rfl (lv_at hl 1 rfl) ?_
  refine iv_icmp_ge (a := b) (b := a) (tgt := 25) hx hb (by omega) (by omega) dX4_checkRange_12 (by decide) (fun c12 => ?_) (fun c12 => ?_)
  · have hP9 : va_P D vwCl [(x, oRD tx nw tr kn me sl), (nw, oDrv nc S (lN (kL (S) 0 40))), (nc, aI yI 48 g)] _ := hP.sub [0, 1, 2] rfl
    refine W.widen (k := 3) (n := 18) (Nat.le_of_ble_eq_true rfl) (Nat.le_of_ble_eq_true rfl) ?_
    refine vx_ret ?_
    exact W.vret hx hb hr (fun t ht hW => ⟨⟨(), rfl, (by exact whyR_0.2 (by omega)), by show va_P D vwCl _ t.heap; rw [ht]; exact hP9⟩, hS.F ht⟩) hS.2.2 dX4_checkRange_25
  · exact iv_thrG (ic := 52) (ik := 48) (is := 254) (cls := eA) (text := "the last place is before the first") hx hb hla hown bfA xfA xgA hB.1.1 hts (fun w h => List.mem_cons_of_mem _ (List.mem_append_left _ (List.mem_append_right _ h))) (by decide +kernel) (by decide +kernel) hB hS (()) (by exact hP) (Or.inr ⟨rfl, (if_neg (by omega)).trans (if_pos (by omega))⟩) (hl.1.trans hml.symm) hlocks hno (by decide +kernel) ⟨Nat.le_of_ble_eq_true rfl, Nat.le_of_ble_eq_true rfl, Nat.le_of_ble_eq_true rfl, Nat.le_of_ble_eq_true rfl⟩ (Nat.le_of_ble_eq_true rfl) (Nat.le_of_ble_eq_true rfl) dX4_checkRange_15 dX4_checkRange_18 (Or.inl ⟨dX4_checkRange_19, dX4_checkRange_21, dX4_checkRange_24⟩)
set_option maxHeartbeats 4000000 in
set_option maxRecDepth 100000 in
theorem c_X4_checkAnswer (l : Launch) (hla : l.stackTraces = false) (D : va_G) (yI yC yD : ClassId) (x : Nat) (tx : Nat) (nw : Nat) (tr : Nat) (kn : Nat) (me : Nat) (sl : Nat) (nc : Nat) (S : Int → Int) (g : Int → Int) (i : Int) (hI : Inv S) (hi9 : inR i) (sz : Nat) : vx_Met l yX4_checkAnswer wsX4_checkAnswer ({ frames := 6, cells := 1, slots := 6, locals := 82 }) (vxP [.ref x, .int (iI i)] D (tyz yI yC yD) [(x, oRD tx nw tr kn me sl), (nw, oDrv nc S (lN (kL (S) 0 40))), (nc, aI yI 48 g)] sz) (va_Qv (fun (_ : Unit) => 0 ≤ i ∧ i < S 4) (fun (_ : Unit) (t : State) => va_P D vwCl [(x, oRD tx nw tr kn me sl), (nw, oDrv nc S (lN (kL (S) 0 40))), (nc, aI yI 48 g)] t.heap) (va_A [(x, oRD tx nw tr kn me sl), (nw, oDrv nc S (lN (kL (S) 0 40))), (nc, aI yI 48 g)] sz)) (vxX D (fun E => E = eI ∧ ¬ (0 ≤ i ∧ i < S 4)) (fun (_ : Unit) => [(x, oRD tx nw tr kn me sl), (nw, oDrv nc S (lN (kL (S) 0 40))), (nc, aI yI 48 g)]) (va_A [(x, oRD tx nw tr kn me sl), (nw, oDrv nc S (lN (kL (S) 0 40))), (nc, aI yI 48 g)] sz)) 1 6 (va_A [(x, oRD tx nw tr kn me sl), (nw, oDrv nc S (lN (kL (S) 0 40))), (nc, aI yI 48 g)] sz) := by
  refine vx_ofW (cc := cX4_checkAnswer) (maxL := 2) (ret := none) (by decide) rfl ?_
  intro p e s m args below meth c s₁ B hml hno hv
  obtain ⟨rfl, hsz, hP, hK, hD0, hB⟩ := hv
  have hx := B.exec
  have hb := B.bytes
  have hr := B.returns
  have hts := atoms_spec (ws := wsX4_checkAnswer) B.pre
  have hown : s.vm.findClass RX4 = some m.cls := findClass_of_methodNamed B.named
  have hlocks := B.notSynchronized
  subst hsz
  have hD := hD0.self (sz := s.heap.size)
  generalize hAe : va_A [(x, oRD tx nw tr kn me sl), (nw, oDrv nc S (lN (kL (S) 0 40))), (nc, aI yI 48 g)] s.heap.size = A at hD hB ⊢
  have hA : ∀ q : Nat, s.heap.size ≤ q → A q := fun q h => by rw [← hAe]; exact Or.inr h
  have hS : va_S A s.heap s.heap [] := va_S.rf
  have hP : va_P D vwCl [(x, oRD tx nw tr kn me sl), (nw, oDrv nc S (lN (kL (S) 0 40))), (nc, aI yI 48 g)] s.heap := hP
  have hinX4 : ∀ w ∈ wsX40, w ∈ wsX4_checkAnswer := by decide +kernel
  have hf19 : (Cond.fieldLink RX4 19 "RiddleDrive" "now" "LRiddleDrive$Drive;").before _ s = true := hts _ (by decide +kernel)
  have hl := lv_entry ([.ref x, .int (iI i)]) (n := 2) (Nat.le_of_ble_eq_true rfl)
  rw [lg_entry_eq]
  generalize (lg_sl ([.ref x, .int (iI i)]) ++ List.replicate (2 - (lg_sl ([.ref x, .int (iI i)])).length) Slot.unset).toArray = ls at hl ⊢
  have hl : lv_has ls 2 [(0, .ref x), (1, .int (iI i))] := hl
  have hpl := hI.pl
  have hna := hI.na
  have hse := hI.se
  have hwi := hI.wi
  have hfe := hI.fe
  refine lv_aload_n hx hb dX4_checkAnswer_0 rfl (lv_at hl 0 rfl) ?_
  refine va_get (D := D) (ci := 4) (v := .ref nw) (C := RX4) (T := TX4) (N := 6) hx hb hts hinX4 hown hK hP 0 rfl rfl 1 (by decide) hf19 (fun _ h9 => h9) rfl dX4_checkAnswer_1 ?_
  refine lv_iload_n hx hb dX4_checkAnswer_4 rfl (lv_at hl 1 rfl) ?_
  refine iv_roV (As := [.int (iI i)]) (rest := []) (C := RX0) (n := 1) ⟨hx, hb, hml, hown, hts⟩ (c_X0_isAnswer l D yI yC yD nw nc S g (lN (kL (S) 0 40)) i (by omega) (by omega)) (cwV 1 hts gX4_checkAnswer_X0_isAnswer rfl rfl rfl (by decide +kernel) ⟨Nat.le_of_ble_eq_true rfl, Nat.le_of_ble_eq_true rfl⟩) hK hP [1, 2] rfl 1 rfl rfl rfl hl.1 rfl (Nat.le_of_ble_eq_true rfl) dX4_checkAnswer_5 ⟨Nat.le_of_ble_eq_true rfl, Nat.le_of_ble_eq_true rfl⟩ ?_
  refine iv_ifb_ne (P := 0 ≤ i ∧ i < S 4) (tgt := 22) hx hb dX4_checkAnswer_8 (by decide) (fun c8 => ?_) (fun c8 => ?_)
  · have hP9 : va_P D vwCl [(x, oRD tx nw tr kn me sl), (nw, oDrv nc S (lN (kL (S) 0 40))), (nc, aI yI 48 g)] _ := hP.sub [0, 1, 2] rfl
    refine W.widen (k := 1) (n := 6) (Nat.le_of_ble_eq_true rfl) (Nat.le_of_ble_eq_true rfl) ?_
    refine vx_ret ?_
    exact W.vret hx hb hr (fun t ht hW => ⟨⟨(), rfl, (by first | assumption | omega), by show va_P D vwCl _ t.heap; rw [ht]; exact hP9⟩, hS.F ht⟩) hS.2.2 dX4_checkAnswer_22
  · exact iv_thrG (ic := 253) (ik := 249) (is := 259) (cls := eI) (text := "no such answer") hx hb hla hown bfI xfI xgI hB.1.2.2 hts (fun w h => List.mem_cons_of_mem _ (List.mem_append_right _ h)) (by decide +kernel) (by decide +kernel) hB hS (()) (by exact hP) (⟨rfl, by omega⟩) (hl.1.trans hml.symm) hlocks hno (by decide +kernel) ⟨Nat.le_of_ble_eq_true rfl, Nat.le_of_ble_eq_true rfl, Nat.le_of_ble_eq_true rfl, Nat.le_of_ble_eq_true rfl⟩ (Nat.le_of_ble_eq_true rfl) (Nat.le_of_ble_eq_true rfl) dX4_checkAnswer_11 dX4_checkAnswer_14 (Or.inr ⟨dX4_checkAnswer_15, dX4_checkAnswer_18, dX4_checkAnswer_21⟩)
set_option maxHeartbeats 4000000 in
set_option maxRecDepth 100000 in
theorem c_X4_isSetting (l : Launch) (D : va_G) (yI yC yD : ClassId) (w : Int) (v : Int) (hw9 : inR w ∧ inR v) : Met l yX4_isSetting wsX4_isSetting ({ frames := 0, cells := 0, slots := 0, locals := 0 }) (roP [.int (iI w), .int (iI v)] D (tyz yI yC yD) []) (QcRead (iI (bI (okS w v)))) 0 0 (fun _ => False) := by
  refine Met.ofW (cc := cX4_isSetting) (maxL := 2) (ret := (some .boolean)) (by decide) rfl ?_
  intro p e s m args below meth c s₁ B hml hv
  obtain ⟨rfl, hP, hK⟩ := hv
  have hx := B.exec
  have hb := B.bytes
  have hr := B.returns
  have hts := atoms_spec (ws := wsX4_isSetting) B.pre
  have hown : s.vm.findClass RX4 = some m.cls := findClass_of_methodNamed B.named
  have hlocks := B.notSynchronized
  have hP : va_P D vwCl [] s.heap := hP
  have hl := lv_entry ([.int (iI w), .int (iI v)]) (n := 2) (Nat.le_of_ble_eq_true rfl)
  rw [lg_entry_eq]
  generalize (lg_sl ([.int (iI w), .int (iI v)]) ++ List.replicate (2 - (lg_sl ([.int (iI w), .int (iI v)])).length) Slot.unset).toArray = ls at hl ⊢
  have hl : lv_has ls 2 [(0, .int (iI w)), (1, .int (iI v))] := hl
  refine lv_iload_n hx hb dX4_isSetting_0 rfl (lv_at hl 0 rfl) ?_
  have hsw : (iI w).toInt = w := iI_toInt (by omega)
  rcases (show w < 0 ∨ 2 < w ∨ w = 0 ∨ w = 1 ∨ w = 2 by omega) with csw | csw | csw | csw | csw
  · refine lv_tableOut (tgt := 76) hx hb dX4_isSetting_1 (by rw [hsw]; exact Or.inl csw) (by decide) ?_
    refine lv_iconst (v := iI 0) hx hb dX4_isSetting_76 (by decide +kernel) ?_
    exact W.zret hx hb hr (by decide +kernel) (fun t ht hW => ⟨congrArg (fun z => Outcome.returned (some (Value.int (iI z)))) (show 0 = bI (okS w v) by first | exact (bI_t (by show _ ∨ _ ∨ _; omega)).symm | exact (bI_f (by show ¬ (_ ∨ _ ∨ _); omega)).symm), ht⟩) (fun q h => by cases h) dX4_isSetting_77
  · refine lv_tableOut (tgt := 76) hx hb dX4_isSetting_1 (by rw [hsw]; exact Or.inr csw) (by decide) ?_
    refine lv_iconst (v := iI 0) hx hb dX4_isSetting_76 (by decide +kernel) ?_
    exact W.zret hx hb hr (by decide +kernel) (fun t ht hW => ⟨congrArg (fun z => Outcome.returned (some (Value.int (iI z)))) (show 0 = bI (okS w v) by first | exact (bI_t (by show _ ∨ _ ∨ _; omega)).symm | exact (bI_f (by show ¬ (_ ∨ _ ∨ _); omega)).symm), ht⟩) (fun q h => by cases h) dX4_isSetting_77
  · refine lv_tableIn (off := 27) (tgt := 28) hx hb dX4_isSetting_1 (by rw [hsw]; omega) (by rw [hsw]; omega) (by rw [hsw, csw]; rfl) (by decide) ?_
    refine lv_iload_n hx hb dX4_isSetting_28 rfl (lv_at hl 1 rfl) ?_
    refine lv_iconst (v := iI 1) hx hb dX4_isSetting_29 (by decide +kernel) ?_
    refine iv_icmp_lt (a := v) (b := 1) (tgt := 43) hx hb (by omega) (by omega) dX4_isSetting_30 (by decide) (fun c30 => ?_) (fun c30 => ?_)
    · refine lv_iconst (v := iI 0) hx hb dX4_isSetting_43 (by decide +kernel) ?_
      exact W.zret hx hb hr (by decide +kernel) (fun t ht hW => ⟨congrArg (fun z => Outcome.returned (some (Value.int (iI z)))) (show 0 = bI (okS w v) by first | exact (bI_t (by show _ ∨ _ ∨ _; omega)).symm | exact (bI_f (by show ¬ (_ ∨ _ ∨ _); omega)).symm), ht⟩) (fun q h => by cases h) dX4_isSetting_44
    · refine lv_iload_n hx hb dX4_isSetting_33 rfl (lv_at hl 1 rfl) ?_
      refine lv_bipush (v := iI 8) hx hb dX4_isSetting_34 (by decide +kernel) ?_
      refine iv_icmp_gt (a := v) (b := 8) (tgt := 43) hx hb (by omega) (by omega) dX4_isSetting_36 (by decide) (fun c36 => ?_) (fun c36 => ?_)
      · refine lv_iconst (v := iI 0) hx hb dX4_isSetting_43 (by decide +kernel) ?_
        exact W.zret hx hb hr (by decide +kernel) (fun t ht hW => ⟨congrArg (fun z => Outcome.returned (some (Value.int (iI z)))) (show 0 = bI (okS w v) by first | exact (bI_t (by show _ ∨ _ ∨ _; omega)).symm | exact (bI_f (by show ¬ (_ ∨ _ ∨ _); omega)).symm), ht⟩) (fun q h => by cases h) dX4_isSetting_44
      · refine lv_iconst (v := iI 1) hx hb dX4_isSetting_39 (by decide +kernel) ?_
        refine lv_goto (tgt := 44) hx hb dX4_isSetting_40 (by decide) ?_
        exact W.zret hx hb hr (by decide +kernel) (fun t ht hW => ⟨congrArg (fun z => Outcome.returned (some (Value.int (iI z)))) (show 1 = bI (okS w v) by first | exact (bI_t (by show _ ∨ _ ∨ _; omega)).symm | exact (bI_f (by show ¬ (_ ∨ _ ∨ _); omega)).symm), ht⟩) (fun q h => by cases h) dX4_isSetting_44
  · refine lv_tableIn (off := 44) (tgt := 45) hx hb dX4_isSetting_1 (by rw [hsw]; omega) (by rw [hsw]; omega) (by rw [hsw, csw]; rfl) (by decide) ?_
    refine lv_iload_n hx hb dX4_isSetting_45 rfl (lv_at hl 1 rfl) ?_
    refine iv_if_lt (a := v) (tgt := 58) hx hb (by omega) dX4_isSetting_46 (by decide) (fun c46 => ?_) (fun c46 => ?_)
    · refine lv_iconst (v := iI 0) hx hb dX4_isSetting_58 (by decide +kernel) ?_
      exact W.zret hx hb hr (by decide +kernel) (fun t ht hW => ⟨congrArg (fun z => Outcome.returned (some (Value.int (iI z)))) (show 0 = bI (okS w v) by first | exact (bI_t (by show _ ∨ _ ∨ _; omega)).symm | exact (bI_f (by show ¬ (_ ∨ _ ∨ _); omega)).symm), ht⟩) (fun q h => by cases h) dX4_isSetting_59
    · refine lv_iload_n hx hb dX4_isSetting_49 rfl (lv_at hl 1 rfl) ?_
      refine lv_iconst (v := iI 4) hx hb dX4_isSetting_50 (by decide +kernel) ?_
      refine iv_icmp_gt (a := v) (b := 4) (tgt := 58) hx hb (by omega) (by omega) dX4_isSetting_51 (by decide) (fun c51 => ?_) (fun c51 => ?_)
      · refine lv_iconst (v := iI 0) hx hb dX4_isSetting_58 (by decide +kernel) ?_
        exact W.zret hx hb hr (by decide +kernel) (fun t ht hW => ⟨congrArg (fun z => Outcome.returned (some (Value.int (iI z)))) (show 0 = bI (okS w v) by first | exact (bI_t (by show _ ∨ _ ∨ _; omega)).symm | exact (bI_f (by show ¬ (_ ∨ _ ∨ _); omega)).symm), ht⟩) (fun q h => by cases h) dX4_isSetting_59
      · refine lv_iconst (v := iI 1) hx hb dX4_isSetting_54 (by decide +kernel) ?_
        refine lv_goto (tgt := 59) hx hb dX4_isSetting_55 (by decide) ?_
        exact W.zret hx hb hr (by decide +kernel) (fun t ht hW => ⟨congrArg (fun z => Outcome.returned (some (Value.int (iI z)))) (show 1 = bI (okS w v) by first | exact (bI_t (by show _ ∨ _ ∨ _; omega)).symm | exact (bI_f (by show ¬ (_ ∨ _ ∨ _); omega)).symm), ht⟩) (fun q h => by cases h) dX4_isSetting_59
  · refine lv_tableIn (off := 59) (tgt := 60) hx hb dX4_isSetting_1 (by rw [hsw]; omega) (by rw [hsw]; omega) (by rw [hsw, csw]; rfl) (by decide) ?_
    refine lv_iload_n hx hb dX4_isSetting_60 rfl (lv_at hl 1 rfl) ?_
    refine iv_if_lt (a := v) (tgt := 74) hx hb (by omega) dX4_isSetting_61 (by decide) (fun c61 => ?_) (fun c61 => ?_)
    · refine lv_iconst (v := iI 0) hx hb dX4_isSetting_74 (by decide +kernel) ?_
      exact W.zret hx hb hr (by decide +kernel) (fun t ht hW => ⟨congrArg (fun z => Outcome.returned (some (Value.int (iI z)))) (show 0 = bI (okS w v) by first | exact (bI_t (by show _ ∨ _ ∨ _; omega)).symm | exact (bI_f (by show ¬ (_ ∨ _ ∨ _); omega)).symm), ht⟩) (fun q h => by cases h) dX4_isSetting_75
    · refine lv_iload_n hx hb dX4_isSetting_64 rfl (lv_at hl 1 rfl) ?_
      refine lv_bipush (v := iI 9) hx hb dX4_isSetting_65 (by decide +kernel) ?_
      refine iv_icmp_gt (a := v) (b := 9) (tgt := 74) hx hb (by omega) (by omega) dX4_isSetting_67 (by decide) (fun c67 => ?_) (fun c67 => ?_)
      · refine lv_iconst (v := iI 0) hx hb dX4_isSetting_74 (by decide +kernel) ?_
        exact W.zret hx hb hr (by decide +kernel) (fun t ht hW => ⟨congrArg (fun z => Outcome.returned (some (Value.int (iI z)))) (show 0 = bI (okS w v) by first | exact (bI_t (by show _ ∨ _ ∨ _; omega)).symm | exact (bI_f (by show ¬ (_ ∨ _ ∨ _); omega)).symm), ht⟩) (fun q h => by cases h) dX4_isSetting_75
      · refine lv_iconst (v := iI 1) hx hb dX4_isSetting_70 (by decide +kernel) ?_
        refine lv_goto (tgt := 75) hx hb dX4_isSetting_71 (by decide) ?_
        exact W.zret hx hb hr (by decide +kernel) (fun t ht hW => ⟨congrArg (fun z => Outcome.returned (some (Value.int (iI z)))) (show 1 = bI (okS w v) by first | exact (bI_t (by show _ ∨ _ ∨ _; omega)).symm | exact (bI_f (by show ¬ (_ ∨ _ ∨ _); omega)).symm), ht⟩) (fun q h => by cases h) dX4_isSetting_75
