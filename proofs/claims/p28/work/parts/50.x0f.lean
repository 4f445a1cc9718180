set_option maxHeartbeats 4000000 in
set_option maxRecDepth 100000 in
theorem c_X0_change (l : Launch) (D : va_G) (yI yC yD : ClassId) (d : Nat) (dc : Nat) (S : Int → Int) (g : Int → Int) (w : Int) (v : Int) (hI : Inv S) (hR : Rc S g) (hok : okS w v) (sz : Nat) : Met l yX0_change wsX0_change ({ frames := 1, cells := 0, slots := 0, locals := 20 }) (rwP [.ref d, .int (iI w), .int (iI v)] D (tyz yI yC yD) [(d, oDrv dc S (lN (kL S 0 40))), (dc, aI yI 48 g)] sz) (va_Qi (fun (r : Int32) (_ : Unit) => r = iI (S (1 + w)) ∧ Rc (setg S w v) g) (fun (_ : Unit) (t : State) => va_P D vwCl [(d, oDrv dc (setg S w v) (lN (kL (setg S w v) 0 40))), (dc, aI yI 48 g)] t.heap) (va_A [(d, oDrv dc S (lN (kL S 0 40))), (dc, aI yI 48 g)] sz)) 0 0 (va_A [(d, oDrv dc S (lN (kL S 0 40))), (dc, aI yI 48 g)] sz) := by
  refine Met.ofW (cc := cX0_change) (maxL := 4) (ret := (some .int)) (by decide) rfl ?_
  intro p e s m args below meth c s₁ B hml hv
  obtain ⟨rfl, hsz, hP, hK, hD0⟩ := hv
  have hx := B.exec
  have hb := B.bytes
  have hr := B.returns
  have hts := atoms_spec (ws := wsX0_change) B.pre
  have hown : s.vm.findClass RX0 = some m.cls := findClass_of_methodNamed B.named
  have hlocks := B.notSynchronized
  subst hsz
  have hD := hD0.self (sz := s.heap.size)
  generalize hAe : va_A [(d, oDrv dc S (lN (kL S 0 40))), (dc, aI yI 48 g)] s.heap.size = A at hD ⊢
  have hA : ∀ q : Nat, s.heap.size ≤ q → A q := fun q h => by rw [← hAe]; exact Or.inr h
  have hS : va_S A s.heap s.heap [] := va_S.rf
  have hP : va_P D vwCl [(d, oDrv dc S (lN (kL S 0 40))), (dc, aI yI 48 g)] s.heap := hP
  have hinX0 : ∀ w ∈ wsX00, w ∈ wsX0_change := by decide +kernel
  have hf19 : (Cond.fieldLink RX0 19 "RiddleDrive$Drive" "width" "I").before _ s = true := hts _ (by decide +kernel)
  have hf22 : (Cond.fieldLink RX0 22 "RiddleDrive$Drive" "secrecy" "I").before _ s = true := hts _ (by decide +kernel)
  have hf25 : (Cond.fieldLink RX0 25 "RiddleDrive$Drive" "fee" "I").before _ s = true := hts _ (by decide +kernel)
  have hl := lv_entry ([.ref d, .int (iI w), .int (iI v)]) (n := 4) (Nat.le_of_ble_eq_true rfl)
  rw [lg_entry_eq]
  generalize (lg_sl ([.ref d, .int (iI w), .int (iI v)]) ++ List.replicate (4 - (lg_sl ([.ref d, .int (iI w), .int (iI v)])).length) Slot.unset).toArray = ls at hl ⊢
  have hl : lv_has ls 4 [(0, .ref d), (1, .int (iI w)), (2, .int (iI v))] := hl
  have hpl := hI.pl
  have hna := hI.na
  have hse := hI.se
  have hwi := hI.wi
  have hfe := hI.fe
  have hw9 : 0 ≤ w ∧ w ≤ 2 := by omega
  have hv9 : 0 ≤ v ∧ v ≤ 9 := by omega
  refine lv_iload_n hx hb dX0_change_0 rfl (lv_at hl 1 rfl) ?_
  refine iv_if_ne (a := w) (tgt := 17) hx hb (by omega) dX0_change_1 (by decide) (fun c1 => ?_) (fun c1 => ?_)
  · refine lv_iload_n hx hb dX0_change_17 rfl (lv_at hl 1 rfl) ?_
    refine lv_iconst (v := iI 1) hx hb dX0_change_18 (by decide +kernel) ?_
    refine iv_icmp_ne (a := w) (b := 1) (tgt := 44) hx hb (by omega) (by omega) dX0_change_19 (by decide) (fun c19 => ?_) (fun c19 => ?_)
    · refine lv_aload_n hx hb dX0_change_44 rfl (lv_at hl 0 rfl) ?_
      refine va_get (D := D) (ci := 0) (v := .int (iI (S 3))) (C := RX0) (T := TX0) (N := 10) hx hb hts hinX0 hown hK hP 0 rfl rfl 3 (by decide) hf25 (fun _ h9 => h9) rfl dX0_change_45 ?_
      refine lv_istore_n (lv' := [(3, .int (iI (S 3))), (0, .ref d), (1, .int (iI w)), (2, .int (iI v))]) hx hb dX0_change_48 rfl hl (by decide) rfl (fun ls hl => ?_)
      refine lv_aload_n hx hb dX0_change_49 rfl (lv_at hl 1 rfl) ?_
      refine lv_iload_n hx hb dX0_change_50 rfl (lv_at hl 3 rfl) ?_
      refine va_put (D := D) (ci := 0) (v := .int (iI v)) (ty := .int) (C := RX0) (T := TX0) (N := 10) hx hb hts hinX0 tyX0 tyX0_ok nmX0 hown hK hP hD hS 0 rfl rfl 3 (by decide) hf25 (fun _ h9 => h9) rfl (by decide +kernel) rfl rfl (Nat.le_of_ble_eq_true rfl) dX0_change_51 (fun H locs hP hD hS => ?_)
      have hP : va_P D vwCl [(d, oDrv dc (up S 3 v) (lN (kL S 0 40))), (dc, aI yI 48 g)] H := hP
      have hD : va_D A [(d, oDrv dc (up S 3 v) (lN (kL S 0 40))), (dc, aI yI 48 g)] := hD
      refine lv_iload_n hx hb dX0_change_54 rfl (lv_at hl 0 rfl) ?_
      have hP9 : va_P D vwCl [(d, oDrv dc (setg S w v) (lN (kL (setg S w v) 0 40))), (dc, aI yI 48 g)] _ := (hP.sub (ws' := [(d, oDrv dc (up S 3 v) (lN (kL S 0 40))), (dc, aI yI 48 g)]) [0, 1] rfl).cv (by exact congrArg (fun z => [(d, z), (dc, aI yI 48 g)]) (oDrv_e (fun z h0 h1 => by have h12 : S (1 + 1) = S 2 := rfl; unfold setg; rcases (show w = 0 ∨ w = 1 ∨ w = 2 by omega) with rfl | rfl | rfl <;> first | (exfalso; omega) | (rw [if_neg (by omega)]; rfl) | (rw [if_pos (by omega)]; rfl)) (by rw [kL_setg hw9] <;> (first | rfl | (rw [← kL_fA, kL_c (S := S) (S2 := up S 2 v) 40 0 (fun j h0 h1 => up_n (by omega))])))))
      exact W.iret hx hb hr (fun t ht hW => ⟨⟨iI (S 3), (), rfl, ⟨congrArg iI (show S 3 = S (1 + w) by congr 1; omega), (by exact rc_setg hR hw9)⟩, by show va_P D vwCl _ t.heap; rw [ht]; exact hP9⟩, hS.F ht⟩) hS.2.2 dX0_change_55
    · refine lv_aload_n hx hb dX0_change_22 rfl (lv_at hl 0 rfl) ?_
      refine va_get (D := D) (ci := 0) (v := .int (iI (S 2))) (C := RX0) (T := TX0) (N := 10) hx hb hts hinX0 hown hK hP 0 rfl rfl 2 (by decide) hf22 (fun _ h9 => h9) rfl dX0_change_23 ?_
      refine lv_istore_n (lv' := [(3, .int (iI (S 2))), (0, .ref d), (1, .int (iI w)), (2, .int (iI v))]) hx hb dX0_change_26 rfl hl (by decide) rfl (fun ls hl => ?_)
      refine lv_aload_n hx hb dX0_change_27 rfl (lv_at hl 1 rfl) ?_
      refine lv_iload_n hx hb dX0_change_28 rfl (lv_at hl 3 rfl) ?_
      refine va_put (D := D) (ci := 0) (v := .int (iI v)) (ty := .int) (C := RX0) (T := TX0) (N := 10) hx hb hts hinX0 tyX0 tyX0_ok nmX0 hown hK hP hD hS 0 rfl rfl 2 (by decide) hf22 (fun _ h9 => h9) rfl (by decide +kernel) rfl rfl (Nat.le_of_ble_eq_true rfl) dX0_change_29 (fun H locs hP hD hS => ?_)
      have hP : va_P D vwCl [(d, oDrv dc (up S 2 v) (lN (kL S 0 40))), (dc, aI yI 48 g)] H := hP
      have hD : va_D A [(d, oDrv dc (up S 2 v) (lN (kL S 0 40))), (dc, aI yI 48 g)] := hD
      refine lv_iload_n hx hb dX0_change_32 rfl (lv_at hl 3 rfl) ?_
      refine lv_iload_n hx hb dX0_change_33 rfl (lv_at hl 0 rfl) ?_
      refine iv_icmp_eq (a := v) (b := S 2) (tgt := 54) hx hb (by omega) (by omega) dX0_change_34 (by decide) (fun c34 => ?_) (fun c34 => ?_)
      · refine lv_iload_n hx hb dX0_change_54 rfl (lv_at hl 0 rfl) ?_
        have hP9 : va_P D vwCl [(d, oDrv dc (setg S w v) (lN (kL (setg S w v) 0 40))), (dc, aI yI 48 g)] _ := (hP.sub (ws' := [(d, oDrv dc (up S 2 v) (lN (kL S 0 40))), (dc, aI yI 48 g)]) [0, 1] rfl).cv (by exact congrArg (fun z => [(d, z), (dc, aI yI 48 g)]) (oDrv_e (fun z h0 h1 => by have h12 : S (1 + 1) = S 2 := rfl; unfold setg; rcases (show w = 0 ∨ w = 1 ∨ w = 2 by omega) with rfl | rfl | rfl <;> first | (exfalso; omega) | (rw [if_neg (by omega)]; rfl) | (rw [if_pos (by omega)]; rfl)) (by rw [kL_setg hw9] <;> (first | rfl | (rw [← kL_fA, kL_c (S := S) (S2 := up S 2 v) 40 0 (fun j h0 h1 => up_n (by omega))])))))
        exact W.iret hx hb hr (fun t ht hW => ⟨⟨iI (S 2), (), rfl, ⟨congrArg iI (show S 2 = S (1 + w) by congr 1; omega), (by exact rc_setg hR hw9)⟩, by show va_P D vwCl _ t.heap; rw [ht]; exact hP9⟩, hS.F ht⟩) hS.2.2 dX0_change_55
      · have hod : oDrv dc (up S 2 v) (lN (kL S 0 40)) = oDrv dc (up S 2 v) (lN (kL (up S 2 v) 0 40)) := oDrv_e (fun z h0 h1 => rfl) (by rw [kL_c (S := S) (S2 := up S 2 v) 40 0 (fun j h0 h1 => up_n (by omega))])
        rw [hod] at hP hD
        have hP : va_P D vwCl [(d, oDrv dc (up S 2 v) (lN (kL (up S 2 v) 0 40))), (dc, aI yI 48 g)] H := hP
        have hD : va_D A [(d, oDrv dc (up S 2 v) (lN (kL (up S 2 v) 0 40))), (dc, aI yI 48 g)] := hD
        refine lv_aload_n hx hb dX0_change_37 rfl (lv_at hl 1 rfl) ?_
        refine iv_rwVv (As := []) (rest := []) (C := RX0) (n := 0) ⟨hx, hb, hml, hown, hts⟩ (c_X0_dropAll l D yI yC yD d dc (up S 2 v) g  _) (cwV 0 hts gX0_change_X0_dropAll rfl rfl rfl (by decide +kernel) ⟨Nat.le_of_ble_eq_true rfl, Nat.le_of_ble_eq_true rfl⟩) hK hP hD hS hA [0, 1] (by decide) rfl 0 rfl rfl rfl hl.1 rfl (Nat.le_of_ble_eq_true rfl) dX0_change_38 ⟨Nat.zero_le _, Nat.zero_le _⟩ (fun _ => rfl) (fun u38 H locs hw38 hP hD hS => ?_)
        have hP : va_P D vwCl [(d, oDrv dc (forgetA (up S 2 v)) (lN (kL (forgetA (up S 2 v)) 0 40))), (dc, aI yI 48 g)] H := hP
        have hD : va_D A [(d, oDrv dc (forgetA (up S 2 v)) (lN (kL (forgetA (up S 2 v)) 0 40))), (dc, aI yI 48 g)] := hD
        refine lv_goto (tgt := 54) hx hb dX0_change_41 (by decide) ?_
        refine lv_iload_n hx hb dX0_change_54 rfl (lv_at hl 0 rfl) ?_
        have hP9 : va_P D vwCl [(d, oDrv dc (setg S w v) (lN (kL (setg S w v) 0 40))), (dc, aI yI 48 g)] _ := (hP.sub (ws' := [(d, oDrv dc (forgetA (up S 2 v)) (lN (kL (forgetA (up S 2 v)) 0 40))), (dc, aI yI 48 g)]) [0, 1] rfl).cv (by exact congrArg (fun z => [(d, z), (dc, aI yI 48 g)]) (oDrv_e (fun z h0 h1 => by have h12 : S (1 + 1) = S 2 := rfl; unfold setg; rcases (show w = 0 ∨ w = 1 ∨ w = 2 by omega) with rfl | rfl | rfl <;> first | (exfalso; omega) | (rw [if_neg (by omega)]; rfl) | (rw [if_pos (by omega)]; rfl)) (by rw [kL_setg hw9] <;> (first | rfl | (rw [← kL_fA, kL_c (S := S) (S2 := up S 2 v) 40 0 (fun j h0 h1 => up_n (by omega))])))))
        exact W.iret hx hb hr (fun t ht hW => ⟨⟨iI (S 2), (), rfl, ⟨congrArg iI (show S 2 = S (1 + w) by congr 1; omega), (by exact rc_setg hR hw9)⟩, by show va_P D vwCl _ t.heap; rw [ht]; exact hP9⟩, hS.F ht⟩) hS.2.2 dX0_change_55
  · refine lv_aload_n hx hb dX0_change_4 rfl (lv_at hl 0 rfl) ?_
    refine va_get (D := D) (ci := 0) (v := .int (iI (S 1))) (C := RX0) (T := TX0) (N := 10) hx hb hts hinX0 hown hK hP 0 rfl rfl 1 (by decide) hf19 (fun _ h9 => h9) rfl dX0_change_5 ?_
    refine lv_istore_n (lv' := [(3, .int (iI (S 1))), (0, .ref d), (1, .int (iI w)), (2, .int (iI v))]) hx hb dX0_change_8 rfl hl (by decide) rfl (fun ls hl => ?_)
    refine lv_aload_n hx hb dX0_change_9 rfl (lv_at hl 1 rfl) ?_
    refine lv_iload_n hx hb dX0_change_10 rfl (lv_at hl 3 rfl) ?_
    refine va_put (D := D) (ci := 0) (v := .int (iI v)) (ty := .int) (C := RX0) (T := TX0) (N := 10) hx hb hts hinX0 tyX0 tyX0_ok nmX0 hown hK hP hD hS 0 rfl rfl 1 (by decide) hf19 (fun _ h9 => h9) rfl (by decide +kernel) rfl rfl (Nat.le_of_ble_eq_true rfl) dX0_change_11 (fun H locs hP hD hS => ?_)
    have hP : va_P D vwCl [(d, oDrv dc (up S 1 v) (lN (kL S 0 40))), (dc, aI yI 48 g)] H := hP
    have hD : va_D A [(d, oDrv dc (up S 1 v) (lN (kL S 0 40))), (dc, aI yI 48 g)] := hD
    refine lv_goto (tgt := 54) hx hb dX0_change_14 (by decide) ?_
    refine lv_iload_n hx hb dX0_change_54 rfl (lv_at hl 0 rfl) ?_
    have hP9 : va_P D vwCl [(d, oDrv dc (setg S w v) (lN (kL (setg S w v) 0 40))), (dc, aI yI 48 g)] _ := (hP.sub (ws' := [(d, oDrv dc (up S 1 v) (lN (kL S 0 40))), (dc, aI yI 48 g)]) [0, 1] rfl).cv (by exact congrArg (fun z => [(d, z), (dc, aI yI 48 g)]) (oDrv_e (fun z h0 h1 => by have h12 : S (1 + 1) = S 2 := rfl; unfold setg; rcases (show w = 0 ∨ w = 1 ∨ w = 2 by omega) with rfl | rfl | rfl <;> first | (exfalso; omega) | (rw [if_neg (by omega)]; rfl) | (rw [if_pos (by omega)]; rfl)) (by rw [kL_setg hw9] <;> (first | rfl | (rw [← kL_fA, kL_c (S := S) (S2 := up S 2 v) 40 0 (fun j h0 h1 => up_n (by omega))])))))
    exact W.iret hx hb hr (fun t ht hW => ⟨⟨iI (S 1), (), rfl, ⟨congrArg iI (show S 1 = S (1 + w) by congr 1; omega), (by exact rc_setg hR hw9)⟩, by show va_P D vwCl _ t.heap; rw [ht]; exact hP9⟩, hS.F ht⟩) hS.2.2 dX0_change_55
set_option maxHeartbeats 4000000 in
set_option maxRecDepth 100000 in
theorem c_X0_cutTo (l : Launch) (D : va_G) (yI yC yD : ClassId) (d : Nat) (dc : Nat) (S : Int → Int) (g : Int → Int) (q : Int) (hI : Inv S) (hR : Rc S g) (hq : 8 ≤ q ∧ q ≤ 40) (sz : Nat) : Met l yX0_cutTo wsX0_cutTo ({ frames := 1, cells := 0, slots := 0, locals := 20 }) (rwP [.ref d, .int (iI q)] D (tyz yI yC yD) [(d, oDrv dc S (lN (kL S 0 40))), (dc, aI yI 48 g)] sz) (va_Qv (fun (_ : Unit) => Rc (rsz S q) g) (fun (_ : Unit) (t : State) => va_P D vwCl [(d, oDrv dc (rsz S q) (lN (kL (rsz S q) 0 40))), (dc, aI yI 48 g)] t.heap) (va_A [(d, oDrv dc S (lN (kL S 0 40))), (dc, aI yI 48 g)] sz)) 0 0 (va_A [(d, oDrv dc S (lN (kL S 0 40))), (dc, aI yI 48 g)] sz) := by
  refine Met.ofW (cc := cX0_cutTo) (maxL := 2) (ret := none) (by decide) rfl ?_
  intro p e s m args below meth c s₁ B hml hv
  obtain ⟨rfl, hsz, hP, hK, hD0⟩ := hv
  have hx := B.exec
  have hb := B.bytes
  have hr := B.returns
  have hts := atoms_spec (ws := wsX0_cutTo) B.pre
  have hown : s.vm.findClass RX0 = some m.cls := findClass_of_methodNamed B.named
  have hlocks := B.notSynchronized
  subst hsz
  have hD := hD0.self (sz := s.heap.size)
  generalize hAe : va_A [(d, oDrv dc S (lN (kL S 0 40))), (dc, aI yI 48 g)] s.heap.size = A at hD ⊢
  have hA : ∀ q : Nat, s.heap.size ≤ q → A q := fun q h => by rw [← hAe]; exact Or.inr h
  have hS : va_S A s.heap s.heap [] := va_S.rf
  have hP : va_P D vwCl [(d, oDrv dc S (lN (kL S 0 40))), (dc, aI yI 48 g)] s.heap := hP
  have hinX0 : ∀ w ∈ wsX00, w ∈ wsX0_cutTo := by decide +kernel
  have hf15 : (Cond.fieldLink RX0 15 "RiddleDrive$Drive" "places" "I").before _ s = true := hts _ (by decide +kernel)
  have hf40 : (Cond.fieldLink RX0 40 "RiddleDrive$Drive" "keys" "J").before _ s = true := hts _ (by decide +kernel)
  have hl := lv_entry ([.ref d, .int (iI q)]) (n := 2) (Nat.le_of_ble_eq_true rfl)
  rw [lg_entry_eq]
  generalize (lg_sl ([.ref d, .int (iI q)]) ++ List.replicate (2 - (lg_sl ([.ref d, .int (iI q)])).length) Slot.unset).toArray = ls at hl ⊢
  have hl : lv_has ls 2 [(0, .ref d), (1, .int (iI q))] := hl
  have hpl := hI.pl
  have hna := hI.na
  have hse := hI.se
  have hwi := hI.wi
  have hfe := hI.fe
  have hkk : ∀ j : Int, 0 ≤ j → j < 40 → 0 ≤ S (8 + j) ∧ S (8 + j) ≤ 1 := fun j h0 h1 => hI.key h0 h1
  have hkb := kL_lt (S := S) 40 0 (fun j h0 h1 => hkk j h0 (by omega))
  refine lv_aload_n hx hb dX0_cutTo_0 rfl (lv_at hl 0 rfl) ?_
  refine lv_iload_n hx hb dX0_cutTo_1 rfl (lv_at hl 1 rfl) ?_
  refine va_put (D := D) (ci := 0) (v := .int (iI q)) (ty := .int) (C := RX0) (T := TX0) (N := 10) hx hb hts hinX0 tyX0 tyX0_ok nmX0 hown hK hP hD hS 0 rfl rfl 0 (by decide) hf15 (fun _ h9 => h9) rfl (by decide +kernel) rfl rfl (Nat.le_of_ble_eq_true rfl) dX0_cutTo_2 (fun H locs hP hD hS => ?_)
  have hP : va_P D vwCl [(d, oDrv dc (up S 0 q) (lN (kL S 0 40))), (dc, aI yI 48 g)] H := hP
  have hD : va_D A [(d, oDrv dc (up S 0 q) (lN (kL S 0 40))), (dc, aI yI 48 g)] := hD
  refine lv_aload_n hx hb dX0_cutTo_5 rfl (lv_at hl 0 rfl) ?_
  refine lv_dup hx hb dX0_cutTo_6 rfl ?_
  refine va_get (D := D) (ci := 0) (v := .long (lN (kL S 0 40))) (C := RX0) (T := TX0) (N := 10) hx hb hts hinX0 hown hK hP 0 rfl rfl 8 (by decide) hf40 (fun _ h9 => h9) rfl dX0_cutTo_7 ?_
  refine lv_lconst (v := 1) hx hb dX0_cutTo_10 (by decide +kernel) ?_
  refine lv_iload_n hx hb dX0_cutTo_11 rfl (lv_at hl 1 rfl) ?_
  refine lv_lshl (v := 1 <<< ((iI q).toInt64 &&& 63)) hx hb dX0_cutTo_12 rfl ?_
  rw [show (1 <<< ((iI q).toInt64 &&& 63) : Int64) = lN (1 * 2 ^ q.toNat) from (shl_z 1 (by omega))]
  refine lv_lconst (v := 1) hx hb dX0_cutTo_13 (by decide +kernel) ?_
  refine lv_lsub hx hb dX0_cutTo_14 ?_
  rw [show ((lN (1 * 2 ^ q.toNat)) - 1 : Int64) = lN (2 ^ q.toNat - 1) from (rng_e)]
  refine lv_land hx hb dX0_cutTo_15 ?_
  rw [show ((lN (kL S 0 40)) &&& (lN (2 ^ q.toNat - 1)) : Int64) = lN (kL (cutS S q) 0 40) from (cut_x hkk (by omega))]
  refine va_put (D := D) (ci := 0) (v := .long (lN (kL (cutS S q) 0 40))) (ty := .long) (C := RX0) (T := TX0) (N := 10) hx hb hts hinX0 tyX0 tyX0_ok nmX0 hown hK hP hD hS 0 rfl rfl 8 (by decide) hf40 (fun _ h9 => h9) rfl (by decide +kernel) rfl rfl (Nat.le_of_ble_eq_true rfl) dX0_cutTo_16 (fun H locs hP hD hS => ?_)
  have hP : va_P D vwCl [(d, oDrv dc (up S 0 q) (lN (kL (cutS S q) 0 40))), (dc, aI yI 48 g)] H := hP
  have hD : va_D A [(d, oDrv dc (up S 0 q) (lN (kL (cutS S q) 0 40))), (dc, aI yI 48 g)] := hD
  have hod : oDrv dc (up S 0 q) (lN (kL (cutS S q) 0 40)) = oDrv dc (cutS S q) (lN (kL (cutS S q) 0 40)) := oDrv_e (fun z h0 h1 => cut_lo (by omega) h1) (rfl)
  rw [hod] at hP hD
  have hP : va_P D vwCl [(d, oDrv dc (cutS S q) (lN (kL (cutS S q) 0 40))), (dc, aI yI 48 g)] H := hP
  have hD : va_D A [(d, oDrv dc (cutS S q) (lN (kL (cutS S q) 0 40))), (dc, aI yI 48 g)] := hD
  refine lv_aload_n hx hb dX0_cutTo_19 rfl (lv_at hl 0 rfl) ?_
  refine iv_rwVv (As := []) (rest := []) (C := RX0) (n := 0) ⟨hx, hb, hml, hown, hts⟩ (c_X0_dropAll l D yI yC yD d dc (cutS S q) g  _) (cwV 0 hts gX0_cutTo_X0_dropAll rfl rfl rfl (by decide +kernel) ⟨Nat.le_of_ble_eq_true rfl, Nat.le_of_ble_eq_true rfl⟩) hK hP hD hS hA [0, 1] (by decide) rfl 0 rfl rfl rfl hl.1 rfl (Nat.le_of_ble_eq_true rfl) dX0_cutTo_20 ⟨Nat.zero_le _, Nat.zero_le _⟩ (fun _ => rfl) (fun u20 H locs hw20 hP hD hS => ?_)
  have hP : va_P D vwCl [(d, oDrv dc (forgetA (cutS S q)) (lN (kL (forgetA (cutS S q)) 0 40))), (dc, aI yI 48 g)] H := hP
  have hD : va_D A [(d, oDrv dc (forgetA (cutS S q)) (lN (kL (forgetA (cutS S q)) 0 40))), (dc, aI yI 48 g)] := hD
  have hP9 : va_P D vwCl [(d, oDrv dc (rsz S q) (lN (kL (rsz S q) 0 40))), (dc, aI yI 48 g)] _ := (hP.sub (ws' := [(d, oDrv dc (forgetA (cutS S q)) (lN (kL (forgetA (cutS S q)) 0 40))), (dc, aI yI 48 g)]) [0, 1] rfl).cv (by rw [cut_e (by omega)])
  exact W.vret hx hb hr (fun t ht hW => ⟨⟨(), rfl, (by exact rc_rsz hq.1), by show va_P D vwCl _ t.heap; rw [ht]; exact hP9⟩, hS.F ht⟩) hS.2.2 dX0_cutTo_23
