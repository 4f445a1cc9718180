theorem c_X2_remember (l : Launch) (D : va_G) (yI yC yD : ClassId) (me : Nat) (rg : Nat) (f : Nat → Option Nat) (nx : Int) (ct : Int) (d : Nat) (dc : Nat) (S : Int → Int) (g : Int → Int) (k : Int64) (wq : va_W) (hme : 0 ≤ nx ∧ nx < 14 ∧ 0 ≤ ct ∧ ct ≤ 14) (hwq : (f nx.toNat = none ∧ wq = []) ∨ ∃ (q qc : Nat) (S2 g2 : Int → Int) (k2 : Int64), f nx.toNat = some q ∧ wq = [(q, oDrv qc S2 k2), (qc, aI yI 48 g2)]) (sz : Nat) : Met l yX2_remember wsX2_remember ({ frames := 2, cells := 2, slots := 58, locals := 32 }) (aoP [.ref me, .ref d] D (tyz yI yC yD) ([(me, oMem rg nx ct), (rg, aD yD 14 f), (d, oDrv dc S k), (dc, aI yI 48 g)] ++ wq) sz) (va_Qv (fun (u : Nat × Nat) => match u with | (q, qc) => True) (fun (u : Nat × Nat) (t : State) => match u with | (q, qc) => va_P D vwCl [(me, oMem rg (if nx + 1 < 14 then nx + 1 else 0) (min (ct + 1) 14)), (rg, aD yD 14 (va_up f nx.toNat (some q))), (d, oDrv dc S k), (dc, aI yI 48 g), (q, oDrv qc S k), (qc, aI yI 48 g)] t.heap ∧ va_D (va_A ([(me, oMem rg nx ct), (rg, aD yD 14 f), (d, oDrv dc S k), (dc, aI yI 48 g)] ++ wq) sz) [(me, oMem rg (if nx + 1 < 14 then nx + 1 else 0) (min (ct + 1) 14)), (rg, aD yD 14 (va_up f nx.toNat (some q))), (d, oDrv dc S k), (dc, aI yI 48 g), (q, oDrv qc S k), (qc, aI yI 48 g)]) (va_A ([(me, oMem rg nx ct), (rg, aD yD 14 f), (d, oDrv dc S k), (dc, aI yI 48 g)] ++ wq) sz)) 2 58 (va_A ([(me, oMem rg nx ct), (rg, aD yD 14 f), (d, oDrv dc S k), (dc, aI yI 48 g)] ++ wq) sz) := by
  rcases hwq with ⟨hf, rfl⟩ | ⟨q, qc, S2, g2, k2, hf, rfl⟩
  · exact c_X2_remember_n l D yI yC yD me rg f nx ct d dc S g k hme hf sz
  · exact c_X2_remember_y l D yI yC yD me rg f nx ct d dc S g k q qc S2 g2 k2 hme hf sz
set_option maxHeartbeats 4000000 in
set_option maxRecDepth 100000 in
theorem c_X2_isEmpty (l : Launch) (D : va_G) (yI yC yD : ClassId) (me : Nat) (rg : Nat) (f : Nat → Option Nat) (nx : Int) (ct : Int) (hme : 0 ≤ nx ∧ nx < 14 ∧ 0 ≤ ct ∧ ct ≤ 14) : Met l yX2_isEmpty wsX2_isEmpty ({ frames := 0, cells := 0, slots := 0, locals := 0 }) (roP [.ref me] D (tyz yI yC yD) [(me, oMem rg nx ct), (rg, aD yD 14 f)]) (QcRead (iI (bI (ct = 0)))) 0 0 (fun _ => False) := by
  refine Met.ofW (cc := cX2_isEmpty) (maxL := 1) (ret := (some .boolean)) (by decide) rfl ?_
  intro p e s m args below meth c s₁ B hml hv
  obtain ⟨rfl, hP, hK⟩ := hv
  have hx := B.exec
  have hb := B.bytes
  have hr := B.returns
  have hts := atoms_spec (ws := wsX2_isEmpty) B.pre
  have hown : s.vm.findClass RX2 = some m.cls := findClass_of_methodNamed B.named
  have hlocks := B.notSynchronized
  have hP : va_P D vwCl [(me, oMem rg nx ct), (rg, aD yD 14 f)] s.heap := hP
  have hinX2 : ∀ w ∈ wsX20, w ∈ wsX2_isEmpty := by decide +kernel
  have hf17 : (Cond.fieldLink RX2 17 "RiddleDrive$Memory" "count" "I").before _ s = true := hts _ (by decide +kernel)
  have hl := lv_entry ([.ref me]) (n := 1) (Nat.le_of_ble_eq_true rfl)
  rw [lg_entry_eq]
  generalize (lg_sl ([.ref me]) ++ List.replicate (1 - (lg_sl ([.ref me])).length) Slot.unset).toArray = ls at hl ⊢
  have hl : lv_has ls 1 [(0, .ref me)] := hl
  refine lv_aload_n hx hb dX2_isEmpty_0 rfl (lv_at hl 0 rfl) ?_
  refine va_get (D := D) (ci := 2) (v := .int (iI ct)) (C := RX2) (T := TX2) (N := 3) hx hb hts hinX2 hown hK hP 0 rfl rfl 2 (by decide) hf17 (fun _ h9 => h9) rfl dX2_isEmpty_1 ?_
  refine iv_if_ne (a := ct) (tgt := 11) hx hb (by omega) dX2_isEmpty_4 (by decide) (fun c4 => ?_) (fun c4 => ?_)
  · refine lv_iconst (v := iI 0) hx hb dX2_isEmpty_11 (by decide +kernel) ?_
    exact W.zret hx hb hr (by decide +kernel) (fun t ht hW => ⟨congrArg (fun z => Outcome.returned (some (Value.int (iI z)))) (show 0 = bI (ct = 0) by first | exact (bI_t (by omega)).symm | exact (bI_f (by omega)).symm), ht⟩) (fun q h => by cases h) dX2_isEmpty_12
  · refine lv_iconst (v := iI 1) hx hb dX2_isEmpty_7 (by decide +kernel) ?_
    refine lv_goto (tgt := 12) hx hb dX2_isEmpty_8 (by decide) ?_
    exact W.zret hx hb hr (by decide +kernel) (fun t ht hW => ⟨congrArg (fun z => Outcome.returned (some (Value.int (iI z)))) (show 1 = bI (ct = 0) by first | exact (bI_t (by omega)).symm | exact (bI_f (by omega)).symm), ht⟩) (fun q h => by cases h) dX2_isEmpty_12
set_option maxHeartbeats 4000000 in
set_option maxRecDepth 100000 in
theorem c_X2_forgetStates (l : Launch) (D : va_G) (yI yC yD : ClassId) (me : Nat) (rg : Nat) (f : Nat → Option Nat) (nx : Int) (ct : Int)  (sz : Nat) : Met l yX2_forgetStates wsX2_forgetStates ({ frames := 0, cells := 0, slots := 0, locals := 0 }) (rwP [.ref me] D (tyz yI yC yD) [(me, oMem rg nx ct), (rg, aD yD 14 f)] sz) (va_Qv (fun (_ : Unit) => True) (fun (_ : Unit) (t : State) => va_P D vwCl [(me, oMem rg nx 0), (rg, aD yD 14 f)] t.heap) (va_A [(me, oMem rg nx ct), (rg, aD yD 14 f)] sz)) 0 0 (va_A [(me, oMem rg nx ct), (rg, aD yD 14 f)] sz) := by
  refine Met.ofW (cc := cX2_forgetStates) (maxL := 1) (ret := none) (by decide) rfl ?_
  intro p e s m args below meth c s₁ B hml hv
  obtain ⟨rfl, hsz, hP, hK, hD0⟩ := hv
  have hx := B.exec
  have hb := B.bytes
  have hr := B.returns
  have hts := atoms_spec (ws := wsX2_forgetStates) B.pre
  have hown : s.vm.findClass RX2 = some m.cls := findClass_of_methodNamed B.named
  have hlocks := B.notSynchronized
  subst hsz
  have hD := hD0.self (sz := s.heap.size)
  generalize hAe : va_A [(me, oMem rg nx ct), (rg, aD yD 14 f)] s.heap.size = A at hD ⊢
  have hA : ∀ q : Nat, s.heap.size ≤ q → A q := fun q h => by rw [← hAe]; exact Or.inr h
  have hS : va_S A s.heap s.heap [] := va_S.rf
  have hP : va_P D vwCl [(me, oMem rg nx ct), (rg, aD yD 14 f)] s.heap := hP
  have hinX2 : ∀ w ∈ wsX20, w ∈ wsX2_forgetStates := by decide +kernel
  have hf17 : (Cond.fieldLink RX2 17 "RiddleDrive$Memory" "count" "I").before _ s = true := hts _ (by decide +kernel)
  have hl := lv_entry ([.ref me]) (n := 1) (Nat.le_of_ble_eq_true rfl)
  rw [lg_entry_eq]
  generalize (lg_sl ([.ref me]) ++ List.replicate (1 - (lg_sl ([.ref me])).length) Slot.unset).toArray = ls at hl ⊢
  have hl : lv_has ls 1 [(0, .ref me)] := hl
  refine lv_aload_n hx hb dX2_forgetStates_0 rfl (lv_at hl 0 rfl) ?_
  refine lv_iconst (v := iI 0) hx hb dX2_forgetStates_1 (by decide +kernel) ?_
  refine va_put (D := D) (ci := 2) (v := .int (iI 0)) (ty := .int) (C := RX2) (T := TX2) (N := 3) hx hb hts hinX2 tyX2 tyX2_ok nmX2 hown hK hP hD hS 0 rfl rfl 2 (by decide) hf17 (fun _ h9 => h9) rfl (by decide +kernel) rfl rfl (Nat.le_of_ble_eq_true rfl) dX2_forgetStates_2 (fun H locs hP hD hS => ?_)
  have hP : va_P D vwCl [(me, oMem rg nx 0), (rg, aD yD 14 f)] H := hP
  have hD : va_D A [(me, oMem rg nx 0), (rg, aD yD 14 f)] := hD
  have hP9 : va_P D vwCl [(me, oMem rg nx 0), (rg, aD yD 14 f)] _ := hP.sub [0, 1] rfl
  exact W.vret hx hb hr (fun t ht hW => ⟨⟨(), rfl, trivial, by show va_P D vwCl _ t.heap; rw [ht]; exact hP9⟩, hS.F ht⟩) hS.2.2 dX2_forgetStates_5
set_option maxHeartbeats 4000000 in
set_option maxRecDepth 100000 in
theorem c_X2_takeBack (l : Launch) (D : va_G) (yI yC yD : ClassId) (me : Nat) (rg : Nat) (f : Nat → Option Nat) (nx : Int) (ct : Int) (nw : Int) (d : Nat) (dc : Nat) (S : Int → Int) (g : Int → Int) (k : Int64) (q : Nat) (qc : Nat) (S2 : Int → Int) (g2 : Int → Int) (k2 : Int64) (hme : 0 ≤ nx ∧ nx < 14 ∧ 0 < ct ∧ ct ≤ 14) (hnw : (0 < nx ∧ nw = nx - 1) ∨ (¬ 0 < nx ∧ nw = 13)) (hf : f nw.toNat = some q) (sz : Nat) : Met l yX2_takeBack wsX2_takeBack ({ frames := 1, cells := 0, slots := 0, locals := 22 }) (rwP [.ref me, .ref d] D (tyz yI yC yD) [(me, oMem rg nx ct), (rg, aD yD 14 f), (d, oDrv dc S k), (dc, aI yI 48 g), (q, oDrv qc S2 k2), (qc, aI yI 48 g2)] sz) (va_Qi (fun (r : Int32) (_ : Unit) => r = iI (ct - 1) ∧ True) (fun (_ : Unit) (t : State) => va_P D vwCl [(me, oMem rg nw (ct - 1)), (rg, aD yD 14 f), (d, oDrv dc S2 k2), (dc, aI yI 48 g2), (q, oDrv qc S2 k2), (qc, aI yI 48 g2)] t.heap) (va_A [(me, oMem rg nx ct), (rg, aD yD 14 f), (d, oDrv dc S k), (dc, aI yI 48 g), (q, oDrv qc S2 k2), (qc, aI yI 48 g2)] sz)) 0 0 (va_A [(me, oMem rg nx ct), (rg, aD yD 14 f), (d, oDrv dc S k), (dc, aI yI 48 g), (q, oDrv qc S2 k2), (qc, aI yI 48 g2)] sz) := by
  refine Met.ofW (cc := cX2_takeBack) (maxL := 4) (ret := (some .int)) (by decide) rfl ?_
  intro p e s m args below meth c s₁ B hml hv
  obtain ⟨rfl, hsz, hP, hK, hD0⟩ := hv
  have hx := B.exec
  have hb := B.bytes
  have hr := B.returns
  have hts := atoms_spec (ws := wsX2_takeBack) B.pre
  have hown : s.vm.findClass RX2 = some m.cls := findClass_of_methodNamed B.named
  have hlocks := B.notSynchronized
  subst hsz
  have hD := hD0.self (sz := s.heap.size)
  generalize hAe : va_A [(me, oMem rg nx ct), (rg, aD yD 14 f), (d, oDrv dc S k), (dc, aI yI 48 g), (q, oDrv qc S2 k2), (qc, aI yI 48 g2)] s.heap.size = A at hD ⊢
  have hA : ∀ q : Nat, s.heap.size ≤ q → A q := fun q h => by rw [← hAe]; exact Or.inr h
  have hS : va_S A s.heap s.heap [] := va_S.rf
  have hP : va_P D vwCl [(me, oMem rg nx ct), (rg, aD yD 14 f), (d, oDrv dc S k), (dc, aI yI 48 g), (q, oDrv qc S2 k2), (qc, aI yI 48 g2)] s.heap := hP
  have hinX2 : ∀ w ∈ wsX20, w ∈ wsX2_takeBack := by decide +kernel
  have hf11 : (Cond.fieldLink RX2 11 "RiddleDrive$Memory" "ring" "[LRiddleDrive$Drive;").before _ s = true := hts _ (by decide +kernel)
  have hf17 : (Cond.fieldLink RX2 17 "RiddleDrive$Memory" "count" "I").before _ s = true := hts _ (by decide +kernel)
  have hf21 : (Cond.fieldLink RX2 21 "RiddleDrive$Memory" "next" "I").before _ s = true := hts _ (by decide +kernel)
  have hl := lv_entry ([.ref me, .ref d]) (n := 4) (Nat.le_of_ble_eq_true rfl)
  rw [lg_entry_eq]
  generalize (lg_sl ([.ref me, .ref d]) ++ List.replicate (4 - (lg_sl ([.ref me, .ref d])).length) Slot.unset).toArray = ls at hl ⊢
  have hl : lv_has ls 4 [(0, .ref me), (1, .ref d)] := hl
  refine lv_aload_n hx hb dX2_takeBack_0 rfl (lv_at hl 0 rfl) ?_
  refine va_get (D := D) (ci := 2) (v := .int (iI nx)) (C := RX2) (T := TX2) (N := 3) hx hb hts hinX2 hown hK hP 0 rfl rfl 1 (by decide) hf21 (fun _ h9 => h9) rfl dX2_takeBack_1 ?_
  refine iv_if_le (a := nx) (tgt := 16) hx hb (by omega) dX2_takeBack_4 (by decide) (fun c4 => ?_) (fun c4 => ?_)
  · refine lv_aload_n hx hb dX2_takeBack_16 rfl (lv_at hl 0 rfl) ?_
    refine va_get (D := D) (ci := 2) (v := .ref rg) (C := RX2) (T := TX2) (N := 3) hx hb hts hinX2 hown hK hP 0 rfl rfl 0 (by decide) hf11 (fun _ h9 => h9) rfl dX2_takeBack_17 ?_
    refine va_alen (v := iI 14) hx hb hK hP 1 2 rfl rfl (by show Int32.ofNat 14 = iI 14; decide +kernel) dX2_takeBack_20 ?_
    refine lv_iconst (v := iI 1) hx hb dX2_takeBack_21 (by decide +kernel) ?_
    refine iv_sub hx hb dX2_takeBack_22 ?_
    rw [show (14 - 1 : Int) = nw from (by omega)]
    refine lv_istore_n (lv' := [(2, .int (iI nw)), (0, .ref me), (1, .ref d)]) hx hb dX2_takeBack_23 rfl hl (by decide) rfl (fun ls hl => ?_)
    refine lv_aload_n hx hb dX2_takeBack_24 rfl (lv_at hl 1 rfl) ?_
    refine va_get (D := D) (ci := 2) (v := .int (iI ct)) (C := RX2) (T := TX2) (N := 3) hx hb hts hinX2 hown hK hP 0 rfl rfl 2 (by decide) hf17 (fun _ h9 => h9) rfl dX2_takeBack_25 ?_
    refine iv_if_le (a := ct) (tgt := 75) hx hb (by omega) dX2_takeBack_28 (by decide) (fun c28 => ?_) (fun c28 => ?_)
    · exact absurd c28 (by omega)
    · refine lv_iload_n hx hb dX2_takeBack_31 rfl (lv_at hl 0 rfl) ?_
      refine iv_if_lt (a := nw) (tgt := 75) hx hb (by omega) dX2_takeBack_32 (by decide) (fun c32 => ?_) (fun c32 => ?_)
      · exact absurd c32 (by omega)
      · refine lv_iload_n hx hb dX2_takeBack_35 rfl (lv_at hl 0 rfl) ?_
        refine lv_aload_n hx hb dX2_takeBack_36 rfl (lv_at hl 1 rfl) ?_
        refine va_get (D := D) (ci := 2) (v := .ref rg) (C := RX2) (T := TX2) (N := 3) hx hb hts hinX2 hown hK hP 0 rfl rfl 0 (by decide) hf11 (fun _ h9 => h9) rfl dX2_takeBack_37 ?_
        refine va_alen (v := iI 14) hx hb hK hP 1 2 rfl rfl (by show Int32.ofNat 14 = iI 14; decide +kernel) dX2_takeBack_40 ?_
        refine iv_icmp_ge (a := nw) (b := 14) (tgt := 75) hx hb (by omega) (by omega) dX2_takeBack_41 (by decide) (fun c41 => ?_) (fun c41 => ?_)
        · exact absurd c41 (by omega)
        · refine lv_aload_n hx hb dX2_takeBack_44 rfl (lv_at hl 1 rfl) ?_
          refine va_get (D := D) (ci := 2) (v := .ref rg) (C := RX2) (T := TX2) (N := 3) hx hb hts hinX2 hown hK hP 0 rfl rfl 0 (by decide) hf11 (fun _ h9 => h9) rfl dX2_takeBack_45 ?_
          refine lv_iload_n hx hb dX2_takeBack_48 rfl (lv_at hl 0 rfl) ?_
          refine va_aldq hx hb hK hP 1 2 rfl rfl (iI_in (by omega) (by omega) (by omega)) dX2_takeBack_49 ?_
          rw [iI_cl (by omega), hf, rf_s]
          refine lv_astore_n (lv' := [(3, .ref q), (2, .int (iI nw)), (0, .ref me), (1, .ref d)]) hx hb dX2_takeBack_50 rfl hl (by decide) rfl (fun ls hl => ?_)
          refine lv_aload_n hx hb dX2_takeBack_51 rfl (lv_at hl 0 rfl) ?_
          refine lv_ifnull hx hb dX2_takeBack_52 ?_
          refine lv_aload_n hx hb dX2_takeBack_55 rfl (lv_at hl 3 rfl) ?_
          refine lv_aload_n hx hb dX2_takeBack_56 rfl (lv_at hl 0 rfl) ?_
          refine iv_rwVv (As := [.ref q]) (rest := []) (C := RX0) (n := 1) ⟨hx, hb, hml, hown, hts⟩ (c_X0_takeFrom l D yI yC yD d dc S g k q qc S2 g2 k2  _) (cwV 1 hts gX2_takeBack_X0_takeFrom rfl rfl rfl (by decide +kernel) ⟨Nat.le_of_ble_eq_true rfl, Nat.le_of_ble_eq_true rfl⟩) hK hP hD hS hA [2, 3, 4, 5] (by decide) rfl 2 rfl rfl rfl hl.1 rfl (Nat.le_of_ble_eq_true rfl) dX2_takeBack_57 ⟨Nat.zero_le _, Nat.zero_le _⟩ (fun _ => rfl) (fun u57 H locs hw57 hP hD hS => ?_)
          have hP : va_P D vwCl [(me, oMem rg nx ct), (rg, aD yD 14 f), (d, oDrv dc S2 k2), (dc, aI yI 48 g2), (q, oDrv qc S2 k2), (qc, aI yI 48 g2)] H := hP
          have hD : va_D A [(me, oMem rg nx ct), (rg, aD yD 14 f), (d, oDrv dc S2 k2), (dc, aI yI 48 g2), (q, oDrv qc S2 k2), (qc, aI yI 48 g2)] := hD
          refine lv_aload_n hx hb dX2_takeBack_60 rfl (lv_at hl 2 rfl) ?_
          refine lv_iload_n hx hb dX2_takeBack_61 rfl (lv_at hl 1 rfl) ?_
          refine va_put (D := D) (ci := 2) (v := .int (iI nw)) (ty := .int) (C := RX2) (T := TX2) (N := 3) hx hb hts hinX2 tyX2 tyX2_ok nmX2 hown hK hP hD hS 0 rfl rfl 1 (by decide) hf21 (fun _ h9 => h9) rfl (by decide +kernel) rfl rfl (Nat.le_of_ble_eq_true rfl) dX2_takeBack_62 (fun H locs hP hD hS => ?_)
          have hP : va_P D vwCl [(me, oMem rg nw ct), (rg, aD yD 14 f), (d, oDrv dc S2 k2), (dc, aI yI 48 g2), (q, oDrv qc S2 k2), (qc, aI yI 48 g2)] H := hP
          have hD : va_D A [(me, oMem rg nw ct), (rg, aD yD 14 f), (d, oDrv dc S2 k2), (dc, aI yI 48 g2), (q, oDrv qc S2 k2), (qc, aI yI 48 g2)] := hD
          refine lv_aload_n hx hb dX2_takeBack_65 rfl (lv_at hl 2 rfl) ?_
          refine lv_dup hx hb dX2_takeBack_66 rfl ?_
          refine va_get (D := D) (ci := 2) (v := .int (iI ct)) (C := RX2) (T := TX2) (N := 3) hx hb hts hinX2 hown hK hP 0 rfl rfl 2 (by decide) hf17 (fun _ h9 => h9) rfl dX2_takeBack_67 ?_
          refine lv_iconst (v := iI 1) hx hb dX2_takeBack_70 (by decide +kernel) ?_
          refine iv_sub hx hb dX2_takeBack_71 ?_
          refine va_put (D := D) (ci := 2) (v := .int (iI (ct - 1))) (ty := .int) (C := RX2) (T := TX2) (N := 3) hx hb hts hinX2 tyX2 tyX2_ok nmX2 hown hK hP hD hS 0 rfl rfl 2 (by decide) hf17 (fun _ h9 => h9) rfl (by decide +kernel) rfl rfl (Nat.le_of_ble_eq_true rfl) dX2_takeBack_72 (fun H locs hP hD hS => ?_)
          have hP : va_P D vwCl [(me, oMem rg nw (ct - 1)), (rg, aD yD 14 f), (d, oDrv dc S2 k2), (dc, aI yI 48 g2), (q, oDrv qc S2 k2), (qc, aI yI 48 g2)] H := hP
          have hD : va_D A [(me, oMem rg nw (ct - 1)), (rg, aD yD 14 f), (d, oDrv dc S2 k2), (dc, aI yI 48 g2), (q, oDrv qc S2 k2), (qc, aI yI 48 g2)] := hD
          refine lv_aload_n hx hb dX2_takeBack_75 rfl (lv_at hl 2 rfl) ?_
          refine va_get (D := D) (ci := 2) (v := .int (iI (ct - 1))) (C := RX2) (T := TX2) (N := 3) hx hb hts hinX2 hown hK hP 0 rfl rfl 2 (by decide) hf17 (fun _ h9 => h9) rfl dX2_takeBack_76 ?_
          have hP9 : va_P D vwCl [(me, oMem rg nw (ct - 1)), (rg, aD yD 14 f), (d, oDrv dc S2 k2), (dc, aI yI 48 g2), (q, oDrv qc S2 k2), (qc, aI yI 48 g2)] _ := hP.sub [0, 1, 2, 3, 4, 5] rfl
          exact W.iret hx hb hr (fun t ht hW => ⟨⟨iI (ct - 1), (), rfl, ⟨rfl, trivial⟩, by show va_P D vwCl _ t.heap; rw [ht]; exact hP9⟩, hS.F ht⟩) hS.2.2 dX2_takeBack_79
  · refine lv_aload_n hx hb dX2_takeBack_7 rfl (lv_at hl 0 rfl) ?_
    refine va_get (D := D) (ci := 2) (v := .int (iI nx)) (C := RX2) (T := TX2) (N := 3) hx hb hts hinX2 hown hK hP 0 rfl rfl 1 (by decide) hf21 (fun _ h9 => h9) rfl dX2_takeBack_8 ?_
    refine lv_iconst (v := iI 1) hx hb dX2_takeBack_11 (by decide +kernel) ?_
    refine iv_sub hx hb dX2_takeBack_12 ?_
    refine lv_goto (tgt := 23) hx hb dX2_takeBack_13 (by decide) ?_
    rw [show (nx - 1 : Int) = nw from (by omega)]
    refine lv_istore_n (lv' := [(2, .int (iI nw)), (0, .ref me), (1, .ref d)]) hx hb dX2_takeBack_23 rfl hl (by decide) rfl (fun ls hl => ?_)
    refine lv_aload_n hx hb dX2_takeBack_24 rfl (lv_at hl 1 rfl) ?_
    refine va_get (D := D) (ci := 2) (v := .int (iI ct)) (C := RX2) (T := TX2) (N := 3) hx hb hts hinX2 hown hK hP 0 rfl rfl 2 (by decide) hf17 (fun _ h9 => h9) rfl dX2_takeBack_25 ?_
    refine iv_if_le (a := ct) (tgt := 75) hx hb (by omega) dX2_takeBack_28 (by decide) (fun c28 => ?_) (fun c28 => ?_)
    · exact absurd c28 (by omega)
    · refine lv_iload_n hx hb dX2_takeBack_31 rfl (lv_at hl 0 rfl) ?_
      refine iv_if_lt (a := nw) (tgt := 75) hx hb (by omega) dX2_takeBack_32 (by decide) (fun c32 => ?_) (fun c32 => ?_)
      · exact absurd c32 (by omega)
      · refine lv_iload_n hx hb dX2_takeBack_35 rfl (lv_at hl 0 rfl) ?_
        refine lv_aload_n hx hb dX2_takeBack_36 rfl (lv_at hl 1 rfl) ?_
        refine va_get (D := D) (ci := 2) (v := .ref rg) (C := RX2) (T := TX2) (N := 3) hx hb hts hinX2 hown hK hP 0 rfl rfl 0 (by decide) hf11 (fun _ h9 => h9) rfl dX2_takeBack_37 ?_
        refine va_alen (v := iI 14) hx hb hK hP 1 2 rfl rfl (by show Int32.ofNat 14 = iI 14; decide +kernel) dX2_takeBack_40 ?_
        refine iv_icmp_ge (a := nw) (b := 14) (tgt := 75) hx hb (by omega) (by omega) dX2_takeBack_41 (by decide) (fun c41 => ?_) (fun c41 => ?_)
        · exact absurd c41 (by omega)
        · refine lv_aload_n hx hb dX2_takeBack_44 rfl (lv_at hl 1 rfl) ?_
          refine va_get (D := D) (ci := 2) (v := .ref rg) (C := RX2) (T := TX2) (N := 3) hx hb hts hinX2 hown hK hP 0 rfl rfl 0 (by decide) hf11 (fun _ h9 => h9) rfl dX2_takeBack_45 ?_
          refine lv_iload_n hx hb dX2_takeBack_48 rfl (lv_at hl 0 rfl) ?_
          refine va_aldq hx hb hK hP 1 2 rfl rfl (iI_in (by omega) (by omega) (by omega)) dX2_takeBack_49 ?_
          rw [iI_cl (by omega), hf, rf_s]
          refine lv_astore_n (lv' := [(3, .ref q), (2, .int (iI nw)), (0, .ref me), (1, .ref d)]) hx hb dX2_takeBack_50 rfl hl (by decide) rfl (fun ls hl => ?_)
          refine lv_aload_n hx hb dX2_takeBack_51 rfl (lv_at hl 0 rfl) ?_
          refine lv_ifnull hx hb dX2_takeBack_52 ?_
          refine lv_aload_n hx hb dX2_takeBack_55 rfl (lv_at hl 3 rfl) ?_
          refine lv_aload_n hx hb dX2_takeBack_56 rfl (lv_at hl 0 rfl) ?_
          refine iv_rwVv (As := [.ref q]) (rest := []) (C := RX0) (n := 1) ⟨hx, hb, hml, hown, hts⟩ (c_X0_takeFrom l D yI yC yD d dc S g k q qc S2 g2 k2  _) (cwV 1 hts gX2_takeBack_X0_takeFrom rfl rfl rfl (by decide +kernel) ⟨Nat.le_of_ble_eq_true rfl, Nat.le_of_ble_eq_true rfl⟩) hK hP hD hS hA [2, 3, 4, 5] (by decide) rfl 2 rfl rfl rfl hl.1 rfl (Nat.le_of_ble_eq_true rfl) dX2_takeBack_57 ⟨Nat.zero_le _, Nat.zero_le _⟩ (fun _ => rfl) (fun u57 H locs hw57 hP hD hS => ?_)
          have hP : va_P D vwCl [(me, oMem rg nx ct), (rg, aD yD 14 f), (d, oDrv dc S2 k2), (dc, aI yI 48 g2), (q, oDrv qc S2 k2), (qc, aI yI 48 g2)] H := hP
          have hD : va_D A [(me, oMem rg nx ct), (rg, aD yD 14 f), (d, oDrv dc S2 k2), (dc, aI yI 48 g2), (q, oDrv qc S2 k2), (qc, aI yI 48 g2)] := hD
          refine lv_aload_n hx hb dX2_takeBack_60 rfl (lv_at hl 2 rfl) ?_
          refine lv_iload_n hx hb dX2_takeBack_61 rfl (lv_at hl 1 rfl) ?_
          refine va_put (D := D) (ci := 2) (v := .int (iI nw)) (ty := .int) (C := RX2) (T := TX2) (N := 3) hx hb hts hinX2 tyX2 tyX2_ok nmX2 hown hK hP hD hS 0 rfl rfl 1 (by decide) hf21 (fun _ h9 => h9) rfl (by decide +kernel) rfl rfl (Nat.le_of_ble_eq_true rfl) dX2_takeBack_62 (fun H locs hP hD hS => ?_)
          have hP : va_P D vwCl [(me, oMem rg nw ct), (rg, aD yD 14 f), (d, oDrv dc S2 k2), (dc, aI yI 48 g2), (q, oDrv qc S2 k2), (qc, aI yI 48 g2)] H := hP
          have hD : va_D A [(me, oMem rg nw ct), (rg, aD yD 14 f), (d, oDrv dc S2 k2), (dc, aI yI 48 g2), (q, oDrv qc S2 k2), (qc, aI yI 48 g2)] := hD
          refine lv_aload_n hx hb dX2_takeBack_65 rfl (lv_at hl 2 rfl) ?_
          refine lv_dup hx hb dX2_takeBack_66 rfl ?_
          refine va_get (D := D) (ci := 2) (v := .int (iI ct)) (C := RX2) (T := TX2) (N := 3) hx hb hts hinX2 hown hK hP 0 rfl rfl 2 (by decide) hf17 (fun _ h9 => h9) rfl dX2_takeBack_67 ?_
          refine lv_iconst (v := iI 1) hx hb dX2_takeBack_70 (by decide +kernel) ?_
          refine iv_sub hx hb dX2_takeBack_71 ?_
          refine va_put (D := D) (ci := 2) (v := .int (iI (ct - 1))) (ty := .int) (C := RX2) (T := TX2) (N := 3) hx hb hts hinX2 tyX2 tyX2_ok nmX2 hown hK hP hD hS 0 rfl rfl 2 (by decide) hf17 (fun _ h9 => h9) rfl (by decide +kernel) rfl rfl (Nat.le_of_ble_eq_true rfl) dX2_takeBack_72 (fun H locs hP hD hS => ?_)
          have hP : va_P D vwCl [(me, oMem rg nw (ct - 1)), (rg, aD yD 14 f), (d, oDrv dc S2 k2), (dc, aI yI 48 g2), (q, oDrv qc S2 k2), (qc, aI yI 48 g2)] H := hP
          have hD : va_D A [(me, oMem rg nw (ct - 1)), (rg, aD yD 14 f), (d, oDrv dc S2 k2), (dc, aI yI 48 g2), (q, oDrv qc S2 k2), (qc, aI yI 48 g2)] := hD
          refine lv_aload_n hx hb dX2_takeBack_75 rfl (lv_at hl 2 rfl) ?_
          refine va_get (D := D) (ci := 2) (v := .int (iI (ct - 1))) (C := RX2) (T := TX2) (N := 3) hx hb hts hinX2 hown hK hP 0 rfl rfl 2 (by decide) hf17 (fun _ h9 => h9) rfl dX2_takeBack_76 ?_
          have hP9 : va_P D vwCl [(me, oMem rg nw (ct - 1)), (rg, aD yD 14 f), (d, oDrv dc S2 k2), (dc, aI yI 48 g2), (q, oDrv qc S2 k2), (qc, aI yI 48 g2)] _ := hP.sub [0, 1, 2, 3, 4, 5] rfl
          exact W.iret hx hb hr (fun t ht hW => ⟨⟨iI (ct - 1), (), rfl, ⟨rfl, trivial⟩, by show va_P D vwCl _ t.heap; rw [ht]; exact hP9⟩, hS.F ht⟩) hS.2.2 dX2_takeBack_79
