set_option maxHeartbeats 4000000 in
set_option maxRecDepth 100000 in
theorem c_X0_makeNew (l : Launch) (D : va_G) (yI yC yD : ClassId) (d : Nat) (dc : Nat) (S : Int → Int) (g : Int → Int) (k : Int64) (q : Int)  (sz : Nat) : Met l yX0_makeNew wsX0_makeNew ({ frames := 0, cells := 0, slots := 0, locals := 0 }) (rwP [.ref d, .int (iI q)] D (tyz yI yC yD) [(d, oDrv dc S k), (dc, aI yI 48 g)] sz) (va_Qv (fun (_ : Unit) => True) (fun (_ : Unit) (t : State) => va_P D vwCl [(d, oDrv dc (newS q) (lN (kL (newS q) 0 40))), (dc, aI yI 48 g)] t.heap) (va_A [(d, oDrv dc S k), (dc, aI yI 48 g)] sz)) 0 0 (va_A [(d, oDrv dc S k), (dc, aI yI 48 g)] sz) := by
  refine Met.ofW (cc := cX0_makeNew) (maxL := 2) (ret := none) (by decide) rfl ?_
  intro p e s m args below meth c s₁ B hml hv
  obtain ⟨rfl, hsz, hP, hK, hD0⟩ := hv
  have hx := B.exec
  have hb := B.bytes
  have hr := B.returns
  have hts := atoms_spec (ws := wsX0_makeNew) B.pre
  have hown : s.vm.findClass RX0 = some m.cls := findClass_of_methodNamed B.named
  have hlocks := B.notSynchronized
  subst hsz
  have hD := hD0.self (sz := s.heap.size)
  generalize hAe : va_A [(d, oDrv dc S k), (dc, aI yI 48 g)] s.heap.size = A at hD ⊢
  have hA : ∀ q : Nat, s.heap.size ≤ q → A q := fun q h => by rw [← hAe]; exact Or.inr h
  have hS : va_S A s.heap s.heap [] := va_S.rf
  have hP : va_P D vwCl [(d, oDrv dc S k), (dc, aI yI 48 g)] s.heap := hP
  have hinX0 : ∀ w ∈ wsX00, w ∈ wsX0_makeNew := by decide +kernel
  have hf15 : (Cond.fieldLink RX0 15 "RiddleDrive$Drive" "places" "I").before _ s = true := hts _ (by decide +kernel)
  have hf19 : (Cond.fieldLink RX0 19 "RiddleDrive$Drive" "width" "I").before _ s = true := hts _ (by decide +kernel)
  have hf22 : (Cond.fieldLink RX0 22 "RiddleDrive$Drive" "secrecy" "I").before _ s = true := hts _ (by decide +kernel)
  have hf25 : (Cond.fieldLink RX0 25 "RiddleDrive$Drive" "fee" "I").before _ s = true := hts _ (by decide +kernel)
  have hf28 : (Cond.fieldLink RX0 28 "RiddleDrive$Drive" "answers" "I").before _ s = true := hts _ (by decide +kernel)
  have hf31 : (Cond.fieldLink RX0 31 "RiddleDrive$Drive" "paid" "I").before _ s = true := hts _ (by decide +kernel)
  have hf34 : (Cond.fieldLink RX0 34 "RiddleDrive$Drive" "asked" "I").before _ s = true := hts _ (by decide +kernel)
  have hf37 : (Cond.fieldLink RX0 37 "RiddleDrive$Drive" "forgotten" "I").before _ s = true := hts _ (by decide +kernel)
  have hf40 : (Cond.fieldLink RX0 40 "RiddleDrive$Drive" "keys" "J").before _ s = true := hts _ (by decide +kernel)
  have hl := lv_entry ([.ref d, .int (iI q)]) (n := 2) (Nat.le_of_ble_eq_true rfl)
  rw [lg_entry_eq]
  generalize (lg_sl ([.ref d, .int (iI q)]) ++ List.replicate (2 - (lg_sl ([.ref d, .int (iI q)])).length) Slot.unset).toArray = ls at hl ⊢
  have hl : lv_has ls 2 [(0, .ref d), (1, .int (iI q))] := hl
  refine lv_aload_n hx hb dX0_makeNew_0 rfl (lv_at hl 0 rfl) ?_
  refine lv_iload_n hx hb dX0_makeNew_1 rfl (lv_at hl 1 rfl) ?_
  refine va_put (D := D) (ci := 0) (v := .int (iI q)) (ty := .int) (C := RX0) (T := TX0) (N := 10) hx hb hts hinX0 tyX0 tyX0_ok nmX0 hown hK hP hD hS 0 rfl rfl 0 (by decide) hf15 (fun _ h9 => h9) rfl (by decide +kernel) rfl rfl (Nat.le_of_ble_eq_true rfl) dX0_makeNew_2 (fun H locs hP hD hS => ?_)
  have hP : va_P D vwCl [(d, oDrv dc (up S 0 q) k), (dc, aI yI 48 g)] H := hP
  have hD : va_D A [(d, oDrv dc (up S 0 q) k), (dc, aI yI 48 g)] := hD
  refine lv_aload_n hx hb dX0_makeNew_5 rfl (lv_at hl 0 rfl) ?_
  refine lv_iconst (v := iI 3) hx hb dX0_makeNew_6 (by decide +kernel) ?_
  refine va_put (D := D) (ci := 0) (v := .int (iI 3)) (ty := .int) (C := RX0) (T := TX0) (N := 10) hx hb hts hinX0 tyX0 tyX0_ok nmX0 hown hK hP hD hS 0 rfl rfl 1 (by decide) hf19 (fun _ h9 => h9) rfl (by decide +kernel) rfl rfl (Nat.le_of_ble_eq_true rfl) dX0_makeNew_7 (fun H locs hP hD hS => ?_)
  have hP : va_P D vwCl [(d, oDrv dc (up (up S 0 q) 1 3) k), (dc, aI yI 48 g)] H := hP
  have hD : va_D A [(d, oDrv dc (up (up S 0 q) 1 3) k), (dc, aI yI 48 g)] := hD
  refine lv_aload_n hx hb dX0_makeNew_10 rfl (lv_at hl 0 rfl) ?_
  refine lv_iconst (v := iI 2) hx hb dX0_makeNew_11 (by decide +kernel) ?_
  refine va_put (D := D) (ci := 0) (v := .int (iI 2)) (ty := .int) (C := RX0) (T := TX0) (N := 10) hx hb hts hinX0 tyX0 tyX0_ok nmX0 hown hK hP hD hS 0 rfl rfl 2 (by decide) hf22 (fun _ h9 => h9) rfl (by decide +kernel) rfl rfl (Nat.le_of_ble_eq_true rfl) dX0_makeNew_12 (fun H locs hP hD hS => ?_)
  have hP : va_P D vwCl [(d, oDrv dc (up (up (up S 0 q) 1 3) 2 2) k), (dc, aI yI 48 g)] H := hP
  have hD : va_D A [(d, oDrv dc (up (up (up S 0 q) 1 3) 2 2) k), (dc, aI yI 48 g)] := hD
  refine lv_aload_n hx hb dX0_makeNew_15 rfl (lv_at hl 0 rfl) ?_
  refine lv_iconst (v := iI 1) hx hb dX0_makeNew_16 (by decide +kernel) ?_
  refine va_put (D := D) (ci := 0) (v := .int (iI 1)) (ty := .int) (C := RX0) (T := TX0) (N := 10) hx hb hts hinX0 tyX0 tyX0_ok nmX0 hown hK hP hD hS 0 rfl rfl 3 (by decide) hf25 (fun _ h9 => h9) rfl (by decide +kernel) rfl rfl (Nat.le_of_ble_eq_true rfl) dX0_makeNew_17 (fun H locs hP hD hS => ?_)
  have hP : va_P D vwCl [(d, oDrv dc (up (up (up (up S 0 q) 1 3) 2 2) 3 1) k), (dc, aI yI 48 g)] H := hP
  have hD : va_D A [(d, oDrv dc (up (up (up (up S 0 q) 1 3) 2 2) 3 1) k), (dc, aI yI 48 g)] := hD
  refine lv_aload_n hx hb dX0_makeNew_20 rfl (lv_at hl 0 rfl) ?_
  refine lv_iconst (v := iI 0) hx hb dX0_makeNew_21 (by decide +kernel) ?_
  refine va_put (D := D) (ci := 0) (v := .int (iI 0)) (ty := .int) (C := RX0) (T := TX0) (N := 10) hx hb hts hinX0 tyX0 tyX0_ok nmX0 hown hK hP hD hS 0 rfl rfl 4 (by decide) hf28 (fun _ h9 => h9) rfl (by decide +kernel) rfl rfl (Nat.le_of_ble_eq_true rfl) dX0_makeNew_22 (fun H locs hP hD hS => ?_)
  have hP : va_P D vwCl [(d, oDrv dc (up (up (up (up (up S 0 q) 1 3) 2 2) 3 1) 4 0) k), (dc, aI yI 48 g)] H := hP
  have hD : va_D A [(d, oDrv dc (up (up (up (up (up S 0 q) 1 3) 2 2) 3 1) 4 0) k), (dc, aI yI 48 g)] := hD
  refine lv_aload_n hx hb dX0_makeNew_25 rfl (lv_at hl 0 rfl) ?_
  refine lv_iconst (v := iI 0) hx hb dX0_makeNew_26 (by decide +kernel) ?_
  refine va_put (D := D) (ci := 0) (v := .int (iI 0)) (ty := .int) (C := RX0) (T := TX0) (N := 10) hx hb hts hinX0 tyX0 tyX0_ok nmX0 hown hK hP hD hS 0 rfl rfl 5 (by decide) hf31 (fun _ h9 => h9) rfl (by decide +kernel) rfl rfl (Nat.le_of_ble_eq_true rfl) dX0_makeNew_27 (fun H locs hP hD hS => ?_)
  have hP : va_P D vwCl [(d, oDrv dc (up (up (up (up (up (up S 0 q) 1 3) 2 2) 3 1) 4 0) 5 0) k), (dc, aI yI 48 g)] H := hP
  have hD : va_D A [(d, oDrv dc (up (up (up (up (up (up S 0 q) 1 3) 2 2) 3 1) 4 0) 5 0) k), (dc, aI yI 48 g)] := hD
  refine lv_aload_n hx hb dX0_makeNew_30 rfl (lv_at hl 0 rfl) ?_
  refine lv_iconst (v := iI 0) hx hb dX0_makeNew_31 (by decide +kernel) ?_
  refine va_put (D := D) (ci := 0) (v := .int (iI 0)) (ty := .int) (C := RX0) (T := TX0) (N := 10) hx hb hts hinX0 tyX0 tyX0_ok nmX0 hown hK hP hD hS 0 rfl rfl 6 (by decide) hf34 (fun _ h9 => h9) rfl (by decide +kernel) rfl rfl (Nat.le_of_ble_eq_true rfl) dX0_makeNew_32 (fun H locs hP hD hS => ?_)
  have hP : va_P D vwCl [(d, oDrv dc (up (up (up (up (up (up (up S 0 q) 1 3) 2 2) 3 1) 4 0) 5 0) 6 0) k), (dc, aI yI 48 g)] H := hP
  have hD : va_D A [(d, oDrv dc (up (up (up (up (up (up (up S 0 q) 1 3) 2 2) 3 1) 4 0) 5 0) 6 0) k), (dc, aI yI 48 g)] := hD
  refine lv_aload_n hx hb dX0_makeNew_35 rfl (lv_at hl 0 rfl) ?_
  refine lv_iconst (v := iI 0) hx hb dX0_makeNew_36 (by decide +kernel) ?_
  refine va_put (D := D) (ci := 0) (v := .int (iI 0)) (ty := .int) (C := RX0) (T := TX0) (N := 10) hx hb hts hinX0 tyX0 tyX0_ok nmX0 hown hK hP hD hS 0 rfl rfl 7 (by decide) hf37 (fun _ h9 => h9) rfl (by decide +kernel) rfl rfl (Nat.le_of_ble_eq_true rfl) dX0_makeNew_37 (fun H locs hP hD hS => ?_)
  have hP : va_P D vwCl [(d, oDrv dc (up (up (up (up (up (up (up (up S 0 q) 1 3) 2 2) 3 1) 4 0) 5 0) 6 0) 7 0) k), (dc, aI yI 48 g)] H := hP
  have hD : va_D A [(d, oDrv dc (up (up (up (up (up (up (up (up S 0 q) 1 3) 2 2) 3 1) 4 0) 5 0) 6 0) 7 0) k), (dc, aI yI 48 g)] := hD
  refine lv_aload_n hx hb dX0_makeNew_40 rfl (lv_at hl 0 rfl) ?_
  refine lv_lconst (v := 0) hx hb dX0_makeNew_41 (by decide +kernel) ?_
  refine va_put (D := D) (ci := 0) (v := .long 0) (ty := .long) (C := RX0) (T := TX0) (N := 10) hx hb hts hinX0 tyX0 tyX0_ok nmX0 hown hK hP hD hS 0 rfl rfl 8 (by decide) hf40 (fun _ h9 => h9) rfl (by decide +kernel) rfl rfl (Nat.le_of_ble_eq_true rfl) dX0_makeNew_42 (fun H locs hP hD hS => ?_)
  have hP : va_P D vwCl [(d, oDrv dc (up (up (up (up (up (up (up (up S 0 q) 1 3) 2 2) 3 1) 4 0) 5 0) 6 0) 7 0) 0), (dc, aI yI 48 g)] H := hP
  have hD : va_D A [(d, oDrv dc (up (up (up (up (up (up (up (up S 0 q) 1 3) 2 2) 3 1) 4 0) 5 0) 6 0) 7 0) 0), (dc, aI yI 48 g)] := hD
  have hP9 : va_P D vwCl [(d, oDrv dc (newS q) (lN (kL (newS q) 0 40))), (dc, aI yI 48 g)] _ := (hP.sub (ws' := [(d, oDrv dc (up (up (up (up (up (up (up (up S 0 q) 1 3) 2 2) 3 1) 4 0) 5 0) 6 0) 7 0) 0), (dc, aI yI 48 g)]) [0, 1] rfl).cv (by exact congrArg (fun z => [(d, z), (dc, aI yI 48 g)]) (oDrv_e (fun z h0 h1 => by unfold newS up; (repeat' split) <;> first | rfl | (exfalso; omega)) (kL_new)))
  exact W.vret hx hb hr (fun t ht hW => ⟨⟨(), rfl, trivial, by show va_P D vwCl _ t.heap; rw [ht]; exact hP9⟩, hS.F ht⟩) hS.2.2 dX0_makeNew_45
set_option maxHeartbeats 4000000 in
set_option maxRecDepth 100000 in
theorem c_X0_takeFrom (l : Launch) (D : va_G) (yI yC yD : ClassId) (d : Nat) (dc : Nat) (S : Int → Int) (g : Int → Int) (k : Int64) (d2 : Nat) (dc2 : Nat) (S2 : Int → Int) (g2 : Int → Int) (k2 : Int64)  (sz : Nat) : Met l yX0_takeFrom wsX0_takeFrom ({ frames := 0, cells := 0, slots := 0, locals := 0 }) (rwP [.ref d, .ref d2] D (tyz yI yC yD) [(d, oDrv dc S k), (dc, aI yI 48 g), (d2, oDrv dc2 S2 k2), (dc2, aI yI 48 g2)] sz) (va_Qv (fun (_ : Unit) => True) (fun (_ : Unit) (t : State) => va_P D vwCl [(d, oDrv dc S2 k2), (dc, aI yI 48 g2), (d2, oDrv dc2 S2 k2), (dc2, aI yI 48 g2)] t.heap) (va_A [(d, oDrv dc S k), (dc, aI yI 48 g), (d2, oDrv dc2 S2 k2), (dc2, aI yI 48 g2)] sz)) 0 0 (va_A [(d, oDrv dc S k), (dc, aI yI 48 g), (d2, oDrv dc2 S2 k2), (dc2, aI yI 48 g2)] sz) := by
  refine Met.ofW (cc := cX0_takeFrom) (maxL := 3) (ret := none) (by decide) rfl ?_
  intro p e s m args below meth c s₁ B hml hv
  obtain ⟨rfl, hsz, hP, hK, hD0⟩ := hv
  have hx := B.exec
  have hb := B.bytes
  have hr := B.returns
  have hts := atoms_spec (ws := wsX0_takeFrom) B.pre
  have hown : s.vm.findClass RX0 = some m.cls := findClass_of_methodNamed B.named
  have hlocks := B.notSynchronized
  subst hsz
  have hD := hD0.self (sz := s.heap.size)
  generalize hAe : va_A [(d, oDrv dc S k), (dc, aI yI 48 g), (d2, oDrv dc2 S2 k2), (dc2, aI yI 48 g2)] s.heap.size = A at hD ⊢
  have hA : ∀ q : Nat, s.heap.size ≤ q → A q := fun q h => by rw [← hAe]; exact Or.inr h
  have hS : va_S A s.heap s.heap [] := va_S.rf
  have hP : va_P D vwCl [(d, oDrv dc S k), (dc, aI yI 48 g), (d2, oDrv dc2 S2 k2), (dc2, aI yI 48 g2)] s.heap := hP
  have hinX0 : ∀ w ∈ wsX00, w ∈ wsX0_takeFrom := by decide +kernel
  have hf9 : (Cond.fieldLink RX0 9 "RiddleDrive$Drive" "cells" "[I").before _ s = true := hts _ (by decide +kernel)
  have hf15 : (Cond.fieldLink RX0 15 "RiddleDrive$Drive" "places" "I").before _ s = true := hts _ (by decide +kernel)
  have hf19 : (Cond.fieldLink RX0 19 "RiddleDrive$Drive" "width" "I").before _ s = true := hts _ (by decide +kernel)
  have hf22 : (Cond.fieldLink RX0 22 "RiddleDrive$Drive" "secrecy" "I").before _ s = true := hts _ (by decide +kernel)
  have hf25 : (Cond.fieldLink RX0 25 "RiddleDrive$Drive" "fee" "I").before _ s = true := hts _ (by decide +kernel)
  have hf28 : (Cond.fieldLink RX0 28 "RiddleDrive$Drive" "answers" "I").before _ s = true := hts _ (by decide +kernel)
  have hf31 : (Cond.fieldLink RX0 31 "RiddleDrive$Drive" "paid" "I").before _ s = true := hts _ (by decide +kernel)
  have hf34 : (Cond.fieldLink RX0 34 "RiddleDrive$Drive" "asked" "I").before _ s = true := hts _ (by decide +kernel)
  have hf37 : (Cond.fieldLink RX0 37 "RiddleDrive$Drive" "forgotten" "I").before _ s = true := hts _ (by decide +kernel)
  have hf40 : (Cond.fieldLink RX0 40 "RiddleDrive$Drive" "keys" "J").before _ s = true := hts _ (by decide +kernel)
  have hl := lv_entry ([.ref d, .ref d2]) (n := 3) (Nat.le_of_ble_eq_true rfl)
  rw [lg_entry_eq]
  generalize (lg_sl ([.ref d, .ref d2]) ++ List.replicate (3 - (lg_sl ([.ref d, .ref d2])).length) Slot.unset).toArray = ls at hl ⊢
  have hl : lv_has ls 3 [(0, .ref d), (1, .ref d2)] := hl
  refine lv_aload_n hx hb dX0_takeFrom_0 rfl (lv_at hl 0 rfl) ?_
  refine lv_aload_n hx hb dX0_takeFrom_1 rfl (lv_at hl 1 rfl) ?_
  refine va_get (D := D) (ci := 0) (v := .int (iI (S2 0))) (C := RX0) (T := TX0) (N := 10) hx hb hts hinX0 hown hK hP 2 rfl rfl 0 (by decide) hf15 (fun _ h9 => h9) rfl dX0_takeFrom_2 ?_
  refine va_put (D := D) (ci := 0) (v := .int (iI (S2 0))) (ty := .int) (C := RX0) (T := TX0) (N := 10) hx hb hts hinX0 tyX0 tyX0_ok nmX0 hown hK hP hD hS 0 rfl rfl 0 (by decide) hf15 (fun _ h9 => h9) rfl (by decide +kernel) rfl rfl (Nat.le_of_ble_eq_true rfl) dX0_takeFrom_5 (fun H locs hP hD hS => ?_)
  have hP : va_P D vwCl [(d, oDrv dc (up S 0 (S2 0)) k), (dc, aI yI 48 g), (d2, oDrv dc2 S2 k2), (dc2, aI yI 48 g2)] H := hP
  have hD : va_D A [(d, oDrv dc (up S 0 (S2 0)) k), (dc, aI yI 48 g), (d2, oDrv dc2 S2 k2), (dc2, aI yI 48 g2)] := hD
  refine lv_aload_n hx hb dX0_takeFrom_8 rfl (lv_at hl 0 rfl) ?_
  refine lv_aload_n hx hb dX0_takeFrom_9 rfl (lv_at hl 1 rfl) ?_
  refine va_get (D := D) (ci := 0) (v := .int (iI (S2 1))) (C := RX0) (T := TX0) (N := 10) hx hb hts hinX0 hown hK hP 2 rfl rfl 1 (by decide) hf19 (fun _ h9 => h9) rfl dX0_takeFrom_10 ?_
  refine va_put (D := D) (ci := 0) (v := .int (iI (S2 1))) (ty := .int) (C := RX0) (T := TX0) (N := 10) hx hb hts hinX0 tyX0 tyX0_ok nmX0 hown hK hP hD hS 0 rfl rfl 1 (by decide) hf19 (fun _ h9 => h9) rfl (by decide +kernel) rfl rfl (Nat.le_of_ble_eq_true rfl) dX0_takeFrom_13 (fun H locs hP hD hS => ?_)
  have hP : va_P D vwCl [(d, oDrv dc (up (up S 0 (S2 0)) 1 (S2 1)) k), (dc, aI yI 48 g), (d2, oDrv dc2 S2 k2), (dc2, aI yI 48 g2)] H := hP
  have hD : va_D A [(d, oDrv dc (up (up S 0 (S2 0)) 1 (S2 1)) k), (dc, aI yI 48 g), (d2, oDrv dc2 S2 k2), (dc2, aI yI 48 g2)] := hD
  refine lv_aload_n hx hb dX0_takeFrom_16 rfl (lv_at hl 0 rfl) ?_
  refine lv_aload_n hx hb dX0_takeFrom_17 rfl (lv_at hl 1 rfl) ?_
  refine va_get (D := D) (ci := 0) (v := .int (iI (S2 2))) (C := RX0) (T := TX0) (N := 10) hx hb hts hinX0 hown hK hP 2 rfl rfl 2 (by decide) hf22 (fun _ h9 => h9) rfl dX0_takeFrom_18 ?_
  refine va_put (D := D) (ci := 0) (v := .int (iI (S2 2))) (ty := .int) (C := RX0) (T := TX0) (N := 10) hx hb hts hinX0 tyX0 tyX0_ok nmX0 hown hK hP hD hS 0 rfl rfl 2 (by decide) hf22 (fun _ h9 => h9) rfl (by decide +kernel) rfl rfl (Nat.le_of_ble_eq_true rfl) dX0_takeFrom_21 (fun H locs hP hD hS => ?_)
  have hP : va_P D vwCl [(d, oDrv dc (up (up (up S 0 (S2 0)) 1 (S2 1)) 2 (S2 2)) k), (dc, aI yI 48 g), (d2, oDrv dc2 S2 k2), (dc2, aI yI 48 g2)] H := hP
  have hD : va_D A [(d, oDrv dc (up (up (up S 0 (S2 0)) 1 (S2 1)) 2 (S2 2)) k), (dc, aI yI 48 g), (d2, oDrv dc2 S2 k2), (dc2, aI yI 48 g2)] := hD
  refine lv_aload_n hx hb dX0_takeFrom_24 rfl (lv_at hl 0 rfl) ?_
  refine lv_aload_n hx hb dX0_takeFrom_25 rfl (lv_at hl 1 rfl) ?_
  refine va_get (D := D) (ci := 0) (v := .int (iI (S2 3))) (C := RX0) (T := TX0) (N := 10) hx hb hts hinX0 hown hK hP 2 rfl rfl 3 (by decide) hf25 (fun _ h9 => h9) rfl dX0_takeFrom_26 ?_
  refine va_put (D := D) (ci := 0) (v := .int (iI (S2 3))) (ty := .int) (C := RX0) (T := TX0) (N := 10) hx hb hts hinX0 tyX0 tyX0_ok nmX0 hown hK hP hD hS 0 rfl rfl 3 (by decide) hf25 (fun _ h9 => h9) rfl (by decide +kernel) rfl rfl (Nat.le_of_ble_eq_true rfl) dX0_takeFrom_29 (fun H locs hP hD hS => ?_)
  have hP : va_P D vwCl [(d, oDrv dc (up (up (up (up S 0 (S2 0)) 1 (S2 1)) 2 (S2 2)) 3 (S2 3)) k), (dc, aI yI 48 g), (d2, oDrv dc2 S2 k2), (dc2, aI yI 48 g2)] H := hP
  have hD : va_D A [(d, oDrv dc (up (up (up (up S 0 (S2 0)) 1 (S2 1)) 2 (S2 2)) 3 (S2 3)) k), (dc, aI yI 48 g), (d2, oDrv dc2 S2 k2), (dc2, aI yI 48 g2)] := hD
  refine lv_aload_n hx hb dX0_takeFrom_32 rfl (lv_at hl 0 rfl) ?_
  refine lv_aload_n hx hb dX0_takeFrom_33 rfl (lv_at hl 1 rfl) ?_
  refine va_get (D := D) (ci := 0) (v := .int (iI (S2 4))) (C := RX0) (T := TX0) (N := 10) hx hb hts hinX0 hown hK hP 2 rfl rfl 4 (by decide) hf28 (fun _ h9 => h9) rfl dX0_takeFrom_34 ?_
  refine va_put (D := D) (ci := 0) (v := .int (iI (S2 4))) (ty := .int) (C := RX0) (T := TX0) (N := 10) hx hb hts hinX0 tyX0 tyX0_ok nmX0 hown hK hP hD hS 0 rfl rfl 4 (by decide) hf28 (fun _ h9 => h9) rfl (by decide +kernel) rfl rfl (Nat.le_of_ble_eq_true rfl) dX0_takeFrom_37 (fun H locs hP hD hS => ?_)
  have hP : va_P D vwCl [(d, oDrv dc (up (up (up (up (up S 0 (S2 0)) 1 (S2 1)) 2 (S2 2)) 3 (S2 3)) 4 (S2 4)) k), (dc, aI yI 48 g), (d2, oDrv dc2 S2 k2), (dc2, aI yI 48 g2)] H := hP
  have hD : va_D A [(d, oDrv dc (up (up (up (up (up S 0 (S2 0)) 1 (S2 1)) 2 (S2 2)) 3 (S2 3)) 4 (S2 4)) k), (dc, aI yI 48 g), (d2, oDrv dc2 S2 k2), (dc2, aI yI 48 g2)] := hD
  refine lv_aload_n hx hb dX0_takeFrom_40 rfl (lv_at hl 0 rfl) ?_
  refine lv_aload_n hx hb dX0_takeFrom_41 rfl (lv_at hl 1 rfl) ?_
  refine va_get (D := D) (ci := 0) (v := .int (iI (S2 5))) (C := RX0) (T := TX0) (N := 10) hx hb hts hinX0 hown hK hP 2 rfl rfl 5 (by decide) hf31 (fun _ h9 => h9) rfl dX0_takeFrom_42 ?_
  refine va_put (D := D) (ci := 0) (v := .int (iI (S2 5))) (ty := .int) (C := RX0) (T := TX0) (N := 10) hx hb hts hinX0 tyX0 tyX0_ok nmX0 hown hK hP hD hS 0 rfl rfl 5 (by decide) hf31 (fun _ h9 => h9) rfl (by decide +kernel) rfl rfl (Nat.le_of_ble_eq_true rfl) dX0_takeFrom_45 (fun H locs hP hD hS => ?_)
  have hP : va_P D vwCl [(d, oDrv dc (up (up (up (up (up (up S 0 (S2 0)) 1 (S2 1)) 2 (S2 2)) 3 (S2 3)) 4 (S2 4)) 5 (S2 5)) k), (dc, aI yI 48 g), (d2, oDrv dc2 S2 k2), (dc2, aI yI 48 g2)] H := hP
  have hD : va_D A [(d, oDrv dc (up (up (up (up (up (up S 0 (S2 0)) 1 (S2 1)) 2 (S2 2)) 3 (S2 3)) 4 (S2 4)) 5 (S2 5)) k), (dc, aI yI 48 g), (d2, oDrv dc2 S2 k2), (dc2, aI yI 48 g2)] := hD
  refine lv_aload_n hx hb dX0_takeFrom_48 rfl (lv_at hl 0 rfl) ?_
  refine lv_aload_n hx hb dX0_takeFrom_49 rfl (lv_at hl 1 rfl) ?_
  refine va_get (D := D) (ci := 0) (v := .int (iI (S2 6))) (C := RX0) (T := TX0) (N := 10) hx hb hts hinX0 hown hK hP 2 rfl rfl 6 (by decide) hf34 (fun _ h9 => h9) rfl dX0_takeFrom_50 ?_
  refine va_put (D := D) (ci := 0) (v := .int (iI (S2 6))) (ty := .int) (C := RX0) (T := TX0) (N := 10) hx hb hts hinX0 tyX0 tyX0_ok nmX0 hown hK hP hD hS 0 rfl rfl 6 (by decide) hf34 (fun _ h9 => h9) rfl (by decide +kernel) rfl rfl (Nat.le_of_ble_eq_true rfl) dX0_takeFrom_53 (fun H locs hP hD hS => ?_)
  have hP : va_P D vwCl [(d, oDrv dc (up (up (up (up (up (up (up S 0 (S2 0)) 1 (S2 1)) 2 (S2 2)) 3 (S2 3)) 4 (S2 4)) 5 (S2 5)) 6 (S2 6)) k), (dc, aI yI 48 g), (d2, oDrv dc2 S2 k2), (dc2, aI yI 48 g2)] H := hP
  have hD : va_D A [(d, oDrv dc (up (up (up (up (up (up (up S 0 (S2 0)) 1 (S2 1)) 2 (S2 2)) 3 (S2 3)) 4 (S2 4)) 5 (S2 5)) 6 (S2 6)) k), (dc, aI yI 48 g), (d2, oDrv dc2 S2 k2), (dc2, aI yI 48 g2)] := hD
  refine lv_aload_n hx hb dX0_takeFrom_56 rfl (lv_at hl 0 rfl) ?_
  refine lv_aload_n hx hb dX0_takeFrom_57 rfl (lv_at hl 1 rfl) ?_
  refine va_get (D := D) (ci := 0) (v := .int (iI (S2 7))) (C := RX0) (T := TX0) (N := 10) hx hb hts hinX0 hown hK hP 2 rfl rfl 7 (by decide) hf37 (fun _ h9 => h9) rfl dX0_takeFrom_58 ?_
  refine va_put (D := D) (ci := 0) (v := .int (iI (S2 7))) (ty := .int) (C := RX0) (T := TX0) (N := 10) hx hb hts hinX0 tyX0 tyX0_ok nmX0 hown hK hP hD hS 0 rfl rfl 7 (by decide) hf37 (fun _ h9 => h9) rfl (by decide +kernel) rfl rfl (Nat.le_of_ble_eq_true rfl) dX0_takeFrom_61 (fun H locs hP hD hS => ?_)
  have hP : va_P D vwCl [(d, oDrv dc (up (up (up (up (up (up (up (up S 0 (S2 0)) 1 (S2 1)) 2 (S2 2)) 3 (S2 3)) 4 (S2 4)) 5 (S2 5)) 6 (S2 6)) 7 (S2 7)) k), (dc, aI yI 48 g), (d2, oDrv dc2 S2 k2), (dc2, aI yI 48 g2)] H := hP
  have hD : va_D A [(d, oDrv dc (up (up (up (up (up (up (up (up S 0 (S2 0)) 1 (S2 1)) 2 (S2 2)) 3 (S2 3)) 4 (S2 4)) 5 (S2 5)) 6 (S2 6)) 7 (S2 7)) k), (dc, aI yI 48 g), (d2, oDrv dc2 S2 k2), (dc2, aI yI 48 g2)] := hD
  refine lv_aload_n hx hb dX0_takeFrom_64 rfl (lv_at hl 0 rfl) ?_
  refine lv_aload_n hx hb dX0_takeFrom_65 rfl (lv_at hl 1 rfl) ?_
  refine va_get (D := D) (ci := 0) (v := .long k2) (C := RX0) (T := TX0) (N := 10) hx hb hts hinX0 hown hK hP 2 rfl rfl 8 (by decide) hf40 (fun _ h9 => h9) rfl dX0_takeFrom_66 ?_
  refine va_put (D := D) (ci := 0) (v := .long k2) (ty := .long) (C := RX0) (T := TX0) (N := 10) hx hb hts hinX0 tyX0 tyX0_ok nmX0 hown hK hP hD hS 0 rfl rfl 8 (by decide) hf40 (fun _ h9 => h9) rfl (by decide +kernel) rfl rfl (Nat.le_of_ble_eq_true rfl) dX0_takeFrom_69 (fun H locs hP hD hS => ?_)
  have hP : va_P D vwCl [(d, oDrv dc (up (up (up (up (up (up (up (up S 0 (S2 0)) 1 (S2 1)) 2 (S2 2)) 3 (S2 3)) 4 (S2 4)) 5 (S2 5)) 6 (S2 6)) 7 (S2 7)) k2), (dc, aI yI 48 g), (d2, oDrv dc2 S2 k2), (dc2, aI yI 48 g2)] H := hP
  have hD : va_D A [(d, oDrv dc (up (up (up (up (up (up (up (up S 0 (S2 0)) 1 (S2 1)) 2 (S2 2)) 3 (S2 3)) 4 (S2 4)) 5 (S2 5)) 6 (S2 6)) 7 (S2 7)) k2), (dc, aI yI 48 g), (d2, oDrv dc2 S2 k2), (dc2, aI yI 48 g2)] := hD
  refine lv_iconst (v := iI 0) hx hb dX0_takeFrom_72 (by decide +kernel) ?_
  refine lv_istore_n (lv' := [(2, .int (iI 0)), (0, .ref d), (1, .ref d2)]) hx hb dX0_takeFrom_73 rfl hl (by decide) rfl (fun ls hl => ?_)
  refine iv_loop (I := fun (qq : Nat × Int × (Int → Int)) H locs ls => match qq with | (n, x2, G) => (n ≤ 48) ∧ (x2 = n) ∧ (∀ z : Int, 0 ≤ z → z < n → G z = g2 z) ∧ va_P D vwCl [(d, oDrv dc (up (up (up (up (up (up (up (up S 0 (S2 0)) 1 (S2 1)) 2 (S2 2)) 3 (S2 3)) 4 (S2 4)) 5 (S2 5)) 6 (S2 6)) 7 (S2 7)) k2), (dc, aI yI 48 G), (d2, oDrv dc2 S2 k2), (dc2, aI yI 48 g2)] H ∧ va_D A [(d, oDrv dc (up (up (up (up (up (up (up (up S 0 (S2 0)) 1 (S2 1)) 2 (S2 2)) 3 (S2 3)) 4 (S2 4)) 5 (S2 5)) 6 (S2 6)) 7 (S2 7)) k2), (dc, aI yI 48 G), (d2, oDrv dc2 S2 k2), (dc2, aI yI 48 g2)] ∧ va_S A s.heap H locs ∧ lv_has ls 3 [(2, .int (iI x2)), (0, .ref d), (1, .ref d2)]) (μ := fun (qq : Nat × Int × (Int → Int)) => match qq with | (n, x2, G) => 48 - n) (0, 0, g) ?_ ?_
  · exact ⟨by omega, by omega, fun z h0 h1 => by omega, hP, hD, hS, lv_sub hl [0, 1, 2] rfl⟩
  · intro qq H locs ls hI ih74
    obtain ⟨n, x2, G⟩ := qq
    obtain ⟨hn, h2, hG, hP, hD, hS, hl⟩ := hI
    refine lv_iload_n hx hb dX0_takeFrom_74 rfl (lv_at hl 0 rfl) ?_
    refine lv_aload_n hx hb dX0_takeFrom_75 rfl (lv_at hl 1 rfl) ?_
    refine va_get (D := D) (ci := 0) (v := .ref dc) (C := RX0) (T := TX0) (N := 10) hx hb hts hinX0 hown hK hP 0 rfl rfl 9 (by decide) hf9 (fun _ h9 => h9) rfl dX0_takeFrom_76 ?_
    refine va_alen (v := iI 48) hx hb hK hP 1 0 rfl rfl (by show Int32.ofNat 48 = iI 48; decide +kernel) dX0_takeFrom_79 ?_
    refine iv_icmp_ge (a := x2) (b := 48) (tgt := 110) hx hb (by omega) (by omega) dX0_takeFrom_80 (by decide) (fun c80 => ?_) (fun c80 => ?_)
    · have hP := va_P.arr hP 1 (g := g2) rfl (fun z h0 h1 => hG z h0 (by omega))
      have hD : va_D A [(d, oDrv dc (up (up (up (up (up (up (up (up S 0 (S2 0)) 1 (S2 1)) 2 (S2 2)) 3 (S2 3)) 4 (S2 4)) 5 (S2 5)) 6 (S2 6)) 7 (S2 7)) k2), (dc, aI yI 48 g2), (d2, oDrv dc2 S2 k2), (dc2, aI yI 48 g2)] := hD.set (p := 1) rfl
      have hP : va_P D vwCl [(d, oDrv dc (up (up (up (up (up (up (up (up S 0 (S2 0)) 1 (S2 1)) 2 (S2 2)) 3 (S2 3)) 4 (S2 4)) 5 (S2 5)) 6 (S2 6)) 7 (S2 7)) k2), (dc, aI yI 48 g2), (d2, oDrv dc2 S2 k2), (dc2, aI yI 48 g2)] _ := hP
      have hP9 : va_P D vwCl [(d, oDrv dc S2 k2), (dc, aI yI 48 g2), (d2, oDrv dc2 S2 k2), (dc2, aI yI 48 g2)] _ := (hP.sub (ws' := [(d, oDrv dc (up (up (up (up (up (up (up (up S 0 (S2 0)) 1 (S2 1)) 2 (S2 2)) 3 (S2 3)) 4 (S2 4)) 5 (S2 5)) 6 (S2 6)) 7 (S2 7)) k2), (dc, aI yI 48 g2), (d2, oDrv dc2 S2 k2), (dc2, aI yI 48 g2)]) [0, 1, 2, 3] rfl).cv (by exact congrArg (fun z => [(d, z), (dc, aI yI 48 g2), (d2, oDrv dc2 S2 k2), (dc2, aI yI 48 g2)]) (oDrv_e (fun z h0 h1 => by unfold up; (repeat' split) <;> first | (exfalso; omega) | (rename_i q; rw [q])) rfl))
      exact W.vret hx hb hr (fun t ht hW => ⟨⟨(), rfl, trivial, by show va_P D vwCl _ t.heap; rw [ht]; exact hP9⟩, hS.F ht⟩) hS.2.2 dX0_takeFrom_110
    · refine lv_iload_n hx hb dX0_takeFrom_83 rfl (lv_at hl 0 rfl) ?_
      refine lv_aload_n hx hb dX0_takeFrom_84 rfl (lv_at hl 2 rfl) ?_
      refine va_get (D := D) (ci := 0) (v := .ref dc2) (C := RX0) (T := TX0) (N := 10) hx hb hts hinX0 hown hK hP 2 rfl rfl 9 (by decide) hf9 (fun _ h9 => h9) rfl dX0_takeFrom_85 ?_
      refine va_alen (v := iI 48) hx hb hK hP 3 0 rfl rfl (by show Int32.ofNat 48 = iI 48; decide +kernel) dX0_takeFrom_88 ?_
      refine iv_icmp_ge (a := x2) (b := 48) (tgt := 110) hx hb (by omega) (by omega) dX0_takeFrom_89 (by decide) (fun c89 => ?_) (fun c89 => ?_)
      · exact absurd c89 (by omega)
      · refine lv_aload_n hx hb dX0_takeFrom_92 rfl (lv_at hl 1 rfl) ?_
        refine va_get (D := D) (ci := 0) (v := .ref dc) (C := RX0) (T := TX0) (N := 10) hx hb hts hinX0 hown hK hP 0 rfl rfl 9 (by decide) hf9 (fun _ h9 => h9) rfl dX0_takeFrom_93 ?_
        refine lv_iload_n hx hb dX0_takeFrom_96 rfl (lv_at hl 0 rfl) ?_
        refine lv_aload_n hx hb dX0_takeFrom_97 rfl (lv_at hl 2 rfl) ?_
        refine va_get (D := D) (ci := 0) (v := .ref dc2) (C := RX0) (T := TX0) (N := 10) hx hb hts hinX0 hown hK hP 2 rfl rfl 9 (by decide) hf9 (fun _ h9 => h9) rfl dX0_takeFrom_98 ?_
        refine lv_iload_n hx hb dX0_takeFrom_101 rfl (lv_at hl 0 rfl) ?_
        refine iv_ald hx hb hK hP 3 0 rfl rfl (z := x2) (by omega) (by omega) (by omega) dX0_takeFrom_102 ?_
        refine iv_ast hx hb hK hP hD hS 1 0 rfl rfl (z := x2) (v := g2 x2) (by omega) (by omega) (by omega) dX0_takeFrom_103 (fun H locs hP hD hS => ?_)
        have hP : va_P D vwCl [(d, oDrv dc (up (up (up (up (up (up (up (up S 0 (S2 0)) 1 (S2 1)) 2 (S2 2)) 3 (S2 3)) 4 (S2 4)) 5 (S2 5)) 6 (S2 6)) 7 (S2 7)) k2), (dc, aI yI 48 (up G x2 (g2 x2))), (d2, oDrv dc2 S2 k2), (dc2, aI yI 48 g2)] H := hP
        have hD : va_D A [(d, oDrv dc (up (up (up (up (up (up (up (up S 0 (S2 0)) 1 (S2 1)) 2 (S2 2)) 3 (S2 3)) 4 (S2 4)) 5 (S2 5)) 6 (S2 6)) 7 (S2 7)) k2), (dc, aI yI 48 (up G x2 (g2 x2))), (d2, oDrv dc2 S2 k2), (dc2, aI yI 48 g2)] := hD
        refine iv_inc (lv' := [(2, .int (iI (x2 + 1))), (0, .ref d), (1, .ref d2)]) hx hb dX0_takeFrom_104 hl (k := 0) rfl (by decide) rfl (fun ls hl => ?_)
        refine lv_goto (tgt := 74) hx hb dX0_takeFrom_107 (by decide) ?_
        refine ih74 (n + 1, x2 + 1, up G x2 (g2 x2)) _ _ (by show (48 - (n + 1) : Nat) < 48 - n; omega) ?_
        exact ⟨by omega, by omega, fun z h0 h1 => (if e : z = x2 then (by rw [e]; exact up_s) else (by rw [up_n e]; exact hG z h0 (by omega))), hP, hD, hS, lv_sub hl [0, 1, 2] rfl⟩
set_option maxHeartbeats 4000000 in
set_option maxRecDepth 100000 in
theorem c_X0_putCell (l : Launch) (D : va_G) (yI yC yD : ClassId) (d : Nat) (dc : Nat) (S : Int → Int) (g : Int → Int) (k : Int64) (i : Int) (w : Int) (v : Int) (hi : 0 ≤ i ∧ i < 12) (hw : 0 ≤ w ∧ w < 4) (sz : Nat) : Met l yX0_putCell wsX0_putCell ({ frames := 0, cells := 0, slots := 0, locals := 0 }) (rwP [.ref d, .int (iI i), .int (iI w), .int (iI v)] D (tyz yI yC yD) [(d, oDrv dc S k), (dc, aI yI 48 g)] sz) (va_Qv (fun (_ : Unit) => True) (fun (_ : Unit) (t : State) => va_P D vwCl [(d, oDrv dc S k), (dc, aI yI 48 (up g (i * 4 + w) v))] t.heap) (va_A [(d, oDrv dc S k), (dc, aI yI 48 g)] sz)) 0 0 (va_A [(d, oDrv dc S k), (dc, aI yI 48 g)] sz) := by
  refine Met.ofW (cc := cX0_putCell) (maxL := 5) (ret := none) (by decide) rfl ?_
  intro p e s m args below meth c s₁ B hml hv
  obtain ⟨rfl, hsz, hP, hK, hD0⟩ := hv
  have hx := B.exec
  have hb := B.bytes
  have hr := B.returns
  have hts := atoms_spec (ws := wsX0_putCell) B.pre
  have hown : s.vm.findClass RX0 = some m.cls := findClass_of_methodNamed B.named
  have hlocks := B.notSynchronized
  subst hsz
  have hD := hD0.self (sz := s.heap.size)
  generalize hAe : va_A [(d, oDrv dc S k), (dc, aI yI 48 g)] s.heap.size = A at hD ⊢
  have hA : ∀ q : Nat, s.heap.size ≤ q → A q := fun q h => by rw [← hAe]; exact Or.inr h
  have hS : va_S A s.heap s.heap [] := va_S.rf
  have hP : va_P D vwCl [(d, oDrv dc S k), (dc, aI yI 48 g)] s.heap := hP
  have hinX0 : ∀ w ∈ wsX00, w ∈ wsX0_putCell := by decide +kernel
  have hf9 : (Cond.fieldLink RX0 9 "RiddleDrive$Drive" "cells" "[I").before _ s = true := hts _ (by decide +kernel)
  have hl := lv_entry ([.ref d, .int (iI i), .int (iI w), .int (iI v)]) (n := 5) (Nat.le_of_ble_eq_true rfl)
  rw [lg_entry_eq]
  generalize (lg_sl ([.ref d, .int (iI i), .int (iI w), .int (iI v)]) ++ List.replicate (5 - (lg_sl ([.ref d, .int (iI i), .int (iI w), .int (iI v)])).length) Slot.unset).toArray = ls at hl ⊢
  have hl : lv_has ls 5 [(0, .ref d), (1, .int (iI i)), (2, .int (iI w)), (3, .int (iI v))] := hl
  refine lv_iload_n hx hb dX0_putCell_0 rfl (lv_at hl 1 rfl) ?_
  refine lv_iconst (v := iI 4) hx hb dX0_putCell_1 (by decide +kernel) ?_
  refine iv_mul hx hb dX0_putCell_2 ?_
  refine lv_iload_n hx hb dX0_putCell_3 rfl (lv_at hl 2 rfl) ?_
  refine iv_add hx hb dX0_putCell_4 ?_
  refine lv_istore (lv' := [(4, .int (iI (i * 4 + w))), (0, .ref d), (1, .int (iI i)), (2, .int (iI w)), (3, .int (iI v))]) hx hb dX0_putCell_5 hl (by decide) rfl (fun ls hl => ?_)
  refine lv_iload hx hb dX0_putCell_7 (lv_at hl 0 rfl) ?_
  refine iv_if_lt (a := i * 4 + w) (tgt := 30) hx hb (by omega) dX0_putCell_9 (by decide) (fun c9 => ?_) (fun c9 => ?_)
  · exact absurd c9 (by omega)
  · refine lv_iload hx hb dX0_putCell_12 (lv_at hl 0 rfl) ?_
    refine lv_aload_n hx hb dX0_putCell_14 rfl (lv_at hl 1 rfl) ?_
    refine va_get (D := D) (ci := 0) (v := .ref dc) (C := RX0) (T := TX0) (N := 10) hx hb hts hinX0 hown hK hP 0 rfl rfl 9 (by decide) hf9 (fun _ h9 => h9) rfl dX0_putCell_15 ?_
    refine va_alen (v := iI 48) hx hb hK hP 1 0 rfl rfl (by show Int32.ofNat 48 = iI 48; decide +kernel) dX0_putCell_18 ?_
    refine iv_icmp_ge (a := i * 4 + w) (b := 48) (tgt := 30) hx hb (by omega) (by omega) dX0_putCell_19 (by decide) (fun c19 => ?_) (fun c19 => ?_)
    · exact absurd c19 (by omega)
    · refine lv_aload_n hx hb dX0_putCell_22 rfl (lv_at hl 1 rfl) ?_
      refine va_get (D := D) (ci := 0) (v := .ref dc) (C := RX0) (T := TX0) (N := 10) hx hb hts hinX0 hown hK hP 0 rfl rfl 9 (by decide) hf9 (fun _ h9 => h9) rfl dX0_putCell_23 ?_
      refine lv_iload hx hb dX0_putCell_26 (lv_at hl 0 rfl) ?_
      refine lv_iload_n hx hb dX0_putCell_28 rfl (lv_at hl 4 rfl) ?_
      refine iv_ast hx hb hK hP hD hS 1 0 rfl rfl (z := i * 4 + w) (v := v) (by omega) (by omega) (by omega) dX0_putCell_29 (fun H locs hP hD hS => ?_)
      have hP : va_P D vwCl [(d, oDrv dc S k), (dc, aI yI 48 (up g (i * 4 + w) v))] H := hP
      have hD : va_D A [(d, oDrv dc S k), (dc, aI yI 48 (up g (i * 4 + w) v))] := hD
      have hP9 : va_P D vwCl [(d, oDrv dc S k), (dc, aI yI 48 (up g (i * 4 + w) v))] _ := hP.sub [0, 1] rfl
      exact W.vret hx hb hr (fun t ht hW => ⟨⟨(), rfl, trivial, by show va_P D vwCl _ t.heap; rw [ht]; exact hP9⟩, hS.F ht⟩) hS.2.2 dX0_putCell_30
set_option maxHeartbeats 4000000 in
set_option maxRecDepth 100000 in
theorem c_X0_drop (l : Launch) (D : va_G) (yI yC yD : ClassId) (d : Nat) (dc : Nat) (S : Int → Int) (g : Int → Int) (i : Int) (hna : 0 ≤ S 4 ∧ S 4 ≤ 12) (hR : Rc S g) (hi : 0 ≤ i ∧ i < S 4) (sz : Nat) : Met l yX0_drop wsX0_drop ({ frames := 1, cells := 0, slots := 0, locals := 13 }) (rwP [.ref d, .int (iI i)] D (tyz yI yC yD) [(d, oDrv dc S (lN (kL S 0 40))), (dc, aI yI 48 g)] sz) (va_Qv (fun (G9 : (Int → Int)) => Rc (forget1 S i) G9) (fun (G9 : (Int → Int)) (t : State) => va_P D vwCl [(d, oDrv dc (forget1 S i) (lN (kL (forget1 S i) 0 40))), (dc, aI yI 48 G9)] t.heap) (va_A [(d, oDrv dc S (lN (kL S 0 40))), (dc, aI yI 48 g)] sz)) 0 0 (va_A [(d, oDrv dc S (lN (kL S 0 40))), (dc, aI yI 48 g)] sz) := by
  refine Met.ofW (cc := cX0_drop) (maxL := 3) (ret := none) (by decide) rfl ?_
  intro p e s m args below meth c s₁ B hml hv
  obtain ⟨rfl, hsz, hP, hK, hD0⟩ := hv
  have hx := B.exec
  have hb := B.bytes
  have hr := B.returns
  have hts := atoms_spec (ws := wsX0_drop) B.pre
  have hown : s.vm.findClass RX0 = some m.cls := findClass_of_methodNamed B.named
  have hlocks := B.notSynchronized
  subst hsz
  have hD := hD0.self (sz := s.heap.size)
  generalize hAe : va_A [(d, oDrv dc S (lN (kL S 0 40))), (dc, aI yI 48 g)] s.heap.size = A at hD ⊢
  have hA : ∀ q : Nat, s.heap.size ≤ q → A q := fun q h => by rw [← hAe]; exact Or.inr h
  have hS : va_S A s.heap s.heap [] := va_S.rf
  have hP : va_P D vwCl [(d, oDrv dc S (lN (kL S 0 40))), (dc, aI yI 48 g)] s.heap := hP
  have hinX0 : ∀ w ∈ wsX00, w ∈ wsX0_drop := by decide +kernel
  have hf9 : (Cond.fieldLink RX0 9 "RiddleDrive$Drive" "cells" "[I").before _ s = true := hts _ (by decide +kernel)
  have hf28 : (Cond.fieldLink RX0 28 "RiddleDrive$Drive" "answers" "I").before _ s = true := hts _ (by decide +kernel)
  have hf37 : (Cond.fieldLink RX0 37 "RiddleDrive$Drive" "forgotten" "I").before _ s = true := hts _ (by decide +kernel)
  have hl := lv_entry ([.ref d, .int (iI i)]) (n := 3) (Nat.le_of_ble_eq_true rfl)
  rw [lg_entry_eq]
  generalize (lg_sl ([.ref d, .int (iI i)]) ++ List.replicate (3 - (lg_sl ([.ref d, .int (iI i)])).length) Slot.unset).toArray = ls at hl ⊢
  have hl : lv_has ls 3 [(0, .ref d), (1, .int (iI i))] := hl
  refine lv_iconst (v := iI 0) hx hb dX0_drop_0 (by decide +kernel) ?_
  refine lv_iload_n hx hb dX0_drop_1 rfl (lv_at hl 1 rfl) ?_
  refine lv_iconst (v := iI 4) hx hb dX0_drop_2 (by decide +kernel) ?_
  refine iv_mul hx hb dX0_drop_3 ?_
  refine iv_max hx hb (hml.trans hl.1.symm) hown (hts (.methodLink RX0 75 Lib.Math.max.name) (by decide +kernel)) (hts (.static Lib.Math.max.name) (by decide +kernel)) (hts (.initialized "java/lang/Math") (by decide +kernel)) (hts (.code Lib.Math.max.name Lib.Math.max.code 2 (some .int)) (by decide +kernel)) (Nat.le_of_ble_eq_true rfl) (Nat.le_of_ble_eq_true rfl) (Nat.zero_le _) (Nat.zero_le _) (by omega) (by omega) dX0_drop_4 ?_
  refine lv_istore_n (lv' := [(2, .int (iI (max 0 (i * 4)))), (0, .ref d), (1, .int (iI i))]) hx hb dX0_drop_7 rfl hl (by decide) rfl (fun ls hl => ?_)
  refine iv_loop (I := fun (qq : Nat × Int × (Int → Int)) H locs ls => match qq with | (n, x2, G) => ((n : Int) ≤ 44 - i * 4) ∧ (x2 = i * 4 + n) ∧ (G = shN g (i * 4) n) ∧ va_P D vwCl [(d, oDrv dc S (lN (kL S 0 40))), (dc, aI yI 48 G)] H ∧ va_D A [(d, oDrv dc S (lN (kL S 0 40))), (dc, aI yI 48 G)] ∧ va_S A s.heap H locs ∧ lv_has ls 3 [(2, .int (iI x2)), (0, .ref d), (1, .int (iI i))]) (μ := fun (qq : Nat × Int × (Int → Int)) => match qq with | (n, x2, G) => 48 - n) (0, max 0 (i * 4), g) ?_ ?_
  · exact ⟨by omega, by omega, shN_0, hP, hD, hS, lv_sub hl [0, 1, 2] rfl⟩
  · intro qq H locs ls hI ih8
    obtain ⟨n, x2, G⟩ := qq
    obtain ⟨hn, h2, hG, hP, hD, hS, hl⟩ := hI
    refine lv_iload_n hx hb dX0_drop_8 rfl (lv_at hl 0 rfl) ?_
    refine lv_iconst (v := iI 4) hx hb dX0_drop_9 (by decide +kernel) ?_
    refine iv_add hx hb dX0_drop_10 ?_
    refine lv_aload_n hx hb dX0_drop_11 rfl (lv_at hl 1 rfl) ?_
    refine va_get (D := D) (ci := 0) (v := .ref dc) (C := RX0) (T := TX0) (N := 10) hx hb hts hinX0 hown hK hP 0 rfl rfl 9 (by decide) hf9 (fun _ h9 => h9) rfl dX0_drop_12 ?_
    refine va_alen (v := iI 48) hx hb hK hP 1 0 rfl rfl (by show Int32.ofNat 48 = iI 48; decide +kernel) dX0_drop_15 ?_
    refine iv_icmp_ge (a := x2 + 4) (b := 48) (tgt := 39) hx hb (by omega) (by omega) dX0_drop_16 (by decide) (fun c16 => ?_) (fun c16 => ?_)
    · refine lv_aload_n hx hb dX0_drop_39 rfl (lv_at hl 1 rfl) ?_
      refine lv_dup hx hb dX0_drop_40 rfl ?_
      refine va_get (D := D) (ci := 0) (v := .int (iI (S 4))) (C := RX0) (T := TX0) (N := 10) hx hb hts hinX0 hown hK hP 0 rfl rfl 4 (by decide) hf28 (fun _ h9 => h9) rfl dX0_drop_41 ?_
      refine lv_iconst (v := iI 1) hx hb dX0_drop_44 (by decide +kernel) ?_
      refine iv_sub hx hb dX0_drop_45 ?_
      refine va_put (D := D) (ci := 0) (v := .int (iI (S 4 - 1))) (ty := .int) (C := RX0) (T := TX0) (N := 10) hx hb hts hinX0 tyX0 tyX0_ok nmX0 hown hK hP hD hS 0 rfl rfl 4 (by decide) hf28 (fun _ h9 => h9) rfl (by decide +kernel) rfl rfl (Nat.le_of_ble_eq_true rfl) dX0_drop_46 (fun H locs hP hD hS => ?_)
      have hP : va_P D vwCl [(d, oDrv dc (up S 4 (S 4 - 1)) (lN (kL S 0 40))), (dc, aI yI 48 G)] H := hP
      have hD : va_D A [(d, oDrv dc (up S 4 (S 4 - 1)) (lN (kL S 0 40))), (dc, aI yI 48 G)] := hD
      refine lv_aload_n hx hb dX0_drop_49 rfl (lv_at hl 1 rfl) ?_
      refine lv_dup hx hb dX0_drop_50 rfl ?_
      refine va_get (D := D) (ci := 0) (v := .int (iI (S 7))) (C := RX0) (T := TX0) (N := 10) hx hb hts hinX0 hown hK hP 0 rfl rfl 7 (by decide) hf37 (fun _ h9 => h9) rfl dX0_drop_51 ?_
      refine lv_iconst (v := iI 1) hx hb dX0_drop_54 (by decide +kernel) ?_
      refine iv_add hx hb dX0_drop_55 ?_
      refine va_put (D := D) (ci := 0) (v := .int (iI (S 7 + 1))) (ty := .int) (C := RX0) (T := TX0) (N := 10) hx hb hts hinX0 tyX0 tyX0_ok nmX0 hown hK hP hD hS 0 rfl rfl 7 (by decide) hf37 (fun _ h9 => h9) rfl (by decide +kernel) rfl rfl (Nat.le_of_ble_eq_true rfl) dX0_drop_56 (fun H locs hP hD hS => ?_)
      have hP : va_P D vwCl [(d, oDrv dc (up (up S 4 (S 4 - 1)) 7 (S 7 + 1)) (lN (kL S 0 40))), (dc, aI yI 48 G)] H := hP
      have hD : va_D A [(d, oDrv dc (up (up S 4 (S 4 - 1)) 7 (S 7 + 1)) (lN (kL S 0 40))), (dc, aI yI 48 G)] := hD
      have hP9 : va_P D vwCl [(d, oDrv dc (forget1 S i) (lN (kL (forget1 S i) 0 40))), (dc, aI yI 48 G)] _ := (hP.sub (ws' := [(d, oDrv dc (up (up S 4 (S 4 - 1)) 7 (S 7 + 1)) (lN (kL S 0 40))), (dc, aI yI 48 G)]) [0, 1] rfl).cv (by exact congrArg (fun z => [(d, z), (dc, aI yI 48 G)]) (oDrv_e (fun z h0 h1 => by rw [forget1_lo h1 hi.1]; unfold up; (repeat' split) <;> first | rfl | (exfalso; omega)) (kL_f1 hi.1)))
      exact W.vret hx hb hr (fun t ht hW => ⟨⟨G, rfl, (by rw [hG]; exact rc_forget hR hi hna.2 (by omega)), by show va_P D vwCl _ t.heap; rw [ht]; exact hP9⟩, hS.F ht⟩) hS.2.2 dX0_drop_59
    · refine lv_aload_n hx hb dX0_drop_19 rfl (lv_at hl 1 rfl) ?_
      refine va_get (D := D) (ci := 0) (v := .ref dc) (C := RX0) (T := TX0) (N := 10) hx hb hts hinX0 hown hK hP 0 rfl rfl 9 (by decide) hf9 (fun _ h9 => h9) rfl dX0_drop_20 ?_
      refine lv_iload_n hx hb dX0_drop_23 rfl (lv_at hl 0 rfl) ?_
      refine lv_aload_n hx hb dX0_drop_24 rfl (lv_at hl 1 rfl) ?_
      refine va_get (D := D) (ci := 0) (v := .ref dc) (C := RX0) (T := TX0) (N := 10) hx hb hts hinX0 hown hK hP 0 rfl rfl 9 (by decide) hf9 (fun _ h9 => h9) rfl dX0_drop_25 ?_
      refine lv_iload_n hx hb dX0_drop_28 rfl (lv_at hl 0 rfl) ?_
      refine lv_iconst (v := iI 4) hx hb dX0_drop_29 (by decide +kernel) ?_
      refine iv_add hx hb dX0_drop_30 ?_
      refine iv_ald hx hb hK hP 1 0 rfl rfl (z := x2 + 4) (by omega) (by omega) (by omega) dX0_drop_31 ?_
      refine iv_ast hx hb hK hP hD hS 1 0 rfl rfl (z := x2) (v := G (x2 + 4)) (by omega) (by omega) (by omega) dX0_drop_32 (fun H locs hP hD hS => ?_)
      have hP : va_P D vwCl [(d, oDrv dc S (lN (kL S 0 40))), (dc, aI yI 48 (up G x2 (G (x2 + 4))))] H := hP
      have hD : va_D A [(d, oDrv dc S (lN (kL S 0 40))), (dc, aI yI 48 (up G x2 (G (x2 + 4))))] := hD
      refine iv_inc (lv' := [(2, .int (iI (x2 + 1))), (0, .ref d), (1, .int (iI i))]) hx hb dX0_drop_33 hl (k := 0) rfl (by decide) rfl (fun ls hl => ?_)
      refine lv_goto (tgt := 8) hx hb dX0_drop_36 (by decide) ?_
      refine ih8 (n + 1, x2 + 1, up G x2 (G (x2 + 4))) _ _ (by show (48 - (n + 1) : Nat) < 48 - n; omega) ?_
      exact ⟨by omega, by omega, by rw [hG, h2]; exact shN_s, hP, hD, hS, lv_sub hl [0, 1, 2] rfl⟩
set_option maxHeartbeats 4000000 in
set_option maxRecDepth 100000 in
theorem c_X0_dropAll (l : Launch) (D : va_G) (yI yC yD : ClassId) (d : Nat) (dc : Nat) (S : Int → Int) (g : Int → Int)  (sz : Nat) : Met l yX0_dropAll wsX0_dropAll ({ frames := 0, cells := 0, slots := 0, locals := 0 }) (rwP [.ref d] D (tyz yI yC yD) [(d, oDrv dc S (lN (kL S 0 40))), (dc, aI yI 48 g)] sz) (va_Qv (fun (_ : Unit) => True) (fun (_ : Unit) (t : State) => va_P D vwCl [(d, oDrv dc (forgetA S) (lN (kL (forgetA S) 0 40))), (dc, aI yI 48 g)] t.heap) (va_A [(d, oDrv dc S (lN (kL S 0 40))), (dc, aI yI 48 g)] sz)) 0 0 (va_A [(d, oDrv dc S (lN (kL S 0 40))), (dc, aI yI 48 g)] sz) := by
  refine Met.ofW (cc := cX0_dropAll) (maxL := 1) (ret := none) (by decide) rfl ?_
  intro p e s m args below meth c s₁ B hml hv
  obtain ⟨rfl, hsz, hP, hK, hD0⟩ := hv
  have hx := B.exec
  have hb := B.bytes
  have hr := B.returns
  have hts := atoms_spec (ws := wsX0_dropAll) B.pre
  have hown : s.vm.findClass RX0 = some m.cls := findClass_of_methodNamed B.named
  have hlocks := B.notSynchronized
  subst hsz
  have hD := hD0.self (sz := s.heap.size)
  generalize hAe : va_A [(d, oDrv dc S (lN (kL S 0 40))), (dc, aI yI 48 g)] s.heap.size = A at hD ⊢
  have hA : ∀ q : Nat, s.heap.size ≤ q → A q := fun q h => by rw [← hAe]; exact Or.inr h
  have hS : va_S A s.heap s.heap [] := va_S.rf
  have hP : va_P D vwCl [(d, oDrv dc S (lN (kL S 0 40))), (dc, aI yI 48 g)] s.heap := hP
  have hinX0 : ∀ w ∈ wsX00, w ∈ wsX0_dropAll := by decide +kernel
  have hf28 : (Cond.fieldLink RX0 28 "RiddleDrive$Drive" "answers" "I").before _ s = true := hts _ (by decide +kernel)
  have hf37 : (Cond.fieldLink RX0 37 "RiddleDrive$Drive" "forgotten" "I").before _ s = true := hts _ (by decide +kernel)
  have hl := lv_entry ([.ref d]) (n := 1) (Nat.le_of_ble_eq_true rfl)
  rw [lg_entry_eq]
  generalize (lg_sl ([.ref d]) ++ List.replicate (1 - (lg_sl ([.ref d])).length) Slot.unset).toArray = ls at hl ⊢
  have hl : lv_has ls 1 [(0, .ref d)] := hl
  refine lv_aload_n hx hb dX0_dropAll_0 rfl (lv_at hl 0 rfl) ?_
  refine lv_dup hx hb dX0_dropAll_1 rfl ?_
  refine va_get (D := D) (ci := 0) (v := .int (iI (S 7))) (C := RX0) (T := TX0) (N := 10) hx hb hts hinX0 hown hK hP 0 rfl rfl 7 (by decide) hf37 (fun _ h9 => h9) rfl dX0_dropAll_2 ?_
  refine lv_aload_n hx hb dX0_dropAll_5 rfl (lv_at hl 0 rfl) ?_
  refine va_get (D := D) (ci := 0) (v := .int (iI (S 4))) (C := RX0) (T := TX0) (N := 10) hx hb hts hinX0 hown hK hP 0 rfl rfl 4 (by decide) hf28 (fun _ h9 => h9) rfl dX0_dropAll_6 ?_
  refine iv_add hx hb dX0_dropAll_9 ?_
  refine va_put (D := D) (ci := 0) (v := .int (iI (S 7 + (S 4)))) (ty := .int) (C := RX0) (T := TX0) (N := 10) hx hb hts hinX0 tyX0 tyX0_ok nmX0 hown hK hP hD hS 0 rfl rfl 7 (by decide) hf37 (fun _ h9 => h9) rfl (by decide +kernel) rfl rfl (Nat.le_of_ble_eq_true rfl) dX0_dropAll_10 (fun H locs hP hD hS => ?_)
  have hP : va_P D vwCl [(d, oDrv dc (up S 7 (S 7 + (S 4))) (lN (kL S 0 40))), (dc, aI yI 48 g)] H := hP
  have hD : va_D A [(d, oDrv dc (up S 7 (S 7 + (S 4))) (lN (kL S 0 40))), (dc, aI yI 48 g)] := hD
  refine lv_aload_n hx hb dX0_dropAll_13 rfl (lv_at hl 0 rfl) ?_
  refine lv_iconst (v := iI 0) hx hb dX0_dropAll_14 (by decide +kernel) ?_
  refine va_put (D := D) (ci := 0) (v := .int (iI 0)) (ty := .int) (C := RX0) (T := TX0) (N := 10) hx hb hts hinX0 tyX0 tyX0_ok nmX0 hown hK hP hD hS 0 rfl rfl 4 (by decide) hf28 (fun _ h9 => h9) rfl (by decide +kernel) rfl rfl (Nat.le_of_ble_eq_true rfl) dX0_dropAll_15 (fun H locs hP hD hS => ?_)
  have hP : va_P D vwCl [(d, oDrv dc (up (up S 7 (S 7 + (S 4))) 4 0) (lN (kL S 0 40))), (dc, aI yI 48 g)] H := hP
  have hD : va_D A [(d, oDrv dc (up (up S 7 (S 7 + (S 4))) 4 0) (lN (kL S 0 40))), (dc, aI yI 48 g)] := hD
  have hP9 : va_P D vwCl [(d, oDrv dc (forgetA S) (lN (kL (forgetA S) 0 40))), (dc, aI yI 48 g)] _ := (hP.sub (ws' := [(d, oDrv dc (up (up S 7 (S 7 + (S 4))) 4 0) (lN (kL S 0 40))), (dc, aI yI 48 g)]) [0, 1] rfl).cv (by rw [forgetA_eq, kL_fA])
  exact W.vret hx hb hr (fun t ht hW => ⟨⟨(), rfl, trivial, by show va_P D vwCl _ t.heap; rw [ht]; exact hP9⟩, hS.F ht⟩) hS.2.2 dX0_dropAll_18
