set_option maxHeartbeats 4000000 in
set_option maxRecDepth 100000 in
theorem c_X0_init (l : Launch) (D : va_G) (yI yC yD : ClassId) (d : Nat)  (sz : Nat) : Met l yX0_init wsX0_init ({ frames := 1, cells := 1, slots := 48, locals := 12 }) (rwP [.ref d] D (tyz yI yC yD) [(d, .inr (0, [.int (iI 0), .int (iI 0), .int (iI 0), .int (iI 0), .int (iI 0), .int (iI 0), .int (iI 0), .int (iI 0), .long 0, .null]))] sz) (va_Qv (fun (dc : Nat) => True) (fun (dc : Nat) (t : State) => va_P D vwCl [(d, oDrv dc (fun _ => 0) 0), (dc, aI yI 48 (fun _ => 0))] t.heap ∧ va_D (va_A [(d, .inr (0, [.int (iI 0), .int (iI 0), .int (iI 0), .int (iI 0), .int (iI 0), .int (iI 0), .int (iI 0), .int (iI 0), .long 0, .null]))] sz) [(d, oDrv dc (fun _ => 0) 0), (dc, aI yI 48 (fun _ => 0))]) (va_A [(d, .inr (0, [.int (iI 0), .int (iI 0), .int (iI 0), .int (iI 0), .int (iI 0), .int (iI 0), .int (iI 0), .int (iI 0), .long 0, .null]))] sz)) 1 48 (va_A [(d, .inr (0, [.int (iI 0), .int (iI 0), .int (iI 0), .int (iI 0), .int (iI 0), .int (iI 0), .int (iI 0), .int (iI 0), .long 0, .null]))] sz) := by
  refine Met.ofW (cc := cX0_init) (maxL := 1) (ret := none) (by decide) rfl ?_
  intro p e s m args below meth c s₁ B hml hv
  obtain ⟨rfl, hsz, hP, hK, hD0⟩ := hv
  have hx := B.exec
  have hb := B.bytes
  have hr := B.returns
  have hts := atoms_spec (ws := wsX0_init) B.pre
  have hown : s.vm.findClass RX0 = some m.cls := findClass_of_methodNamed B.named
  have hlocks := B.notSynchronized
  subst hsz
  have hD := hD0.self (sz := s.heap.size)
  have hin : meth.name = "<init>" := (name_of_methodNamed B.named B.method).1
  generalize hAe : va_A [(d, .inr (0, [.int (iI 0), .int (iI 0), .int (iI 0), .int (iI 0), .int (iI 0), .int (iI 0), .int (iI 0), .int (iI 0), .long 0, .null]))] s.heap.size = A at hD ⊢
  have hA : ∀ q : Nat, s.heap.size ≤ q → A q := fun q h => by rw [← hAe]; exact Or.inr h
  have hS : va_S A s.heap s.heap [] := va_S.rf
  have hP : va_P D vwCl [(d, .inr (0, [.int (iI 0), .int (iI 0), .int (iI 0), .int (iI 0), .int (iI 0), .int (iI 0), .int (iI 0), .int (iI 0), .long 0, .null]))] s.heap := hP
  have hinX0 : ∀ w ∈ wsX00, w ∈ wsX0_init := by decide +kernel
  have hf9 : (Cond.fieldLink RX0 9 "RiddleDrive$Drive" "cells" "[I").before _ s = true := hts _ (by decide +kernel)
  have hl := lv_entry ([.ref d]) (n := 1) (Nat.le_of_ble_eq_true rfl)
  rw [lg_entry_eq]
  generalize (lg_sl ([.ref d]) ++ List.replicate (1 - (lg_sl ([.ref d])).length) Slot.unset).toArray = ls at hl ⊢
  have hl : lv_has ls 1 [(0, .ref d)] := hl
  refine lv_aload_n hx hb dX0_init_0 rfl (lv_at hl 0 rfl) ?_
  refine W.objInit hx hb hown (hts (.methodLink RX0 3 objectInit) (by decide +kernel)) (hts (.instanceMethod objectInit) (by decide +kernel)) (hts (.code objectInit ⟨#[0xb1]⟩ 1 none) (by decide +kernel)) rfl (by rw [hml]; exact hl.1) rfl dX0_init_1 (Nat.le_of_ble_eq_true rfl) (Nat.le_of_ble_eq_true rfl) ?_
  refine lv_aload_n hx hb dX0_init_4 rfl (lv_at hl 0 rfl) ?_
  refine lv_bipush (v := iI 48) hx hb dX0_init_5 (by decide +kernel) ?_
  refine iv_newI hx hb (hts (.arrayClass .int) (by decide +kernel)) hK hP hD hS hA 0 rfl (N' := 48) (by omega) (Nat.le_of_ble_eq_true rfl) (Nat.le_of_ble_eq_true rfl) dX0_init_7 (fun dc H hP hD hS => ?_)
  have hP : va_P D vwCl [(d, .inr (0, [.int (iI 0), .int (iI 0), .int (iI 0), .int (iI 0), .int (iI 0), .int (iI 0), .int (iI 0), .int (iI 0), .long 0, .null])), (dc, aI yI 48 (fun _ => 0))] H := hP
  have hD : va_D A [(d, .inr (0, [.int (iI 0), .int (iI 0), .int (iI 0), .int (iI 0), .int (iI 0), .int (iI 0), .int (iI 0), .int (iI 0), .long 0, .null])), (dc, aI yI 48 (fun _ => 0))] := hD
  refine va_putF (D := D) (ci := 0) (v := .ref dc) (ty := (.array .int)) (C := RX0) (T := TX0) (N := 10) hx hb hts hinX0 tyX0 tyX0_ok nmX0 hown hK hP hD hS 0 rfl rfl 9 (by decide) hf9 (fun _ h9 => h9) rfl hin rfl (by decide +kernel) rfl rfl (Nat.le_of_ble_eq_true rfl) dX0_init_9 (fun H locs hP hD hS => ?_)
  have hP : va_P D vwCl [(d, oDrv dc (fun _ => 0) 0), (dc, aI yI 48 (fun _ => 0))] H := hP
  have hD : va_D A [(d, oDrv dc (fun _ => 0) 0), (dc, aI yI 48 (fun _ => 0))] := hD
  have hP9 : va_P D vwCl [(d, oDrv dc (fun _ => 0) 0), (dc, aI yI 48 (fun _ => 0))] _ := hP.sub [0, 1] rfl
  have hD9 : va_D A [(d, oDrv dc (fun _ => 0) 0), (dc, aI yI 48 (fun _ => 0))] := hD.sub [0, 1] (by decide) rfl
  exact W.vret hx hb hr (fun t ht hW => ⟨⟨dc, rfl, trivial, ⟨by show va_P D vwCl _ t.heap; rw [ht]; exact hP9, hD9⟩⟩, hS.F ht⟩) hS.2.2 dX0_init_12
set_option maxHeartbeats 4000000 in
set_option maxRecDepth 100000 in
theorem c_X1_init (l : Launch) (D : va_G) (yI yC yD : ClassId) (d : Nat)  (sz : Nat) : Met l yX1_init wsX1_init ({ frames := 1, cells := 1, slots := 1681, locals := 12 }) (rwP [.ref d] D (tyz yI yC yD) [(d, .inr (1, [.int (iI 0), .null]))] sz) (va_Qv (fun (dc : Nat) => True) (fun (dc : Nat) (t : State) => va_P D vwCl [(d, oKn 0 dc), (dc, aI yI 1681 (fun _ => 0))] t.heap ∧ va_D (va_A [(d, .inr (1, [.int (iI 0), .null]))] sz) [(d, oKn 0 dc), (dc, aI yI 1681 (fun _ => 0))]) (va_A [(d, .inr (1, [.int (iI 0), .null]))] sz)) 1 1681 (va_A [(d, .inr (1, [.int (iI 0), .null]))] sz) := by
  refine Met.ofW (cc := cX1_init) (maxL := 1) (ret := none) (by decide) rfl ?_
  intro p e s m args below meth c s₁ B hml hv
  obtain ⟨rfl, hsz, hP, hK, hD0⟩ := hv
  have hx := B.exec
  have hb := B.bytes
  have hr := B.returns
  have hts := atoms_spec (ws := wsX1_init) B.pre
  have hown : s.vm.findClass RX1 = some m.cls := findClass_of_methodNamed B.named
  have hlocks := B.notSynchronized
  subst hsz
  have hD := hD0.self (sz := s.heap.size)
  have hin : meth.name = "<init>" := (name_of_methodNamed B.named B.method).1
  generalize hAe : va_A [(d, .inr (1, [.int (iI 0), .null]))] s.heap.size = A at hD ⊢
  have hA : ∀ q : Nat, s.heap.size ≤ q → A q := fun q h => by rw [← hAe]; exact Or.inr h
  have hS : va_S A s.heap s.heap [] := va_S.rf
  have hP : va_P D vwCl [(d, .inr (1, [.int (iI 0), .null]))] s.heap := hP
  have hinX1 : ∀ w ∈ wsX10, w ∈ wsX1_init := by decide +kernel
  have hf11 : (Cond.fieldLink RX1 11 "RiddleDrive$Knowledge" "excess" "[I").before _ s = true := hts _ (by decide +kernel)
  have hl := lv_entry ([.ref d]) (n := 1) (Nat.le_of_ble_eq_true rfl)
  rw [lg_entry_eq]
  generalize (lg_sl ([.ref d]) ++ List.replicate (1 - (lg_sl ([.ref d])).length) Slot.unset).toArray = ls at hl ⊢
  have hl : lv_has ls 1 [(0, .ref d)] := hl
  refine lv_aload_n hx hb dX1_init_0 rfl (lv_at hl 0 rfl) ?_
  refine W.objInit hx hb hown (hts (.methodLink RX1 3 objectInit) (by decide +kernel)) (hts (.instanceMethod objectInit) (by decide +kernel)) (hts (.code objectInit ⟨#[0xb1]⟩ 1 none) (by decide +kernel)) rfl (by rw [hml]; exact hl.1) rfl dX1_init_1 (Nat.le_of_ble_eq_true rfl) (Nat.le_of_ble_eq_true rfl) ?_
  refine lv_aload_n hx hb dX1_init_4 rfl (lv_at hl 0 rfl) ?_
  refine lv_sipush (v := iI 1681) hx hb dX1_init_5 (by decide +kernel) ?_
  refine iv_newI hx hb (hts (.arrayClass .int) (by decide +kernel)) hK hP hD hS hA 0 rfl (N' := 1681) (by omega) (Nat.le_of_ble_eq_true rfl) (Nat.le_of_ble_eq_true rfl) dX1_init_8 (fun dc H hP hD hS => ?_)
  have hP : va_P D vwCl [(d, .inr (1, [.int (iI 0), .null])), (dc, aI yI 1681 (fun _ => 0))] H := hP
  have hD : va_D A [(d, .inr (1, [.int (iI 0), .null])), (dc, aI yI 1681 (fun _ => 0))] := hD
  refine va_putF (D := D) (ci := 1) (v := .ref dc) (ty := (.array .int)) (C := RX1) (T := TX1) (N := 2) hx hb hts hinX1 tyX1 tyX1_ok nmX1 hown hK hP hD hS 0 rfl rfl 1 (by decide) hf11 (fun _ h9 => h9) rfl hin rfl (by decide +kernel) rfl rfl (Nat.le_of_ble_eq_true rfl) dX1_init_10 (fun H locs hP hD hS => ?_)
  have hP : va_P D vwCl [(d, oKn 0 dc), (dc, aI yI 1681 (fun _ => 0))] H := hP
  have hD : va_D A [(d, oKn 0 dc), (dc, aI yI 1681 (fun _ => 0))] := hD
  have hP9 : va_P D vwCl [(d, oKn 0 dc), (dc, aI yI 1681 (fun _ => 0))] _ := hP.sub [0, 1] rfl
  have hD9 : va_D A [(d, oKn 0 dc), (dc, aI yI 1681 (fun _ => 0))] := hD.sub [0, 1] (by decide) rfl
  exact W.vret hx hb hr (fun t ht hW => ⟨⟨dc, rfl, trivial, ⟨by show va_P D vwCl _ t.heap; rw [ht]; exact hP9, hD9⟩⟩, hS.F ht⟩) hS.2.2 dX1_init_13
set_option maxHeartbeats 4000000 in
set_option maxRecDepth 100000 in
theorem c_X3_init (l : Launch) (D : va_G) (yI yC yD : ClassId) (d : Nat)  (sz : Nat) : Met l yX3_init wsX3_init ({ frames := 1, cells := 1, slots := 100, locals := 12 }) (rwP [.ref d] D (tyz yI yC yD) [(d, .inr (3, [.null, .int (iI 0), .int (iI 0), .int (iI 0)]))] sz) (va_Qv (fun (dc : Nat) => True) (fun (dc : Nat) (t : State) => va_P D vwCl [(d, oTx dc 0 0 0), (dc, aC yC 100 (fun _ => 0))] t.heap ∧ va_D (va_A [(d, .inr (3, [.null, .int (iI 0), .int (iI 0), .int (iI 0)]))] sz) [(d, oTx dc 0 0 0), (dc, aC yC 100 (fun _ => 0))]) (va_A [(d, .inr (3, [.null, .int (iI 0), .int (iI 0), .int (iI 0)]))] sz)) 1 100 (va_A [(d, .inr (3, [.null, .int (iI 0), .int (iI 0), .int (iI 0)]))] sz) := by
  refine Met.ofW (cc := cX3_init) (maxL := 1) (ret := none) (by decide) rfl ?_
  intro p e s m args below meth c s₁ B hml hv
  obtain ⟨rfl, hsz, hP, hK, hD0⟩ := hv
  have hx := B.exec
  have hb := B.bytes
  have hr := B.returns
  have hts := atoms_spec (ws := wsX3_init) B.pre
  have hown : s.vm.findClass RX3 = some m.cls := findClass_of_methodNamed B.named
  have hlocks := B.notSynchronized
  subst hsz
  have hD := hD0.self (sz := s.heap.size)
  have hin : meth.name = "<init>" := (name_of_methodNamed B.named B.method).1
  generalize hAe : va_A [(d, .inr (3, [.null, .int (iI 0), .int (iI 0), .int (iI 0)]))] s.heap.size = A at hD ⊢
  have hA : ∀ q : Nat, s.heap.size ≤ q → A q := fun q h => by rw [← hAe]; exact Or.inr h
  have hS : va_S A s.heap s.heap [] := va_S.rf
  have hP : va_P D vwCl [(d, .inr (3, [.null, .int (iI 0), .int (iI 0), .int (iI 0)]))] s.heap := hP
  have hinX3 : ∀ w ∈ wsX30, w ∈ wsX3_init := by decide +kernel
  have hf9 : (Cond.fieldLink RX3 9 "RiddleDrive$Text" "signs" "[C").before _ s = true := hts _ (by decide +kernel)
  have hl := lv_entry ([.ref d]) (n := 1) (Nat.le_of_ble_eq_true rfl)
  rw [lg_entry_eq]
  generalize (lg_sl ([.ref d]) ++ List.replicate (1 - (lg_sl ([.ref d])).length) Slot.unset).toArray = ls at hl ⊢
  have hl : lv_has ls 1 [(0, .ref d)] := hl
  refine lv_aload_n hx hb dX3_init_0 rfl (lv_at hl 0 rfl) ?_
  refine W.objInit hx hb hown (hts (.methodLink RX3 3 objectInit) (by decide +kernel)) (hts (.instanceMethod objectInit) (by decide +kernel)) (hts (.code objectInit ⟨#[0xb1]⟩ 1 none) (by decide +kernel)) rfl (by rw [hml]; exact hl.1) rfl dX3_init_1 (Nat.le_of_ble_eq_true rfl) (Nat.le_of_ble_eq_true rfl) ?_
  refine lv_aload_n hx hb dX3_init_4 rfl (lv_at hl 0 rfl) ?_
  refine lv_bipush (v := iI 100) hx hb dX3_init_5 (by decide +kernel) ?_
  refine iv_newC hx hb (hts (.arrayClass .char) (by decide +kernel)) hK hP hD hS hA 1 rfl (N' := 100) (by omega) (Nat.le_of_ble_eq_true rfl) (Nat.le_of_ble_eq_true rfl) dX3_init_7 (fun dc H hP hD hS => ?_)
  have hP : va_P D vwCl [(d, .inr (3, [.null, .int (iI 0), .int (iI 0), .int (iI 0)])), (dc, aC yC 100 (fun _ => 0))] H := hP
  have hD : va_D A [(d, .inr (3, [.null, .int (iI 0), .int (iI 0), .int (iI 0)])), (dc, aC yC 100 (fun _ => 0))] := hD
  refine va_putF (D := D) (ci := 3) (v := .ref dc) (ty := (.array .char)) (C := RX3) (T := TX3) (N := 4) hx hb hts hinX3 tyX3 tyX3_ok nmX3 hown hK hP hD hS 0 rfl rfl 0 (by decide) hf9 (fun _ h9 => h9) rfl hin rfl (by decide +kernel) rfl rfl (Nat.le_of_ble_eq_true rfl) dX3_init_9 (fun H locs hP hD hS => ?_)
  have hP : va_P D vwCl [(d, oTx dc 0 0 0), (dc, aC yC 100 (fun _ => 0))] H := hP
  have hD : va_D A [(d, oTx dc 0 0 0), (dc, aC yC 100 (fun _ => 0))] := hD
  have hP9 : va_P D vwCl [(d, oTx dc 0 0 0), (dc, aC yC 100 (fun _ => 0))] _ := hP.sub [0, 1] rfl
  have hD9 : va_D A [(d, oTx dc 0 0 0), (dc, aC yC 100 (fun _ => 0))] := hD.sub [0, 1] (by decide) rfl
  exact W.vret hx hb hr (fun t ht hW => ⟨⟨dc, rfl, trivial, ⟨by show va_P D vwCl _ t.heap; rw [ht]; exact hP9, hD9⟩⟩, hS.F ht⟩) hS.2.2 dX3_init_12
set_option maxHeartbeats 4000000 in
set_option maxRecDepth 100000 in
theorem c_X2_init (l : Launch) (D : va_G) (yI yC yD : ClassId) (d : Nat)  (sz : Nat) : Met l yX2_init wsX2_init ({ frames := 1, cells := 1, slots := 14, locals := 12 }) (aoP [.ref d] D (tyz yI yC yD) [(d, .inr (2, [.null, .int (iI 0), .int (iI 0)]))] sz) (va_Qv (fun (dc : Nat) => True) (fun (dc : Nat) (t : State) => va_P D vwCl [(d, oMem dc 0 0), (dc, aD yD 14 (fun _ => none))] t.heap ∧ va_D (va_A [(d, .inr (2, [.null, .int (iI 0), .int (iI 0)]))] sz) [(d, oMem dc 0 0), (dc, aD yD 14 (fun _ => none))]) (va_A [(d, .inr (2, [.null, .int (iI 0), .int (iI 0)]))] sz)) 1 14 (va_A [(d, .inr (2, [.null, .int (iI 0), .int (iI 0)]))] sz) := by
  refine Met.ofW (cc := cX2_init) (maxL := 1) (ret := none) (by decide) rfl ?_
  intro p e s m args below meth c s₁ B hml hv
  obtain ⟨rfl, hsz, hP, hK, hD0, hao⟩ := hv
  have hx := B.exec
  have hb := B.bytes
  have hr := B.returns
  have hts := atoms_spec (ws := wsX2_init) B.pre
  have hown : s.vm.findClass RX2 = some m.cls := findClass_of_methodNamed B.named
  have hlocks := B.notSynchronized
  subst hsz
  have hD := hD0.self (sz := s.heap.size)
  have hin : meth.name = "<init>" := (name_of_methodNamed B.named B.method).1
  generalize hAe : va_A [(d, .inr (2, [.null, .int (iI 0), .int (iI 0)]))] s.heap.size = A at hD ⊢
  have hA : ∀ q : Nat, s.heap.size ≤ q → A q := fun q h => by rw [← hAe]; exact Or.inr h
  have hS : va_S A s.heap s.heap [] := va_S.rf
  have hP : va_P D vwCl [(d, .inr (2, [.null, .int (iI 0), .int (iI 0)]))] s.heap := hP
  have hinX2 : ∀ w ∈ wsX20, w ∈ wsX2_init := by decide +kernel
  have hf11 : (Cond.fieldLink RX2 11 "RiddleDrive$Memory" "ring" "[LRiddleDrive$Drive;").before _ s = true := hts _ (by decide +kernel)
  have hl := lv_entry ([.ref d]) (n := 1) (Nat.le_of_ble_eq_true rfl)
  rw [lg_entry_eq]
  generalize (lg_sl ([.ref d]) ++ List.replicate (1 - (lg_sl ([.ref d])).length) Slot.unset).toArray = ls at hl ⊢
  have hl : lv_has ls 1 [(0, .ref d)] := hl
  refine lv_aload_n hx hb dX2_init_0 rfl (lv_at hl 0 rfl) ?_
  refine W.objInit hx hb hown (hts (.methodLink RX2 3 objectInit) (by decide +kernel)) (hts (.instanceMethod objectInit) (by decide +kernel)) (hts (.code objectInit ⟨#[0xb1]⟩ 1 none) (by decide +kernel)) rfl (by rw [hml]; exact hl.1) rfl dX2_init_1 (Nat.le_of_ble_eq_true rfl) (Nat.le_of_ble_eq_true rfl) ?_
  refine lv_aload_n hx hb dX2_init_4 rfl (lv_at hl 0 rfl) ?_
  refine lv_bipush (v := iI 14) hx hb dX2_init_5 (by decide +kernel) ?_
  refine iv_newD hx hb hown (hts (.classLink RX2 9 RX0) (by decide +kernel)) hao.2.2.2.2.2 hK hP hD hS hA 2 rfl (N' := 14) (by omega) (Nat.le_of_ble_eq_true rfl) (Nat.le_of_ble_eq_true rfl) dX2_init_7 (fun dc H hP hD hS => ?_)
  have hP : va_P D vwCl [(d, .inr (2, [.null, .int (iI 0), .int (iI 0)])), (dc, aD yD 14 (fun _ => none))] H := hP
  have hD : va_D A [(d, .inr (2, [.null, .int (iI 0), .int (iI 0)])), (dc, aD yD 14 (fun _ => none))] := hD
  refine va_putF (D := D) (ci := 2) (v := .ref dc) (ty := (.array (.object "RiddleDrive$Drive"))) (C := RX2) (T := TX2) (N := 3) hx hb hts hinX2 tyX2 tyX2_ok nmX2 hown hK hP hD hS 0 rfl rfl 0 (by decide) hf11 (fun _ h9 => h9) rfl hin rfl (by decide +kernel) rfl rfl (Nat.le_of_ble_eq_true rfl) dX2_init_10 (fun H locs hP hD hS => ?_)
  have hP : va_P D vwCl [(d, oMem dc 0 0), (dc, aD yD 14 (fun _ => none))] H := hP
  have hD : va_D A [(d, oMem dc 0 0), (dc, aD yD 14 (fun _ => none))] := hD
  have hP9 : va_P D vwCl [(d, oMem dc 0 0), (dc, aD yD 14 (fun _ => none))] _ := hP.sub [0, 1] rfl
  have hD9 : va_D A [(d, oMem dc 0 0), (dc, aD yD 14 (fun _ => none))] := hD.sub [0, 1] (by decide) rfl
  exact W.vret hx hb hr (fun t ht hW => ⟨⟨dc, rfl, trivial, ⟨by show va_P D vwCl _ t.heap; rw [ht]; exact hP9, hD9⟩⟩, hS.F ht⟩) hS.2.2 dX2_init_13
