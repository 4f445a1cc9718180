set_option maxHeartbeats 4000000 in
set_option maxRecDepth 100000 in
theorem c_X5_init (l : Launch) (D : va_G) (yI yC yD : ClassId) (mo : Nat)  (sz : Nat) : Met l yX5_init wsX5_init ({ frames := 1, cells := 8, slots := 5192, locals := 22 }) (rwP [.ref mo] D (tyz yI yC yD) [(mo, .inr (5, [.int (iI 0), .null, .null, .null, .int (iI 0), .null, .null, .null, .int (iI 0), .null, .null]))] sz) (va_Qv (fun (u : Nat × Nat × Nat × Nat × Nat × Nat × Nat × Nat) => match u with | (a1, a2, a3, a4, a5, a6, a7, a8) => True) (fun (u : Nat × Nat × Nat × Nat × Nat × Nat × Nat × Nat) (t : State) => match u with | (a1, a2, a3, a4, a5, a6, a7, a8) => va_P D vwCl [(mo, oMo 0 a1 a2 a3 0 a4 a5 a6 0 a7 a8), (a1, aI yI 96 (newS 16)), (a2, aI yI 96 (fun _ => 0)), (a3, aI yI 1344 (fun _ => 0)), (a4, aI yI 192 (fun _ => 0)), (a5, aI yI 2 (fun _ => 0)), (a6, aI yI 100 (fun _ => 0)), (a7, aI yI 1681 (fun _ => 0)), (a8, aI yI 1681 (fun _ => 0))] t.heap ∧ va_D (va_A [(mo, .inr (5, [.int (iI 0), .null, .null, .null, .int (iI 0), .null, .null, .null, .int (iI 0), .null, .null]))] sz) [(mo, oMo 0 a1 a2 a3 0 a4 a5 a6 0 a7 a8), (a1, aI yI 96 (newS 16)), (a2, aI yI 96 (fun _ => 0)), (a3, aI yI 1344 (fun _ => 0)), (a4, aI yI 192 (fun _ => 0)), (a5, aI yI 2 (fun _ => 0)), (a6, aI yI 100 (fun _ => 0)), (a7, aI yI 1681 (fun _ => 0)), (a8, aI yI 1681 (fun _ => 0))]) (va_A [(mo, .inr (5, [.int (iI 0), .null, .null, .null, .int (iI 0), .null, .null, .null, .int (iI 0), .null, .null]))] sz)) 8 5192 (va_A [(mo, .inr (5, [.int (iI 0), .null, .null, .null, .int (iI 0), .null, .null, .null, .int (iI 0), .null, .null]))] sz) := by
  refine Met.ofW (cc := cX5_init) (maxL := 1) (ret := none) (by decide) rfl ?_
  intro p e s m args below meth c s₁ B hml hv
  obtain ⟨rfl, hsz, hP, hK, hD0⟩ := hv
  have hx := B.exec
  have hb := B.bytes
  have hr := B.returns
  have hts := atoms_spec (ws := wsX5_init) B.pre
  have hown : s.vm.findClass RX5 = some m.cls := findClass_of_methodNamed B.named
  have hlocks := B.notSynchronized
  subst hsz
  have hD := hD0.self (sz := s.heap.size)
  have hin : meth.name = "<init>" := (name_of_methodNamed B.named B.method).1
  generalize hAe : va_A [(mo, .inr (5, [.int (iI 0), .null, .null, .null, .int (iI 0), .null, .null, .null, .int (iI 0), .null, .null]))] s.heap.size = A at hD ⊢
  have hA : ∀ q : Nat, s.heap.size ≤ q → A q := fun q h => by rw [← hAe]; exact Or.inr h
  have hS : va_S A s.heap s.heap [] := va_S.rf
  have hP : va_P D vwCl [(mo, .inr (5, [.int (iI 0), .null, .null, .null, .int (iI 0), .null, .null, .null, .int (iI 0), .null, .null]))] s.heap := hP
  have hinX5 : ∀ w ∈ wsX50, w ∈ wsX5_init := by decide +kernel
  have hf7 : (Cond.fieldLink RX5 7 "RiddleDriveModel" "state" "[I").before _ s = true := hts _ (by decide +kernel)
  have hf13 : (Cond.fieldLink RX5 13 "RiddleDriveModel" "scriptKept" "[I").before _ s = true := hts _ (by decide +kernel)
  have hf16 : (Cond.fieldLink RX5 16 "RiddleDriveModel" "history" "[I").before _ s = true := hts _ (by decide +kernel)
  have hf19 : (Cond.fieldLink RX5 19 "RiddleDriveModel" "slots" "[I").before _ s = true := hts _ (by decide +kernel)
  have hf22 : (Cond.fieldLink RX5 22 "RiddleDriveModel" "isSaved" "[I").before _ s = true := hts _ (by decide +kernel)
  have hf25 : (Cond.fieldLink RX5 25 "RiddleDriveModel" "text" "[I").before _ s = true := hts _ (by decide +kernel)
  have hf28 : (Cond.fieldLink RX5 28 "RiddleDriveModel" "bounds" "[I").before _ s = true := hts _ (by decide +kernel)
  have hf31 : (Cond.fieldLink RX5 31 "RiddleDriveModel" "tried" "[I").before _ s = true := hts _ (by decide +kernel)
  have hl := lv_entry ([.ref mo]) (n := 1) (Nat.le_of_ble_eq_true rfl)
  rw [lg_entry_eq]
  generalize (lg_sl ([.ref mo]) ++ List.replicate (1 - (lg_sl ([.ref mo])).length) Slot.unset).toArray = ls at hl ⊢
  have hl : lv_has ls 1 [(0, .ref mo)] := hl
  refine lv_aload_n hx hb dX5_init_0 rfl (lv_at hl 0 rfl) ?_
  refine W.objInit hx hb hown (hts (.methodLink RX5 1 objectInit) (by decide +kernel)) (hts (.instanceMethod objectInit) (by decide +kernel)) (hts (.code objectInit ⟨#[0xb1]⟩ 1 none) (by decide +kernel)) rfl (by rw [hml]; exact hl.1) rfl dX5_init_1 (Nat.le_of_ble_eq_true rfl) (Nat.le_of_ble_eq_true rfl) ?_
  refine lv_aload_n hx hb dX5_init_4 rfl (lv_at hl 0 rfl) ?_
  refine lv_bipush (v := iI 96) hx hb dX5_init_5 (by decide +kernel) ?_
  refine iv_newI hx hb (hts (.arrayClass .int) (by decide +kernel)) hK hP hD hS hA 0 rfl (N' := 96) (by omega) (Nat.le_of_ble_eq_true rfl) (Nat.le_of_ble_eq_true rfl) dX5_init_7 (fun a1 H hP hD hS => ?_)
  have hP : va_P D vwCl [(mo, .inr (5, [.int (iI 0), .null, .null, .null, .int (iI 0), .null, .null, .null, .int (iI 0), .null, .null])), (a1, aI yI 96 (fun _ => 0))] H := hP
  have hD : va_D A [(mo, .inr (5, [.int (iI 0), .null, .null, .null, .int (iI 0), .null, .null, .null, .int (iI 0), .null, .null])), (a1, aI yI 96 (fun _ => 0))] := hD
  refine va_putF (D := D) (ci := 5) (v := .ref a1) (ty := (.array .int)) (C := RX5) (T := TX5) (N := 11) hx hb hts hinX5 tyX5 tyX5_ok nmX5 hown hK hP hD hS 0 rfl rfl 1 (by decide) hf7 (fun _ h9 => h9) rfl hin rfl (by decide +kernel) rfl rfl (Nat.le_of_ble_eq_true rfl) dX5_init_9 (fun H locs hP hD hS => ?_)
  have hP : va_P D vwCl [(mo, .inr (5, [.int (iI 0), .ref a1, .null, .null, .int (iI 0), .null, .null, .null, .int (iI 0), .null, .null])), (a1, aI yI 96 (fun _ => 0))] H := hP
  have hD : va_D A [(mo, .inr (5, [.int (iI 0), .ref a1, .null, .null, .int (iI 0), .null, .null, .null, .int (iI 0), .null, .null])), (a1, aI yI 96 (fun _ => 0))] := hD
  refine lv_aload_n hx hb dX5_init_12 rfl (lv_at hl 0 rfl) ?_
  refine lv_bipush (v := iI 96) hx hb dX5_init_13 (by decide +kernel) ?_
  refine iv_newI hx hb (hts (.arrayClass .int) (by decide +kernel)) hK hP hD hS hA 0 rfl (N' := 96) (by omega) (Nat.le_of_ble_eq_true rfl) (Nat.le_of_ble_eq_true rfl) dX5_init_15 (fun a2 H hP hD hS => ?_)
  have hP : va_P D vwCl [(mo, .inr (5, [.int (iI 0), .ref a1, .null, .null, .int (iI 0), .null, .null, .null, .int (iI 0), .null, .null])), (a1, aI yI 96 (fun _ => 0)), (a2, aI yI 96 (fun _ => 0))] H := hP
  have hD : va_D A [(mo, .inr (5, [.int (iI 0), .ref a1, .null, .null, .int (iI 0), .null, .null, .null, .int (iI 0), .null, .null])), (a1, aI yI 96 (fun _ => 0)), (a2, aI yI 96 (fun _ => 0))] := hD
  refine va_putF (D := D) (ci := 5) (v := .ref a2) (ty := (.array .int)) (C := RX5) (T := TX5) (N := 11) hx hb hts hinX5 tyX5 tyX5_ok nmX5 hown hK hP hD hS 0 rfl rfl 2 (by decide) hf13 (fun _ h9 => h9) rfl hin rfl (by decide +kernel) rfl rfl (Nat.le_of_ble_eq_true rfl) dX5_init_17 (fun H locs hP hD hS => ?_)
  have hP : va_P D vwCl [(mo, .inr (5, [.int (iI 0), .ref a1, .ref a2, .null, .int (iI 0), .null, .null, .null, .int (iI 0), .null, .null])), (a1, aI yI 96 (fun _ => 0)), (a2, aI yI 96 (fun _ => 0))] H := hP
  have hD : va_D A [(mo, .inr (5, [.int (iI 0), .ref a1, .ref a2, .null, .int (iI 0), .null, .null, .null, .int (iI 0), .null, .null])), (a1, aI yI 96 (fun _ => 0)), (a2, aI yI 96 (fun _ => 0))] := hD
  refine lv_aload_n hx hb dX5_init_20 rfl (lv_at hl 0 rfl) ?_
  refine lv_sipush (v := iI 1344) hx hb dX5_init_21 (by decide +kernel) ?_
  refine iv_newI hx hb (hts (.arrayClass .int) (by decide +kernel)) hK hP hD hS hA 0 rfl (N' := 1344) (by omega) (Nat.le_of_ble_eq_true rfl) (Nat.le_of_ble_eq_true rfl) dX5_init_24 (fun a3 H hP hD hS => ?_)
  have hP : va_P D vwCl [(mo, .inr (5, [.int (iI 0), .ref a1, .ref a2, .null, .int (iI 0), .null, .null, .null, .int (iI 0), .null, .null])), (a1, aI yI 96 (fun _ => 0)), (a2, aI yI 96 (fun _ => 0)), (a3, aI yI 1344 (fun _ => 0))] H := hP
  have hD : va_D A [(mo, .inr (5, [.int (iI 0), .ref a1, .ref a2, .null, .int (iI 0), .null, .null, .null, .int (iI 0), .null, .null])), (a1, aI yI 96 (fun _ => 0)), (a2, aI yI 96 (fun _ => 0)), (a3, aI yI 1344 (fun _ => 0))] := hD
  refine va_putF (D := D) (ci := 5) (v := .ref a3) (ty := (.array .int)) (C := RX5) (T := TX5) (N := 11) hx hb hts hinX5 tyX5 tyX5_ok nmX5 hown hK hP hD hS 0 rfl rfl 3 (by decide) hf16 (fun _ h9 => h9) rfl hin rfl (by decide +kernel) rfl rfl (Nat.le_of_ble_eq_true rfl) dX5_init_26 (fun H locs hP hD hS => ?_)
  have hP : va_P D vwCl [(mo, .inr (5, [.int (iI 0), .ref a1, .ref a2, .ref a3, .int (iI 0), .null, .null, .null, .int (iI 0), .null, .null])), (a1, aI yI 96 (fun _ => 0)), (a2, aI yI 96 (fun _ => 0)), (a3, aI yI 1344 (fun _ => 0))] H := hP
  have hD : va_D A [(mo, .inr (5, [.int (iI 0), .ref a1, .ref a2, .ref a3, .int (iI 0), .null, .null, .null, .int (iI 0), .null, .null])), (a1, aI yI 96 (fun _ => 0)), (a2, aI yI 96 (fun _ => 0)), (a3, aI yI 1344 (fun _ => 0))] := hD
  refine lv_aload_n hx hb dX5_init_29 rfl (lv_at hl 0 rfl) ?_
  refine lv_sipush (v := iI 192) hx hb dX5_init_30 (by decide +kernel) ?_
  refine iv_newI hx hb (hts (.arrayClass .int) (by decide +kernel)) hK hP hD hS hA 0 rfl (N' := 192) (by omega) (Nat.le_of_ble_eq_true rfl) (Nat.le_of_ble_eq_true rfl) dX5_init_33 (fun a4 H hP hD hS => ?_)
  have hP : va_P D vwCl [(mo, .inr (5, [.int (iI 0), .ref a1, .ref a2, .ref a3, .int (iI 0), .null, .null, .null, .int (iI 0), .null, .null])), (a1, aI yI 96 (fun _ => 0)), (a2, aI yI 96 (fun _ => 0)), (a3, aI yI 1344 (fun _ => 0)), (a4, aI yI 192 (fun _ => 0))] H := hP
  have hD : va_D A [(mo, .inr (5, [.int (iI 0), .ref a1, .ref a2, .ref a3, .int (iI 0), .null, .null, .null, .int (iI 0), .null, .null])), (a1, aI yI 96 (fun _ => 0)), (a2, aI yI 96 (fun _ => 0)), (a3, aI yI 1344 (fun _ => 0)), (a4, aI yI 192 (fun _ => 0))] := hD
  refine va_putF (D := D) (ci := 5) (v := .ref a4) (ty := (.array .int)) (C := RX5) (T := TX5) (N := 11) hx hb hts hinX5 tyX5 tyX5_ok nmX5 hown hK hP hD hS 0 rfl rfl 5 (by decide) hf19 (fun _ h9 => h9) rfl hin rfl (by decide +kernel) rfl rfl (Nat.le_of_ble_eq_true rfl) dX5_init_35 (fun H locs hP hD hS => ?_)
  have hP : va_P D vwCl [(mo, .inr (5, [.int (iI 0), .ref a1, .ref a2, .ref a3, .int (iI 0), .ref a4, .null, .null, .int (iI 0), .null, .null])), (a1, aI yI 96 (fun _ => 0)), (a2, aI yI 96 (fun _ => 0)), (a3, aI yI 1344 (fun _ => 0)), (a4, aI yI 192 (fun _ => 0))] H := hP
  have hD : va_D A [(mo, .inr (5, [.int (iI 0), .ref a1, .ref a2, .ref a3, .int (iI 0), .ref a4, .null, .null, .int (iI 0), .null, .null])), (a1, aI yI 96 (fun _ => 0)), (a2, aI yI 96 (fun _ => 0)), (a3, aI yI 1344 (fun _ => 0)), (a4, aI yI 192 (fun _ => 0))] := hD
  refine lv_aload_n hx hb dX5_init_38 rfl (lv_at hl 0 rfl) ?_
  refine lv_iconst (v := iI 2) hx hb dX5_init_39 (by decide +kernel) ?_
  refine iv_newI hx hb (hts (.arrayClass .int) (by decide +kernel)) hK hP hD hS hA 0 rfl (N' := 2) (by omega) (Nat.le_of_ble_eq_true rfl) (Nat.le_of_ble_eq_true rfl) dX5_init_40 (fun a5 H hP hD hS => ?_)
  have hP : va_P D vwCl [(mo, .inr (5, [.int (iI 0), .ref a1, .ref a2, .ref a3, .int (iI 0), .ref a4, .null, .null, .int (iI 0), .null, .null])), (a1, aI yI 96 (fun _ => 0)), (a2, aI yI 96 (fun _ => 0)), (a3, aI yI 1344 (fun _ => 0)), (a4, aI yI 192 (fun _ => 0)), (a5, aI yI 2 (fun _ => 0))] H := hP
  have hD : va_D A [(mo, .inr (5, [.int (iI 0), .ref a1, .ref a2, .ref a3, .int (iI 0), .ref a4, .null, .null, .int (iI 0), .null, .null])), (a1, aI yI 96 (fun _ => 0)), (a2, aI yI 96 (fun _ => 0)), (a3, aI yI 1344 (fun _ => 0)), (a4, aI yI 192 (fun _ => 0)), (a5, aI yI 2 (fun _ => 0))] := hD
  refine va_putF (D := D) (ci := 5) (v := .ref a5) (ty := (.array .int)) (C := RX5) (T := TX5) (N := 11) hx hb hts hinX5 tyX5 tyX5_ok nmX5 hown hK hP hD hS 0 rfl rfl 6 (by decide) hf22 (fun _ h9 => h9) rfl hin rfl (by decide +kernel) rfl rfl (Nat.le_of_ble_eq_true rfl) dX5_init_42 (fun H locs hP hD hS => ?_)
  have hP : va_P D vwCl [(mo, .inr (5, [.int (iI 0), .ref a1, .ref a2, .ref a3, .int (iI 0), .ref a4, .ref a5, .null, .int (iI 0), .null, .null])), (a1, aI yI 96 (fun _ => 0)), (a2, aI yI 96 (fun _ => 0)), (a3, aI yI 1344 (fun _ => 0)), (a4, aI yI 192 (fun _ => 0)), (a5, aI yI 2 (fun _ => 0))] H := hP
  have hD : va_D A [(mo, .inr (5, [.int (iI 0), .ref a1, .ref a2, .ref a3, .int (iI 0), .ref a4, .ref a5, .null, .int (iI 0), .null, .null])), (a1, aI yI 96 (fun _ => 0)), (a2, aI yI 96 (fun _ => 0)), (a3, aI yI 1344 (fun _ => 0)), (a4, aI yI 192 (fun _ => 0)), (a5, aI yI 2 (fun _ => 0))] := hD
  refine lv_aload_n hx hb dX5_init_45 rfl (lv_at hl 0 rfl) ?_
  refine lv_bipush (v := iI 100) hx hb dX5_init_46 (by decide +kernel) ?_
  refine iv_newI hx hb (hts (.arrayClass .int) (by decide +kernel)) hK hP hD hS hA 0 rfl (N' := 100) (by omega) (Nat.le_of_ble_eq_true rfl) (Nat.le_of_ble_eq_true rfl) dX5_init_48 (fun a6 H hP hD hS => ?_)
  have hP : va_P D vwCl [(mo, .inr (5, [.int (iI 0), .ref a1, .ref a2, .ref a3, .int (iI 0), .ref a4, .ref a5, .null, .int (iI 0), .null, .null])), (a1, aI yI 96 (fun _ => 0)), (a2, aI yI 96 (fun _ => 0)), (a3, aI yI 1344 (fun _ => 0)), (a4, aI yI 192 (fun _ => 0)), (a5, aI yI 2 (fun _ => 0)), (a6, aI yI 100 (fun _ => 0))] H := hP
  have hD : va_D A [(mo, .inr (5, [.int (iI 0), .ref a1, .ref a2, .ref a3, .int (iI 0), .ref a4, .ref a5, .null, .int (iI 0), .null, .null])), (a1, aI yI 96 (fun _ => 0)), (a2, aI yI 96 (fun _ => 0)), (a3, aI yI 1344 (fun _ => 0)), (a4, aI yI 192 (fun _ => 0)), (a5, aI yI 2 (fun _ => 0)), (a6, aI yI 100 (fun _ => 0))] := hD
  refine va_putF (D := D) (ci := 5) (v := .ref a6) (ty := (.array .int)) (C := RX5) (T := TX5) (N := 11) hx hb hts hinX5 tyX5 tyX5_ok nmX5 hown hK hP hD hS 0 rfl rfl 7 (by decide) hf25 (fun _ h9 => h9) rfl hin rfl (by decide +kernel) rfl rfl (Nat.le_of_ble_eq_true rfl) dX5_init_50 (fun H locs hP hD hS => ?_)
  have hP : va_P D vwCl [(mo, .inr (5, [.int (iI 0), .ref a1, .ref a2, .ref a3, .int (iI 0), .ref a4, .ref a5, .ref a6, .int (iI 0), .null, .null])), (a1, aI yI 96 (fun _ => 0)), (a2, aI yI 96 (fun _ => 0)), (a3, aI yI 1344 (fun _ => 0)), (a4, aI yI 192 (fun _ => 0)), (a5, aI yI 2 (fun _ => 0)), (a6, aI yI 100 (fun _ => 0))] H := hP
  have hD : va_D A [(mo, .inr (5, [.int (iI 0), .ref a1, .ref a2, .ref a3, .int (iI 0), .ref a4, .ref a5, .ref a6, .int (iI 0), .null, .null])), (a1, aI yI 96 (fun _ => 0)), (a2, aI yI 96 (fun _ => 0)), (a3, aI yI 1344 (fun _ => 0)), (a4, aI yI 192 (fun _ => 0)), (a5, aI yI 2 (fun _ => 0)), (a6, aI yI 100 (fun _ => 0))] := hD
  refine lv_aload_n hx hb dX5_init_53 rfl (lv_at hl 0 rfl) ?_
  refine lv_sipush (v := iI 1681) hx hb dX5_init_54 (by decide +kernel) ?_
  refine iv_newI hx hb (hts (.arrayClass .int) (by decide +kernel)) hK hP hD hS hA 0 rfl (N' := 1681) (by omega) (Nat.le_of_ble_eq_true rfl) (Nat.le_of_ble_eq_true rfl) dX5_init_57 (fun a7 H hP hD hS => ?_)
  have hP : va_P D vwCl [(mo, .inr (5, [.int (iI 0), .ref a1, .ref a2, .ref a3, .int (iI 0), .ref a4, .ref a5, .ref a6, .int (iI 0), .null, .null])), (a1, aI yI 96 (fun _ => 0)), (a2, aI yI 96 (fun _ => 0)), (a3, aI yI 1344 (fun _ => 0)), (a4, aI yI 192 (fun _ => 0)), (a5, aI yI 2 (fun _ => 0)), (a6, aI yI 100 (fun _ => 0)), (a7, aI yI 1681 (fun _ => 0))] H := hP
  have hD : va_D A [(mo, .inr (5, [.int (iI 0), .ref a1, .ref a2, .ref a3, .int (iI 0), .ref a4, .ref a5, .ref a6, .int (iI 0), .null, .null])), (a1, aI yI 96 (fun _ => 0)), (a2, aI yI 96 (fun _ => 0)), (a3, aI yI 1344 (fun _ => 0)), (a4, aI yI 192 (fun _ => 0)), (a5, aI yI 2 (fun _ => 0)), (a6, aI yI 100 (fun _ => 0)), (a7, aI yI 1681 (fun _ => 0))] := hD
  refine va_putF (D := D) (ci := 5) (v := .ref a7) (ty := (.array .int)) (C := RX5) (T := TX5) (N := 11) hx hb hts hinX5 tyX5 tyX5_ok nmX5 hown hK hP hD hS 0 rfl rfl 9 (by decide) hf28 (fun _ h9 => h9) rfl hin rfl (by decide +kernel) rfl rfl (Nat.le_of_ble_eq_true rfl) dX5_init_59 (fun H locs hP hD hS => ?_)
  have hP : va_P D vwCl [(mo, .inr (5, [.int (iI 0), .ref a1, .ref a2, .ref a3, .int (iI 0), .ref a4, .ref a5, .ref a6, .int (iI 0), .ref a7, .null])), (a1, aI yI 96 (fun _ => 0)), (a2, aI yI 96 (fun _ => 0)), (a3, aI yI 1344 (fun _ => 0)), (a4, aI yI 192 (fun _ => 0)), (a5, aI yI 2 (fun _ => 0)), (a6, aI yI 100 (fun _ => 0)), (a7, aI yI 1681 (fun _ => 0))] H := hP
  have hD : va_D A [(mo, .inr (5, [.int (iI 0), .ref a1, .ref a2, .ref a3, .int (iI 0), .ref a4, .ref a5, .ref a6, .int (iI 0), .ref a7, .null])), (a1, aI yI 96 (fun _ => 0)), (a2, aI yI 96 (fun _ => 0)), (a3, aI yI 1344 (fun _ => 0)), (a4, aI yI 192 (fun _ => 0)), (a5, aI yI 2 (fun _ => 0)), (a6, aI yI 100 (fun _ => 0)), (a7, aI yI 1681 (fun _ => 0))] := hD
  refine lv_aload_n hx hb dX5_init_62 rfl (lv_at hl 0 rfl) ?_
  refine lv_sipush (v := iI 1681) hx hb dX5_init_63 (by decide +kernel) ?_
  refine iv_newI hx hb (hts (.arrayClass .int) (by decide +kernel)) hK hP hD hS hA 0 rfl (N' := 1681) (by omega) (Nat.le_of_ble_eq_true rfl) (Nat.le_of_ble_eq_true rfl) dX5_init_66 (fun a8 H hP hD hS => ?_)
  have hP : va_P D vwCl [(mo, .inr (5, [.int (iI 0), .ref a1, .ref a2, .ref a3, .int (iI 0), .ref a4, .ref a5, .ref a6, .int (iI 0), .ref a7, .null])), (a1, aI yI 96 (fun _ => 0)), (a2, aI yI 96 (fun _ => 0)), (a3, aI yI 1344 (fun _ => 0)), (a4, aI yI 192 (fun _ => 0)), (a5, aI yI 2 (fun _ => 0)), (a6, aI yI 100 (fun _ => 0)), (a7, aI yI 1681 (fun _ => 0)), (a8, aI yI 1681 (fun _ => 0))] H := hP
  have hD : va_D A [(mo, .inr (5, [.int (iI 0), .ref a1, .ref a2, .ref a3, .int (iI 0), .ref a4, .ref a5, .ref a6, .int (iI 0), .ref a7, .null])), (a1, aI yI 96 (fun _ => 0)), (a2, aI yI 96 (fun _ => 0)), (a3, aI yI 1344 (fun _ => 0)), (a4, aI yI 192 (fun _ => 0)), (a5, aI yI 2 (fun _ => 0)), (a6, aI yI 100 (fun _ => 0)), (a7, aI yI 1681 (fun _ => 0)), (a8, aI yI 1681 (fun _ => 0))] := hD
  refine va_putF (D := D) (ci := 5) (v := .ref a8) (ty := (.array .int)) (C := RX5) (T := TX5) (N := 11) hx hb hts hinX5 tyX5 tyX5_ok nmX5 hown hK hP hD hS 0 rfl rfl 10 (by decide) hf31 (fun _ h9 => h9) rfl hin rfl (by decide +kernel) rfl rfl (Nat.le_of_ble_eq_true rfl) dX5_init_68 (fun H locs hP hD hS => ?_)
  have hP : va_P D vwCl [(mo, oMo 0 a1 a2 a3 0 a4 a5 a6 0 a7 a8), (a1, aI yI 96 (fun _ => 0)), (a2, aI yI 96 (fun _ => 0)), (a3, aI yI 1344 (fun _ => 0)), (a4, aI yI 192 (fun _ => 0)), (a5, aI yI 2 (fun _ => 0)), (a6, aI yI 100 (fun _ => 0)), (a7, aI yI 1681 (fun _ => 0)), (a8, aI yI 1681 (fun _ => 0))] H := hP
  have hD : va_D A [(mo, oMo 0 a1 a2 a3 0 a4 a5 a6 0 a7 a8), (a1, aI yI 96 (fun _ => 0)), (a2, aI yI 96 (fun _ => 0)), (a3, aI yI 1344 (fun _ => 0)), (a4, aI yI 192 (fun _ => 0)), (a5, aI yI 2 (fun _ => 0)), (a6, aI yI 100 (fun _ => 0)), (a7, aI yI 1681 (fun _ => 0)), (a8, aI yI 1681 (fun _ => 0))] := hD
  refine lv_aload_n hx hb dX5_init_71 rfl (lv_at hl 0 rfl) ?_
  refine lv_bipush (v := iI 16) hx hb dX5_init_72 (by decide +kernel) ?_
  refine iv_rwVv (As := [.int (iI 16)]) (rest := []) (C := RX5) (n := 1) ⟨hx, hb, hml, hown, hts⟩ (c_X5_renew l D yI yC yD mo 0 0 0 a1 a2 a3 a4 a5 a6 a7 a8 (fun _ => 0) 16  _) (cwV 1 hts gX5_init_X5_renew rfl rfl rfl (by decide +kernel) ⟨Nat.le_of_ble_eq_true rfl, Nat.le_of_ble_eq_true rfl⟩) hK hP hD hS hA [0, 1] (by decide) rfl 0 rfl rfl rfl hl.1 rfl (Nat.le_of_ble_eq_true rfl) dX5_init_74 ⟨Nat.le_of_ble_eq_true rfl, Nat.le_of_ble_eq_true rfl⟩ (fun _ => rfl) (fun u74 H locs hw74 hP hD hS => ?_)
  have hP : va_P D vwCl [(mo, oMo 0 a1 a2 a3 0 a4 a5 a6 0 a7 a8), (a1, aI yI 96 (newS 16)), (a2, aI yI 96 (fun _ => 0)), (a3, aI yI 1344 (fun _ => 0)), (a4, aI yI 192 (fun _ => 0)), (a5, aI yI 2 (fun _ => 0)), (a6, aI yI 100 (fun _ => 0)), (a7, aI yI 1681 (fun _ => 0)), (a8, aI yI 1681 (fun _ => 0))] H := hP
  have hD : va_D A [(mo, oMo 0 a1 a2 a3 0 a4 a5 a6 0 a7 a8), (a1, aI yI 96 (newS 16)), (a2, aI yI 96 (fun _ => 0)), (a3, aI yI 1344 (fun _ => 0)), (a4, aI yI 192 (fun _ => 0)), (a5, aI yI 2 (fun _ => 0)), (a6, aI yI 100 (fun _ => 0)), (a7, aI yI 1681 (fun _ => 0)), (a8, aI yI 1681 (fun _ => 0))] := hD
  have hP9 : va_P D vwCl [(mo, oMo 0 a1 a2 a3 0 a4 a5 a6 0 a7 a8), (a1, aI yI 96 (newS 16)), (a2, aI yI 96 (fun _ => 0)), (a3, aI yI 1344 (fun _ => 0)), (a4, aI yI 192 (fun _ => 0)), (a5, aI yI 2 (fun _ => 0)), (a6, aI yI 100 (fun _ => 0)), (a7, aI yI 1681 (fun _ => 0)), (a8, aI yI 1681 (fun _ => 0))] _ := hP.sub [0, 1, 2, 3, 4, 5, 6, 7, 8] rfl
  have hD9 : va_D A [(mo, oMo 0 a1 a2 a3 0 a4 a5 a6 0 a7 a8), (a1, aI yI 96 (newS 16)), (a2, aI yI 96 (fun _ => 0)), (a3, aI yI 1344 (fun _ => 0)), (a4, aI yI 192 (fun _ => 0)), (a5, aI yI 2 (fun _ => 0)), (a6, aI yI 100 (fun _ => 0)), (a7, aI yI 1681 (fun _ => 0)), (a8, aI yI 1681 (fun _ => 0))] := hD.sub [0, 1, 2, 3, 4, 5, 6, 7, 8] (by decide) rfl
  exact W.vret hx hb hr (fun t ht hW => ⟨⟨(a1, a2, a3, a4, a5, a6, a7, a8), rfl, trivial, ⟨by show va_P D vwCl _ t.heap; rw [ht]; exact hP9, hD9⟩⟩, hS.F ht⟩) hS.2.2 dX5_init_77
