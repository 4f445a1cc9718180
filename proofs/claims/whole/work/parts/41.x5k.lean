set_option maxHeartbeats 4000000 in
set_option maxRecDepth 100000 in
theorem c_X5_load (l : Launch) (D : va_G) (yI yC yD : ClassId) (mo : Nat) (th : Int) (re : Int) (tl : Int) (a1 : Nat) (a2 : Nat) (a3 : Nat) (a4 : Nat) (a5 : Nat) (a6 : Nat) (a7 : Nat) (a8 : Nat) (S : Int → Int) (T : Int → Int) (Sv : Int → Int) (htl : 0 ≤ tl ∧ tl ≤ 100) (hrt : ∀ z, 0 ≤ z → z < tl → 0 ≤ T z ∧ T z ≤ 255) (sz : Nat) : Met l yX5_load wsX5_load ({ frames := 6, cells := 0, slots := 0, locals := 134 }) (rwP [.ref mo] D (tyz yI yC yD) [(mo, oMo th a1 a2 a3 re a4 a5 a6 tl a7 a8), (a1, aI yI 96 S), (a6, aI yI 100 T), (a5, aI yI 2 Sv)] sz) (va_Qi (fun (r : Int32) (_ : Unit) => r = iI (if findE T tl = -1 then (ldAll T tl).2 else 0) ∧ True) (fun (_ : Unit) (t : State) => va_P D vwCl [(mo, oMo (bI (¬ (findE T tl = -1))) a1 a2 a3 (if findE T tl = -1 then 0 else re) a4 a5 a6 tl a7 a8), (a1, aI yI 96 (if findE T tl = -1 then (ldAll T tl).1 else S)), (a6, aI yI 100 T), (a5, aI yI 2 (if findE T tl = -1 then up (up Sv 0 0) 1 0 else Sv))] t.heap) (va_A [(mo, oMo th a1 a2 a3 re a4 a5 a6 tl a7 a8), (a1, aI yI 96 S), (a6, aI yI 100 T), (a5, aI yI 2 Sv)] sz)) 0 0 (va_A [(mo, oMo th a1 a2 a3 re a4 a5 a6 tl a7 a8), (a1, aI yI 96 S), (a6, aI yI 100 T), (a5, aI yI 2 Sv)] sz) := by
  refine Met.ofW (cc := cX5_load) (maxL := 4) (ret := (some .int)) (by decide) rfl ?_
  intro p e s m args below meth c s₁ B hml hv
  obtain ⟨rfl, hsz, hP, hK, hD0⟩ := hv
  have hx := B.exec
  have hb := B.bytes
  have hr := B.returns
  have hts := atoms_spec (ws := wsX5_load) B.pre
  have hown : s.vm.findClass RX5 = some m.cls := findClass_of_methodNamed B.named
  have hlocks := B.notSynchronized
  subst hsz
  have hD := hD0.self (sz := s.heap.size)
  generalize hAe : va_A [(mo, oMo th a1 a2 a3 re a4 a5 a6 tl a7 a8), (a1, aI yI 96 S), (a6, aI yI 100 T), (a5, aI yI 2 Sv)] s.heap.size = A at hD ⊢
  have hA : ∀ q : Nat, s.heap.size ≤ q → A q := fun q h => by rw [← hAe]; exact Or.inr h
  have hS : va_S A s.heap s.heap [] := va_S.rf
  have hP : va_P D vwCl [(mo, oMo th a1 a2 a3 re a4 a5 a6 tl a7 a8), (a1, aI yI 96 S), (a6, aI yI 100 T), (a5, aI yI 2 Sv)] s.heap := hP
  have hinX5 : ∀ w ∈ wsX50, w ∈ wsX5_load := by decide +kernel
  have hf22 : (Cond.fieldLink RX5 22 "RiddleDriveModel" "isSaved" "[I").before _ s = true := hts _ (by decide +kernel)
  have hf25 : (Cond.fieldLink RX5 25 "RiddleDriveModel" "text" "[I").before _ s = true := hts _ (by decide +kernel)
  have hf38 : (Cond.fieldLink RX5 38 "RiddleDriveModel" "thrown" "I").before _ s = true := hts _ (by decide +kernel)
  have hf82 : (Cond.fieldLink RX5 82 "RiddleDriveModel" "textLength" "I").before _ s = true := hts _ (by decide +kernel)
  have hf105 : (Cond.fieldLink RX5 105 "RiddleDriveModel" "remembered" "I").before _ s = true := hts _ (by decide +kernel)
  have hl := lv_entry ([.ref mo]) (n := 4) (Nat.le_of_ble_eq_true rfl)
  rw [lg_entry_eq]
  generalize (lg_sl ([.ref mo]) ++ List.replicate (4 - (lg_sl ([.ref mo])).length) Slot.unset).toArray = ls at hl ⊢
  have hl : lv_has ls 4 [(0, .ref mo)] := hl
  have hfr := findE_r (T := T) (n := tl) (by omega)
  refine lv_aload_n hx hb dX5_load_0 rfl (lv_at hl 0 rfl) ?_
  refine lv_aload_n hx hb dX5_load_1 rfl (lv_at hl 0 rfl) ?_
  refine iv_roV (As := []) (rest := [.ref mo]) (C := RX5) (n := 0) ⟨hx, hb, hml, hown, hts⟩ (c_X5_findError l D yI yC yD mo th re tl a1 a2 a3 a4 a5 a6 a7 a8 T (by assumption) (by assumption)) (cwV 0 hts gX5_load_X5_findError rfl rfl rfl (by decide +kernel) ⟨Nat.le_of_ble_eq_true rfl, Nat.le_of_ble_eq_true rfl⟩) hK hP [0, 2] rfl 0 rfl rfl rfl hl.1 rfl (Nat.le_of_ble_eq_true rfl) dX5_load_2 ⟨Nat.zero_le _, Nat.zero_le _⟩ ?_
  refine lv_iconst (v := iI (-1)) hx hb dX5_load_5 (by decide +kernel) ?_
  refine iv_icmp_ne (a := findE T tl) (b := -1) (tgt := 13) hx hb (by omega) (by omega) dX5_load_6 (by decide) (fun c6 => ?_) (fun c6 => ?_)
  · refine lv_iconst (v := iI 1) hx hb dX5_load_13 (by decide +kernel) ?_
    refine va_put (D := D) (ci := 5) (v := .int (iI 1)) (ty := .int) (C := RX5) (T := TX5) (N := 11) hx hb hts hinX5 tyX5 tyX5_ok nmX5 hown hK hP hD hS 0 rfl rfl 0 (by decide) hf38 (fun _ h9 => h9) rfl (by decide +kernel) rfl rfl (Nat.le_of_ble_eq_true rfl) dX5_load_14 (fun H locs hP hD hS => ?_)
    have hP : va_P D vwCl [(mo, oMo 1 a1 a2 a3 re a4 a5 a6 tl a7 a8), (a1, aI yI 96 S), (a6, aI yI 100 T), (a5, aI yI 2 Sv)] H := hP
    have hD : va_D A [(mo, oMo 1 a1 a2 a3 re a4 a5 a6 tl a7 a8), (a1, aI yI 96 S), (a6, aI yI 100 T), (a5, aI yI 2 Sv)] := hD
    refine lv_aload_n hx hb dX5_load_17 rfl (lv_at hl 0 rfl) ?_
    refine va_get (D := D) (ci := 5) (v := .int (iI 1)) (C := RX5) (T := TX5) (N := 11) hx hb hts hinX5 hown hK hP 0 rfl rfl 0 (by decide) hf38 (fun _ h9 => h9) rfl dX5_load_18 ?_
    refine iv_if_le (a := 1) (tgt := 26) hx hb (by omega) dX5_load_21 (by decide) (fun c21 => ?_) (fun c21 => ?_)
    · exact absurd c21 (by omega)
    · refine lv_iconst (v := iI 0) hx hb dX5_load_24 (by decide +kernel) ?_
      have hq : ¬ (findE T tl = -1) := by omega
      have hP9 : va_P D vwCl [(mo, oMo (bI (¬ (findE T tl = -1))) a1 a2 a3 (if findE T tl = -1 then 0 else re) a4 a5 a6 tl a7 a8), (a1, aI yI 96 (if findE T tl = -1 then (ldAll T tl).1 else S)), (a6, aI yI 100 T), (a5, aI yI 2 (if findE T tl = -1 then up (up Sv 0 0) 1 0 else Sv))] _ := (hP.sub (ws' := [(mo, oMo 1 a1 a2 a3 re a4 a5 a6 tl a7 a8), (a1, aI yI 96 S), (a6, aI yI 100 T), (a5, aI yI 2 Sv)]) [0, 1, 2, 3] rfl).cv (by simp only [if_neg hq, bI_t hq])
      exact W.iret hx hb hr (fun t ht hW => ⟨⟨iI 0, (), rfl, ⟨congrArg iI (show 0 = if findE T tl = -1 then (ldAll T tl).2 else 0 by rw [if_neg hq]), trivial⟩, by show va_P D vwCl _ t.heap; rw [ht]; exact hP9⟩, hS.F ht⟩) hS.2.2 dX5_load_25
  · refine lv_iconst (v := iI 0) hx hb dX5_load_9 (by decide +kernel) ?_
    refine lv_goto (tgt := 14) hx hb dX5_load_10 (by decide) ?_
    refine va_put (D := D) (ci := 5) (v := .int (iI 0)) (ty := .int) (C := RX5) (T := TX5) (N := 11) hx hb hts hinX5 tyX5 tyX5_ok nmX5 hown hK hP hD hS 0 rfl rfl 0 (by decide) hf38 (fun _ h9 => h9) rfl (by decide +kernel) rfl rfl (Nat.le_of_ble_eq_true rfl) dX5_load_14 (fun H locs hP hD hS => ?_)
    have hP : va_P D vwCl [(mo, oMo 0 a1 a2 a3 re a4 a5 a6 tl a7 a8), (a1, aI yI 96 S), (a6, aI yI 100 T), (a5, aI yI 2 Sv)] H := hP
    have hD : va_D A [(mo, oMo 0 a1 a2 a3 re a4 a5 a6 tl a7 a8), (a1, aI yI 96 S), (a6, aI yI 100 T), (a5, aI yI 2 Sv)] := hD
    refine lv_aload_n hx hb dX5_load_17 rfl (lv_at hl 0 rfl) ?_
    refine va_get (D := D) (ci := 5) (v := .int (iI 0)) (C := RX5) (T := TX5) (N := 11) hx hb hts hinX5 hown hK hP 0 rfl rfl 0 (by decide) hf38 (fun _ h9 => h9) rfl dX5_load_18 ?_
    refine iv_if_le (a := 0) (tgt := 26) hx hb (by omega) dX5_load_21 (by decide) (fun c21 => ?_) (fun c21 => ?_)
    · have hok := findE_ok (show findE T tl = -1 by omega)
      refine lv_aload_n hx hb dX5_load_26 rfl (lv_at hl 0 rfl) ?_
      refine lv_aload_n hx hb dX5_load_27 rfl (lv_at hl 0 rfl) ?_
      refine lv_iconst (v := iI 1) hx hb dX5_load_28 (by decide +kernel) ?_
      refine iv_roV (As := [.int (iI 1)]) (rest := [.ref mo]) (C := RX5) (n := 1) ⟨hx, hb, hml, hown, hts⟩ (c_X5_number l D yI yC yD mo 0 re tl a1 a2 a3 a4 a5 a6 a7 a8 T 1 (by assumption) (by assumption) (by omega)) (cwV 1 hts gX5_load_X5_number rfl rfl rfl (by decide +kernel) ⟨Nat.le_of_ble_eq_true rfl, Nat.le_of_ble_eq_true rfl⟩) hK hP [0, 2] rfl 0 rfl rfl rfl hl.1 rfl (Nat.le_of_ble_eq_true rfl) dX5_load_29 ⟨Nat.zero_le _, Nat.zero_le _⟩ ?_
      refine iv_rwVv (As := [.int (iI (numb T tl 1))]) (rest := []) (C := RX5) (n := 1) ⟨hx, hb, hml, hown, hts⟩ (c_X5_renew l D yI yC yD mo 0 re tl a1 a2 a3 a4 a5 a6 a7 a8 S (numb T tl 1)  _) (cwV 1 hts gX5_load_X5_renew rfl rfl rfl (by decide +kernel) ⟨Nat.le_of_ble_eq_true rfl, Nat.le_of_ble_eq_true rfl⟩) hK hP hD hS hA [0, 1] (by decide) rfl 0 rfl rfl rfl hl.1 rfl (Nat.le_of_ble_eq_true rfl) dX5_load_32 ⟨Nat.zero_le _, Nat.zero_le _⟩ (fun _ => rfl) (fun u32 H locs hw32 hP hD hS => ?_)
      have hP : va_P D vwCl [(mo, oMo 0 a1 a2 a3 re a4 a5 a6 tl a7 a8), (a1, aI yI 96 (newS (numb T tl 1))), (a6, aI yI 100 T), (a5, aI yI 2 Sv)] H := hP
      have hD : va_D A [(mo, oMo 0 a1 a2 a3 re a4 a5 a6 tl a7 a8), (a1, aI yI 96 (newS (numb T tl 1))), (a6, aI yI 100 T), (a5, aI yI 2 Sv)] := hD
      refine lv_aload_n hx hb dX5_load_35 rfl (lv_at hl 0 rfl) ?_
      refine lv_iconst (v := iI 0) hx hb dX5_load_36 (by decide +kernel) ?_
      refine va_put (D := D) (ci := 5) (v := .int (iI 0)) (ty := .int) (C := RX5) (T := TX5) (N := 11) hx hb hts hinX5 tyX5 tyX5_ok nmX5 hown hK hP hD hS 0 rfl rfl 4 (by decide) hf105 (fun _ h9 => h9) rfl (by decide +kernel) rfl rfl (Nat.le_of_ble_eq_true rfl) dX5_load_37 (fun H locs hP hD hS => ?_)
      have hP : va_P D vwCl [(mo, oMo 0 a1 a2 a3 0 a4 a5 a6 tl a7 a8), (a1, aI yI 96 (newS (numb T tl 1))), (a6, aI yI 100 T), (a5, aI yI 2 Sv)] H := hP
      have hD : va_D A [(mo, oMo 0 a1 a2 a3 0 a4 a5 a6 tl a7 a8), (a1, aI yI 96 (newS (numb T tl 1))), (a6, aI yI 100 T), (a5, aI yI 2 Sv)] := hD
      refine lv_aload_n hx hb dX5_load_40 rfl (lv_at hl 0 rfl) ?_
      refine va_get (D := D) (ci := 5) (v := .ref a5) (C := RX5) (T := TX5) (N := 11) hx hb hts hinX5 hown hK hP 0 rfl rfl 6 (by decide) hf22 (fun _ h9 => h9) rfl dX5_load_41 ?_
      refine lv_iconst (v := iI 0) hx hb dX5_load_44 (by decide +kernel) ?_
      refine lv_iconst (v := iI 0) hx hb dX5_load_45 (by decide +kernel) ?_
      refine iv_ast hx hb hK hP hD hS 3 0 rfl rfl (z := 0) (v := 0) (by omega) (by omega) (by omega) dX5_load_46 (fun H locs hP hD hS => ?_)
      have hP : va_P D vwCl [(mo, oMo 0 a1 a2 a3 0 a4 a5 a6 tl a7 a8), (a1, aI yI 96 (newS (numb T tl 1))), (a6, aI yI 100 T), (a5, aI yI 2 (up Sv 0 0))] H := hP
      have hD : va_D A [(mo, oMo 0 a1 a2 a3 0 a4 a5 a6 tl a7 a8), (a1, aI yI 96 (newS (numb T tl 1))), (a6, aI yI 100 T), (a5, aI yI 2 (up Sv 0 0))] := hD
      refine lv_aload_n hx hb dX5_load_47 rfl (lv_at hl 0 rfl) ?_
      refine va_get (D := D) (ci := 5) (v := .ref a5) (C := RX5) (T := TX5) (N := 11) hx hb hts hinX5 hown hK hP 0 rfl rfl 6 (by decide) hf22 (fun _ h9 => h9) rfl dX5_load_48 ?_
      refine lv_iconst (v := iI 1) hx hb dX5_load_51 (by decide +kernel) ?_
      refine lv_iconst (v := iI 0) hx hb dX5_load_52 (by decide +kernel) ?_
      refine iv_ast hx hb hK hP hD hS 3 0 rfl rfl (z := 1) (v := 0) (by omega) (by omega) (by omega) dX5_load_53 (fun H locs hP hD hS => ?_)
      have hP : va_P D vwCl [(mo, oMo 0 a1 a2 a3 0 a4 a5 a6 tl a7 a8), (a1, aI yI 96 (newS (numb T tl 1))), (a6, aI yI 100 T), (a5, aI yI 2 (up (up Sv 0 0) 1 0))] H := hP
      have hD : va_D A [(mo, oMo 0 a1 a2 a3 0 a4 a5 a6 tl a7 a8), (a1, aI yI 96 (newS (numb T tl 1))), (a6, aI yI 100 T), (a5, aI yI 2 (up (up Sv 0 0) 1 0))] := hD
      refine lv_iconst (v := iI 0) hx hb dX5_load_54 (by decide +kernel) ?_
      refine lv_istore_n (lv' := [(1, .int (iI 0)), (0, .ref mo)]) hx hb dX5_load_55 rfl hl (by decide) rfl (fun ls hl => ?_)
      refine lv_iconst (v := iI 3) hx hb dX5_load_56 (by decide +kernel) ?_
      refine lv_istore_n (lv' := [(2, .int (iI 3)), (1, .int (iI 0)), (0, .ref mo)]) hx hb dX5_load_57 rfl hl (by decide) rfl (fun ls hl => ?_)
      refine iv_loop (I := fun (qq : Nat × Int × Int × (Int → Int)) H locs ls => match qq with | (k, x1, x2, G) => (103 ≤ (k : Int) + x2 ∧ 3 ≤ x2 ∧ x2 ≤ 110) ∧ (Inv G) ∧ (G 0 = numb T tl 1) ∧ (fe T tl (numb T tl 1) k x2 (-1) = -1) ∧ (ldL T tl k x2 G x1 = ldAll T tl) ∧ va_P D vwCl [(mo, oMo 0 a1 a2 a3 0 a4 a5 a6 tl a7 a8), (a1, aI yI 96 G), (a6, aI yI 100 T), (a5, aI yI 2 (up (up Sv 0 0) 1 0))] H ∧ va_D A [(mo, oMo 0 a1 a2 a3 0 a4 a5 a6 tl a7 a8), (a1, aI yI 96 G), (a6, aI yI 100 T), (a5, aI yI 2 (up (up Sv 0 0) 1 0))] ∧ va_S A s.heap H locs ∧ lv_has ls 4 [(2, .int (iI x2)), (1, .int (iI x1)), (0, .ref mo)]) (μ := fun (qq : Nat × Int × Int × (Int → Int)) => match qq with | (k, x1, x2, G) => k) (100, 0, 3, newS (numb T tl 1)) ?_ ?_
      · exact ⟨by omega, inv_newS hok.1, rfl, hok.2, rfl, hP, hD, hS, lv_sub hl [0, 1, 2] rfl⟩
      · intro qq H locs ls hI ih58
        obtain ⟨k, x1, x2, G⟩ := qq
        obtain ⟨hk, hI2, h0, hf, hR, hP, hD, hS, hl⟩ := hI
        refine lv_iload_n hx hb dX5_load_58 rfl (lv_at hl 0 rfl) ?_
        refine lv_aload_n hx hb dX5_load_59 rfl (lv_at hl 2 rfl) ?_
        refine va_get (D := D) (ci := 5) (v := .int (iI tl)) (C := RX5) (T := TX5) (N := 11) hx hb hts hinX5 hown hK hP 0 rfl rfl 8 (by decide) hf82 (fun _ h9 => h9) rfl dX5_load_60 ?_
        refine iv_icmp_ge (a := x2) (b := tl) (tgt := 194) hx hb (by omega) (by omega) dX5_load_63 (by decide) (fun c63 => ?_) (fun c63 => ?_)
        · refine lv_iload_n hx hb dX5_load_194 rfl (lv_at hl 1 rfl) ?_
          have hq : findE T tl = -1 := by omega
          have hP9 : va_P D vwCl [(mo, oMo (bI (¬ (findE T tl = -1))) a1 a2 a3 (if findE T tl = -1 then 0 else re) a4 a5 a6 tl a7 a8), (a1, aI yI 96 (if findE T tl = -1 then (ldAll T tl).1 else S)), (a6, aI yI 100 T), (a5, aI yI 2 (if findE T tl = -1 then up (up Sv 0 0) 1 0 else Sv))] _ := (hP.sub (ws' := [(mo, oMo 0 a1 a2 a3 0 a4 a5 a6 tl a7 a8), (a1, aI yI 96 G), (a6, aI yI 100 T), (a5, aI yI 2 (up (up Sv 0 0) 1 0))]) [0, 1, 2, 3] rfl).cv (by simp only [if_pos hq, bI_f (not_not_intro hq), ← hR, ld_e (show ¬ x2 < tl by omega)])
          exact W.iret hx hb hr (fun t ht hW => ⟨⟨iI x1, (), rfl, ⟨congrArg iI (show x1 = if findE T tl = -1 then (ldAll T tl).2 else 0 by rw [if_pos hq, ← hR, ld_e (by omega)]), trivial⟩, by show va_P D vwCl _ t.heap; rw [ht]; exact hP9⟩, hS.F ht⟩) hS.2.2 dX5_load_195
        · refine lv_aload_n hx hb dX5_load_66 rfl (lv_at hl 2 rfl) ?_
          refine va_get (D := D) (ci := 5) (v := .ref a6) (C := RX5) (T := TX5) (N := 11) hx hb hts hinX5 hown hK hP 0 rfl rfl 7 (by decide) hf25 (fun _ h9 => h9) rfl dX5_load_67 ?_
          refine lv_iload_n hx hb dX5_load_70 rfl (lv_at hl 0 rfl) ?_
          have hfs := fe_s hf (k' := k - 1) (by omega) (by omega)
          have hwc := wrongC_ok (by omega) hfs.1
          have hpl := hI2.pl
          have hwi := hI2.wi
          have hna := hI2.na
          have hct := hrt x2 (by omega) (by omega)
          have hlt := lenAt_r (T := T) (p := x2)
          have hd1 := digit_r (T := T) (n := tl) (p := x2 + 1)
          refine iv_ald hx hb hK hP 2 0 rfl rfl (z := x2) (by omega) (by omega) (by omega) dX5_load_71 ?_
          refine lv_istore_n (lv' := [(3, .int (iI (T x2))), (2, .int (iI x2)), (1, .int (iI x1)), (0, .ref mo)]) hx hb dX5_load_72 rfl hl (by decide) rfl (fun ls hl => ?_)
          refine lv_iload_n hx hb dX5_load_73 rfl (lv_at hl 0 rfl) ?_
          refine lv_bipush (v := iI 107) hx hb dX5_load_74 (by decide +kernel) ?_
          refine iv_icmp_ne (a := T x2) (b := 107) (tgt := 95) hx hb (by omega) (by omega) dX5_load_76 (by decide) (fun c76 => ?_) (fun c76 => ?_)
          · refine lv_iload_n hx hb dX5_load_95 rfl (lv_at hl 0 rfl) ?_
            refine lv_bipush (v := iI 113) hx hb dX5_load_96 (by decide +kernel) ?_
            refine iv_icmp_eq (a := T x2) (b := 113) (tgt := 137) hx hb (by omega) (by omega) dX5_load_98 (by decide) (fun c98 => ?_) (fun c98 => ?_)
            · refine lv_aload_n hx hb dX5_load_137 rfl (lv_at hl 3 rfl) ?_
              refine lv_aload_n hx hb dX5_load_138 rfl (lv_at hl 3 rfl) ?_
              refine lv_iload_n hx hb dX5_load_139 rfl (lv_at hl 1 rfl) ?_
              refine lv_iconst (v := iI 1) hx hb dX5_load_140 (by decide +kernel) ?_
              refine iv_add hx hb dX5_load_141 ?_
              refine iv_roV (As := [.int (iI (x2 + 1))]) (rest := [.ref mo]) (C := RX5) (n := 1) ⟨hx, hb, hml, hown, hts⟩ (c_X5_number l D yI yC yD mo 0 0 tl a1 a2 a3 a4 a5 a6 a7 a8 T (x2 + 1) (by assumption) (by assumption) (by omega)) (cwV 1 hts gX5_load_X5_number rfl rfl rfl (by decide +kernel) ⟨Nat.le_of_ble_eq_true rfl, Nat.le_of_ble_eq_true rfl⟩) hK hP [0, 2] rfl 0 rfl rfl rfl hl.1 rfl (Nat.le_of_ble_eq_true rfl) dX5_load_142 ⟨Nat.zero_le _, Nat.zero_le _⟩ ?_
              refine lv_aload_n hx hb dX5_load_145 rfl (lv_at hl 3 rfl) ?_
              refine lv_iload_n hx hb dX5_load_146 rfl (lv_at hl 1 rfl) ?_
              refine lv_iconst (v := iI 3) hx hb dX5_load_147 (by decide +kernel) ?_
              refine iv_add hx hb dX5_load_148 ?_
              refine iv_roV (As := [.int (iI (x2 + 3))]) (rest := [.int (iI (numb T tl (x2 + 1))), .ref mo]) (C := RX5) (n := 1) ⟨hx, hb, hml, hown, hts⟩ (c_X5_number l D yI yC yD mo 0 0 tl a1 a2 a3 a4 a5 a6 a7 a8 T (x2 + 3) (by assumption) (by assumption) (by omega)) (cwV 1 hts gX5_load_X5_number rfl rfl rfl (by decide +kernel) ⟨Nat.le_of_ble_eq_true rfl, Nat.le_of_ble_eq_true rfl⟩) hK hP [0, 2] rfl 0 rfl rfl rfl hl.1 rfl (Nat.le_of_ble_eq_true rfl) dX5_load_149 ⟨Nat.zero_le _, Nat.zero_le _⟩ ?_
              refine iv_roV (As := [.int (iI (numb T tl (x2 + 1))), .int (iI (numb T tl (x2 + 3)))]) (rest := []) (C := RX5) (n := 2) ⟨hx, hb, hml, hown, hts⟩ (c_X5_isWide l D yI yC yD mo 0 0 tl a1 a2 a3 a4 a5 a6 a7 a8 G (numb T tl (x2 + 1)) (numb T tl (x2 + 3)) (by omega) (by omega)) (cwV 2 hts gX5_load_X5_isWide rfl rfl rfl (by decide +kernel) ⟨Nat.le_of_ble_eq_true rfl, Nat.le_of_ble_eq_true rfl⟩) hK hP [0, 1] rfl 0 rfl rfl rfl hl.1 rfl (Nat.le_of_ble_eq_true rfl) dX5_load_152 ⟨Nat.zero_le _, Nat.zero_le _⟩ ?_
              refine iv_ifb_eq (P := G 1 ≤ (numb T tl (x2 + 3)) - (numb T tl (x2 + 1)) + 1) (tgt := 180) hx hb dX5_load_155 (by decide) (fun c155 => ?_) (fun c155 => ?_)
              · refine iv_inc (lv' := [(1, .int (iI (x1 + 1))), (3, .int (iI (T x2))), (2, .int (iI x2)), (0, .ref mo)]) hx hb dX5_load_180 hl (k := 2) rfl (by decide) rfl (fun ls hl => ?_)
                have hs9 : ldS T tl x2 G = G := by unfold ldS; (repeat (first | rw [if_pos (by omega)] | rw [if_neg (by omega)]))
                have hk9 : ldK T tl x2 G x1 = x1 + 1 := by unfold ldK; (repeat (first | rw [if_pos (by omega)] | rw [if_neg (by omega)]))
                have hin9 : Inv (G) := by first | exact hI2 | exact inv_wr hI2 (by omega) (by omega) | exact inv_askd hI2 (by omega) | exact inv_setg hI2 (by omega)
                have h09 : (G) 0 = G 0 := by first | rfl | exact wr_0 hI2 (by omega) (by omega) | exact askd_0 hI2 | exact setg_0 (by omega)
                refine lv_iload_n hx hb dX5_load_183 rfl (lv_at hl 2 rfl) ?_
                refine lv_aload_n hx hb dX5_load_184 rfl (lv_at hl 3 rfl) ?_
                refine lv_iload_n hx hb dX5_load_185 rfl (lv_at hl 2 rfl) ?_
                refine iv_roV (As := [.int (iI x2)]) (rest := [.int (iI x2)]) (C := RX5) (n := 1) ⟨hx, hb, hml, hown, hts⟩ (c_X5_lengthAt l D yI yC yD mo 0 0 tl a1 a2 a3 a4 a5 a6 a7 a8 T x2 (by assumption) (by assumption) (by omega)) (cwV 1 hts gX5_load_X5_lengthAt rfl rfl rfl (by decide +kernel) ⟨Nat.le_of_ble_eq_true rfl, Nat.le_of_ble_eq_true rfl⟩) hK hP [0, 2] rfl 0 rfl rfl rfl hl.1 rfl (Nat.le_of_ble_eq_true rfl) dX5_load_186 ⟨Nat.zero_le _, Nat.zero_le _⟩ ?_
                refine iv_add hx hb dX5_load_189 ?_
                refine lv_istore_n (lv' := [(2, .int (iI (x2 + (lenAt T x2)))), (1, .int (iI (x1 + 1))), (3, .int (iI (T x2))), (0, .ref mo)]) hx hb dX5_load_190 rfl hl (by decide) rfl (fun ls hl => ?_)
                refine lv_goto (tgt := 58) hx hb dX5_load_191 (by decide) ?_
                refine ih58 (k - 1, x1 + 1, x2 + (lenAt T x2), G) _ _ (by show (k - 1 : Nat) < k; omega) ?_
                exact ⟨by omega, hin9, by rw [h09]; exact h0, hfs.2, by rw [← hR, ld_s (k := k) (k' := k - 1) (by omega) (by omega), hs9, hk9], hP, hD, hS, lv_sub hl [0, 1, 3] rfl⟩
              · refine lv_aload_n hx hb dX5_load_158 rfl (lv_at hl 3 rfl) ?_
                refine lv_aload_n hx hb dX5_load_159 rfl (lv_at hl 3 rfl) ?_
                refine lv_iload_n hx hb dX5_load_160 rfl (lv_at hl 1 rfl) ?_
                refine lv_iconst (v := iI 1) hx hb dX5_load_161 (by decide +kernel) ?_
                refine iv_add hx hb dX5_load_162 ?_
                refine iv_roV (As := [.int (iI (x2 + 1))]) (rest := [.ref mo]) (C := RX5) (n := 1) ⟨hx, hb, hml, hown, hts⟩ (c_X5_number l D yI yC yD mo 0 0 tl a1 a2 a3 a4 a5 a6 a7 a8 T (x2 + 1) (by assumption) (by assumption) (by omega)) (cwV 1 hts gX5_load_X5_number rfl rfl rfl (by decide +kernel) ⟨Nat.le_of_ble_eq_true rfl, Nat.le_of_ble_eq_true rfl⟩) hK hP [0, 2] rfl 0 rfl rfl rfl hl.1 rfl (Nat.le_of_ble_eq_true rfl) dX5_load_163 ⟨Nat.zero_le _, Nat.zero_le _⟩ ?_
                refine lv_aload_n hx hb dX5_load_166 rfl (lv_at hl 3 rfl) ?_
                refine lv_iload_n hx hb dX5_load_167 rfl (lv_at hl 1 rfl) ?_
                refine lv_iconst (v := iI 3) hx hb dX5_load_168 (by decide +kernel) ?_
                refine iv_add hx hb dX5_load_169 ?_
                refine iv_roV (As := [.int (iI (x2 + 3))]) (rest := [.int (iI (numb T tl (x2 + 1))), .ref mo]) (C := RX5) (n := 1) ⟨hx, hb, hml, hown, hts⟩ (c_X5_number l D yI yC yD mo 0 0 tl a1 a2 a3 a4 a5 a6 a7 a8 T (x2 + 3) (by assumption) (by assumption) (by omega)) (cwV 1 hts gX5_load_X5_number rfl rfl rfl (by decide +kernel) ⟨Nat.le_of_ble_eq_true rfl, Nat.le_of_ble_eq_true rfl⟩) hK hP [0, 2] rfl 0 rfl rfl rfl hl.1 rfl (Nat.le_of_ble_eq_true rfl) dX5_load_170 ⟨Nat.zero_le _, Nat.zero_le _⟩ ?_
                refine iv_rwV (As := [.int (iI (numb T tl (x2 + 1))), .int (iI (numb T tl (x2 + 3)))]) (rest := []) (C := RX5) (n := 2) ⟨hx, hb, hml, hown, hts⟩ (c_X5_asked l D yI yC yD mo 0 0 tl a1 a2 a3 a4 a5 a6 a7 a8 G (numb T tl (x2 + 1)) (numb T tl (x2 + 3)) (by assumption) (by omega) _) (cwV 2 hts gX5_load_X5_asked rfl rfl rfl (by decide +kernel) ⟨Nat.le_of_ble_eq_true rfl, Nat.le_of_ble_eq_true rfl⟩) hK hP hD hS hA [0, 1] (by decide) rfl 0 rfl rfl rfl hl.1 rfl (Nat.le_of_ble_eq_true rfl) dX5_load_173 ⟨Nat.zero_le _, Nat.zero_le _⟩ (fun _ => rfl) (fun r173 u173 H locs hw173 hP hD hS => ?_)
                obtain ⟨hr173, -⟩ := hw173
                subst hr173
                have hP : va_P D vwCl [(mo, oMo 0 a1 a2 a3 0 a4 a5 a6 tl a7 a8), (a1, aI yI 96 (askd G (numb T tl (x2 + 1)) (numb T tl (x2 + 3)))), (a6, aI yI 100 T), (a5, aI yI 2 (up (up Sv 0 0) 1 0))] H := hP
                have hD : va_D A [(mo, oMo 0 a1 a2 a3 0 a4 a5 a6 tl a7 a8), (a1, aI yI 96 (askd G (numb T tl (x2 + 1)) (numb T tl (x2 + 3)))), (a6, aI yI 100 T), (a5, aI yI 2 (up (up Sv 0 0) 1 0))] := hD
                refine lv_pop hx hb dX5_load_176 rfl ?_
                refine lv_goto (tgt := 183) hx hb dX5_load_177 (by decide) ?_
                have hs9 : ldS T tl x2 G = askd G (numb T tl (x2 + 1)) (numb T tl (x2 + 3)) := by unfold ldS; (repeat (first | rw [if_pos (by omega)] | rw [if_neg (by omega)]))
                have hk9 : ldK T tl x2 G x1 = x1 := by unfold ldK; (repeat (first | rw [if_pos (by omega)] | rw [if_neg (by omega)]))
                have hin9 : Inv (askd G (numb T tl (x2 + 1)) (numb T tl (x2 + 3))) := by first | exact hI2 | exact inv_wr hI2 (by omega) (by omega) | exact inv_askd hI2 (by omega) | exact inv_setg hI2 (by omega)
                have h09 : (askd G (numb T tl (x2 + 1)) (numb T tl (x2 + 3))) 0 = G 0 := by first | rfl | exact wr_0 hI2 (by omega) (by omega) | exact askd_0 hI2 | exact setg_0 (by omega)
                refine lv_iload_n hx hb dX5_load_183 rfl (lv_at hl 1 rfl) ?_
                refine lv_aload_n hx hb dX5_load_184 rfl (lv_at hl 3 rfl) ?_
                refine lv_iload_n hx hb dX5_load_185 rfl (lv_at hl 1 rfl) ?_
                refine iv_roV (As := [.int (iI x2)]) (rest := [.int (iI x2)]) (C := RX5) (n := 1) ⟨hx, hb, hml, hown, hts⟩ (c_X5_lengthAt l D yI yC yD mo 0 0 tl a1 a2 a3 a4 a5 a6 a7 a8 T x2 (by assumption) (by assumption) (by omega)) (cwV 1 hts gX5_load_X5_lengthAt rfl rfl rfl (by decide +kernel) ⟨Nat.le_of_ble_eq_true rfl, Nat.le_of_ble_eq_true rfl⟩) hK hP [0, 2] rfl 0 rfl rfl rfl hl.1 rfl (Nat.le_of_ble_eq_true rfl) dX5_load_186 ⟨Nat.zero_le _, Nat.zero_le _⟩ ?_
                refine iv_add hx hb dX5_load_189 ?_
                refine lv_istore_n (lv' := [(2, .int (iI (x2 + (lenAt T x2)))), (3, .int (iI (T x2))), (1, .int (iI x1)), (0, .ref mo)]) hx hb dX5_load_190 rfl hl (by decide) rfl (fun ls hl => ?_)
                refine lv_goto (tgt := 58) hx hb dX5_load_191 (by decide) ?_
                refine ih58 (k - 1, x1, x2 + (lenAt T x2), askd G (numb T tl (x2 + 1)) (numb T tl (x2 + 3))) _ _ (by show (k - 1 : Nat) < k; omega) ?_
                exact ⟨by omega, hin9, by rw [h09]; exact h0, hfs.2, by rw [← hR, ld_s (k := k) (k' := k - 1) (by omega) (by omega), hs9, hk9], hP, hD, hS, lv_sub hl [0, 2, 3] rfl⟩
            · refine lv_aload_n hx hb dX5_load_101 rfl (lv_at hl 3 rfl) ?_
              refine lv_iload_n hx hb dX5_load_102 rfl (lv_at hl 0 rfl) ?_
              refine lv_bipush (v := iI 119) hx hb dX5_load_103 (by decide +kernel) ?_
              refine iv_icmp_ne (a := T x2) (b := 119) (tgt := 112) hx hb (by omega) (by omega) dX5_load_105 (by decide) (fun c105 => ?_) (fun c105 => ?_)
              · refine lv_iload_n hx hb dX5_load_112 rfl (lv_at hl 0 rfl) ?_
                refine lv_bipush (v := iI 115) hx hb dX5_load_113 (by decide +kernel) ?_
                refine iv_icmp_ne (a := T x2) (b := 115) (tgt := 122) hx hb (by omega) (by omega) dX5_load_115 (by decide) (fun c115 => ?_) (fun c115 => ?_)
                · refine lv_iconst (v := iI 2) hx hb dX5_load_122 (by decide +kernel) ?_
                  refine lv_aload_n hx hb dX5_load_123 rfl (lv_at hl 3 rfl) ?_
                  refine lv_iload_n hx hb dX5_load_124 rfl (lv_at hl 1 rfl) ?_
                  refine lv_iconst (v := iI 1) hx hb dX5_load_125 (by decide +kernel) ?_
                  refine iv_add hx hb dX5_load_126 ?_
                  refine iv_roV (As := [.int (iI (x2 + 1))]) (rest := [.int (iI 2), .ref mo]) (C := RX5) (n := 1) ⟨hx, hb, hml, hown, hts⟩ (c_X5_digit l D yI yC yD mo 0 0 tl a1 a2 a3 a4 a5 a6 a7 a8 T (x2 + 1) (by assumption) (by assumption) (by omega)) (cwV 1 hts gX5_load_X5_digit rfl rfl rfl (by decide +kernel) ⟨Nat.le_of_ble_eq_true rfl, Nat.le_of_ble_eq_true rfl⟩) hK hP [0, 2] rfl 0 rfl rfl rfl hl.1 rfl (Nat.le_of_ble_eq_true rfl) dX5_load_127 ⟨Nat.zero_le _, Nat.zero_le _⟩ ?_
                  refine iv_rwV (As := [.int (iI 2), .int (iI (digit T tl (x2 + 1)))]) (rest := []) (C := RX5) (n := 2) ⟨hx, hb, hml, hown, hts⟩ (c_X5_changed l D yI yC yD mo 0 0 tl a1 a2 a3 a4 a5 a6 a7 a8 G 2 (digit T tl (x2 + 1)) (by omega) (ld_h2 hI2 (by omega) (by omega)) _) (cwV 2 hts gX5_load_X5_changed rfl rfl rfl (by decide +kernel) ⟨Nat.le_of_ble_eq_true rfl, Nat.le_of_ble_eq_true rfl⟩) hK hP hD hS hA [0, 1] (by decide) rfl 0 rfl rfl rfl hl.1 rfl (Nat.le_of_ble_eq_true rfl) dX5_load_130 ⟨Nat.zero_le _, Nat.zero_le _⟩ (fun _ => rfl) (fun r130 u130 H locs hw130 hP hD hS => ?_)
                  obtain ⟨hr130, -⟩ := hw130
                  subst hr130
                  have hP : va_P D vwCl [(mo, oMo 0 a1 a2 a3 0 a4 a5 a6 tl a7 a8), (a1, aI yI 96 (setg G 2 (digit T tl (x2 + 1)))), (a6, aI yI 100 T), (a5, aI yI 2 (up (up Sv 0 0) 1 0))] H := hP
                  have hD : va_D A [(mo, oMo 0 a1 a2 a3 0 a4 a5 a6 tl a7 a8), (a1, aI yI 96 (setg G 2 (digit T tl (x2 + 1)))), (a6, aI yI 100 T), (a5, aI yI 2 (up (up Sv 0 0) 1 0))] := hD
                  refine lv_pop hx hb dX5_load_133 rfl ?_
                  refine lv_goto (tgt := 183) hx hb dX5_load_134 (by decide) ?_
                  have hs9 : ldS T tl x2 G = setg G 2 (digit T tl (x2 + 1)) := by unfold ldS; (repeat (first | rw [if_pos (by omega)] | rw [if_neg (by omega)]))
                  have hk9 : ldK T tl x2 G x1 = x1 := by unfold ldK; (repeat (first | rw [if_pos (by omega)] | rw [if_neg (by omega)]))
                  have hin9 : Inv (setg G 2 (digit T tl (x2 + 1))) := by first | exact hI2 | exact inv_wr hI2 (by omega) (by omega) | exact inv_askd hI2 (by omega) | exact inv_setg hI2 (by omega)
                  have h09 : (setg G 2 (digit T tl (x2 + 1))) 0 = G 0 := by first | rfl | exact wr_0 hI2 (by omega) (by omega) | exact askd_0 hI2 | exact setg_0 (by omega)
                  refine lv_iload_n hx hb dX5_load_183 rfl (lv_at hl 1 rfl) ?_
                  refine lv_aload_n hx hb dX5_load_184 rfl (lv_at hl 3 rfl) ?_
                  refine lv_iload_n hx hb dX5_load_185 rfl (lv_at hl 1 rfl) ?_
                  refine iv_roV (As := [.int (iI x2)]) (rest := [.int (iI x2)]) (C := RX5) (n := 1) ⟨hx, hb, hml, hown, hts⟩ (c_X5_lengthAt l D yI yC yD mo 0 0 tl a1 a2 a3 a4 a5 a6 a7 a8 T x2 (by assumption) (by assumption) (by omega)) (cwV 1 hts gX5_load_X5_lengthAt rfl rfl rfl (by decide +kernel) ⟨Nat.le_of_ble_eq_true rfl, Nat.le_of_ble_eq_true rfl⟩) hK hP [0, 2] rfl 0 rfl rfl rfl hl.1 rfl (Nat.le_of_ble_eq_true rfl) dX5_load_186 ⟨Nat.zero_le _, Nat.zero_le _⟩ ?_
                  refine iv_add hx hb dX5_load_189 ?_
                  refine lv_istore_n (lv' := [(2, .int (iI (x2 + (lenAt T x2)))), (3, .int (iI (T x2))), (1, .int (iI x1)), (0, .ref mo)]) hx hb dX5_load_190 rfl hl (by decide) rfl (fun ls hl => ?_)
                  refine lv_goto (tgt := 58) hx hb dX5_load_191 (by decide) ?_
                  refine ih58 (k - 1, x1, x2 + (lenAt T x2), setg G 2 (digit T tl (x2 + 1))) _ _ (by show (k - 1 : Nat) < k; omega) ?_
                  exact ⟨by omega, hin9, by rw [h09]; exact h0, hfs.2, by rw [← hR, ld_s (k := k) (k' := k - 1) (by omega) (by omega), hs9, hk9], hP, hD, hS, lv_sub hl [0, 2, 3] rfl⟩
                · refine lv_iconst (v := iI 1) hx hb dX5_load_118 (by decide +kernel) ?_
                  refine lv_goto (tgt := 123) hx hb dX5_load_119 (by decide) ?_
                  refine lv_aload_n hx hb dX5_load_123 rfl (lv_at hl 3 rfl) ?_
                  refine lv_iload_n hx hb dX5_load_124 rfl (lv_at hl 1 rfl) ?_
                  refine lv_iconst (v := iI 1) hx hb dX5_load_125 (by decide +kernel) ?_
                  refine iv_add hx hb dX5_load_126 ?_
                  refine iv_roV (As := [.int (iI (x2 + 1))]) (rest := [.int (iI 1), .ref mo]) (C := RX5) (n := 1) ⟨hx, hb, hml, hown, hts⟩ (c_X5_digit l D yI yC yD mo 0 0 tl a1 a2 a3 a4 a5 a6 a7 a8 T (x2 + 1) (by assumption) (by assumption) (by omega)) (cwV 1 hts gX5_load_X5_digit rfl rfl rfl (by decide +kernel) ⟨Nat.le_of_ble_eq_true rfl, Nat.le_of_ble_eq_true rfl⟩) hK hP [0, 2] rfl 0 rfl rfl rfl hl.1 rfl (Nat.le_of_ble_eq_true rfl) dX5_load_127 ⟨Nat.zero_le _, Nat.zero_le _⟩ ?_
                  refine iv_rwV (As := [.int (iI 1), .int (iI (digit T tl (x2 + 1)))]) (rest := []) (C := RX5) (n := 2) ⟨hx, hb, hml, hown, hts⟩ (c_X5_changed l D yI yC yD mo 0 0 tl a1 a2 a3 a4 a5 a6 a7 a8 G 1 (digit T tl (x2 + 1)) (by omega) (ld_h2 hI2 (by omega) (by omega)) _) (cwV 2 hts gX5_load_X5_changed rfl rfl rfl (by decide +kernel) ⟨Nat.le_of_ble_eq_true rfl, Nat.le_of_ble_eq_true rfl⟩) hK hP hD hS hA [0, 1] (by decide) rfl 0 rfl rfl rfl hl.1 rfl (Nat.le_of_ble_eq_true rfl) dX5_load_130 ⟨Nat.zero_le _, Nat.zero_le _⟩ (fun _ => rfl) (fun r130 u130 H locs hw130 hP hD hS => ?_)
                  obtain ⟨hr130, -⟩ := hw130
                  subst hr130
                  have hP : va_P D vwCl [(mo, oMo 0 a1 a2 a3 0 a4 a5 a6 tl a7 a8), (a1, aI yI 96 (setg G 1 (digit T tl (x2 + 1)))), (a6, aI yI 100 T), (a5, aI yI 2 (up (up Sv 0 0) 1 0))] H := hP
                  have hD : va_D A [(mo, oMo 0 a1 a2 a3 0 a4 a5 a6 tl a7 a8), (a1, aI yI 96 (setg G 1 (digit T tl (x2 + 1)))), (a6, aI yI 100 T), (a5, aI yI 2 (up (up Sv 0 0) 1 0))] := hD
                  refine lv_pop hx hb dX5_load_133 rfl ?_
                  refine lv_goto (tgt := 183) hx hb dX5_load_134 (by decide) ?_
                  have hs9 : ldS T tl x2 G = setg G 1 (digit T tl (x2 + 1)) := by unfold ldS; (repeat (first | rw [if_pos (by omega)] | rw [if_neg (by omega)]))
                  have hk9 : ldK T tl x2 G x1 = x1 := by unfold ldK; (repeat (first | rw [if_pos (by omega)] | rw [if_neg (by omega)]))
                  have hin9 : Inv (setg G 1 (digit T tl (x2 + 1))) := by first | exact hI2 | exact inv_wr hI2 (by omega) (by omega) | exact inv_askd hI2 (by omega) | exact inv_setg hI2 (by omega)
                  have h09 : (setg G 1 (digit T tl (x2 + 1))) 0 = G 0 := by first | rfl | exact wr_0 hI2 (by omega) (by omega) | exact askd_0 hI2 | exact setg_0 (by omega)
                  refine lv_iload_n hx hb dX5_load_183 rfl (lv_at hl 1 rfl) ?_
                  refine lv_aload_n hx hb dX5_load_184 rfl (lv_at hl 3 rfl) ?_
                  refine lv_iload_n hx hb dX5_load_185 rfl (lv_at hl 1 rfl) ?_
                  refine iv_roV (As := [.int (iI x2)]) (rest := [.int (iI x2)]) (C := RX5) (n := 1) ⟨hx, hb, hml, hown, hts⟩ (c_X5_lengthAt l D yI yC yD mo 0 0 tl a1 a2 a3 a4 a5 a6 a7 a8 T x2 (by assumption) (by assumption) (by omega)) (cwV 1 hts gX5_load_X5_lengthAt rfl rfl rfl (by decide +kernel) ⟨Nat.le_of_ble_eq_true rfl, Nat.le_of_ble_eq_true rfl⟩) hK hP [0, 2] rfl 0 rfl rfl rfl hl.1 rfl (Nat.le_of_ble_eq_true rfl) dX5_load_186 ⟨Nat.zero_le _, Nat.zero_le _⟩ ?_
                  refine iv_add hx hb dX5_load_189 ?_
                  refine lv_istore_n (lv' := [(2, .int (iI (x2 + (lenAt T x2)))), (3, .int (iI (T x2))), (1, .int (iI x1)), (0, .ref mo)]) hx hb dX5_load_190 rfl hl (by decide) rfl (fun ls hl => ?_)
                  refine lv_goto (tgt := 58) hx hb dX5_load_191 (by decide) ?_
                  refine ih58 (k - 1, x1, x2 + (lenAt T x2), setg G 1 (digit T tl (x2 + 1))) _ _ (by show (k - 1 : Nat) < k; omega) ?_
                  exact ⟨by omega, hin9, by rw [h09]; exact h0, hfs.2, by rw [← hR, ld_s (k := k) (k' := k - 1) (by omega) (by omega), hs9, hk9], hP, hD, hS, lv_sub hl [0, 2, 3] rfl⟩
              · refine lv_iconst (v := iI 0) hx hb dX5_load_108 (by decide +kernel) ?_
                refine lv_goto (tgt := 123) hx hb dX5_load_109 (by decide) ?_
                refine lv_aload_n hx hb dX5_load_123 rfl (lv_at hl 3 rfl) ?_
                refine lv_iload_n hx hb dX5_load_124 rfl (lv_at hl 1 rfl) ?_
                refine lv_iconst (v := iI 1) hx hb dX5_load_125 (by decide +kernel) ?_
                refine iv_add hx hb dX5_load_126 ?_
                refine iv_roV (As := [.int (iI (x2 + 1))]) (rest := [.int (iI 0), .ref mo]) (C := RX5) (n := 1) ⟨hx, hb, hml, hown, hts⟩ (c_X5_digit l D yI yC yD mo 0 0 tl a1 a2 a3 a4 a5 a6 a7 a8 T (x2 + 1) (by assumption) (by assumption) (by omega)) (cwV 1 hts gX5_load_X5_digit rfl rfl rfl (by decide +kernel) ⟨Nat.le_of_ble_eq_true rfl, Nat.le_of_ble_eq_true rfl⟩) hK hP [0, 2] rfl 0 rfl rfl rfl hl.1 rfl (Nat.le_of_ble_eq_true rfl) dX5_load_127 ⟨Nat.zero_le _, Nat.zero_le _⟩ ?_
                refine iv_rwV (As := [.int (iI 0), .int (iI (digit T tl (x2 + 1)))]) (rest := []) (C := RX5) (n := 2) ⟨hx, hb, hml, hown, hts⟩ (c_X5_changed l D yI yC yD mo 0 0 tl a1 a2 a3 a4 a5 a6 a7 a8 G 0 (digit T tl (x2 + 1)) (by omega) (ld_h2 hI2 (by omega) (by omega)) _) (cwV 2 hts gX5_load_X5_changed rfl rfl rfl (by decide +kernel) ⟨Nat.le_of_ble_eq_true rfl, Nat.le_of_ble_eq_true rfl⟩) hK hP hD hS hA [0, 1] (by decide) rfl 0 rfl rfl rfl hl.1 rfl (Nat.le_of_ble_eq_true rfl) dX5_load_130 ⟨Nat.zero_le _, Nat.zero_le _⟩ (fun _ => rfl) (fun r130 u130 H locs hw130 hP hD hS => ?_)
                obtain ⟨hr130, -⟩ := hw130
                subst hr130
                have hP : va_P D vwCl [(mo, oMo 0 a1 a2 a3 0 a4 a5 a6 tl a7 a8), (a1, aI yI 96 (setg G 0 (digit T tl (x2 + 1)))), (a6, aI yI 100 T), (a5, aI yI 2 (up (up Sv 0 0) 1 0))] H := hP
                have hD : va_D A [(mo, oMo 0 a1 a2 a3 0 a4 a5 a6 tl a7 a8), (a1, aI yI 96 (setg G 0 (digit T tl (x2 + 1)))), (a6, aI yI 100 T), (a5, aI yI 2 (up (up Sv 0 0) 1 0))] := hD
                refine lv_pop hx hb dX5_load_133 rfl ?_
                refine lv_goto (tgt := 183) hx hb dX5_load_134 (by decide) ?_
                have hs9 : ldS T tl x2 G = setg G 0 (digit T tl (x2 + 1)) := by unfold ldS; (repeat (first | rw [if_pos (by omega)] | rw [if_neg (by omega)]))
                have hk9 : ldK T tl x2 G x1 = x1 := by unfold ldK; (repeat (first | rw [if_pos (by omega)] | rw [if_neg (by omega)]))
                have hin9 : Inv (setg G 0 (digit T tl (x2 + 1))) := by first | exact hI2 | exact inv_wr hI2 (by omega) (by omega) | exact inv_askd hI2 (by omega) | exact inv_setg hI2 (by omega)
                have h09 : (setg G 0 (digit T tl (x2 + 1))) 0 = G 0 := by first | rfl | exact wr_0 hI2 (by omega) (by omega) | exact askd_0 hI2 | exact setg_0 (by omega)
                refine lv_iload_n hx hb dX5_load_183 rfl (lv_at hl 1 rfl) ?_
                refine lv_aload_n hx hb dX5_load_184 rfl (lv_at hl 3 rfl) ?_
                refine lv_iload_n hx hb dX5_load_185 rfl (lv_at hl 1 rfl) ?_
                refine iv_roV (As := [.int (iI x2)]) (rest := [.int (iI x2)]) (C := RX5) (n := 1) ⟨hx, hb, hml, hown, hts⟩ (c_X5_lengthAt l D yI yC yD mo 0 0 tl a1 a2 a3 a4 a5 a6 a7 a8 T x2 (by assumption) (by assumption) (by omega)) (cwV 1 hts gX5_load_X5_lengthAt rfl rfl rfl (by decide +kernel) ⟨Nat.le_of_ble_eq_true rfl, Nat.le_of_ble_eq_true rfl⟩) hK hP [0, 2] rfl 0 rfl rfl rfl hl.1 rfl (Nat.le_of_ble_eq_true rfl) dX5_load_186 ⟨Nat.zero_le _, Nat.zero_le _⟩ ?_
                refine iv_add hx hb dX5_load_189 ?_
                refine lv_istore_n (lv' := [(2, .int (iI (x2 + (lenAt T x2)))), (3, .int (iI (T x2))), (1, .int (iI x1)), (0, .ref mo)]) hx hb dX5_load_190 rfl hl (by decide) rfl (fun ls hl => ?_)
                refine lv_goto (tgt := 58) hx hb dX5_load_191 (by decide) ?_
                refine ih58 (k - 1, x1, x2 + (lenAt T x2), setg G 0 (digit T tl (x2 + 1))) _ _ (by show (k - 1 : Nat) < k; omega) ?_
                exact ⟨by omega, hin9, by rw [h09]; exact h0, hfs.2, by rw [← hR, ld_s (k := k) (k' := k - 1) (by omega) (by omega), hs9, hk9], hP, hD, hS, lv_sub hl [0, 2, 3] rfl⟩
          · refine lv_aload_n hx hb dX5_load_79 rfl (lv_at hl 3 rfl) ?_
            refine lv_aload_n hx hb dX5_load_80 rfl (lv_at hl 3 rfl) ?_
            refine lv_iload_n hx hb dX5_load_81 rfl (lv_at hl 1 rfl) ?_
            refine lv_iconst (v := iI 1) hx hb dX5_load_82 (by decide +kernel) ?_
            refine iv_add hx hb dX5_load_83 ?_
            refine iv_roV (As := [.int (iI (x2 + 1))]) (rest := [.ref mo]) (C := RX5) (n := 1) ⟨hx, hb, hml, hown, hts⟩ (c_X5_number l D yI yC yD mo 0 0 tl a1 a2 a3 a4 a5 a6 a7 a8 T (x2 + 1) (by assumption) (by assumption) (by omega)) (cwV 1 hts gX5_load_X5_number rfl rfl rfl (by decide +kernel) ⟨Nat.le_of_ble_eq_true rfl, Nat.le_of_ble_eq_true rfl⟩) hK hP [0, 2] rfl 0 rfl rfl rfl hl.1 rfl (Nat.le_of_ble_eq_true rfl) dX5_load_84 ⟨Nat.zero_le _, Nat.zero_le _⟩ ?_
            refine lv_iconst (v := iI 1) hx hb dX5_load_87 (by decide +kernel) ?_
            refine iv_rwV (As := [.int (iI (numb T tl (x2 + 1))), .int (iI 1)]) (rest := []) (C := RX5) (n := 2) ⟨hx, hb, hml, hown, hts⟩ (c_X5_written l D yI yC yD mo 0 0 tl a1 a2 a3 a4 a5 a6 a7 a8 G (numb T tl (x2 + 1)) 1 (by omega) (by omega) (by have := hI2.key (j := numb T tl (x2 + 1)) (by omega) (by omega); omega) (hna) (hI2.anr) _) (cwV 2 hts gX5_load_X5_written rfl rfl rfl (by decide +kernel) ⟨Nat.le_of_ble_eq_true rfl, Nat.le_of_ble_eq_true rfl⟩) hK hP hD hS hA [0, 1] (by decide) rfl 0 rfl rfl rfl hl.1 rfl (Nat.le_of_ble_eq_true rfl) dX5_load_88 ⟨Nat.zero_le _, Nat.zero_le _⟩ (fun _ => rfl) (fun r88 u88 H locs hw88 hP hD hS => ?_)
            obtain ⟨hr88, -⟩ := hw88
            subst hr88
            have hP : va_P D vwCl [(mo, oMo 0 a1 a2 a3 0 a4 a5 a6 tl a7 a8), (a1, aI yI 96 (wr G (numb T tl (x2 + 1)) 1)), (a6, aI yI 100 T), (a5, aI yI 2 (up (up Sv 0 0) 1 0))] H := hP
            have hD : va_D A [(mo, oMo 0 a1 a2 a3 0 a4 a5 a6 tl a7 a8), (a1, aI yI 96 (wr G (numb T tl (x2 + 1)) 1)), (a6, aI yI 100 T), (a5, aI yI 2 (up (up Sv 0 0) 1 0))] := hD
            refine lv_pop hx hb dX5_load_91 rfl ?_
            refine lv_goto (tgt := 183) hx hb dX5_load_92 (by decide) ?_
            have hs9 : ldS T tl x2 G = wr G (numb T tl (x2 + 1)) 1 := by unfold ldS; (repeat (first | rw [if_pos (by omega)] | rw [if_neg (by omega)]))
            have hk9 : ldK T tl x2 G x1 = x1 := by unfold ldK; (repeat (first | rw [if_pos (by omega)] | rw [if_neg (by omega)]))
            have hin9 : Inv (wr G (numb T tl (x2 + 1)) 1) := by first | exact hI2 | exact inv_wr hI2 (by omega) (by omega) | exact inv_askd hI2 (by omega) | exact inv_setg hI2 (by omega)
            have h09 : (wr G (numb T tl (x2 + 1)) 1) 0 = G 0 := by first | rfl | exact wr_0 hI2 (by omega) (by omega) | exact askd_0 hI2 | exact setg_0 (by omega)
            refine lv_iload_n hx hb dX5_load_183 rfl (lv_at hl 1 rfl) ?_
            refine lv_aload_n hx hb dX5_load_184 rfl (lv_at hl 3 rfl) ?_
            refine lv_iload_n hx hb dX5_load_185 rfl (lv_at hl 1 rfl) ?_
            refine iv_roV (As := [.int (iI x2)]) (rest := [.int (iI x2)]) (C := RX5) (n := 1) ⟨hx, hb, hml, hown, hts⟩ (c_X5_lengthAt l D yI yC yD mo 0 0 tl a1 a2 a3 a4 a5 a6 a7 a8 T x2 (by assumption) (by assumption) (by omega)) (cwV 1 hts gX5_load_X5_lengthAt rfl rfl rfl (by decide +kernel) ⟨Nat.le_of_ble_eq_true rfl, Nat.le_of_ble_eq_true rfl⟩) hK hP [0, 2] rfl 0 rfl rfl rfl hl.1 rfl (Nat.le_of_ble_eq_true rfl) dX5_load_186 ⟨Nat.zero_le _, Nat.zero_le _⟩ ?_
            refine iv_add hx hb dX5_load_189 ?_
            refine lv_istore_n (lv' := [(2, .int (iI (x2 + (lenAt T x2)))), (3, .int (iI (T x2))), (1, .int (iI x1)), (0, .ref mo)]) hx hb dX5_load_190 rfl hl (by decide) rfl (fun ls hl => ?_)
            refine lv_goto (tgt := 58) hx hb dX5_load_191 (by decide) ?_
            refine ih58 (k - 1, x1, x2 + (lenAt T x2), wr G (numb T tl (x2 + 1)) 1) _ _ (by show (k - 1 : Nat) < k; omega) ?_
            exact ⟨by omega, hin9, by rw [h09]; exact h0, hfs.2, by rw [← hR, ld_s (k := k) (k' := k - 1) (by omega) (by omega), hs9, hk9], hP, hD, hS, lv_sub hl [0, 2, 3] rfl⟩
    · exact absurd c21 (by omega)
