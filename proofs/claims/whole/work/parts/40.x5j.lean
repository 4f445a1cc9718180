set_option maxHeartbeats 4000000 in
set_option maxRecDepth 100000 in
theorem c_X5_runScript (l : Launch) (D : va_G) (yI yC yD : ClassId) (mo : Nat) (th : Int) (re : Int) (tl : Int) (a1 : Nat) (a2 : Nat) (a3 : Nat) (a4 : Nat) (a5 : Nat) (a6 : Nat) (a7 : Nat) (a8 : Nat) (S : Int → Int) (Bd : Int → Int) (Kp : Int → Int) (nn : Int) (x : Int64) (hI : Inv S) (hn9 : inR nn) (sz : Nat) : Met l yX5_runScript wsX5_runScript ({ frames := 6, cells := 0, slots := 0, locals := 140 }) (rwP [.ref mo, .int (iI nn), .long x] D (tyz yI yC yD) [(mo, oMo th a1 a2 a3 re a4 a5 a6 tl a7 a8), (a1, aI yI 96 S), (a7, aI yI 1681 Bd), (a2, aI yI 96 Kp)] sz) (va_Qi (fun (r : Int32) (u : (Int → Int) × (Int → Int)) => match u with | (G9, G8) => r = iI (if (1 ≤ nn ∧ nn ≤ 3) ∧ 0 ≤ x.toInt ∧ x.toInt < bnd3 nn then rsL x.toInt nn.toNat S 0 else 0) ∧ True) (fun (u : (Int → Int) × (Int → Int)) (t : State) => match u with | (G9, G8) => va_P D vwCl [(mo, oMo (bI (¬ ((1 ≤ nn ∧ nn ≤ 3) ∧ 0 ≤ x.toInt ∧ x.toInt < bnd3 nn))) a1 a2 a3 re a4 a5 a6 tl a7 a8), (a1, aI yI 96 S), (a7, aI yI 1681 G9), (a2, aI yI 96 G8)] t.heap) (va_A [(mo, oMo th a1 a2 a3 re a4 a5 a6 tl a7 a8), (a1, aI yI 96 S), (a7, aI yI 1681 Bd), (a2, aI yI 96 Kp)] sz)) 0 0 (va_A [(mo, oMo th a1 a2 a3 re a4 a5 a6 tl a7 a8), (a1, aI yI 96 S), (a7, aI yI 1681 Bd), (a2, aI yI 96 Kp)] sz) := by
  refine Met.ofW (cc := cX5_runScript) (maxL := 10) (ret := (some .int)) (by decide) rfl ?_
  intro p e s m args below meth c s₁ B hml hv
  obtain ⟨rfl, hsz, hP, hK, hD0⟩ := hv
  have hx := B.exec
  have hb := B.bytes
  have hr := B.returns
  have hts := atoms_spec (ws := wsX5_runScript) B.pre
  have hown : s.vm.findClass RX5 = some m.cls := findClass_of_methodNamed B.named
  have hlocks := B.notSynchronized
  subst hsz
  have hD := hD0.self (sz := s.heap.size)
  generalize hAe : va_A [(mo, oMo th a1 a2 a3 re a4 a5 a6 tl a7 a8), (a1, aI yI 96 S), (a7, aI yI 1681 Bd), (a2, aI yI 96 Kp)] s.heap.size = A at hD ⊢
  have hA : ∀ q : Nat, s.heap.size ≤ q → A q := fun q h => by rw [← hAe]; exact Or.inr h
  have hS : va_S A s.heap s.heap [] := va_S.rf
  have hP : va_P D vwCl [(mo, oMo th a1 a2 a3 re a4 a5 a6 tl a7 a8), (a1, aI yI 96 S), (a7, aI yI 1681 Bd), (a2, aI yI 96 Kp)] s.heap := hP
  have hinX5 : ∀ w ∈ wsX50, w ∈ wsX5_runScript := by decide +kernel
  have hf7 : (Cond.fieldLink RX5 7 "RiddleDriveModel" "state" "[I").before _ s = true := hts _ (by decide +kernel)
  have hf13 : (Cond.fieldLink RX5 13 "RiddleDriveModel" "scriptKept" "[I").before _ s = true := hts _ (by decide +kernel)
  have hf38 : (Cond.fieldLink RX5 38 "RiddleDriveModel" "thrown" "I").before _ s = true := hts _ (by decide +kernel)
  have hl := lv_entry ([.ref mo, .int (iI nn), .long x]) (n := 10) (Nat.le_of_ble_eq_true rfl)
  rw [lg_entry_eq]
  generalize (lg_sl ([.ref mo, .int (iI nn), .long x]) ++ List.replicate (10 - (lg_sl ([.ref mo, .int (iI nn), .long x])).length) Slot.unset).toArray = ls at hl ⊢
  have hl : lv_has ls 10 [(0, .ref mo), (1, .int (iI nn)), (2, .long x)] := hl
  have hc1 := cmpI_s x.toInt 0
  have hc2 := cmpI_s x.toInt (bnd3 nn)
  refine iv_join (I := fun (qq : Int64) H locs ls => match qq with | bd => (bd.toInt = bnd3 nn) ∧ va_P D vwCl [(mo, oMo th a1 a2 a3 re a4 a5 a6 tl a7 a8), (a1, aI yI 96 S), (a7, aI yI 1681 Bd), (a2, aI yI 96 Kp)] H ∧ va_D A [(mo, oMo th a1 a2 a3 re a4 a5 a6 tl a7 a8), (a1, aI yI 96 S), (a7, aI yI 1681 Bd), (a2, aI yI 96 Kp)] ∧ va_S A s.heap H locs ∧ lv_has ls 10 [(0, .ref mo), (1, .int (iI nn)), (2, .long x)]) (sx := fun (qq : Int64) => match qq with | bd => [.long bd]) (pcj := 25) ?_ (fun J25 => ?_)
  · intro bd H locs ls hI
    obtain ⟨hbd, hP, hD, hS, hl⟩ := hI
    refine lv_lstore (lv' := [(4, .long bd), (0, .ref mo), (1, .int (iI nn)), (2, .long x)]) hx hb dX5_runScript_25 hl (by decide) rfl (fun ls hl => ?_)
    refine lv_aload_n hx hb dX5_runScript_27 rfl (lv_at hl 1 rfl) ?_
    refine lv_iload_n hx hb dX5_runScript_28 rfl (lv_at hl 2 rfl) ?_
    refine lv_iconst (v := iI 1) hx hb dX5_runScript_29 (by decide +kernel) ?_
    refine iv_icmp_lt (a := nn) (b := 1) (tgt := 51) hx hb (by omega) (by omega) dX5_runScript_30 (by decide) (fun c30 => ?_) (fun c30 => ?_)
    · refine lv_iconst (v := iI 1) hx hb dX5_runScript_51 (by decide +kernel) ?_
      refine lv_goto (tgt := 56) hx hb dX5_runScript_52 (by decide) ?_
      refine va_put (D := D) (ci := 5) (v := .int (iI 1)) (ty := .int) (C := RX5) (T := TX5) (N := 11) hx hb hts hinX5 tyX5 tyX5_ok nmX5 hown hK hP hD hS 0 rfl rfl 0 (by decide) hf38 (fun _ h9 => h9) rfl (by decide +kernel) rfl rfl (Nat.le_of_ble_eq_true rfl) dX5_runScript_56 (fun H locs hP hD hS => ?_)
      have hP : va_P D vwCl [(mo, oMo 1 a1 a2 a3 re a4 a5 a6 tl a7 a8), (a1, aI yI 96 S), (a7, aI yI 1681 Bd), (a2, aI yI 96 Kp)] H := hP
      have hD : va_D A [(mo, oMo 1 a1 a2 a3 re a4 a5 a6 tl a7 a8), (a1, aI yI 96 S), (a7, aI yI 1681 Bd), (a2, aI yI 96 Kp)] := hD
      refine lv_aload_n hx hb dX5_runScript_59 rfl (lv_at hl 1 rfl) ?_
      refine va_get (D := D) (ci := 5) (v := .int (iI 1)) (C := RX5) (T := TX5) (N := 11) hx hb hts hinX5 hown hK hP 0 rfl rfl 0 (by decide) hf38 (fun _ h9 => h9) rfl dX5_runScript_60 ?_
      refine iv_if_le (a := 1) (tgt := 68) hx hb (by omega) dX5_runScript_63 (by decide) (fun c63 => ?_) (fun c63 => ?_)
      · exact absurd c63 (by omega)
      · refine lv_iconst (v := iI 0) hx hb dX5_runScript_66 (by decide +kernel) ?_
        have hq : ¬ ((1 ≤ nn ∧ nn ≤ 3) ∧ 0 ≤ x.toInt ∧ x.toInt < bnd3 nn) := by omega
        have hP9 : va_P D vwCl [(mo, oMo (bI (¬ ((1 ≤ nn ∧ nn ≤ 3) ∧ 0 ≤ x.toInt ∧ x.toInt < bnd3 nn))) a1 a2 a3 re a4 a5 a6 tl a7 a8), (a1, aI yI 96 S), (a7, aI yI 1681 Bd), (a2, aI yI 96 Kp)] _ := (hP.sub (ws' := [(mo, oMo 1 a1 a2 a3 re a4 a5 a6 tl a7 a8), (a1, aI yI 96 S), (a7, aI yI 1681 Bd), (a2, aI yI 96 Kp)]) [0, 1, 2, 3] rfl).cv (by simp only [if_neg hq, bI_t hq])
        exact W.iret hx hb hr (fun t ht hW => ⟨⟨iI 0, (Bd, Kp), rfl, ⟨congrArg iI (show 0 = if (1 ≤ nn ∧ nn ≤ 3) ∧ 0 ≤ x.toInt ∧ x.toInt < bnd3 nn then rsL x.toInt nn.toNat S 0 else 0 by rw [if_neg hq]), trivial⟩, by show va_P D vwCl _ t.heap; rw [ht]; exact hP9⟩, hS.F ht⟩) hS.2.2 dX5_runScript_67
    · refine lv_iload_n hx hb dX5_runScript_33 rfl (lv_at hl 2 rfl) ?_
      refine lv_iconst (v := iI 3) hx hb dX5_runScript_34 (by decide +kernel) ?_
      refine iv_icmp_gt (a := nn) (b := 3) (tgt := 51) hx hb (by omega) (by omega) dX5_runScript_35 (by decide) (fun c35 => ?_) (fun c35 => ?_)
      · refine lv_iconst (v := iI 1) hx hb dX5_runScript_51 (by decide +kernel) ?_
        refine lv_goto (tgt := 56) hx hb dX5_runScript_52 (by decide) ?_
        refine va_put (D := D) (ci := 5) (v := .int (iI 1)) (ty := .int) (C := RX5) (T := TX5) (N := 11) hx hb hts hinX5 tyX5 tyX5_ok nmX5 hown hK hP hD hS 0 rfl rfl 0 (by decide) hf38 (fun _ h9 => h9) rfl (by decide +kernel) rfl rfl (Nat.le_of_ble_eq_true rfl) dX5_runScript_56 (fun H locs hP hD hS => ?_)
        have hP : va_P D vwCl [(mo, oMo 1 a1 a2 a3 re a4 a5 a6 tl a7 a8), (a1, aI yI 96 S), (a7, aI yI 1681 Bd), (a2, aI yI 96 Kp)] H := hP
        have hD : va_D A [(mo, oMo 1 a1 a2 a3 re a4 a5 a6 tl a7 a8), (a1, aI yI 96 S), (a7, aI yI 1681 Bd), (a2, aI yI 96 Kp)] := hD
        refine lv_aload_n hx hb dX5_runScript_59 rfl (lv_at hl 1 rfl) ?_
        refine va_get (D := D) (ci := 5) (v := .int (iI 1)) (C := RX5) (T := TX5) (N := 11) hx hb hts hinX5 hown hK hP 0 rfl rfl 0 (by decide) hf38 (fun _ h9 => h9) rfl dX5_runScript_60 ?_
        refine iv_if_le (a := 1) (tgt := 68) hx hb (by omega) dX5_runScript_63 (by decide) (fun c63 => ?_) (fun c63 => ?_)
        · exact absurd c63 (by omega)
        · refine lv_iconst (v := iI 0) hx hb dX5_runScript_66 (by decide +kernel) ?_
          have hq : ¬ ((1 ≤ nn ∧ nn ≤ 3) ∧ 0 ≤ x.toInt ∧ x.toInt < bnd3 nn) := by omega
          have hP9 : va_P D vwCl [(mo, oMo (bI (¬ ((1 ≤ nn ∧ nn ≤ 3) ∧ 0 ≤ x.toInt ∧ x.toInt < bnd3 nn))) a1 a2 a3 re a4 a5 a6 tl a7 a8), (a1, aI yI 96 S), (a7, aI yI 1681 Bd), (a2, aI yI 96 Kp)] _ := (hP.sub (ws' := [(mo, oMo 1 a1 a2 a3 re a4 a5 a6 tl a7 a8), (a1, aI yI 96 S), (a7, aI yI 1681 Bd), (a2, aI yI 96 Kp)]) [0, 1, 2, 3] rfl).cv (by simp only [if_neg hq, bI_t hq])
          exact W.iret hx hb hr (fun t ht hW => ⟨⟨iI 0, (Bd, Kp), rfl, ⟨congrArg iI (show 0 = if (1 ≤ nn ∧ nn ≤ 3) ∧ 0 ≤ x.toInt ∧ x.toInt < bnd3 nn then rsL x.toInt nn.toNat S 0 else 0 by rw [if_neg hq]), trivial⟩, by show va_P D vwCl _ t.heap; rw [ht]; exact hP9⟩, hS.F ht⟩) hS.2.2 dX5_runScript_67
      · refine lv_lload_n hx hb dX5_runScript_38 rfl (lv_at hl 3 rfl) ?_
        refine lv_lconst (v := 0) hx hb dX5_runScript_39 (by decide +kernel) ?_
        refine iv_lcmp (z := cmpI x.toInt 0) hx hb (cmp_e (by decide +kernel)) dX5_runScript_40 ?_
        refine iv_if_lt (a := cmpI x.toInt 0) (tgt := 51) hx hb (by omega) dX5_runScript_41 (by decide) (fun c41 => ?_) (fun c41 => ?_)
        · refine lv_iconst (v := iI 1) hx hb dX5_runScript_51 (by decide +kernel) ?_
          refine lv_goto (tgt := 56) hx hb dX5_runScript_52 (by decide) ?_
          refine va_put (D := D) (ci := 5) (v := .int (iI 1)) (ty := .int) (C := RX5) (T := TX5) (N := 11) hx hb hts hinX5 tyX5 tyX5_ok nmX5 hown hK hP hD hS 0 rfl rfl 0 (by decide) hf38 (fun _ h9 => h9) rfl (by decide +kernel) rfl rfl (Nat.le_of_ble_eq_true rfl) dX5_runScript_56 (fun H locs hP hD hS => ?_)
          have hP : va_P D vwCl [(mo, oMo 1 a1 a2 a3 re a4 a5 a6 tl a7 a8), (a1, aI yI 96 S), (a7, aI yI 1681 Bd), (a2, aI yI 96 Kp)] H := hP
          have hD : va_D A [(mo, oMo 1 a1 a2 a3 re a4 a5 a6 tl a7 a8), (a1, aI yI 96 S), (a7, aI yI 1681 Bd), (a2, aI yI 96 Kp)] := hD
          refine lv_aload_n hx hb dX5_runScript_59 rfl (lv_at hl 1 rfl) ?_
          refine va_get (D := D) (ci := 5) (v := .int (iI 1)) (C := RX5) (T := TX5) (N := 11) hx hb hts hinX5 hown hK hP 0 rfl rfl 0 (by decide) hf38 (fun _ h9 => h9) rfl dX5_runScript_60 ?_
          refine iv_if_le (a := 1) (tgt := 68) hx hb (by omega) dX5_runScript_63 (by decide) (fun c63 => ?_) (fun c63 => ?_)
          · exact absurd c63 (by omega)
          · refine lv_iconst (v := iI 0) hx hb dX5_runScript_66 (by decide +kernel) ?_
            have hq : ¬ ((1 ≤ nn ∧ nn ≤ 3) ∧ 0 ≤ x.toInt ∧ x.toInt < bnd3 nn) := by omega
            have hP9 : va_P D vwCl [(mo, oMo (bI (¬ ((1 ≤ nn ∧ nn ≤ 3) ∧ 0 ≤ x.toInt ∧ x.toInt < bnd3 nn))) a1 a2 a3 re a4 a5 a6 tl a7 a8), (a1, aI yI 96 S), (a7, aI yI 1681 Bd), (a2, aI yI 96 Kp)] _ := (hP.sub (ws' := [(mo, oMo 1 a1 a2 a3 re a4 a5 a6 tl a7 a8), (a1, aI yI 96 S), (a7, aI yI 1681 Bd), (a2, aI yI 96 Kp)]) [0, 1, 2, 3] rfl).cv (by simp only [if_neg hq, bI_t hq])
            exact W.iret hx hb hr (fun t ht hW => ⟨⟨iI 0, (Bd, Kp), rfl, ⟨congrArg iI (show 0 = if (1 ≤ nn ∧ nn ≤ 3) ∧ 0 ≤ x.toInt ∧ x.toInt < bnd3 nn then rsL x.toInt nn.toNat S 0 else 0 by rw [if_neg hq]), trivial⟩, by show va_P D vwCl _ t.heap; rw [ht]; exact hP9⟩, hS.F ht⟩) hS.2.2 dX5_runScript_67
        · refine lv_lload_n hx hb dX5_runScript_44 rfl (lv_at hl 3 rfl) ?_
          refine lv_lload hx hb dX5_runScript_45 (lv_at hl 0 rfl) ?_
          refine iv_lcmp (z := cmpI x.toInt (bnd3 nn)) hx hb (cmp_e hbd) dX5_runScript_47 ?_
          refine iv_if_lt (a := cmpI x.toInt (bnd3 nn)) (tgt := 55) hx hb (by omega) dX5_runScript_48 (by decide) (fun c48 => ?_) (fun c48 => ?_)
          · refine lv_iconst (v := iI 0) hx hb dX5_runScript_55 (by decide +kernel) ?_
            refine va_put (D := D) (ci := 5) (v := .int (iI 0)) (ty := .int) (C := RX5) (T := TX5) (N := 11) hx hb hts hinX5 tyX5 tyX5_ok nmX5 hown hK hP hD hS 0 rfl rfl 0 (by decide) hf38 (fun _ h9 => h9) rfl (by decide +kernel) rfl rfl (Nat.le_of_ble_eq_true rfl) dX5_runScript_56 (fun H locs hP hD hS => ?_)
            have hP : va_P D vwCl [(mo, oMo 0 a1 a2 a3 re a4 a5 a6 tl a7 a8), (a1, aI yI 96 S), (a7, aI yI 1681 Bd), (a2, aI yI 96 Kp)] H := hP
            have hD : va_D A [(mo, oMo 0 a1 a2 a3 re a4 a5 a6 tl a7 a8), (a1, aI yI 96 S), (a7, aI yI 1681 Bd), (a2, aI yI 96 Kp)] := hD
            refine lv_aload_n hx hb dX5_runScript_59 rfl (lv_at hl 1 rfl) ?_
            refine va_get (D := D) (ci := 5) (v := .int (iI 0)) (C := RX5) (T := TX5) (N := 11) hx hb hts hinX5 hown hK hP 0 rfl rfl 0 (by decide) hf38 (fun _ h9 => h9) rfl dX5_runScript_60 ?_
            refine iv_if_le (a := 0) (tgt := 68) hx hb (by omega) dX5_runScript_63 (by decide) (fun c63 => ?_) (fun c63 => ?_)
            · refine lv_aload_n hx hb dX5_runScript_68 rfl (lv_at hl 1 rfl) ?_
              refine va_get (D := D) (ci := 5) (v := .ref a1) (C := RX5) (T := TX5) (N := 11) hx hb hts hinX5 hown hK hP 0 rfl rfl 1 (by decide) hf7 (fun _ h9 => h9) rfl dX5_runScript_69 ?_
              refine lv_iconst (v := iI 0) hx hb dX5_runScript_72 (by decide +kernel) ?_
              refine lv_aload_n hx hb dX5_runScript_73 rfl (lv_at hl 1 rfl) ?_
              refine va_get (D := D) (ci := 5) (v := .ref a2) (C := RX5) (T := TX5) (N := 11) hx hb hts hinX5 hown hK hP 0 rfl rfl 2 (by decide) hf13 (fun _ h9 => h9) rfl dX5_runScript_74 ?_
              refine lv_iconst (v := iI 0) hx hb dX5_runScript_77 (by decide +kernel) ?_
              refine iv_rwSv (As := [.ref a1, .int (iI 0), .ref a2, .int (iI 0)]) (rest := []) (n := 4) ⟨hx, hb, hml, hown, hts⟩ (c_X5_copy l D yI yC yD a1 a2 96 96 S Kp 0 0 (by omega) (by omega) (by omega) _) (va_cwS 4 hts gX5_runScript_X5_copy rfl rfl rfl (by decide +kernel) ⟨Nat.le_of_ble_eq_true rfl, Nat.le_of_ble_eq_true rfl⟩) hK hP hD hS hA [1, 3] (by decide) rfl rfl hl.1 rfl (Nat.le_of_ble_eq_true rfl) dX5_runScript_78 ⟨Nat.zero_le _, Nat.zero_le _⟩ (fun _ => rfl) (fun u78 H locs hw78 hP hD hS => ?_)
              have hP : va_P D vwCl [(mo, oMo 0 a1 a2 a3 re a4 a5 a6 tl a7 a8), (a1, aI yI 96 S), (a7, aI yI 1681 Bd), (a2, aI yI 96 (cpy S Kp 0 0))] H := hP
              have hD : va_D A [(mo, oMo 0 a1 a2 a3 re a4 a5 a6 tl a7 a8), (a1, aI yI 96 S), (a7, aI yI 1681 Bd), (a2, aI yI 96 (cpy S Kp 0 0))] := hD
              refine lv_iconst (v := iI (-1)) hx hb dX5_runScript_81 (by decide +kernel) ?_
              refine lv_istore (lv' := [(6, .int (iI (-1))), (4, .long bd), (0, .ref mo), (1, .int (iI nn)), (2, .long x)]) hx hb dX5_runScript_82 hl (by decide) rfl (fun ls hl => ?_)
              refine lv_lload hx hb dX5_runScript_84 (lv_at hl 1 rfl) ?_
              refine lv_ldc2 (v := 100000) hx hb hown (hts (.constantLong RX5 174 (100000)) (by decide +kernel)) dX5_runScript_86 ?_
              refine lv_ldiv hx hb dX5_runScript_89 (by decide +kernel) ?_
              refine lv_lstore (lv' := [(7, .long (bd / 100000)), (6, .int (iI (-1))), (4, .long bd), (0, .ref mo), (1, .int (iI nn)), (2, .long x)]) hx hb dX5_runScript_90 hl (by decide) rfl (fun ls hl => ?_)
              refine lv_iconst (v := iI 0) hx hb dX5_runScript_92 (by decide +kernel) ?_
              refine lv_istore (lv' := [(9, .int (iI 0)), (7, .long (bd / 100000)), (6, .int (iI (-1))), (4, .long bd), (0, .ref mo), (1, .int (iI nn)), (2, .long x)]) hx hb dX5_runScript_93 hl (by decide) rfl (fun ls hl => ?_)
              refine iv_loop (I := fun (qq : Nat × Int × Int64 × Int × (Int → Int) × (Int → Int)) H locs ls => match qq with | (k, x6, g, x9, G, Bx) => ((k : Int) ≤ nn) ∧ (x9 = k) ∧ (Inv G) ∧ ((k : Int) < nn → g.toInt = gw (nn.toNat - 1 - k)) ∧ ((x6 = -1 ∧ rsL x.toInt (nn.toNat - k) G k = rsL x.toInt nn.toNat S 0) ∨ (x6 ≠ -1 ∧ x6 = rsL x.toInt nn.toNat S 0)) ∧ (-1 ≤ x6 ∧ x6 ≤ 3) ∧ va_P D vwCl [(mo, oMo 0 a1 a2 a3 re a4 a5 a6 tl a7 a8), (a1, aI yI 96 G), (a7, aI yI 1681 Bx), (a2, aI yI 96 (cpy S Kp 0 0))] H ∧ va_D A [(mo, oMo 0 a1 a2 a3 re a4 a5 a6 tl a7 a8), (a1, aI yI 96 G), (a7, aI yI 1681 Bx), (a2, aI yI 96 (cpy S Kp 0 0))] ∧ va_S A s.heap H locs ∧ lv_has ls 10 [(9, .int (iI x9)), (7, .long g), (6, .int (iI x6)), (4, .long bd), (0, .ref mo), (1, .int (iI nn)), (2, .long x)]) (μ := fun (qq : Nat × Int × Int64 × Int × (Int → Int) × (Int → Int)) => match qq with | (k, x6, g, x9, G, Bx) => nn.toNat - k) (0, -1, bd / 100000, 0, S, Bd) ?_ ?_
              · exact ⟨by omega, by omega, hI, fun _ => by rw [i64_sh hbd (by unfold bnd3; repeat (first | split | omega)), gw_b (by omega)]; rfl, Or.inl ⟨rfl, rfl⟩, by omega, hP, hD, hS, lv_sub hl [0, 1, 2, 3, 4, 5, 6] rfl⟩
              · intro qq H locs ls hI ih95
                obtain ⟨k, x6, g, x9, G, Bx⟩ := qq
                obtain ⟨hk, h9, hI2, hg, hR, hx6, hP, hD, hS, hl⟩ := hI
                refine lv_iload hx hb dX5_runScript_95 (lv_at hl 0 rfl) ?_
                refine lv_iload_n hx hb dX5_runScript_97 rfl (lv_at hl 5 rfl) ?_
                refine iv_icmp_ge (a := x9) (b := nn) (tgt := 145) hx hb (by omega) (by omega) dX5_runScript_98 (by decide) (fun c98 => ?_) (fun c98 => ?_)
                · refine lv_aload_n hx hb dX5_runScript_145 rfl (lv_at hl 4 rfl) ?_
                  refine va_get (D := D) (ci := 5) (v := .ref a2) (C := RX5) (T := TX5) (N := 11) hx hb hts hinX5 hown hK hP 0 rfl rfl 2 (by decide) hf13 (fun _ h9 => h9) rfl dX5_runScript_146 ?_
                  refine lv_iconst (v := iI 0) hx hb dX5_runScript_149 (by decide +kernel) ?_
                  refine lv_aload_n hx hb dX5_runScript_150 rfl (lv_at hl 4 rfl) ?_
                  refine va_get (D := D) (ci := 5) (v := .ref a1) (C := RX5) (T := TX5) (N := 11) hx hb hts hinX5 hown hK hP 0 rfl rfl 1 (by decide) hf7 (fun _ h9 => h9) rfl dX5_runScript_151 ?_
                  refine lv_iconst (v := iI 0) hx hb dX5_runScript_154 (by decide +kernel) ?_
                  refine iv_rwSv (As := [.ref a2, .int (iI 0), .ref a1, .int (iI 0)]) (rest := []) (n := 4) ⟨hx, hb, hml, hown, hts⟩ (c_X5_copy l D yI yC yD a2 a1 96 96 (cpy S Kp 0 0) G 0 0 (by omega) (by omega) (by omega) _) (va_cwS 4 hts gX5_runScript_X5_copy rfl rfl rfl (by decide +kernel) ⟨Nat.le_of_ble_eq_true rfl, Nat.le_of_ble_eq_true rfl⟩) hK hP hD hS hA [3, 1] (by decide) rfl rfl hl.1 rfl (Nat.le_of_ble_eq_true rfl) dX5_runScript_155 ⟨Nat.zero_le _, Nat.zero_le _⟩ (fun _ => rfl) (fun u155 H locs hw155 hP hD hS => ?_)
                  have hP : va_P D vwCl [(mo, oMo 0 a1 a2 a3 re a4 a5 a6 tl a7 a8), (a1, aI yI 96 (cpy (cpy S Kp 0 0) G 0 0)), (a7, aI yI 1681 Bx), (a2, aI yI 96 (cpy S Kp 0 0))] H := hP
                  have hD : va_D A [(mo, oMo 0 a1 a2 a3 re a4 a5 a6 tl a7 a8), (a1, aI yI 96 (cpy (cpy S Kp 0 0) G 0 0)), (a7, aI yI 1681 Bx), (a2, aI yI 96 (cpy S Kp 0 0))] := hD
                  have hP := va_P.arr hP 1 (g := S) rfl (fun z h1 h2 => cpy_self h1 h2)
                  have hD : va_D A [(mo, oMo 0 a1 a2 a3 re a4 a5 a6 tl a7 a8), (a1, aI yI 96 S), (a7, aI yI 1681 Bx), (a2, aI yI 96 (cpy S Kp 0 0))] := hD.set (p := 1) rfl
                  have hP : va_P D vwCl [(mo, oMo 0 a1 a2 a3 re a4 a5 a6 tl a7 a8), (a1, aI yI 96 S), (a7, aI yI 1681 Bx), (a2, aI yI 96 (cpy S Kp 0 0))] H := hP
                  refine lv_iload hx hb dX5_runScript_158 (lv_at hl 2 rfl) ?_
                  have hq : (1 ≤ nn ∧ nn ≤ 3) ∧ 0 ≤ x.toInt ∧ x.toInt < bnd3 nn := by omega
                  have hP9 : va_P D vwCl [(mo, oMo (bI (¬ ((1 ≤ nn ∧ nn ≤ 3) ∧ 0 ≤ x.toInt ∧ x.toInt < bnd3 nn))) a1 a2 a3 re a4 a5 a6 tl a7 a8), (a1, aI yI 96 S), (a7, aI yI 1681 Bx), (a2, aI yI 96 (cpy S Kp 0 0))] _ := (hP.sub (ws' := [(mo, oMo 0 a1 a2 a3 re a4 a5 a6 tl a7 a8), (a1, aI yI 96 S), (a7, aI yI 1681 Bx), (a2, aI yI 96 (cpy S Kp 0 0))]) [0, 1, 2, 3] rfl).cv (by simp only [if_pos hq, bI_f (not_not_intro hq)])
                  exact W.iret hx hb hr (fun t ht hW => ⟨⟨iI x6, (Bx, cpy S Kp 0 0), rfl, ⟨congrArg iI (show x6 = if (1 ≤ nn ∧ nn ≤ 3) ∧ 0 ≤ x.toInt ∧ x.toInt < bnd3 nn then rsL x.toInt nn.toNat S 0 else 0 by rw [if_pos hq]; rcases hR with hR | hR; (rw [hR.1, ← hR.2, show nn.toNat - k = 0 by omega]; rfl); exact hR.2), trivial⟩, by show va_P D vwCl _ t.heap; rw [ht]; exact hP9⟩, hS.F ht⟩) hS.2.2 dX5_runScript_160
                · refine lv_iload hx hb dX5_runScript_101 (lv_at hl 2 rfl) ?_
                  refine lv_iconst (v := iI (-1)) hx hb dX5_runScript_103 (by decide +kernel) ?_
                  refine iv_icmp_ne (a := x6) (b := -1) (tgt := 145) hx hb (by omega) (by omega) dX5_runScript_104 (by decide) (fun c104 => ?_) (fun c104 => ?_)
                  · refine lv_aload_n hx hb dX5_runScript_145 rfl (lv_at hl 4 rfl) ?_
                    refine va_get (D := D) (ci := 5) (v := .ref a2) (C := RX5) (T := TX5) (N := 11) hx hb hts hinX5 hown hK hP 0 rfl rfl 2 (by decide) hf13 (fun _ h9 => h9) rfl dX5_runScript_146 ?_
                    refine lv_iconst (v := iI 0) hx hb dX5_runScript_149 (by decide +kernel) ?_
                    refine lv_aload_n hx hb dX5_runScript_150 rfl (lv_at hl 4 rfl) ?_
                    refine va_get (D := D) (ci := 5) (v := .ref a1) (C := RX5) (T := TX5) (N := 11) hx hb hts hinX5 hown hK hP 0 rfl rfl 1 (by decide) hf7 (fun _ h9 => h9) rfl dX5_runScript_151 ?_
                    refine lv_iconst (v := iI 0) hx hb dX5_runScript_154 (by decide +kernel) ?_
                    refine iv_rwSv (As := [.ref a2, .int (iI 0), .ref a1, .int (iI 0)]) (rest := []) (n := 4) ⟨hx, hb, hml, hown, hts⟩ (c_X5_copy l D yI yC yD a2 a1 96 96 (cpy S Kp 0 0) G 0 0 (by omega) (by omega) (by omega) _) (va_cwS 4 hts gX5_runScript_X5_copy rfl rfl rfl (by decide +kernel) ⟨Nat.le_of_ble_eq_true rfl, Nat.le_of_ble_eq_true rfl⟩) hK hP hD hS hA [3, 1] (by decide) rfl rfl hl.1 rfl (Nat.le_of_ble_eq_true rfl) dX5_runScript_155 ⟨Nat.zero_le _, Nat.zero_le _⟩ (fun _ => rfl) (fun u155 H locs hw155 hP hD hS => ?_)
                    have hP : va_P D vwCl [(mo, oMo 0 a1 a2 a3 re a4 a5 a6 tl a7 a8), (a1, aI yI 96 (cpy (cpy S Kp 0 0) G 0 0)), (a7, aI yI 1681 Bx), (a2, aI yI 96 (cpy S Kp 0 0))] H := hP
                    have hD : va_D A [(mo, oMo 0 a1 a2 a3 re a4 a5 a6 tl a7 a8), (a1, aI yI 96 (cpy (cpy S Kp 0 0) G 0 0)), (a7, aI yI 1681 Bx), (a2, aI yI 96 (cpy S Kp 0 0))] := hD
                    have hP := va_P.arr hP 1 (g := S) rfl (fun z h1 h2 => cpy_self h1 h2)
                    have hD : va_D A [(mo, oMo 0 a1 a2 a3 re a4 a5 a6 tl a7 a8), (a1, aI yI 96 S), (a7, aI yI 1681 Bx), (a2, aI yI 96 (cpy S Kp 0 0))] := hD.set (p := 1) rfl
                    have hP : va_P D vwCl [(mo, oMo 0 a1 a2 a3 re a4 a5 a6 tl a7 a8), (a1, aI yI 96 S), (a7, aI yI 1681 Bx), (a2, aI yI 96 (cpy S Kp 0 0))] H := hP
                    refine lv_iload hx hb dX5_runScript_158 (lv_at hl 2 rfl) ?_
                    have hq : (1 ≤ nn ∧ nn ≤ 3) ∧ 0 ≤ x.toInt ∧ x.toInt < bnd3 nn := by omega
                    have hP9 : va_P D vwCl [(mo, oMo (bI (¬ ((1 ≤ nn ∧ nn ≤ 3) ∧ 0 ≤ x.toInt ∧ x.toInt < bnd3 nn))) a1 a2 a3 re a4 a5 a6 tl a7 a8), (a1, aI yI 96 S), (a7, aI yI 1681 Bx), (a2, aI yI 96 (cpy S Kp 0 0))] _ := (hP.sub (ws' := [(mo, oMo 0 a1 a2 a3 re a4 a5 a6 tl a7 a8), (a1, aI yI 96 S), (a7, aI yI 1681 Bx), (a2, aI yI 96 (cpy S Kp 0 0))]) [0, 1, 2, 3] rfl).cv (by simp only [if_pos hq, bI_f (not_not_intro hq)])
                    exact W.iret hx hb hr (fun t ht hW => ⟨⟨iI x6, (Bx, cpy S Kp 0 0), rfl, ⟨congrArg iI (show x6 = if (1 ≤ nn ∧ nn ≤ 3) ∧ 0 ≤ x.toInt ∧ x.toInt < bnd3 nn then rsL x.toInt nn.toNat S 0 else 0 by rw [if_pos hq]; rcases hR with hR | hR; (rw [hR.1, ← hR.2, show nn.toNat - k = 0 by omega]; rfl); exact hR.2), trivial⟩, by show va_P D vwCl _ t.heap; rw [ht]; exact hP9⟩, hS.F ht⟩) hS.2.2 dX5_runScript_160
                  · refine lv_aload_n hx hb dX5_runScript_107 rfl (lv_at hl 4 rfl) ?_
                    refine lv_lload_n hx hb dX5_runScript_108 rfl (lv_at hl 6 rfl) ?_
                    refine lv_lload hx hb dX5_runScript_109 (lv_at hl 1 rfl) ?_
                    refine lv_ldiv hx hb dX5_runScript_111 (i64_ne (hg (by omega)) (gw_pos _)) ?_
                    refine lv_ldc2 (v := 100000) hx hb hown (hts (.constantLong RX5 174 (100000)) (by decide +kernel)) dX5_runScript_112 ?_
                    refine lv_lrem hx hb dX5_runScript_115 (by decide +kernel) ?_
                    refine lv_l2i (v := iI (x.toInt / gw (nn.toNat - 1 - k) % 100000)) hx hb dX5_runScript_116 (i64_dm (by omega) (hg (by omega)) (gw_pos _)) ?_
                    have hgg : 0 ≤ x.toInt / gw (nn.toNat - 1 - k) % 100000 ∧ x.toInt / gw (nn.toNat - 1 - k) % 100000 < 100000 := ⟨Int.emod_nonneg _ (by omega), Int.emod_lt_of_pos _ (by omega)⟩
                    have hpp := pI_r (P := cmdOk G (x.toInt / gw (nn.toNat - 1 - k) % 100000))
                    refine iv_rwV (As := [.int (iI (x.toInt / gw (nn.toNat - 1 - k) % 100000))]) (rest := []) (C := RX5) (n := 1) ⟨hx, hb, hml, hown, hts⟩ (c_X5_commands l D yI yC yD mo 0 re tl a1 a2 a3 a4 a5 a6 a7 a8 G Bx (x.toInt / gw (nn.toNat - 1 - k) % 100000) (by assumption) (by omega) _) (cwV 1 hts gX5_runScript_X5_commands rfl rfl rfl (by decide +kernel) ⟨Nat.le_of_ble_eq_true rfl, Nat.le_of_ble_eq_true rfl⟩) hK hP hD hS hA [0, 1, 2] (by decide) rfl 0 rfl rfl rfl hl.1 rfl (Nat.le_of_ble_eq_true rfl) dX5_runScript_117 ⟨Nat.zero_le _, Nat.zero_le _⟩ (fun _ => rfl) (fun r117 u117 H locs hw117 hP hD hS => ?_)
                    obtain ⟨G9117, hu117⟩ : ∃ z, z = u117 := ⟨_, rfl⟩
                    subst hu117
                    obtain ⟨hr117, -⟩ := hw117
                    subst hr117
                    have hP : va_P D vwCl [(mo, oMo 0 a1 a2 a3 re a4 a5 a6 tl a7 a8), (a1, aI yI 96 (cmdS G (x.toInt / gw (nn.toNat - 1 - k) % 100000))), (a7, aI yI 1681 G9117), (a2, aI yI 96 (cpy S Kp 0 0))] H := hP
                    have hD : va_D A [(mo, oMo 0 a1 a2 a3 re a4 a5 a6 tl a7 a8), (a1, aI yI 96 (cmdS G (x.toInt / gw (nn.toNat - 1 - k) % 100000))), (a7, aI yI 1681 G9117), (a2, aI yI 96 (cpy S Kp 0 0))] := hD
                    refine iv_if_eq (a := pI (cmdOk G (x.toInt / gw (nn.toNat - 1 - k) % 100000))) (tgt := 127) hx hb (by have := pI_r (P := cmdOk G (x.toInt / gw (nn.toNat - 1 - k) % 100000)); omega) dX5_runScript_120 (by decide) (fun c120 => ?_) (fun c120 => ?_)
                    · refine lv_iload hx hb dX5_runScript_127 (lv_at hl 0 rfl) ?_
                      refine lv_istore (lv' := [(6, .int (iI x9)), (9, .int (iI x9)), (7, .long g), (4, .long bd), (0, .ref mo), (1, .int (iI nn)), (2, .long x)]) hx hb dX5_runScript_129 hl (by decide) rfl (fun ls hl => ?_)
                      refine lv_lload hx hb dX5_runScript_131 (lv_at hl 2 rfl) ?_
                      refine lv_ldc2 (v := 100000) hx hb hown (hts (.constantLong RX5 174 (100000)) (by decide +kernel)) dX5_runScript_133 ?_
                      refine lv_ldiv hx hb dX5_runScript_136 (by decide +kernel) ?_
                      refine lv_lstore (lv' := [(7, .long (g / 100000)), (6, .int (iI x9)), (9, .int (iI x9)), (4, .long bd), (0, .ref mo), (1, .int (iI nn)), (2, .long x)]) hx hb dX5_runScript_137 hl (by decide) rfl (fun ls hl => ?_)
                      refine iv_inc (lv' := [(9, .int (iI (x9 + 1))), (7, .long (g / 100000)), (6, .int (iI x9)), (4, .long bd), (0, .ref mo), (1, .int (iI nn)), (2, .long x)]) hx hb dX5_runScript_139 hl (k := 2) rfl (by decide) rfl (fun ls hl => ?_)
                      refine lv_goto (tgt := 95) hx hb dX5_runScript_142 (by decide) ?_
                      refine ih95 (k + 1, x9, g / 100000, x9 + 1, cmdS G (x.toInt / gw (nn.toNat - 1 - k) % 100000), G9117) _ _ (by show (nn.toNat - (k + 1) : Nat) < nn.toNat - k; omega) ?_
                      exact ⟨by omega, by omega, inv_cmdS hI2 hgg, fun hz => by rw [i64_sh (hg (by omega)) (Int.le_of_lt (gw_pos _)), show nn.toNat - 1 - k = (nn.toNat - 1 - (k + 1)) + 1 by omega, gw_s], by first | exact Or.inl ⟨rfl, by rw [← rs_yes (by omega) (by omega)]; omega⟩ | exact Or.inr ⟨by omega, by rw [h9, ← rs_no (n := nn.toNat) (S := G) (sc := x.toInt) (by omega) (by omega)]; omega⟩, by omega, hP, hD, hS, lv_sub hl [0, 1, 2, 3, 4, 5, 6] rfl⟩
                    · refine lv_iconst (v := iI (-1)) hx hb dX5_runScript_123 (by decide +kernel) ?_
                      refine lv_goto (tgt := 129) hx hb dX5_runScript_124 (by decide) ?_
                      refine lv_istore (lv' := [(6, .int (iI (-1))), (9, .int (iI x9)), (7, .long g), (4, .long bd), (0, .ref mo), (1, .int (iI nn)), (2, .long x)]) hx hb dX5_runScript_129 hl (by decide) rfl (fun ls hl => ?_)
                      refine lv_lload hx hb dX5_runScript_131 (lv_at hl 2 rfl) ?_
                      refine lv_ldc2 (v := 100000) hx hb hown (hts (.constantLong RX5 174 (100000)) (by decide +kernel)) dX5_runScript_133 ?_
                      refine lv_ldiv hx hb dX5_runScript_136 (by decide +kernel) ?_
                      refine lv_lstore (lv' := [(7, .long (g / 100000)), (6, .int (iI (-1))), (9, .int (iI x9)), (4, .long bd), (0, .ref mo), (1, .int (iI nn)), (2, .long x)]) hx hb dX5_runScript_137 hl (by decide) rfl (fun ls hl => ?_)
                      refine iv_inc (lv' := [(9, .int (iI (x9 + 1))), (7, .long (g / 100000)), (6, .int (iI (-1))), (4, .long bd), (0, .ref mo), (1, .int (iI nn)), (2, .long x)]) hx hb dX5_runScript_139 hl (k := 2) rfl (by decide) rfl (fun ls hl => ?_)
                      refine lv_goto (tgt := 95) hx hb dX5_runScript_142 (by decide) ?_
                      refine ih95 (k + 1, -1, g / 100000, x9 + 1, cmdS G (x.toInt / gw (nn.toNat - 1 - k) % 100000), G9117) _ _ (by show (nn.toNat - (k + 1) : Nat) < nn.toNat - k; omega) ?_
                      exact ⟨by omega, by omega, inv_cmdS hI2 hgg, fun hz => by rw [i64_sh (hg (by omega)) (Int.le_of_lt (gw_pos _)), show nn.toNat - 1 - k = (nn.toNat - 1 - (k + 1)) + 1 by omega, gw_s], by first | exact Or.inl ⟨rfl, by rw [← rs_yes (by omega) (by omega)]; omega⟩ | exact Or.inr ⟨by omega, by rw [h9, ← rs_no (n := nn.toNat) (S := G) (sc := x.toInt) (by omega) (by omega)]; omega⟩, by omega, hP, hD, hS, lv_sub hl [0, 1, 2, 3, 4, 5, 6] rfl⟩
            · exact absurd c63 (by omega)
          · refine lv_iconst (v := iI 1) hx hb dX5_runScript_51 (by decide +kernel) ?_
            refine lv_goto (tgt := 56) hx hb dX5_runScript_52 (by decide) ?_
            refine va_put (D := D) (ci := 5) (v := .int (iI 1)) (ty := .int) (C := RX5) (T := TX5) (N := 11) hx hb hts hinX5 tyX5 tyX5_ok nmX5 hown hK hP hD hS 0 rfl rfl 0 (by decide) hf38 (fun _ h9 => h9) rfl (by decide +kernel) rfl rfl (Nat.le_of_ble_eq_true rfl) dX5_runScript_56 (fun H locs hP hD hS => ?_)
            have hP : va_P D vwCl [(mo, oMo 1 a1 a2 a3 re a4 a5 a6 tl a7 a8), (a1, aI yI 96 S), (a7, aI yI 1681 Bd), (a2, aI yI 96 Kp)] H := hP
            have hD : va_D A [(mo, oMo 1 a1 a2 a3 re a4 a5 a6 tl a7 a8), (a1, aI yI 96 S), (a7, aI yI 1681 Bd), (a2, aI yI 96 Kp)] := hD
            refine lv_aload_n hx hb dX5_runScript_59 rfl (lv_at hl 1 rfl) ?_
            refine va_get (D := D) (ci := 5) (v := .int (iI 1)) (C := RX5) (T := TX5) (N := 11) hx hb hts hinX5 hown hK hP 0 rfl rfl 0 (by decide) hf38 (fun _ h9 => h9) rfl dX5_runScript_60 ?_
            refine iv_if_le (a := 1) (tgt := 68) hx hb (by omega) dX5_runScript_63 (by decide) (fun c63 => ?_) (fun c63 => ?_)
            · exact absurd c63 (by omega)
            · refine lv_iconst (v := iI 0) hx hb dX5_runScript_66 (by decide +kernel) ?_
              have hq : ¬ ((1 ≤ nn ∧ nn ≤ 3) ∧ 0 ≤ x.toInt ∧ x.toInt < bnd3 nn) := by omega
              have hP9 : va_P D vwCl [(mo, oMo (bI (¬ ((1 ≤ nn ∧ nn ≤ 3) ∧ 0 ≤ x.toInt ∧ x.toInt < bnd3 nn))) a1 a2 a3 re a4 a5 a6 tl a7 a8), (a1, aI yI 96 S), (a7, aI yI 1681 Bd), (a2, aI yI 96 Kp)] _ := (hP.sub (ws' := [(mo, oMo 1 a1 a2 a3 re a4 a5 a6 tl a7 a8), (a1, aI yI 96 S), (a7, aI yI 1681 Bd), (a2, aI yI 96 Kp)]) [0, 1, 2, 3] rfl).cv (by simp only [if_neg hq, bI_t hq])
              exact W.iret hx hb hr (fun t ht hW => ⟨⟨iI 0, (Bd, Kp), rfl, ⟨congrArg iI (show 0 = if (1 ≤ nn ∧ nn ≤ 3) ∧ 0 ≤ x.toInt ∧ x.toInt < bnd3 nn then rsL x.toInt nn.toNat S 0 else 0 by rw [if_neg hq]), trivial⟩, by show va_P D vwCl _ t.heap; rw [ht]; exact hP9⟩, hS.F ht⟩) hS.2.2 dX5_runScript_67
  · refine lv_iload_n hx hb dX5_runScript_0 rfl (lv_at hl 1 rfl) ?_
    refine lv_iconst (v := iI 1) hx hb dX5_runScript_1 (by decide +kernel) ?_
    refine iv_icmp_ne (a := nn) (b := 1) (tgt := 11) hx hb (by omega) (by omega) dX5_runScript_2 (by decide) (fun c2 => ?_) (fun c2 => ?_)
    · refine lv_iload_n hx hb dX5_runScript_11 rfl (lv_at hl 1 rfl) ?_
      refine lv_iconst (v := iI 2) hx hb dX5_runScript_12 (by decide +kernel) ?_
      refine iv_icmp_ne (a := nn) (b := 2) (tgt := 22) hx hb (by omega) (by omega) dX5_runScript_13 (by decide) (fun c13 => ?_) (fun c13 => ?_)
      · refine lv_ldc2 (v := 1000000000000000) hx hb hown (hts (.constantLong RX5 178 (1000000000000000)) (by decide +kernel)) dX5_runScript_22 ?_
        exact J25 (1000000000000000) _ _ ⟨by unfold bnd3; first | (rw [if_pos (by omega)]; decide +kernel) | (rw [if_neg (by omega), if_pos (by omega)]; decide +kernel) | (rw [if_neg (by omega), if_neg (by omega)]; decide +kernel), hP, hD, hS, lv_sub hl [0, 1, 2] rfl⟩
      · refine lv_ldc2 (v := 10000000000) hx hb hown (hts (.constantLong RX5 176 (10000000000)) (by decide +kernel)) dX5_runScript_16 ?_
        refine lv_goto (tgt := 25) hx hb dX5_runScript_19 (by decide) ?_
        exact J25 (10000000000) _ _ ⟨by unfold bnd3; first | (rw [if_pos (by omega)]; decide +kernel) | (rw [if_neg (by omega), if_pos (by omega)]; decide +kernel) | (rw [if_neg (by omega), if_neg (by omega)]; decide +kernel), hP, hD, hS, lv_sub hl [0, 1, 2] rfl⟩
    · refine lv_ldc2 (v := 100000) hx hb hown (hts (.constantLong RX5 174 (100000)) (by decide +kernel)) dX5_runScript_5 ?_
      refine lv_goto (tgt := 25) hx hb dX5_runScript_8 (by decide) ?_
      exact J25 (100000) _ _ ⟨by unfold bnd3; first | (rw [if_pos (by omega)]; decide +kernel) | (rw [if_neg (by omega), if_pos (by omega)]; decide +kernel) | (rw [if_neg (by omega), if_neg (by omega)]; decide +kernel), hP, hD, hS, lv_sub hl [0, 1, 2] rfl⟩
set_option maxHeartbeats 4000000 in
set_option maxRecDepth 100000 in
theorem c_X5_simulate (l : Launch) (D : va_G) (yI yC yD : ClassId) (mo : Nat) (th : Int) (re : Int) (tl : Int) (a1 : Nat) (a2 : Nat) (a3 : Nat) (a4 : Nat) (a5 : Nat) (a6 : Nat) (a7 : Nat) (a8 : Nat) (S : Int → Int) (Bd : Int → Int) (Kp : Int → Int) (x : Int64) (q : Int) (hI : Inv S) (hq9 : inR q) (sz : Nat) : Met l yX5_simulate wsX5_simulate ({ frames := 4, cells := 0, slots := 0, locals := 94 }) (rwP [.ref mo, .long x, .int (iI q)] D (tyz yI yC yD) [(mo, oMo th a1 a2 a3 re a4 a5 a6 tl a7 a8), (a1, aI yI 96 S), (a7, aI yI 1681 Bd), (a2, aI yI 96 Kp)] sz) (va_Qi (fun (r : Int32) (u : (Int → Int) × (Int → Int)) => match u with | (G9, G8) => r = iI (if 1 ≤ q ∧ q ≤ 30 then simQ S (simL q.toNat x S) else 0) ∧ True) (fun (u : (Int → Int) × (Int → Int)) (t : State) => match u with | (G9, G8) => va_P D vwCl [(mo, oMo (bI (¬ (1 ≤ q ∧ q ≤ 30))) a1 a2 a3 re a4 a5 a6 tl a7 a8), (a1, aI yI 96 S), (a7, aI yI 1681 G9), (a2, aI yI 96 G8)] t.heap) (va_A [(mo, oMo th a1 a2 a3 re a4 a5 a6 tl a7 a8), (a1, aI yI 96 S), (a7, aI yI 1681 Bd), (a2, aI yI 96 Kp)] sz)) 0 0 (va_A [(mo, oMo th a1 a2 a3 re a4 a5 a6 tl a7 a8), (a1, aI yI 96 S), (a7, aI yI 1681 Bd), (a2, aI yI 96 Kp)] sz) := by
  refine Met.ofW (cc := cX5_simulate) (maxL := 10) (ret := (some .int)) (by decide) rfl ?_
  intro p e s m args below meth c s₁ B hml hv
  obtain ⟨rfl, hsz, hP, hK, hD0⟩ := hv
  have hx := B.exec
  have hb := B.bytes
  have hr := B.returns
  have hts := atoms_spec (ws := wsX5_simulate) B.pre
  have hown : s.vm.findClass RX5 = some m.cls := findClass_of_methodNamed B.named
  have hlocks := B.notSynchronized
  subst hsz
  have hD := hD0.self (sz := s.heap.size)
  generalize hAe : va_A [(mo, oMo th a1 a2 a3 re a4 a5 a6 tl a7 a8), (a1, aI yI 96 S), (a7, aI yI 1681 Bd), (a2, aI yI 96 Kp)] s.heap.size = A at hD ⊢
  have hA : ∀ q : Nat, s.heap.size ≤ q → A q := fun q h => by rw [← hAe]; exact Or.inr h
  have hS : va_S A s.heap s.heap [] := va_S.rf
  have hP : va_P D vwCl [(mo, oMo th a1 a2 a3 re a4 a5 a6 tl a7 a8), (a1, aI yI 96 S), (a7, aI yI 1681 Bd), (a2, aI yI 96 Kp)] s.heap := hP
  have hinX5 : ∀ w ∈ wsX50, w ∈ wsX5_simulate := by decide +kernel
  have hf7 : (Cond.fieldLink RX5 7 "RiddleDriveModel" "state" "[I").before _ s = true := hts _ (by decide +kernel)
  have hf13 : (Cond.fieldLink RX5 13 "RiddleDriveModel" "scriptKept" "[I").before _ s = true := hts _ (by decide +kernel)
  have hf38 : (Cond.fieldLink RX5 38 "RiddleDriveModel" "thrown" "I").before _ s = true := hts _ (by decide +kernel)
  have hl := lv_entry ([.ref mo, .long x, .int (iI q)]) (n := 10) (Nat.le_of_ble_eq_true rfl)
  rw [lg_entry_eq]
  generalize (lg_sl ([.ref mo, .long x, .int (iI q)]) ++ List.replicate (10 - (lg_sl ([.ref mo, .long x, .int (iI q)])).length) Slot.unset).toArray = ls at hl ⊢
  have hl : lv_has ls 10 [(0, .ref mo), (1, .long x), (3, .int (iI q))] := hl
  refine lv_aload_n hx hb dX5_simulate_0 rfl (lv_at hl 0 rfl) ?_
  refine lv_iload_n hx hb dX5_simulate_1 rfl (lv_at hl 2 rfl) ?_
  refine lv_iconst (v := iI 1) hx hb dX5_simulate_2 (by decide +kernel) ?_
  refine lv_bipush (v := iI 30) hx hb dX5_simulate_3 (by decide +kernel) ?_
  refine iv_roS (As := [.int (iI q), .int (iI 1), .int (iI 30)]) (rest := [.ref mo]) (n := 3) ⟨hx, hb, hml, hown, hts⟩ (c_X5_within l D yI yC yD q 1 30 (by omega) (by omega) (by omega)) (va_cwS 3 hts gX5_simulate_X5_within rfl rfl rfl (by decide +kernel) ⟨Nat.le_of_ble_eq_true rfl, Nat.le_of_ble_eq_true rfl⟩) hK hP [] rfl rfl hl.1 rfl (Nat.le_of_ble_eq_true rfl) dX5_simulate_5 ⟨Nat.zero_le _, Nat.zero_le _⟩ ?_
  refine iv_ifb_eq (P := 1 ≤ q ∧ q ≤ 30) (tgt := 15) hx hb dX5_simulate_8 (by decide) (fun c8 => ?_) (fun c8 => ?_)
  · refine lv_iconst (v := iI 1) hx hb dX5_simulate_15 (by decide +kernel) ?_
    refine va_put (D := D) (ci := 5) (v := .int (iI 1)) (ty := .int) (C := RX5) (T := TX5) (N := 11) hx hb hts hinX5 tyX5 tyX5_ok nmX5 hown hK hP hD hS 0 rfl rfl 0 (by decide) hf38 (fun _ h9 => h9) rfl (by decide +kernel) rfl rfl (Nat.le_of_ble_eq_true rfl) dX5_simulate_16 (fun H locs hP hD hS => ?_)
    have hP : va_P D vwCl [(mo, oMo 1 a1 a2 a3 re a4 a5 a6 tl a7 a8), (a1, aI yI 96 S), (a7, aI yI 1681 Bd), (a2, aI yI 96 Kp)] H := hP
    have hD : va_D A [(mo, oMo 1 a1 a2 a3 re a4 a5 a6 tl a7 a8), (a1, aI yI 96 S), (a7, aI yI 1681 Bd), (a2, aI yI 96 Kp)] := hD
    refine lv_aload_n hx hb dX5_simulate_19 rfl (lv_at hl 0 rfl) ?_
    refine va_get (D := D) (ci := 5) (v := .int (iI 1)) (C := RX5) (T := TX5) (N := 11) hx hb hts hinX5 hown hK hP 0 rfl rfl 0 (by decide) hf38 (fun _ h9 => h9) rfl dX5_simulate_20 ?_
    refine iv_if_le (a := 1) (tgt := 28) hx hb (by omega) dX5_simulate_23 (by decide) (fun c23 => ?_) (fun c23 => ?_)
    · exact absurd c23 (by omega)
    · refine lv_iconst (v := iI 0) hx hb dX5_simulate_26 (by decide +kernel) ?_
      have hq : ¬ (1 ≤ q ∧ q ≤ 30) := by omega
      have hP9 : va_P D vwCl [(mo, oMo (bI (¬ (1 ≤ q ∧ q ≤ 30))) a1 a2 a3 re a4 a5 a6 tl a7 a8), (a1, aI yI 96 S), (a7, aI yI 1681 Bd), (a2, aI yI 96 Kp)] _ := (hP.sub (ws' := [(mo, oMo 1 a1 a2 a3 re a4 a5 a6 tl a7 a8), (a1, aI yI 96 S), (a7, aI yI 1681 Bd), (a2, aI yI 96 Kp)]) [0, 1, 2, 3] rfl).cv (by simp only [if_neg hq, bI_t hq])
      exact W.iret hx hb hr (fun t ht hW => ⟨⟨iI 0, (Bd, Kp), rfl, ⟨congrArg iI (show 0 = if 1 ≤ q ∧ q ≤ 30 then simQ S (simL q.toNat x S) else 0 by rw [if_neg hq]), trivial⟩, by show va_P D vwCl _ t.heap; rw [ht]; exact hP9⟩, hS.F ht⟩) hS.2.2 dX5_simulate_27
  · refine lv_iconst (v := iI 0) hx hb dX5_simulate_11 (by decide +kernel) ?_
    refine lv_goto (tgt := 16) hx hb dX5_simulate_12 (by decide) ?_
    refine va_put (D := D) (ci := 5) (v := .int (iI 0)) (ty := .int) (C := RX5) (T := TX5) (N := 11) hx hb hts hinX5 tyX5 tyX5_ok nmX5 hown hK hP hD hS 0 rfl rfl 0 (by decide) hf38 (fun _ h9 => h9) rfl (by decide +kernel) rfl rfl (Nat.le_of_ble_eq_true rfl) dX5_simulate_16 (fun H locs hP hD hS => ?_)
    have hP : va_P D vwCl [(mo, oMo 0 a1 a2 a3 re a4 a5 a6 tl a7 a8), (a1, aI yI 96 S), (a7, aI yI 1681 Bd), (a2, aI yI 96 Kp)] H := hP
    have hD : va_D A [(mo, oMo 0 a1 a2 a3 re a4 a5 a6 tl a7 a8), (a1, aI yI 96 S), (a7, aI yI 1681 Bd), (a2, aI yI 96 Kp)] := hD
    refine lv_aload_n hx hb dX5_simulate_19 rfl (lv_at hl 0 rfl) ?_
    refine va_get (D := D) (ci := 5) (v := .int (iI 0)) (C := RX5) (T := TX5) (N := 11) hx hb hts hinX5 hown hK hP 0 rfl rfl 0 (by decide) hf38 (fun _ h9 => h9) rfl dX5_simulate_20 ?_
    refine iv_if_le (a := 0) (tgt := 28) hx hb (by omega) dX5_simulate_23 (by decide) (fun c23 => ?_) (fun c23 => ?_)
    · refine lv_aload_n hx hb dX5_simulate_28 rfl (lv_at hl 0 rfl) ?_
      refine va_get (D := D) (ci := 5) (v := .ref a1) (C := RX5) (T := TX5) (N := 11) hx hb hts hinX5 hown hK hP 0 rfl rfl 1 (by decide) hf7 (fun _ h9 => h9) rfl dX5_simulate_29 ?_
      refine lv_iconst (v := iI 0) hx hb dX5_simulate_32 (by decide +kernel) ?_
      refine lv_aload_n hx hb dX5_simulate_33 rfl (lv_at hl 0 rfl) ?_
      refine va_get (D := D) (ci := 5) (v := .ref a2) (C := RX5) (T := TX5) (N := 11) hx hb hts hinX5 hown hK hP 0 rfl rfl 2 (by decide) hf13 (fun _ h9 => h9) rfl dX5_simulate_34 ?_
      refine lv_iconst (v := iI 0) hx hb dX5_simulate_37 (by decide +kernel) ?_
      refine iv_rwSv (As := [.ref a1, .int (iI 0), .ref a2, .int (iI 0)]) (rest := []) (n := 4) ⟨hx, hb, hml, hown, hts⟩ (c_X5_copy l D yI yC yD a1 a2 96 96 S Kp 0 0 (by omega) (by omega) (by omega) _) (va_cwS 4 hts gX5_simulate_X5_copy rfl rfl rfl (by decide +kernel) ⟨Nat.le_of_ble_eq_true rfl, Nat.le_of_ble_eq_true rfl⟩) hK hP hD hS hA [1, 3] (by decide) rfl rfl hl.1 rfl (Nat.le_of_ble_eq_true rfl) dX5_simulate_38 ⟨Nat.zero_le _, Nat.zero_le _⟩ (fun _ => rfl) (fun u38 H locs hw38 hP hD hS => ?_)
      have hP : va_P D vwCl [(mo, oMo 0 a1 a2 a3 re a4 a5 a6 tl a7 a8), (a1, aI yI 96 S), (a7, aI yI 1681 Bd), (a2, aI yI 96 (cpy S Kp 0 0))] H := hP
      have hD : va_D A [(mo, oMo 0 a1 a2 a3 re a4 a5 a6 tl a7 a8), (a1, aI yI 96 S), (a7, aI yI 1681 Bd), (a2, aI yI 96 (cpy S Kp 0 0))] := hD
      refine lv_lload_n hx hb dX5_simulate_41 rfl (lv_at hl 1 rfl) ?_
      refine lv_lstore (lv' := [(4, .long x), (0, .ref mo), (1, .long x), (3, .int (iI q))]) hx hb dX5_simulate_42 hl (by decide) rfl (fun ls hl => ?_)
      refine lv_iconst (v := iI 0) hx hb dX5_simulate_44 (by decide +kernel) ?_
      refine lv_istore (lv' := [(6, .int (iI 0)), (4, .long x), (0, .ref mo), (1, .long x), (3, .int (iI q))]) hx hb dX5_simulate_45 hl (by decide) rfl (fun ls hl => ?_)
      refine iv_loop (I := fun (qq : Nat × Int64 × Int × (Int → Int)) H locs ls => match qq with | (k, y, x6, G) => ((k : Int) ≤ q) ∧ (x6 = k) ∧ (Inv G) ∧ (simL (q.toNat - k) y G = simL q.toNat x S) ∧ va_P D vwCl [(mo, oMo 0 a1 a2 a3 re a4 a5 a6 tl a7 a8), (a1, aI yI 96 G), (a7, aI yI 1681 Bd), (a2, aI yI 96 (cpy S Kp 0 0))] H ∧ va_D A [(mo, oMo 0 a1 a2 a3 re a4 a5 a6 tl a7 a8), (a1, aI yI 96 G), (a7, aI yI 1681 Bd), (a2, aI yI 96 (cpy S Kp 0 0))] ∧ va_S A s.heap H locs ∧ lv_has ls 10 [(6, .int (iI x6)), (4, .long y), (0, .ref mo), (1, .long x), (3, .int (iI q))]) (μ := fun (qq : Nat × Int64 × Int × (Int → Int)) => match qq with | (k, y, x6, G) => q.toNat - k) (0, x, 0, S) ?_ ?_
      · exact ⟨by omega, by omega, hI, rfl, hP, hD, hS, lv_sub hl [0, 1, 2, 3, 4] rfl⟩
      · intro qq H locs ls hI ih47
        obtain ⟨k, y, x6, G⟩ := qq
        obtain ⟨hk, h6, hI2, hR, hP, hD, hS, hl⟩ := hI
        refine lv_iload hx hb dX5_simulate_47 (lv_at hl 0 rfl) ?_
        refine lv_iload_n hx hb dX5_simulate_49 rfl (lv_at hl 4 rfl) ?_
        refine iv_icmp_ge (a := x6) (b := q) (tgt := 166) hx hb (by omega) (by omega) dX5_simulate_50 (by decide) (fun c50 => ?_) (fun c50 => ?_)
        · have hee : simL q.toNat x S = G := by rw [← hR, show q.toNat - k = 0 by omega]; rfl
          refine lv_aload_n hx hb dX5_simulate_166 rfl (lv_at hl 2 rfl) ?_
          refine iv_rwV (As := []) (rest := []) (C := RX5) (n := 0) ⟨hx, hb, hml, hown, hts⟩ (c_X5_knownMany l D yI yC yD mo 0 re tl a1 a2 a3 a4 a5 a6 a7 a8 G Bd (by assumption) _) (cwV 0 hts gX5_simulate_X5_knownMany rfl rfl rfl (by decide +kernel) ⟨Nat.le_of_ble_eq_true rfl, Nat.le_of_ble_eq_true rfl⟩) hK hP hD hS hA [0, 1, 2] (by decide) rfl 0 rfl rfl rfl hl.1 rfl (Nat.le_of_ble_eq_true rfl) dX5_simulate_167 ⟨Nat.zero_le _, Nat.zero_le _⟩ (fun _ => rfl) (fun r167 u167 H locs hw167 hP hD hS => ?_)
          obtain ⟨G9167, hu167⟩ : ∃ z, z = u167 := ⟨_, rfl⟩
          subst hu167
          obtain ⟨hr167, -⟩ := hw167
          subst hr167
          have hP : va_P D vwCl [(mo, oMo 0 a1 a2 a3 re a4 a5 a6 tl a7 a8), (a1, aI yI 96 G), (a7, aI yI 1681 G9167), (a2, aI yI 96 (cpy S Kp 0 0))] H := hP
          have hD : va_D A [(mo, oMo 0 a1 a2 a3 re a4 a5 a6 tl a7 a8), (a1, aI yI 96 G), (a7, aI yI 1681 G9167), (a2, aI yI 96 (cpy S Kp 0 0))] := hD
          refine lv_istore (lv' := [(6, .int (iI (knownIn (FB G (-1)) (G 0)))), (4, .long y), (0, .ref mo), (1, .long x), (3, .int (iI q))]) hx hb dX5_simulate_170 hl (by decide) rfl (fun ls hl => ?_)
          refine lv_aload_n hx hb dX5_simulate_172 rfl (lv_at hl 2 rfl) ?_
          refine va_get (D := D) (ci := 5) (v := .ref a1) (C := RX5) (T := TX5) (N := 11) hx hb hts hinX5 hown hK hP 0 rfl rfl 1 (by decide) hf7 (fun _ h9 => h9) rfl dX5_simulate_173 ?_
          refine lv_iconst (v := iI 5) hx hb dX5_simulate_176 (by decide +kernel) ?_
          refine iv_ald hx hb hK hP 1 0 rfl rfl (z := 5) (by omega) (by omega) (by omega) dX5_simulate_177 ?_
          refine lv_aload_n hx hb dX5_simulate_178 rfl (lv_at hl 2 rfl) ?_
          refine va_get (D := D) (ci := 5) (v := .ref a2) (C := RX5) (T := TX5) (N := 11) hx hb hts hinX5 hown hK hP 0 rfl rfl 2 (by decide) hf13 (fun _ h9 => h9) rfl dX5_simulate_179 ?_
          refine lv_iconst (v := iI 5) hx hb dX5_simulate_182 (by decide +kernel) ?_
          refine iv_ald hx hb hK hP 3 0 rfl rfl (z := 5) (by omega) (by omega) (by omega) dX5_simulate_183 ?_
          rw [show cpy S Kp 0 0 5 = S 5 from cpy_5]
          refine iv_sub hx hb dX5_simulate_184 ?_
          refine lv_istore (lv' := [(7, .int (iI (G 5 - (S 5)))), (6, .int (iI (knownIn (FB G (-1)) (G 0)))), (4, .long y), (0, .ref mo), (1, .long x), (3, .int (iI q))]) hx hb dX5_simulate_185 hl (by decide) rfl (fun ls hl => ?_)
          refine lv_aload_n hx hb dX5_simulate_187 rfl (lv_at hl 3 rfl) ?_
          refine va_get (D := D) (ci := 5) (v := .ref a2) (C := RX5) (T := TX5) (N := 11) hx hb hts hinX5 hown hK hP 0 rfl rfl 2 (by decide) hf13 (fun _ h9 => h9) rfl dX5_simulate_188 ?_
          refine lv_iconst (v := iI 0) hx hb dX5_simulate_191 (by decide +kernel) ?_
          refine lv_aload_n hx hb dX5_simulate_192 rfl (lv_at hl 3 rfl) ?_
          refine va_get (D := D) (ci := 5) (v := .ref a1) (C := RX5) (T := TX5) (N := 11) hx hb hts hinX5 hown hK hP 0 rfl rfl 1 (by decide) hf7 (fun _ h9 => h9) rfl dX5_simulate_193 ?_
          refine lv_iconst (v := iI 0) hx hb dX5_simulate_196 (by decide +kernel) ?_
          refine iv_rwSv (As := [.ref a2, .int (iI 0), .ref a1, .int (iI 0)]) (rest := []) (n := 4) ⟨hx, hb, hml, hown, hts⟩ (c_X5_copy l D yI yC yD a2 a1 96 96 (cpy S Kp 0 0) G 0 0 (by omega) (by omega) (by omega) _) (va_cwS 4 hts gX5_simulate_X5_copy rfl rfl rfl (by decide +kernel) ⟨Nat.le_of_ble_eq_true rfl, Nat.le_of_ble_eq_true rfl⟩) hK hP hD hS hA [3, 1] (by decide) rfl rfl hl.1 rfl (Nat.le_of_ble_eq_true rfl) dX5_simulate_197 ⟨Nat.zero_le _, Nat.zero_le _⟩ (fun _ => rfl) (fun u197 H locs hw197 hP hD hS => ?_)
          have hP : va_P D vwCl [(mo, oMo 0 a1 a2 a3 re a4 a5 a6 tl a7 a8), (a1, aI yI 96 (cpy (cpy S Kp 0 0) G 0 0)), (a7, aI yI 1681 G9167), (a2, aI yI 96 (cpy S Kp 0 0))] H := hP
          have hD : va_D A [(mo, oMo 0 a1 a2 a3 re a4 a5 a6 tl a7 a8), (a1, aI yI 96 (cpy (cpy S Kp 0 0) G 0 0)), (a7, aI yI 1681 G9167), (a2, aI yI 96 (cpy S Kp 0 0))] := hD
          have hP := va_P.arr hP 1 (g := S) rfl (fun z h1 h2 => cpy_self h1 h2)
          have hD : va_D A [(mo, oMo 0 a1 a2 a3 re a4 a5 a6 tl a7 a8), (a1, aI yI 96 S), (a7, aI yI 1681 G9167), (a2, aI yI 96 (cpy S Kp 0 0))] := hD.set (p := 1) rfl
          have hP : va_P D vwCl [(mo, oMo 0 a1 a2 a3 re a4 a5 a6 tl a7 a8), (a1, aI yI 96 S), (a7, aI yI 1681 G9167), (a2, aI yI 96 (cpy S Kp 0 0))] H := hP
          refine lv_sipush (v := iI 1000) hx hb dX5_simulate_200 (by decide +kernel) ?_
          refine lv_iload hx hb dX5_simulate_203 (lv_at hl 1 rfl) ?_
          refine iv_mul hx hb dX5_simulate_205 ?_
          refine lv_iload hx hb dX5_simulate_206 (lv_at hl 0 rfl) ?_
          refine lv_sipush (v := iI 999) hx hb dX5_simulate_208 (by decide +kernel) ?_
          refine lv_icmp_ge (x := iI (G 5 - (S 5))) (y := iI 999) (tgt := 219) hx hb dX5_simulate_211 (by decide) (fun c211 => ?_) (fun c211 => ?_)
          · refine lv_sipush (v := iI 999) hx hb dX5_simulate_219 (by decide +kernel) ?_
            refine iv_add hx hb dX5_simulate_222 ?_
            have hq : 1 ≤ q ∧ q ≤ 30 := by omega
            have hP9 : va_P D vwCl [(mo, oMo (bI (¬ (1 ≤ q ∧ q ≤ 30))) a1 a2 a3 re a4 a5 a6 tl a7 a8), (a1, aI yI 96 S), (a7, aI yI 1681 G9167), (a2, aI yI 96 (cpy S Kp 0 0))] _ := (hP.sub (ws' := [(mo, oMo 0 a1 a2 a3 re a4 a5 a6 tl a7 a8), (a1, aI yI 96 S), (a7, aI yI 1681 G9167), (a2, aI yI 96 (cpy S Kp 0 0))]) [0, 1, 2, 3] rfl).cv (by simp only [if_pos hq, bI_f (not_not_intro hq)])
            exact W.iret hx hb hr (fun t ht hW => ⟨⟨iI (1000 * (knownIn (FB G (-1)) (G 0)) + 999), (G9167, cpy S Kp 0 0), rfl, ⟨congrArg iI (show 1000 * (knownIn (FB G (-1)) (G 0)) + 999 = if 1 ≤ q ∧ q ≤ 30 then simQ S (simL q.toNat x S) else 0 by rw [if_pos hq, hee]; unfold simQ; first | rw [if_pos (by assumption)] | rw [if_neg (by assumption)]), trivial⟩, by show va_P D vwCl _ t.heap; rw [ht]; exact hP9⟩, hS.F ht⟩) hS.2.2 dX5_simulate_223
          · refine lv_iload hx hb dX5_simulate_214 (lv_at hl 0 rfl) ?_
            refine lv_goto (tgt := 222) hx hb dX5_simulate_216 (by decide) ?_
            refine iv_add hx hb dX5_simulate_222 ?_
            have hq : 1 ≤ q ∧ q ≤ 30 := by omega
            have hP9 : va_P D vwCl [(mo, oMo (bI (¬ (1 ≤ q ∧ q ≤ 30))) a1 a2 a3 re a4 a5 a6 tl a7 a8), (a1, aI yI 96 S), (a7, aI yI 1681 G9167), (a2, aI yI 96 (cpy S Kp 0 0))] _ := (hP.sub (ws' := [(mo, oMo 0 a1 a2 a3 re a4 a5 a6 tl a7 a8), (a1, aI yI 96 S), (a7, aI yI 1681 G9167), (a2, aI yI 96 (cpy S Kp 0 0))]) [0, 1, 2, 3] rfl).cv (by simp only [if_pos hq, bI_f (not_not_intro hq)])
            exact W.iret hx hb hr (fun t ht hW => ⟨⟨iI (1000 * (knownIn (FB G (-1)) (G 0)) + (G 5 - (S 5))), (G9167, cpy S Kp 0 0), rfl, ⟨congrArg iI (show 1000 * (knownIn (FB G (-1)) (G 0)) + (G 5 - (S 5)) = if 1 ≤ q ∧ q ≤ 30 then simQ S (simL q.toNat x S) else 0 by rw [if_pos hq, hee]; unfold simQ; first | rw [if_pos (by assumption)] | rw [if_neg (by assumption)]), trivial⟩, by show va_P D vwCl _ t.heap; rw [ht]; exact hP9⟩, hS.F ht⟩) hS.2.2 dX5_simulate_223
        · have hpl := hI2.pl
          have hwi := hI2.wi
          have hna := hI2.na
          refine lv_lload hx hb dX5_simulate_53 (lv_at hl 1 rfl) ?_
          refine lv_ldc2 (v := 6364136223846793005) hx hb hown (hts (.constantLong RX5 183 (6364136223846793005)) (by decide +kernel)) dX5_simulate_55 ?_
          refine lv_lmul hx hb dX5_simulate_58 ?_
          refine lv_ldc2 (v := 1442695040888963407) hx hb hown (hts (.constantLong RX5 185 (1442695040888963407)) (by decide +kernel)) dX5_simulate_59 ?_
          refine lv_ladd hx hb dX5_simulate_62 ?_
          obtain ⟨y2, hy2⟩ : ∃ y2, y2 = simN y := ⟨_, rfl⟩
          rw [show ((y * 6364136223846793005) + 1442695040888963407 : Int64) = y2 from hy2.symm]
          refine lv_lstore (lv' := [(4, .long y2), (6, .int (iI x6)), (0, .ref mo), (1, .long x), (3, .int (iI q))]) hx hb dX5_simulate_63 hl (by decide) rfl (fun ls hl => ?_)
          refine lv_lload hx hb dX5_simulate_65 (lv_at hl 0 rfl) ?_
          refine lv_bipush (v := iI 33) hx hb dX5_simulate_67 (by decide +kernel) ?_
          refine lv_lushr (v := (y2.toUInt64 >>> ((iI 33).toInt64.toUInt64 &&& Int64.toUInt64 63)).toInt64) hx hb dX5_simulate_69 rfl ?_
          refine lv_l2i (v := iI (simR y2)) hx hb dX5_simulate_70 (iI_of _) ?_
          obtain ⟨r, hr8⟩ : ∃ r, r = simR y2 := ⟨_, rfl⟩
          rw [← hr8]
          have hr9 : 0 ≤ r ∧ r < 2147483648 := by rw [hr8]; exact simR_r y2
          have ha9 : 0 ≤ r / 8 % G 0 ∧ r / 8 % G 0 < G 0 := ⟨Int.emod_nonneg _ (by omega), Int.emod_lt_of_pos _ (by omega)⟩
          refine lv_istore (lv' := [(7, .int (iI r)), (4, .long y2), (6, .int (iI x6)), (0, .ref mo), (1, .long x), (3, .int (iI q))]) hx hb dX5_simulate_71 hl (by decide) rfl (fun ls hl => ?_)
          refine lv_iload hx hb dX5_simulate_73 (lv_at hl 0 rfl) ?_
          refine lv_bipush (v := iI 8) hx hb dX5_simulate_75 (by decide +kernel) ?_
          refine iv_div hx hb (by omega) (by omega) (by omega) (by omega) dX5_simulate_77 ?_
          refine lv_aload_n hx hb dX5_simulate_78 rfl (lv_at hl 3 rfl) ?_
          refine va_get (D := D) (ci := 5) (v := .ref a1) (C := RX5) (T := TX5) (N := 11) hx hb hts hinX5 hown hK hP 0 rfl rfl 1 (by decide) hf7 (fun _ h9 => h9) rfl dX5_simulate_79 ?_
          refine lv_iconst (v := iI 0) hx hb dX5_simulate_82 (by decide +kernel) ?_
          refine iv_ald hx hb hK hP 1 0 rfl rfl (z := 0) (by omega) (by omega) (by omega) dX5_simulate_83 ?_
          refine iv_rem hx hb (by omega) (by omega) (by omega) (by omega) dX5_simulate_84 ?_
          refine lv_istore (lv' := [(8, .int (iI ((r / 8) % (G 0)))), (7, .int (iI r)), (4, .long y2), (6, .int (iI x6)), (0, .ref mo), (1, .long x), (3, .int (iI q))]) hx hb dX5_simulate_85 hl (by decide) rfl (fun ls hl => ?_)
          refine lv_iload hx hb dX5_simulate_87 (lv_at hl 0 rfl) ?_
          refine lv_aload_n hx hb dX5_simulate_89 rfl (lv_at hl 4 rfl) ?_
          refine va_get (D := D) (ci := 5) (v := .ref a1) (C := RX5) (T := TX5) (N := 11) hx hb hts hinX5 hown hK hP 0 rfl rfl 1 (by decide) hf7 (fun _ h9 => h9) rfl dX5_simulate_90 ?_
          refine lv_iconst (v := iI 1) hx hb dX5_simulate_93 (by decide +kernel) ?_
          refine iv_ald hx hb hK hP 1 0 rfl rfl (z := 1) (by omega) (by omega) (by omega) dX5_simulate_94 ?_
          refine iv_add hx hb dX5_simulate_95 ?_
          refine lv_iconst (v := iI 1) hx hb dX5_simulate_96 (by decide +kernel) ?_
          refine iv_sub hx hb dX5_simulate_97 ?_
          refine lv_iload hx hb dX5_simulate_98 (lv_at hl 1 rfl) ?_
          refine lv_sipush (v := iI 512) hx hb dX5_simulate_100 (by decide +kernel) ?_
          refine iv_div hx hb (by omega) (by omega) (by omega) (by omega) dX5_simulate_103 ?_
          refine lv_bipush (v := iI 8) hx hb dX5_simulate_104 (by decide +kernel) ?_
          refine iv_rem hx hb (by omega) (by omega) (by omega) (by omega) dX5_simulate_106 ?_
          refine iv_add hx hb dX5_simulate_107 ?_
          refine lv_istore (lv' := [(9, .int (iI ((r / 8) % (G 0) + (G 1) - 1 + ((r / 512) % 8)))), (8, .int (iI ((r / 8) % (G 0)))), (7, .int (iI r)), (4, .long y2), (6, .int (iI x6)), (0, .ref mo), (1, .long x), (3, .int (iI q))]) hx hb dX5_simulate_108 hl (by decide) rfl (fun ls hl => ?_)
          refine lv_iload hx hb dX5_simulate_110 (lv_at hl 0 rfl) ?_
          refine lv_aload_n hx hb dX5_simulate_112 rfl (lv_at hl 5 rfl) ?_
          refine va_get (D := D) (ci := 5) (v := .ref a1) (C := RX5) (T := TX5) (N := 11) hx hb hts hinX5 hown hK hP 0 rfl rfl 1 (by decide) hf7 (fun _ h9 => h9) rfl dX5_simulate_113 ?_
          refine lv_iconst (v := iI 0) hx hb dX5_simulate_116 (by decide +kernel) ?_
          refine iv_ald hx hb hK hP 1 0 rfl rfl (z := 0) (by omega) (by omega) (by omega) dX5_simulate_117 ?_
          refine iv_icmp_ge (a := (r / 8) % (G 0) + (G 1) - 1 + ((r / 512) % 8)) (b := G 0) (tgt := 133) hx hb (by omega) (by omega) dX5_simulate_118 (by decide) (fun c118 => ?_) (fun c118 => ?_)
          · skip
            refine lv_iload hx hb dX5_simulate_133 (lv_at hl 2 rfl) ?_
            refine lv_bipush (v := iI 8) hx hb dX5_simulate_135 (by decide +kernel) ?_
            refine iv_rem hx hb (by omega) (by omega) (by omega) (by omega) dX5_simulate_137 ?_
            refine iv_if_ne (a := r % 8) (tgt := 160) hx hb (by omega) dX5_simulate_138 (by decide) (fun c138 => ?_) (fun c138 => ?_)
            · have hs1 : sim1 G (r) = G := by unfold sim1; rw [if_neg (show ¬ simB G (r) < G 0 by unfold simB simA; omega), if_neg (by omega)]
              refine iv_inc (lv' := [(6, .int (iI (x6 + 1))), (9, .int (iI ((r / 8) % (G 0) + (G 1) - 1 + ((r / 512) % 8)))), (8, .int (iI ((r / 8) % (G 0)))), (7, .int (iI r)), (4, .long y2), (0, .ref mo), (1, .long x), (3, .int (iI q))]) hx hb dX5_simulate_160 hl (k := 4) rfl (by decide) rfl (fun ls hl => ?_)
              refine lv_goto (tgt := 47) hx hb dX5_simulate_163 (by decide) ?_
              refine ih47 (k + 1, y2, x6 + 1, G) _ _ (by show (q.toNat - (k + 1) : Nat) < q.toNat - k; omega) ?_
              exact ⟨by omega, by omega, by rw [← hs1]; exact inv_sim1 hI2 hr9.1, by rw [← hR, simL_s (m := q.toNat - k) (n := q.toNat - (k + 1)) (by omega), ← hy2, ← hr8, hs1], hP, hD, hS, lv_sub hl [0, 4, 5, 6, 7] rfl⟩
            · refine lv_aload_n hx hb dX5_simulate_141 rfl (lv_at hl 5 rfl) ?_
              refine lv_iload hx hb dX5_simulate_142 (lv_at hl 1 rfl) ?_
              refine lv_iconst (v := iI 1) hx hb dX5_simulate_144 (by decide +kernel) ?_
              refine lv_aload_n hx hb dX5_simulate_145 rfl (lv_at hl 5 rfl) ?_
              refine va_get (D := D) (ci := 5) (v := .ref a1) (C := RX5) (T := TX5) (N := 11) hx hb hts hinX5 hown hK hP 0 rfl rfl 1 (by decide) hf7 (fun _ h9 => h9) rfl dX5_simulate_146 ?_
              refine lv_bipush (v := iI 8) hx hb dX5_simulate_149 (by decide +kernel) ?_
              refine lv_iload hx hb dX5_simulate_151 (lv_at hl 1 rfl) ?_
              refine iv_add hx hb dX5_simulate_153 ?_
              refine iv_ald hx hb hK hP 1 0 rfl rfl (z := 8 + ((r / 8) % (G 0))) (by omega) (by omega) (by omega) dX5_simulate_154 ?_
              refine iv_sub hx hb dX5_simulate_155 ?_
              have hkk := hI2.key (j := r / 8 % G 0) (by omega) (by omega)
              refine iv_rwV (As := [.int (iI ((r / 8) % (G 0))), .int (iI (1 - (G (8 + ((r / 8) % (G 0))))))]) (rest := []) (C := RX5) (n := 2) ⟨hx, hb, hml, hown, hts⟩ (c_X5_written l D yI yC yD mo 0 re tl a1 a2 a3 a4 a5 a6 a7 a8 G ((r / 8) % (G 0)) (1 - (G (8 + ((r / 8) % (G 0))))) (by omega) (by omega) (by omega) (by omega) (hI2.anr) _) (cwV 2 hts gX5_simulate_X5_written rfl rfl rfl (by decide +kernel) ⟨Nat.le_of_ble_eq_true rfl, Nat.le_of_ble_eq_true rfl⟩) hK hP hD hS hA [0, 1] (by decide) rfl 0 rfl rfl rfl hl.1 rfl (Nat.le_of_ble_eq_true rfl) dX5_simulate_156 ⟨Nat.zero_le _, Nat.zero_le _⟩ (fun _ => rfl) (fun r156 u156 H locs hw156 hP hD hS => ?_)
              obtain ⟨hr156, -⟩ := hw156
              subst hr156
              have hP : va_P D vwCl [(mo, oMo 0 a1 a2 a3 re a4 a5 a6 tl a7 a8), (a1, aI yI 96 (wr G ((r / 8) % (G 0)) (1 - (G (8 + ((r / 8) % (G 0))))))), (a7, aI yI 1681 Bd), (a2, aI yI 96 (cpy S Kp 0 0))] H := hP
              have hD : va_D A [(mo, oMo 0 a1 a2 a3 re a4 a5 a6 tl a7 a8), (a1, aI yI 96 (wr G ((r / 8) % (G 0)) (1 - (G (8 + ((r / 8) % (G 0))))))), (a7, aI yI 1681 Bd), (a2, aI yI 96 (cpy S Kp 0 0))] := hD
              refine lv_pop hx hb dX5_simulate_159 rfl ?_
              have hs1 : sim1 G (r) = wr G ((r / 8) % (G 0)) (1 - (G (8 + ((r / 8) % (G 0))))) := by unfold sim1; rw [if_neg (show ¬ simB G (r) < G 0 by unfold simB simA; omega), if_pos (by omega)]; rfl
              refine iv_inc (lv' := [(6, .int (iI (x6 + 1))), (9, .int (iI ((r / 8) % (G 0) + (G 1) - 1 + ((r / 512) % 8)))), (8, .int (iI ((r / 8) % (G 0)))), (7, .int (iI r)), (4, .long y2), (0, .ref mo), (1, .long x), (3, .int (iI q))]) hx hb dX5_simulate_160 hl (k := 4) rfl (by decide) rfl (fun ls hl => ?_)
              refine lv_goto (tgt := 47) hx hb dX5_simulate_163 (by decide) ?_
              refine ih47 (k + 1, y2, x6 + 1, wr G ((r / 8) % (G 0)) (1 - (G (8 + ((r / 8) % (G 0)))))) _ _ (by show (q.toNat - (k + 1) : Nat) < q.toNat - k; omega) ?_
              exact ⟨by omega, by omega, by rw [← hs1]; exact inv_sim1 hI2 hr9.1, by rw [← hR, simL_s (m := q.toNat - k) (n := q.toNat - (k + 1)) (by omega), ← hy2, ← hr8, hs1], hP, hD, hS, lv_sub hl [0, 4, 5, 6, 7] rfl⟩
          · refine lv_aload_n hx hb dX5_simulate_121 rfl (lv_at hl 5 rfl) ?_
            refine lv_iload hx hb dX5_simulate_122 (lv_at hl 1 rfl) ?_
            refine lv_iload hx hb dX5_simulate_124 (lv_at hl 0 rfl) ?_
            refine iv_rwV (As := [.int (iI ((r / 8) % (G 0))), .int (iI ((r / 8) % (G 0) + (G 1) - 1 + ((r / 512) % 8)))]) (rest := []) (C := RX5) (n := 2) ⟨hx, hb, hml, hown, hts⟩ (c_X5_asked l D yI yC yD mo 0 re tl a1 a2 a3 a4 a5 a6 a7 a8 G ((r / 8) % (G 0)) ((r / 8) % (G 0) + (G 1) - 1 + ((r / 512) % 8)) (by assumption) (by omega) _) (cwV 2 hts gX5_simulate_X5_asked rfl rfl rfl (by decide +kernel) ⟨Nat.le_of_ble_eq_true rfl, Nat.le_of_ble_eq_true rfl⟩) hK hP hD hS hA [0, 1] (by decide) rfl 0 rfl rfl rfl hl.1 rfl (Nat.le_of_ble_eq_true rfl) dX5_simulate_126 ⟨Nat.zero_le _, Nat.zero_le _⟩ (fun _ => rfl) (fun r126 u126 H locs hw126 hP hD hS => ?_)
            obtain ⟨hr126, -⟩ := hw126
            subst hr126
            have hP : va_P D vwCl [(mo, oMo 0 a1 a2 a3 re a4 a5 a6 tl a7 a8), (a1, aI yI 96 (askd G ((r / 8) % (G 0)) ((r / 8) % (G 0) + (G 1) - 1 + ((r / 512) % 8)))), (a7, aI yI 1681 Bd), (a2, aI yI 96 (cpy S Kp 0 0))] H := hP
            have hD : va_D A [(mo, oMo 0 a1 a2 a3 re a4 a5 a6 tl a7 a8), (a1, aI yI 96 (askd G ((r / 8) % (G 0)) ((r / 8) % (G 0) + (G 1) - 1 + ((r / 512) % 8)))), (a7, aI yI 1681 Bd), (a2, aI yI 96 (cpy S Kp 0 0))] := hD
            refine lv_pop hx hb dX5_simulate_129 rfl ?_
            have hs1 : sim1 G (r) = askd G (r / 8 % G 0) (r / 8 % G 0 + G 1 - 1 + r / 512 % 8) := if_pos (show simB G (r) < G 0 from by unfold simB simA; omega)
            refine lv_goto (tgt := 160) hx hb dX5_simulate_130 (by decide) ?_
            refine iv_inc (lv' := [(6, .int (iI (x6 + 1))), (9, .int (iI ((r / 8) % (G 0) + (G 1) - 1 + ((r / 512) % 8)))), (8, .int (iI ((r / 8) % (G 0)))), (7, .int (iI r)), (4, .long y2), (0, .ref mo), (1, .long x), (3, .int (iI q))]) hx hb dX5_simulate_160 hl (k := 4) rfl (by decide) rfl (fun ls hl => ?_)
            refine lv_goto (tgt := 47) hx hb dX5_simulate_163 (by decide) ?_
            refine ih47 (k + 1, y2, x6 + 1, askd G ((r / 8) % (G 0)) ((r / 8) % (G 0) + (G 1) - 1 + ((r / 512) % 8))) _ _ (by show (q.toNat - (k + 1) : Nat) < q.toNat - k; omega) ?_
            exact ⟨by omega, by omega, by rw [← hs1]; exact inv_sim1 hI2 hr9.1, by rw [← hR, simL_s (m := q.toNat - k) (n := q.toNat - (k + 1)) (by omega), ← hy2, ← hr8, hs1], hP, hD, hS, lv_sub hl [0, 4, 5, 6, 7] rfl⟩
    · exact absurd c23 (by omega)
