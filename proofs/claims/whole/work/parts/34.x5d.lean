set_option maxHeartbeats 4000000 in
set_option maxRecDepth 100000 in
theorem c_X5_about (l : Launch) (D : va_G) (yI yC yD : ClassId) (mo : Nat) (th : Int) (re : Int) (tl : Int) (a1 : Nat) (a2 : Nat) (a3 : Nat) (a4 : Nat) (a5 : Nat) (a6 : Nat) (a7 : Nat) (a8 : Nat) (S : Int → Int) (Bd : Int → Int) (w : Int) (hI : Inv S) (hw9 : inR w) (sz : Nat) : Met l yX5_about wsX5_about ({ frames := 3, cells := 0, slots := 0, locals := 74 }) (rwP [.ref mo, .int (iI w)] D (tyz yI yC yD) [(mo, oMo th a1 a2 a3 re a4 a5 a6 tl a7 a8), (a1, aI yI 96 S), (a7, aI yI 1681 Bd)] sz) (va_Qi (fun (r : Int32) (G9 : (Int → Int)) => r = iI (abt S w) ∧ True) (fun (G9 : (Int → Int)) (t : State) => va_P D vwCl [(mo, oMo (bI (¬ (0 ≤ w ∧ w ≤ 9))) a1 a2 a3 re a4 a5 a6 tl a7 a8), (a1, aI yI 96 S), (a7, aI yI 1681 G9)] t.heap) (va_A [(mo, oMo th a1 a2 a3 re a4 a5 a6 tl a7 a8), (a1, aI yI 96 S), (a7, aI yI 1681 Bd)] sz)) 0 0 (va_A [(mo, oMo th a1 a2 a3 re a4 a5 a6 tl a7 a8), (a1, aI yI 96 S), (a7, aI yI 1681 Bd)] sz) := by
  refine Met.ofW (cc := cX5_about) (maxL := 2) (ret := (some .int)) (by decide) rfl ?_
  intro p e s m args below meth c s₁ B hml hv
  obtain ⟨rfl, hsz, hP, hK, hD0⟩ := hv
  have hx := B.exec
  have hb := B.bytes
  have hr := B.returns
  have hts := atoms_spec (ws := wsX5_about) B.pre
  have hown : s.vm.findClass RX5 = some m.cls := findClass_of_methodNamed B.named
  have hlocks := B.notSynchronized
  subst hsz
  have hD := hD0.self (sz := s.heap.size)
  generalize hAe : va_A [(mo, oMo th a1 a2 a3 re a4 a5 a6 tl a7 a8), (a1, aI yI 96 S), (a7, aI yI 1681 Bd)] s.heap.size = A at hD ⊢
  have hA : ∀ q : Nat, s.heap.size ≤ q → A q := fun q h => by rw [← hAe]; exact Or.inr h
  have hS : va_S A s.heap s.heap [] := va_S.rf
  have hP : va_P D vwCl [(mo, oMo th a1 a2 a3 re a4 a5 a6 tl a7 a8), (a1, aI yI 96 S), (a7, aI yI 1681 Bd)] s.heap := hP
  have hinX5 : ∀ w ∈ wsX50, w ∈ wsX5_about := by decide +kernel
  have hf7 : (Cond.fieldLink RX5 7 "RiddleDriveModel" "state" "[I").before _ s = true := hts _ (by decide +kernel)
  have hf28 : (Cond.fieldLink RX5 28 "RiddleDriveModel" "bounds" "[I").before _ s = true := hts _ (by decide +kernel)
  have hf38 : (Cond.fieldLink RX5 38 "RiddleDriveModel" "thrown" "I").before _ s = true := hts _ (by decide +kernel)
  have hl := lv_entry ([.ref mo, .int (iI w)]) (n := 2) (Nat.le_of_ble_eq_true rfl)
  rw [lg_entry_eq]
  generalize (lg_sl ([.ref mo, .int (iI w)]) ++ List.replicate (2 - (lg_sl ([.ref mo, .int (iI w)])).length) Slot.unset).toArray = ls at hl ⊢
  have hl : lv_has ls 2 [(0, .ref mo), (1, .int (iI w))] := hl
  have hpl := hI.pl
  have hna := hI.na
  have hse := hI.se
  have hwi := hI.wi
  refine lv_aload_n hx hb dX5_about_0 rfl (lv_at hl 0 rfl) ?_
  refine lv_iload_n hx hb dX5_about_1 rfl (lv_at hl 1 rfl) ?_
  refine lv_iconst (v := iI 0) hx hb dX5_about_2 (by decide +kernel) ?_
  refine lv_bipush (v := iI 9) hx hb dX5_about_3 (by decide +kernel) ?_
  refine iv_roS (As := [.int (iI w), .int (iI 0), .int (iI 9)]) (rest := [.ref mo]) (n := 3) ⟨hx, hb, hml, hown, hts⟩ (c_X5_within l D yI yC yD w 0 9 (by omega) (by omega) (by omega)) (va_cwS 3 hts gX5_about_X5_within rfl rfl rfl (by decide +kernel) ⟨Nat.le_of_ble_eq_true rfl, Nat.le_of_ble_eq_true rfl⟩) hK hP [] rfl rfl hl.1 rfl (Nat.le_of_ble_eq_true rfl) dX5_about_5 ⟨Nat.zero_le _, Nat.zero_le _⟩ ?_
  refine iv_ifb_eq (P := 0 ≤ w ∧ w ≤ 9) (tgt := 15) hx hb dX5_about_8 (by decide) (fun c8 => ?_) (fun c8 => ?_)
  · refine lv_iconst (v := iI 1) hx hb dX5_about_15 (by decide +kernel) ?_
    refine va_put (D := D) (ci := 5) (v := .int (iI 1)) (ty := .int) (C := RX5) (T := TX5) (N := 11) hx hb hts hinX5 tyX5 tyX5_ok nmX5 hown hK hP hD hS 0 rfl rfl 0 (by decide) hf38 (fun _ h9 => h9) rfl (by decide +kernel) rfl rfl (Nat.le_of_ble_eq_true rfl) dX5_about_16 (fun H locs hP hD hS => ?_)
    have hP : va_P D vwCl [(mo, oMo 1 a1 a2 a3 re a4 a5 a6 tl a7 a8), (a1, aI yI 96 S), (a7, aI yI 1681 Bd)] H := hP
    have hD : va_D A [(mo, oMo 1 a1 a2 a3 re a4 a5 a6 tl a7 a8), (a1, aI yI 96 S), (a7, aI yI 1681 Bd)] := hD
    refine lv_iload_n hx hb dX5_about_19 rfl (lv_at hl 1 rfl) ?_
    have hsw : (iI w).toInt = w := iI_toInt (by omega)
    rcases (show w < 0 ∨ 9 < w ∨ w = 0 ∨ w = 1 ∨ w = 2 ∨ w = 3 ∨ w = 4 ∨ w = 5 ∨ w = 6 ∨ w = 7 ∨ w = 8 ∨ w = 9 by omega) with csw | csw | csw | csw | csw | csw | csw | csw | csw | csw | csw | csw
    · refine lv_tableOut (tgt := 122) hx hb dX5_about_20 (by rw [hsw]; exact Or.inl csw) (by decide) ?_
      refine lv_iconst (v := iI 0) hx hb dX5_about_122 (by decide +kernel) ?_
      have hP9 : va_P D vwCl [(mo, oMo (bI (¬ (0 ≤ w ∧ w ≤ 9))) a1 a2 a3 re a4 a5 a6 tl a7 a8), (a1, aI yI 96 S), (a7, aI yI 1681 Bd)] _ := (hP.sub (ws' := [(mo, oMo 1 a1 a2 a3 re a4 a5 a6 tl a7 a8), (a1, aI yI 96 S), (a7, aI yI 1681 Bd)]) [0, 1, 2] rfl).cv (by first | (exfalso; omega) | rw [bI_f (by omega)] | rw [bI_t (by omega)])
      exact W.iret hx hb hr (fun t ht hW => ⟨⟨iI 0, Bd, rfl, ⟨congrArg iI (show 0 = abt S w by first | (exfalso; omega) | (subst csw; rfl) | (unfold abt; (repeat (first | rw [if_pos (by omega)] | rw [if_neg (by omega)])))), trivial⟩, by show va_P D vwCl _ t.heap; rw [ht]; exact hP9⟩, hS.F ht⟩) hS.2.2 dX5_about_123
    · refine lv_tableOut (tgt := 122) hx hb dX5_about_20 (by rw [hsw]; exact Or.inr csw) (by decide) ?_
      refine lv_iconst (v := iI 0) hx hb dX5_about_122 (by decide +kernel) ?_
      have hP9 : va_P D vwCl [(mo, oMo (bI (¬ (0 ≤ w ∧ w ≤ 9))) a1 a2 a3 re a4 a5 a6 tl a7 a8), (a1, aI yI 96 S), (a7, aI yI 1681 Bd)] _ := (hP.sub (ws' := [(mo, oMo 1 a1 a2 a3 re a4 a5 a6 tl a7 a8), (a1, aI yI 96 S), (a7, aI yI 1681 Bd)]) [0, 1, 2] rfl).cv (by first | (exfalso; omega) | rw [bI_f (by omega)] | rw [bI_t (by omega)])
      exact W.iret hx hb hr (fun t ht hW => ⟨⟨iI 0, Bd, rfl, ⟨congrArg iI (show 0 = abt S w by first | (exfalso; omega) | (subst csw; rfl) | (unfold abt; (repeat (first | rw [if_pos (by omega)] | rw [if_neg (by omega)])))), trivial⟩, by show va_P D vwCl _ t.heap; rw [ht]; exact hP9⟩, hS.F ht⟩) hS.2.2 dX5_about_123
    · refine lv_tableIn (off := 56) (tgt := 76) hx hb dX5_about_20 (by rw [hsw]; omega) (by rw [hsw]; omega) (by rw [hsw, csw]; rfl) (by decide) ?_
      refine lv_aload_n hx hb dX5_about_76 rfl (lv_at hl 0 rfl) ?_
      refine va_get (D := D) (ci := 5) (v := .ref a1) (C := RX5) (T := TX5) (N := 11) hx hb hts hinX5 hown hK hP 0 rfl rfl 1 (by decide) hf7 (fun _ h9 => h9) rfl dX5_about_77 ?_
      refine lv_iconst (v := iI 0) hx hb dX5_about_80 (by decide +kernel) ?_
      refine iv_ald hx hb hK hP 1 0 rfl rfl (z := 0) (by omega) (by omega) (by omega) dX5_about_81 ?_
      have hP9 : va_P D vwCl [(mo, oMo (bI (¬ (0 ≤ w ∧ w ≤ 9))) a1 a2 a3 re a4 a5 a6 tl a7 a8), (a1, aI yI 96 S), (a7, aI yI 1681 Bd)] _ := (hP.sub (ws' := [(mo, oMo 1 a1 a2 a3 re a4 a5 a6 tl a7 a8), (a1, aI yI 96 S), (a7, aI yI 1681 Bd)]) [0, 1, 2] rfl).cv (by first | (exfalso; omega) | rw [bI_f (by omega)] | rw [bI_t (by omega)])
      exact W.iret hx hb hr (fun t ht hW => ⟨⟨iI (S 0), Bd, rfl, ⟨congrArg iI (show S 0 = abt S w by first | (exfalso; omega) | (subst csw; rfl) | (unfold abt; (repeat (first | rw [if_pos (by omega)] | rw [if_neg (by omega)])))), trivial⟩, by show va_P D vwCl _ t.heap; rw [ht]; exact hP9⟩, hS.F ht⟩) hS.2.2 dX5_about_82
    · refine lv_tableIn (off := 63) (tgt := 83) hx hb dX5_about_20 (by rw [hsw]; omega) (by rw [hsw]; omega) (by rw [hsw, csw]; rfl) (by decide) ?_
      refine lv_aload_n hx hb dX5_about_83 rfl (lv_at hl 0 rfl) ?_
      refine lv_iconst (v := iI 0) hx hb dX5_about_84 (by decide +kernel) ?_
      refine lv_aload_n hx hb dX5_about_85 rfl (lv_at hl 0 rfl) ?_
      refine va_get (D := D) (ci := 5) (v := .ref a1) (C := RX5) (T := TX5) (N := 11) hx hb hts hinX5 hown hK hP 0 rfl rfl 1 (by decide) hf7 (fun _ h9 => h9) rfl dX5_about_86 ?_
      refine lv_iconst (v := iI 0) hx hb dX5_about_89 (by decide +kernel) ?_
      refine iv_ald hx hb hK hP 1 0 rfl rfl (z := 0) (by omega) (by omega) (by omega) dX5_about_90 ?_
      refine lv_iconst (v := iI 1) hx hb dX5_about_91 (by decide +kernel) ?_
      refine iv_sub hx hb dX5_about_92 ?_
      refine iv_roV (As := [.int (iI 0), .int (iI (S 0 - 1))]) (rest := []) (C := RX5) (n := 2) ⟨hx, hb, hml, hown, hts⟩ (c_X5_keysIn l D yI yC yD mo 1 re tl a1 a2 a3 a4 a5 a6 a7 a8 S 0 (S 0 - 1) (by omega)) (cwV 2 hts gX5_about_X5_keysIn rfl rfl rfl (by decide +kernel) ⟨Nat.le_of_ble_eq_true rfl, Nat.le_of_ble_eq_true rfl⟩) hK hP [0, 1] rfl 0 rfl rfl rfl hl.1 rfl (Nat.le_of_ble_eq_true rfl) dX5_about_93 ⟨Nat.zero_le _, Nat.zero_le _⟩ ?_
      have hP9 : va_P D vwCl [(mo, oMo (bI (¬ (0 ≤ w ∧ w ≤ 9))) a1 a2 a3 re a4 a5 a6 tl a7 a8), (a1, aI yI 96 S), (a7, aI yI 1681 Bd)] _ := (hP.sub (ws' := [(mo, oMo 1 a1 a2 a3 re a4 a5 a6 tl a7 a8), (a1, aI yI 96 S), (a7, aI yI 1681 Bd)]) [0, 1, 2] rfl).cv (by first | (exfalso; omega) | rw [bI_f (by omega)] | rw [bI_t (by omega)])
      exact W.iret hx hb hr (fun t ht hW => ⟨⟨iI (keysIn S 0 (S 0 - 1)), Bd, rfl, ⟨congrArg iI (show keysIn S 0 (S 0 - 1) = abt S w by first | (exfalso; omega) | (subst csw; rfl) | (unfold abt; (repeat (first | rw [if_pos (by omega)] | rw [if_neg (by omega)])))), trivial⟩, by show va_P D vwCl _ t.heap; rw [ht]; exact hP9⟩, hS.F ht⟩) hS.2.2 dX5_about_96
    · refine lv_tableIn (off := 77) (tgt := 97) hx hb dX5_about_20 (by rw [hsw]; omega) (by rw [hsw]; omega) (by rw [hsw, csw]; rfl) (by decide) ?_
      refine lv_aload_n hx hb dX5_about_97 rfl (lv_at hl 0 rfl) ?_
      refine va_get (D := D) (ci := 5) (v := .ref a1) (C := RX5) (T := TX5) (N := 11) hx hb hts hinX5 hown hK hP 0 rfl rfl 1 (by decide) hf7 (fun _ h9 => h9) rfl dX5_about_98 ?_
      refine lv_iconst (v := iI 1) hx hb dX5_about_101 (by decide +kernel) ?_
      refine lv_iload_n hx hb dX5_about_102 rfl (lv_at hl 1 rfl) ?_
      refine iv_add hx hb dX5_about_103 ?_
      refine lv_iconst (v := iI 2) hx hb dX5_about_104 (by decide +kernel) ?_
      refine iv_sub hx hb dX5_about_105 ?_
      refine iv_ald hx hb hK hP 1 0 rfl rfl (z := 1 + w - 2) (by omega) (by omega) (by omega) dX5_about_106 ?_
      have hP9 : va_P D vwCl [(mo, oMo (bI (¬ (0 ≤ w ∧ w ≤ 9))) a1 a2 a3 re a4 a5 a6 tl a7 a8), (a1, aI yI 96 S), (a7, aI yI 1681 Bd)] _ := (hP.sub (ws' := [(mo, oMo 1 a1 a2 a3 re a4 a5 a6 tl a7 a8), (a1, aI yI 96 S), (a7, aI yI 1681 Bd)]) [0, 1, 2] rfl).cv (by first | (exfalso; omega) | rw [bI_f (by omega)] | rw [bI_t (by omega)])
      exact W.iret hx hb hr (fun t ht hW => ⟨⟨iI (S (1 + w - 2)), Bd, rfl, ⟨congrArg iI (show S (1 + w - 2) = abt S w by first | (exfalso; omega) | (subst csw; rfl) | (unfold abt; (repeat (first | rw [if_pos (by omega)] | rw [if_neg (by omega)])))), trivial⟩, by show va_P D vwCl _ t.heap; rw [ht]; exact hP9⟩, hS.F ht⟩) hS.2.2 dX5_about_107
    · refine lv_tableIn (off := 77) (tgt := 97) hx hb dX5_about_20 (by rw [hsw]; omega) (by rw [hsw]; omega) (by rw [hsw, csw]; rfl) (by decide) ?_
      refine lv_aload_n hx hb dX5_about_97 rfl (lv_at hl 0 rfl) ?_
      refine va_get (D := D) (ci := 5) (v := .ref a1) (C := RX5) (T := TX5) (N := 11) hx hb hts hinX5 hown hK hP 0 rfl rfl 1 (by decide) hf7 (fun _ h9 => h9) rfl dX5_about_98 ?_
      refine lv_iconst (v := iI 1) hx hb dX5_about_101 (by decide +kernel) ?_
      refine lv_iload_n hx hb dX5_about_102 rfl (lv_at hl 1 rfl) ?_
      refine iv_add hx hb dX5_about_103 ?_
      refine lv_iconst (v := iI 2) hx hb dX5_about_104 (by decide +kernel) ?_
      refine iv_sub hx hb dX5_about_105 ?_
      refine iv_ald hx hb hK hP 1 0 rfl rfl (z := 1 + w - 2) (by omega) (by omega) (by omega) dX5_about_106 ?_
      have hP9 : va_P D vwCl [(mo, oMo (bI (¬ (0 ≤ w ∧ w ≤ 9))) a1 a2 a3 re a4 a5 a6 tl a7 a8), (a1, aI yI 96 S), (a7, aI yI 1681 Bd)] _ := (hP.sub (ws' := [(mo, oMo 1 a1 a2 a3 re a4 a5 a6 tl a7 a8), (a1, aI yI 96 S), (a7, aI yI 1681 Bd)]) [0, 1, 2] rfl).cv (by first | (exfalso; omega) | rw [bI_f (by omega)] | rw [bI_t (by omega)])
      exact W.iret hx hb hr (fun t ht hW => ⟨⟨iI (S (1 + w - 2)), Bd, rfl, ⟨congrArg iI (show S (1 + w - 2) = abt S w by first | (exfalso; omega) | (subst csw; rfl) | (unfold abt; (repeat (first | rw [if_pos (by omega)] | rw [if_neg (by omega)])))), trivial⟩, by show va_P D vwCl _ t.heap; rw [ht]; exact hP9⟩, hS.F ht⟩) hS.2.2 dX5_about_107
    · refine lv_tableIn (off := 77) (tgt := 97) hx hb dX5_about_20 (by rw [hsw]; omega) (by rw [hsw]; omega) (by rw [hsw, csw]; rfl) (by decide) ?_
      refine lv_aload_n hx hb dX5_about_97 rfl (lv_at hl 0 rfl) ?_
      refine va_get (D := D) (ci := 5) (v := .ref a1) (C := RX5) (T := TX5) (N := 11) hx hb hts hinX5 hown hK hP 0 rfl rfl 1 (by decide) hf7 (fun _ h9 => h9) rfl dX5_about_98 ?_
      refine lv_iconst (v := iI 1) hx hb dX5_about_101 (by decide +kernel) ?_
      refine lv_iload_n hx hb dX5_about_102 rfl (lv_at hl 1 rfl) ?_
      refine iv_add hx hb dX5_about_103 ?_
      refine lv_iconst (v := iI 2) hx hb dX5_about_104 (by decide +kernel) ?_
      refine iv_sub hx hb dX5_about_105 ?_
      refine iv_ald hx hb hK hP 1 0 rfl rfl (z := 1 + w - 2) (by omega) (by omega) (by omega) dX5_about_106 ?_
      have hP9 : va_P D vwCl [(mo, oMo (bI (¬ (0 ≤ w ∧ w ≤ 9))) a1 a2 a3 re a4 a5 a6 tl a7 a8), (a1, aI yI 96 S), (a7, aI yI 1681 Bd)] _ := (hP.sub (ws' := [(mo, oMo 1 a1 a2 a3 re a4 a5 a6 tl a7 a8), (a1, aI yI 96 S), (a7, aI yI 1681 Bd)]) [0, 1, 2] rfl).cv (by first | (exfalso; omega) | rw [bI_f (by omega)] | rw [bI_t (by omega)])
      exact W.iret hx hb hr (fun t ht hW => ⟨⟨iI (S (1 + w - 2)), Bd, rfl, ⟨congrArg iI (show S (1 + w - 2) = abt S w by first | (exfalso; omega) | (subst csw; rfl) | (unfold abt; (repeat (first | rw [if_pos (by omega)] | rw [if_neg (by omega)])))), trivial⟩, by show va_P D vwCl _ t.heap; rw [ht]; exact hP9⟩, hS.F ht⟩) hS.2.2 dX5_about_107
    · refine lv_tableIn (off := 77) (tgt := 97) hx hb dX5_about_20 (by rw [hsw]; omega) (by rw [hsw]; omega) (by rw [hsw, csw]; rfl) (by decide) ?_
      refine lv_aload_n hx hb dX5_about_97 rfl (lv_at hl 0 rfl) ?_
      refine va_get (D := D) (ci := 5) (v := .ref a1) (C := RX5) (T := TX5) (N := 11) hx hb hts hinX5 hown hK hP 0 rfl rfl 1 (by decide) hf7 (fun _ h9 => h9) rfl dX5_about_98 ?_
      refine lv_iconst (v := iI 1) hx hb dX5_about_101 (by decide +kernel) ?_
      refine lv_iload_n hx hb dX5_about_102 rfl (lv_at hl 1 rfl) ?_
      refine iv_add hx hb dX5_about_103 ?_
      refine lv_iconst (v := iI 2) hx hb dX5_about_104 (by decide +kernel) ?_
      refine iv_sub hx hb dX5_about_105 ?_
      refine iv_ald hx hb hK hP 1 0 rfl rfl (z := 1 + w - 2) (by omega) (by omega) (by omega) dX5_about_106 ?_
      have hP9 : va_P D vwCl [(mo, oMo (bI (¬ (0 ≤ w ∧ w ≤ 9))) a1 a2 a3 re a4 a5 a6 tl a7 a8), (a1, aI yI 96 S), (a7, aI yI 1681 Bd)] _ := (hP.sub (ws' := [(mo, oMo 1 a1 a2 a3 re a4 a5 a6 tl a7 a8), (a1, aI yI 96 S), (a7, aI yI 1681 Bd)]) [0, 1, 2] rfl).cv (by first | (exfalso; omega) | rw [bI_f (by omega)] | rw [bI_t (by omega)])
      exact W.iret hx hb hr (fun t ht hW => ⟨⟨iI (S (1 + w - 2)), Bd, rfl, ⟨congrArg iI (show S (1 + w - 2) = abt S w by first | (exfalso; omega) | (subst csw; rfl) | (unfold abt; (repeat (first | rw [if_pos (by omega)] | rw [if_neg (by omega)])))), trivial⟩, by show va_P D vwCl _ t.heap; rw [ht]; exact hP9⟩, hS.F ht⟩) hS.2.2 dX5_about_107
    · refine lv_tableIn (off := 77) (tgt := 97) hx hb dX5_about_20 (by rw [hsw]; omega) (by rw [hsw]; omega) (by rw [hsw, csw]; rfl) (by decide) ?_
      refine lv_aload_n hx hb dX5_about_97 rfl (lv_at hl 0 rfl) ?_
      refine va_get (D := D) (ci := 5) (v := .ref a1) (C := RX5) (T := TX5) (N := 11) hx hb hts hinX5 hown hK hP 0 rfl rfl 1 (by decide) hf7 (fun _ h9 => h9) rfl dX5_about_98 ?_
      refine lv_iconst (v := iI 1) hx hb dX5_about_101 (by decide +kernel) ?_
      refine lv_iload_n hx hb dX5_about_102 rfl (lv_at hl 1 rfl) ?_
      refine iv_add hx hb dX5_about_103 ?_
      refine lv_iconst (v := iI 2) hx hb dX5_about_104 (by decide +kernel) ?_
      refine iv_sub hx hb dX5_about_105 ?_
      refine iv_ald hx hb hK hP 1 0 rfl rfl (z := 1 + w - 2) (by omega) (by omega) (by omega) dX5_about_106 ?_
      have hP9 : va_P D vwCl [(mo, oMo (bI (¬ (0 ≤ w ∧ w ≤ 9))) a1 a2 a3 re a4 a5 a6 tl a7 a8), (a1, aI yI 96 S), (a7, aI yI 1681 Bd)] _ := (hP.sub (ws' := [(mo, oMo 1 a1 a2 a3 re a4 a5 a6 tl a7 a8), (a1, aI yI 96 S), (a7, aI yI 1681 Bd)]) [0, 1, 2] rfl).cv (by first | (exfalso; omega) | rw [bI_f (by omega)] | rw [bI_t (by omega)])
      exact W.iret hx hb hr (fun t ht hW => ⟨⟨iI (S (1 + w - 2)), Bd, rfl, ⟨congrArg iI (show S (1 + w - 2) = abt S w by first | (exfalso; omega) | (subst csw; rfl) | (unfold abt; (repeat (first | rw [if_pos (by omega)] | rw [if_neg (by omega)])))), trivial⟩, by show va_P D vwCl _ t.heap; rw [ht]; exact hP9⟩, hS.F ht⟩) hS.2.2 dX5_about_107
    · refine lv_tableIn (off := 77) (tgt := 97) hx hb dX5_about_20 (by rw [hsw]; omega) (by rw [hsw]; omega) (by rw [hsw, csw]; rfl) (by decide) ?_
      refine lv_aload_n hx hb dX5_about_97 rfl (lv_at hl 0 rfl) ?_
      refine va_get (D := D) (ci := 5) (v := .ref a1) (C := RX5) (T := TX5) (N := 11) hx hb hts hinX5 hown hK hP 0 rfl rfl 1 (by decide) hf7 (fun _ h9 => h9) rfl dX5_about_98 ?_
      refine lv_iconst (v := iI 1) hx hb dX5_about_101 (by decide +kernel) ?_
      refine lv_iload_n hx hb dX5_about_102 rfl (lv_at hl 1 rfl) ?_
      refine iv_add hx hb dX5_about_103 ?_
      refine lv_iconst (v := iI 2) hx hb dX5_about_104 (by decide +kernel) ?_
      refine iv_sub hx hb dX5_about_105 ?_
      refine iv_ald hx hb hK hP 1 0 rfl rfl (z := 1 + w - 2) (by omega) (by omega) (by omega) dX5_about_106 ?_
      have hP9 : va_P D vwCl [(mo, oMo (bI (¬ (0 ≤ w ∧ w ≤ 9))) a1 a2 a3 re a4 a5 a6 tl a7 a8), (a1, aI yI 96 S), (a7, aI yI 1681 Bd)] _ := (hP.sub (ws' := [(mo, oMo 1 a1 a2 a3 re a4 a5 a6 tl a7 a8), (a1, aI yI 96 S), (a7, aI yI 1681 Bd)]) [0, 1, 2] rfl).cv (by first | (exfalso; omega) | rw [bI_f (by omega)] | rw [bI_t (by omega)])
      exact W.iret hx hb hr (fun t ht hW => ⟨⟨iI (S (1 + w - 2)), Bd, rfl, ⟨congrArg iI (show S (1 + w - 2) = abt S w by first | (exfalso; omega) | (subst csw; rfl) | (unfold abt; (repeat (first | rw [if_pos (by omega)] | rw [if_neg (by omega)])))), trivial⟩, by show va_P D vwCl _ t.heap; rw [ht]; exact hP9⟩, hS.F ht⟩) hS.2.2 dX5_about_107
    · refine lv_tableIn (off := 77) (tgt := 97) hx hb dX5_about_20 (by rw [hsw]; omega) (by rw [hsw]; omega) (by rw [hsw, csw]; rfl) (by decide) ?_
      refine lv_aload_n hx hb dX5_about_97 rfl (lv_at hl 0 rfl) ?_
      refine va_get (D := D) (ci := 5) (v := .ref a1) (C := RX5) (T := TX5) (N := 11) hx hb hts hinX5 hown hK hP 0 rfl rfl 1 (by decide) hf7 (fun _ h9 => h9) rfl dX5_about_98 ?_
      refine lv_iconst (v := iI 1) hx hb dX5_about_101 (by decide +kernel) ?_
      refine lv_iload_n hx hb dX5_about_102 rfl (lv_at hl 1 rfl) ?_
      refine iv_add hx hb dX5_about_103 ?_
      refine lv_iconst (v := iI 2) hx hb dX5_about_104 (by decide +kernel) ?_
      refine iv_sub hx hb dX5_about_105 ?_
      refine iv_ald hx hb hK hP 1 0 rfl rfl (z := 1 + w - 2) (by omega) (by omega) (by omega) dX5_about_106 ?_
      have hP9 : va_P D vwCl [(mo, oMo (bI (¬ (0 ≤ w ∧ w ≤ 9))) a1 a2 a3 re a4 a5 a6 tl a7 a8), (a1, aI yI 96 S), (a7, aI yI 1681 Bd)] _ := (hP.sub (ws' := [(mo, oMo 1 a1 a2 a3 re a4 a5 a6 tl a7 a8), (a1, aI yI 96 S), (a7, aI yI 1681 Bd)]) [0, 1, 2] rfl).cv (by first | (exfalso; omega) | rw [bI_f (by omega)] | rw [bI_t (by omega)])
      exact W.iret hx hb hr (fun t ht hW => ⟨⟨iI (S (1 + w - 2)), Bd, rfl, ⟨congrArg iI (show S (1 + w - 2) = abt S w by first | (exfalso; omega) | (subst csw; rfl) | (unfold abt; (repeat (first | rw [if_pos (by omega)] | rw [if_neg (by omega)])))), trivial⟩, by show va_P D vwCl _ t.heap; rw [ht]; exact hP9⟩, hS.F ht⟩) hS.2.2 dX5_about_107
    · refine lv_tableIn (off := 88) (tgt := 108) hx hb dX5_about_20 (by rw [hsw]; omega) (by rw [hsw]; omega) (by rw [hsw, csw]; rfl) (by decide) ?_
      refine lv_aload_n hx hb dX5_about_108 rfl (lv_at hl 0 rfl) ?_
      refine lv_iconst (v := iI (-1)) hx hb dX5_about_109 (by decide +kernel) ?_
      refine iv_rwVv (As := [.int (iI (-1))]) (rest := []) (C := RX5) (n := 1) ⟨hx, hb, hml, hown, hts⟩ (c_X5_findBounds l D yI yC yD mo 1 re tl a1 a2 a3 a4 a5 a6 a7 a8 S Bd (-1) (by assumption) (by omega) _) (cwV 1 hts gX5_about_X5_findBounds rfl rfl rfl (by decide +kernel) ⟨Nat.le_of_ble_eq_true rfl, Nat.le_of_ble_eq_true rfl⟩) hK hP hD hS hA [0, 1, 2] (by decide) rfl 0 rfl rfl rfl hl.1 rfl (Nat.le_of_ble_eq_true rfl) dX5_about_110 ⟨Nat.zero_le _, Nat.zero_le _⟩ (fun _ => rfl) (fun u110 H locs hw110 hP hD hS => ?_)
      have hP : va_P D vwCl [(mo, oMo 1 a1 a2 a3 re a4 a5 a6 tl a7 a8), (a1, aI yI 96 S), (a7, aI yI 1681 (FB S (-1)))] H := hP
      have hD : va_D A [(mo, oMo 1 a1 a2 a3 re a4 a5 a6 tl a7 a8), (a1, aI yI 96 S), (a7, aI yI 1681 (FB S (-1)))] := hD
      refine lv_aload_n hx hb dX5_about_113 rfl (lv_at hl 0 rfl) ?_
      refine lv_aload_n hx hb dX5_about_114 rfl (lv_at hl 0 rfl) ?_
      refine va_get (D := D) (ci := 5) (v := .ref a7) (C := RX5) (T := TX5) (N := 11) hx hb hts hinX5 hown hK hP 0 rfl rfl 9 (by decide) hf28 (fun _ h9 => h9) rfl dX5_about_115 ?_
      refine iv_roV (As := [.ref a7]) (rest := []) (C := RX5) (n := 1) ⟨hx, hb, hml, hown, hts⟩ (c_X5_knownIn l D yI yC yD mo 1 re tl a1 a2 a3 a4 a5 a6 a7 a8 S a7 (FB S (-1)) (by omega) (gb_FB hI _)) (cwV 1 hts gX5_about_X5_knownIn rfl rfl rfl (by decide +kernel) ⟨Nat.le_of_ble_eq_true rfl, Nat.le_of_ble_eq_true rfl⟩) hK hP [0, 1, 2] rfl 0 rfl rfl rfl hl.1 rfl (Nat.le_of_ble_eq_true rfl) dX5_about_118 ⟨Nat.zero_le _, Nat.zero_le _⟩ ?_
      have hP9 : va_P D vwCl [(mo, oMo (bI (¬ (0 ≤ w ∧ w ≤ 9))) a1 a2 a3 re a4 a5 a6 tl a7 a8), (a1, aI yI 96 S), (a7, aI yI 1681 (FB S (-1)))] _ := (hP.sub (ws' := [(mo, oMo 1 a1 a2 a3 re a4 a5 a6 tl a7 a8), (a1, aI yI 96 S), (a7, aI yI 1681 (FB S (-1)))]) [0, 1, 2] rfl).cv (by first | (exfalso; omega) | rw [bI_f (by omega)] | rw [bI_t (by omega)])
      exact W.iret hx hb hr (fun t ht hW => ⟨⟨iI (knownIn (FB S (-1)) (S 0)), (FB S (-1)), rfl, ⟨congrArg iI (show knownIn (FB S (-1)) (S 0) = abt S w by first | (exfalso; omega) | (subst csw; rfl) | (unfold abt; (repeat (first | rw [if_pos (by omega)] | rw [if_neg (by omega)])))), trivial⟩, by show va_P D vwCl _ t.heap; rw [ht]; exact hP9⟩, hS.F ht⟩) hS.2.2 dX5_about_121
  · refine lv_iconst (v := iI 0) hx hb dX5_about_11 (by decide +kernel) ?_
    refine lv_goto (tgt := 16) hx hb dX5_about_12 (by decide) ?_
    refine va_put (D := D) (ci := 5) (v := .int (iI 0)) (ty := .int) (C := RX5) (T := TX5) (N := 11) hx hb hts hinX5 tyX5 tyX5_ok nmX5 hown hK hP hD hS 0 rfl rfl 0 (by decide) hf38 (fun _ h9 => h9) rfl (by decide +kernel) rfl rfl (Nat.le_of_ble_eq_true rfl) dX5_about_16 (fun H locs hP hD hS => ?_)
    have hP : va_P D vwCl [(mo, oMo 0 a1 a2 a3 re a4 a5 a6 tl a7 a8), (a1, aI yI 96 S), (a7, aI yI 1681 Bd)] H := hP
    have hD : va_D A [(mo, oMo 0 a1 a2 a3 re a4 a5 a6 tl a7 a8), (a1, aI yI 96 S), (a7, aI yI 1681 Bd)] := hD
    refine lv_iload_n hx hb dX5_about_19 rfl (lv_at hl 1 rfl) ?_
    have hsw : (iI w).toInt = w := iI_toInt (by omega)
    rcases (show w < 0 ∨ 9 < w ∨ w = 0 ∨ w = 1 ∨ w = 2 ∨ w = 3 ∨ w = 4 ∨ w = 5 ∨ w = 6 ∨ w = 7 ∨ w = 8 ∨ w = 9 by omega) with csw | csw | csw | csw | csw | csw | csw | csw | csw | csw | csw | csw
    · refine lv_tableOut (tgt := 122) hx hb dX5_about_20 (by rw [hsw]; exact Or.inl csw) (by decide) ?_
      refine lv_iconst (v := iI 0) hx hb dX5_about_122 (by decide +kernel) ?_
      have hP9 : va_P D vwCl [(mo, oMo (bI (¬ (0 ≤ w ∧ w ≤ 9))) a1 a2 a3 re a4 a5 a6 tl a7 a8), (a1, aI yI 96 S), (a7, aI yI 1681 Bd)] _ := (hP.sub (ws' := [(mo, oMo 0 a1 a2 a3 re a4 a5 a6 tl a7 a8), (a1, aI yI 96 S), (a7, aI yI 1681 Bd)]) [0, 1, 2] rfl).cv (by first | (exfalso; omega) | rw [bI_f (by omega)] | rw [bI_t (by omega)])
      exact W.iret hx hb hr (fun t ht hW => ⟨⟨iI 0, Bd, rfl, ⟨congrArg iI (show 0 = abt S w by first | (exfalso; omega) | (subst csw; rfl) | (unfold abt; (repeat (first | rw [if_pos (by omega)] | rw [if_neg (by omega)])))), trivial⟩, by show va_P D vwCl _ t.heap; rw [ht]; exact hP9⟩, hS.F ht⟩) hS.2.2 dX5_about_123
    · refine lv_tableOut (tgt := 122) hx hb dX5_about_20 (by rw [hsw]; exact Or.inr csw) (by decide) ?_
      refine lv_iconst (v := iI 0) hx hb dX5_about_122 (by decide +kernel) ?_
      have hP9 : va_P D vwCl [(mo, oMo (bI (¬ (0 ≤ w ∧ w ≤ 9))) a1 a2 a3 re a4 a5 a6 tl a7 a8), (a1, aI yI 96 S), (a7, aI yI 1681 Bd)] _ := (hP.sub (ws' := [(mo, oMo 0 a1 a2 a3 re a4 a5 a6 tl a7 a8), (a1, aI yI 96 S), (a7, aI yI 1681 Bd)]) [0, 1, 2] rfl).cv (by first | (exfalso; omega) | rw [bI_f (by omega)] | rw [bI_t (by omega)])
      exact W.iret hx hb hr (fun t ht hW => ⟨⟨iI 0, Bd, rfl, ⟨congrArg iI (show 0 = abt S w by first | (exfalso; omega) | (subst csw; rfl) | (unfold abt; (repeat (first | rw [if_pos (by omega)] | rw [if_neg (by omega)])))), trivial⟩, by show va_P D vwCl _ t.heap; rw [ht]; exact hP9⟩, hS.F ht⟩) hS.2.2 dX5_about_123
    · refine lv_tableIn (off := 56) (tgt := 76) hx hb dX5_about_20 (by rw [hsw]; omega) (by rw [hsw]; omega) (by rw [hsw, csw]; rfl) (by decide) ?_
      refine lv_aload_n hx hb dX5_about_76 rfl (lv_at hl 0 rfl) ?_
      refine va_get (D := D) (ci := 5) (v := .ref a1) (C := RX5) (T := TX5) (N := 11) hx hb hts hinX5 hown hK hP 0 rfl rfl 1 (by decide) hf7 (fun _ h9 => h9) rfl dX5_about_77 ?_
      refine lv_iconst (v := iI 0) hx hb dX5_about_80 (by decide +kernel) ?_
      refine iv_ald hx hb hK hP 1 0 rfl rfl (z := 0) (by omega) (by omega) (by omega) dX5_about_81 ?_
      have hP9 : va_P D vwCl [(mo, oMo (bI (¬ (0 ≤ w ∧ w ≤ 9))) a1 a2 a3 re a4 a5 a6 tl a7 a8), (a1, aI yI 96 S), (a7, aI yI 1681 Bd)] _ := (hP.sub (ws' := [(mo, oMo 0 a1 a2 a3 re a4 a5 a6 tl a7 a8), (a1, aI yI 96 S), (a7, aI yI 1681 Bd)]) [0, 1, 2] rfl).cv (by first | (exfalso; omega) | rw [bI_f (by omega)] | rw [bI_t (by omega)])
      exact W.iret hx hb hr (fun t ht hW => ⟨⟨iI (S 0), Bd, rfl, ⟨congrArg iI (show S 0 = abt S w by first | (exfalso; omega) | (subst csw; rfl) | (unfold abt; (repeat (first | rw [if_pos (by omega)] | rw [if_neg (by omega)])))), trivial⟩, by show va_P D vwCl _ t.heap; rw [ht]; exact hP9⟩, hS.F ht⟩) hS.2.2 dX5_about_82
    · refine lv_tableIn (off := 63) (tgt := 83) hx hb dX5_about_20 (by rw [hsw]; omega) (by rw [hsw]; omega) (by rw [hsw, csw]; rfl) (by decide) ?_
      refine lv_aload_n hx hb dX5_about_83 rfl (lv_at hl 0 rfl) ?_
      refine lv_iconst (v := iI 0) hx hb dX5_about_84 (by decide +kernel) ?_
      refine lv_aload_n hx hb dX5_about_85 rfl (lv_at hl 0 rfl) ?_
      refine va_get (D := D) (ci := 5) (v := .ref a1) (C := RX5) (T := TX5) (N := 11) hx hb hts hinX5 hown hK hP 0 rfl rfl 1 (by decide) hf7 (fun _ h9 => h9) rfl dX5_about_86 ?_
      refine lv_iconst (v := iI 0) hx hb dX5_about_89 (by decide +kernel) ?_
      refine iv_ald hx hb hK hP 1 0 rfl rfl (z := 0) (by omega) (by omega) (by omega) dX5_about_90 ?_
      refine lv_iconst (v := iI 1) hx hb dX5_about_91 (by decide +kernel) ?_
      refine iv_sub hx hb dX5_about_92 ?_
      refine iv_roV (As := [.int (iI 0), .int (iI (S 0 - 1))]) (rest := []) (C := RX5) (n := 2) ⟨hx, hb, hml, hown, hts⟩ (c_X5_keysIn l D yI yC yD mo 0 re tl a1 a2 a3 a4 a5 a6 a7 a8 S 0 (S 0 - 1) (by omega)) (cwV 2 hts gX5_about_X5_keysIn rfl rfl rfl (by decide +kernel) ⟨Nat.le_of_ble_eq_true rfl, Nat.le_of_ble_eq_true rfl⟩) hK hP [0, 1] rfl 0 rfl rfl rfl hl.1 rfl (Nat.le_of_ble_eq_true rfl) dX5_about_93 ⟨Nat.zero_le _, Nat.zero_le _⟩ ?_
      have hP9 : va_P D vwCl [(mo, oMo (bI (¬ (0 ≤ w ∧ w ≤ 9))) a1 a2 a3 re a4 a5 a6 tl a7 a8), (a1, aI yI 96 S), (a7, aI yI 1681 Bd)] _ := (hP.sub (ws' := [(mo, oMo 0 a1 a2 a3 re a4 a5 a6 tl a7 a8), (a1, aI yI 96 S), (a7, aI yI 1681 Bd)]) [0, 1, 2] rfl).cv (by first | (exfalso; omega) | rw [bI_f (by omega)] | rw [bI_t (by omega)])
      exact W.iret hx hb hr (fun t ht hW => ⟨⟨iI (keysIn S 0 (S 0 - 1)), Bd, rfl, ⟨congrArg iI (show keysIn S 0 (S 0 - 1) = abt S w by first | (exfalso; omega) | (subst csw; rfl) | (unfold abt; (repeat (first | rw [if_pos (by omega)] | rw [if_neg (by omega)])))), trivial⟩, by show va_P D vwCl _ t.heap; rw [ht]; exact hP9⟩, hS.F ht⟩) hS.2.2 dX5_about_96
    · refine lv_tableIn (off := 77) (tgt := 97) hx hb dX5_about_20 (by rw [hsw]; omega) (by rw [hsw]; omega) (by rw [hsw, csw]; rfl) (by decide) ?_
      refine lv_aload_n hx hb dX5_about_97 rfl (lv_at hl 0 rfl) ?_
      refine va_get (D := D) (ci := 5) (v := .ref a1) (C := RX5) (T := TX5) (N := 11) hx hb hts hinX5 hown hK hP 0 rfl rfl 1 (by decide) hf7 (fun _ h9 => h9) rfl dX5_about_98 ?_
      refine lv_iconst (v := iI 1) hx hb dX5_about_101 (by decide +kernel) ?_
      refine lv_iload_n hx hb dX5_about_102 rfl (lv_at hl 1 rfl) ?_
      refine iv_add hx hb dX5_about_103 ?_
      refine lv_iconst (v := iI 2) hx hb dX5_about_104 (by decide +kernel) ?_
      refine iv_sub hx hb dX5_about_105 ?_
      refine iv_ald hx hb hK hP 1 0 rfl rfl (z := 1 + w - 2) (by omega) (by omega) (by omega) dX5_about_106 ?_
      have hP9 : va_P D vwCl [(mo, oMo (bI (¬ (0 ≤ w ∧ w ≤ 9))) a1 a2 a3 re a4 a5 a6 tl a7 a8), (a1, aI yI 96 S), (a7, aI yI 1681 Bd)] _ := (hP.sub (ws' := [(mo, oMo 0 a1 a2 a3 re a4 a5 a6 tl a7 a8), (a1, aI yI 96 S), (a7, aI yI 1681 Bd)]) [0, 1, 2] rfl).cv (by first | (exfalso; omega) | rw [bI_f (by omega)] | rw [bI_t (by omega)])
      exact W.iret hx hb hr (fun t ht hW => ⟨⟨iI (S (1 + w - 2)), Bd, rfl, ⟨congrArg iI (show S (1 + w - 2) = abt S w by first | (exfalso; omega) | (subst csw; rfl) | (unfold abt; (repeat (first | rw [if_pos (by omega)] | rw [if_neg (by omega)])))), trivial⟩, by show va_P D vwCl _ t.heap; rw [ht]; exact hP9⟩, hS.F ht⟩) hS.2.2 dX5_about_107
    · refine lv_tableIn (off := 77) (tgt := 97) hx hb dX5_about_20 (by rw [hsw]; omega) (by rw [hsw]; omega) (by rw [hsw, csw]; rfl) (by decide) ?_
      refine lv_aload_n hx hb dX5_about_97 rfl (lv_at hl 0 rfl) ?_
      refine va_get (D := D) (ci := 5) (v := .ref a1) (C := RX5) (T := TX5) (N := 11) hx hb hts hinX5 hown hK hP 0 rfl rfl 1 (by decide) hf7 (fun _ h9 => h9) rfl dX5_about_98 ?_
      refine lv_iconst (v := iI 1) hx hb dX5_about_101 (by decide +kernel) ?_
      refine lv_iload_n hx hb dX5_about_102 rfl (lv_at hl 1 rfl) ?_
      refine iv_add hx hb dX5_about_103 ?_
      refine lv_iconst (v := iI 2) hx hb dX5_about_104 (by decide +kernel) ?_
      refine iv_sub hx hb dX5_about_105 ?_
      refine iv_ald hx hb hK hP 1 0 rfl rfl (z := 1 + w - 2) (by omega) (by omega) (by omega) dX5_about_106 ?_
      have hP9 : va_P D vwCl [(mo, oMo (bI (¬ (0 ≤ w ∧ w ≤ 9))) a1 a2 a3 re a4 a5 a6 tl a7 a8), (a1, aI yI 96 S), (a7, aI yI 1681 Bd)] _ := (hP.sub (ws' := [(mo, oMo 0 a1 a2 a3 re a4 a5 a6 tl a7 a8), (a1, aI yI 96 S), (a7, aI yI 1681 Bd)]) [0, 1, 2] rfl).cv (by first | (exfalso; omega) | rw [bI_f (by omega)] | rw [bI_t (by omega)])
      exact W.iret hx hb hr (fun t ht hW => ⟨⟨iI (S (1 + w - 2)), Bd, rfl, ⟨congrArg iI (show S (1 + w - 2) = abt S w by first | (exfalso; omega) | (subst csw; rfl) | (unfold abt; (repeat (first | rw [if_pos (by omega)] | rw [if_neg (by omega)])))), trivial⟩, by show va_P D vwCl _ t.heap; rw [ht]; exact hP9⟩, hS.F ht⟩) hS.2.2 dX5_about_107
    · refine lv_tableIn (off := 77) (tgt := 97) hx hb dX5_about_20 (by rw [hsw]; omega) (by rw [hsw]; omega) (by rw [hsw, csw]; rfl) (by decide) ?_
      refine lv_aload_n hx hb dX5_about_97 rfl (lv_at hl 0 rfl) ?_
      refine va_get (D := D) (ci := 5) (v := .ref a1) (C := RX5) (T := TX5) (N := 11) hx hb hts hinX5 hown hK hP 0 rfl rfl 1 (by decide) hf7 (fun _ h9 => h9) rfl dX5_about_98 ?_
      refine lv_iconst (v := iI 1) hx hb dX5_about_101 (by decide +kernel) ?_
      refine lv_iload_n hx hb dX5_about_102 rfl (lv_at hl 1 rfl) ?_
      refine iv_add hx hb dX5_about_103 ?_
      refine lv_iconst (v := iI 2) hx hb dX5_about_104 (by decide +kernel) ?_
      refine iv_sub hx hb dX5_about_105 ?_
      refine iv_ald hx hb hK hP 1 0 rfl rfl (z := 1 + w - 2) (by omega) (by omega) (by omega) dX5_about_106 ?_
      have hP9 : va_P D vwCl [(mo, oMo (bI (¬ (0 ≤ w ∧ w ≤ 9))) a1 a2 a3 re a4 a5 a6 tl a7 a8), (a1, aI yI 96 S), (a7, aI yI 1681 Bd)] _ := (hP.sub (ws' := [(mo, oMo 0 a1 a2 a3 re a4 a5 a6 tl a7 a8), (a1, aI yI 96 S), (a7, aI yI 1681 Bd)]) [0, 1, 2] rfl).cv (by first | (exfalso; omega) | rw [bI_f (by omega)] | rw [bI_t (by omega)])
      exact W.iret hx hb hr (fun t ht hW => ⟨⟨iI (S (1 + w - 2)), Bd, rfl, ⟨congrArg iI (show S (1 + w - 2) = abt S w by first | (exfalso; omega) | (subst csw; rfl) | (unfold abt; (repeat (first | rw [if_pos (by omega)] | rw [if_neg (by omega)])))), trivial⟩, by show va_P D vwCl _ t.heap; rw [ht]; exact hP9⟩, hS.F ht⟩) hS.2.2 dX5_about_107
    · refine lv_tableIn (off := 77) (tgt := 97) hx hb dX5_about_20 (by rw [hsw]; omega) (by rw [hsw]; omega) (by rw [hsw, csw]; rfl) (by decide) ?_
      refine lv_aload_n hx hb dX5_about_97 rfl (lv_at hl 0 rfl) ?_
      refine va_get (D := D) (ci := 5) (v := .ref a1) (C := RX5) (T := TX5) (N := 11) hx hb hts hinX5 hown hK hP 0 rfl rfl 1 (by decide) hf7 (fun _ h9 => h9) rfl dX5_about_98 ?_
      refine lv_iconst (v := iI 1) hx hb dX5_about_101 (by decide +kernel) ?_
      refine lv_iload_n hx hb dX5_about_102 rfl (lv_at hl 1 rfl) ?_
      refine iv_add hx hb dX5_about_103 ?_
      refine lv_iconst (v := iI 2) hx hb dX5_about_104 (by decide +kernel) ?_
      refine iv_sub hx hb dX5_about_105 ?_
      refine iv_ald hx hb hK hP 1 0 rfl rfl (z := 1 + w - 2) (by omega) (by omega) (by omega) dX5_about_106 ?_
      have hP9 : va_P D vwCl [(mo, oMo (bI (¬ (0 ≤ w ∧ w ≤ 9))) a1 a2 a3 re a4 a5 a6 tl a7 a8), (a1, aI yI 96 S), (a7, aI yI 1681 Bd)] _ := (hP.sub (ws' := [(mo, oMo 0 a1 a2 a3 re a4 a5 a6 tl a7 a8), (a1, aI yI 96 S), (a7, aI yI 1681 Bd)]) [0, 1, 2] rfl).cv (by first | (exfalso; omega) | rw [bI_f (by omega)] | rw [bI_t (by omega)])
      exact W.iret hx hb hr (fun t ht hW => ⟨⟨iI (S (1 + w - 2)), Bd, rfl, ⟨congrArg iI (show S (1 + w - 2) = abt S w by first | (exfalso; omega) | (subst csw; rfl) | (unfold abt; (repeat (first | rw [if_pos (by omega)] | rw [if_neg (by omega)])))), trivial⟩, by show va_P D vwCl _ t.heap; rw [ht]; exact hP9⟩, hS.F ht⟩) hS.2.2 dX5_about_107
    · refine lv_tableIn (off := 77) (tgt := 97) hx hb dX5_about_20 (by rw [hsw]; omega) (by rw [hsw]; omega) (by rw [hsw, csw]; rfl) (by decide) ?_
      refine lv_aload_n hx hb dX5_about_97 rfl (lv_at hl 0 rfl) ?_
      refine va_get (D := D) (ci := 5) (v := .ref a1) (C := RX5) (T := TX5) (N := 11) hx hb hts hinX5 hown hK hP 0 rfl rfl 1 (by decide) hf7 (fun _ h9 => h9) rfl dX5_about_98 ?_
      refine lv_iconst (v := iI 1) hx hb dX5_about_101 (by decide +kernel) ?_
      refine lv_iload_n hx hb dX5_about_102 rfl (lv_at hl 1 rfl) ?_
      refine iv_add hx hb dX5_about_103 ?_
      refine lv_iconst (v := iI 2) hx hb dX5_about_104 (by decide +kernel) ?_
      refine iv_sub hx hb dX5_about_105 ?_
      refine iv_ald hx hb hK hP 1 0 rfl rfl (z := 1 + w - 2) (by omega) (by omega) (by omega) dX5_about_106 ?_
      have hP9 : va_P D vwCl [(mo, oMo (bI (¬ (0 ≤ w ∧ w ≤ 9))) a1 a2 a3 re a4 a5 a6 tl a7 a8), (a1, aI yI 96 S), (a7, aI yI 1681 Bd)] _ := (hP.sub (ws' := [(mo, oMo 0 a1 a2 a3 re a4 a5 a6 tl a7 a8), (a1, aI yI 96 S), (a7, aI yI 1681 Bd)]) [0, 1, 2] rfl).cv (by first | (exfalso; omega) | rw [bI_f (by omega)] | rw [bI_t (by omega)])
      exact W.iret hx hb hr (fun t ht hW => ⟨⟨iI (S (1 + w - 2)), Bd, rfl, ⟨congrArg iI (show S (1 + w - 2) = abt S w by first | (exfalso; omega) | (subst csw; rfl) | (unfold abt; (repeat (first | rw [if_pos (by omega)] | rw [if_neg (by omega)])))), trivial⟩, by show va_P D vwCl _ t.heap; rw [ht]; exact hP9⟩, hS.F ht⟩) hS.2.2 dX5_about_107
    · refine lv_tableIn (off := 77) (tgt := 97) hx hb dX5_about_20 (by rw [hsw]; omega) (by rw [hsw]; omega) (by rw [hsw, csw]; rfl) (by decide) ?_
      refine lv_aload_n hx hb dX5_about_97 rfl (lv_at hl 0 rfl) ?_
      refine va_get (D := D) (ci := 5) (v := .ref a1) (C := RX5) (T := TX5) (N := 11) hx hb hts hinX5 hown hK hP 0 rfl rfl 1 (by decide) hf7 (fun _ h9 => h9) rfl dX5_about_98 ?_
      refine lv_iconst (v := iI 1) hx hb dX5_about_101 (by decide +kernel) ?_
      refine lv_iload_n hx hb dX5_about_102 rfl (lv_at hl 1 rfl) ?_
      refine iv_add hx hb dX5_about_103 ?_
      refine lv_iconst (v := iI 2) hx hb dX5_about_104 (by decide +kernel) ?_
      refine iv_sub hx hb dX5_about_105 ?_
      refine iv_ald hx hb hK hP 1 0 rfl rfl (z := 1 + w - 2) (by omega) (by omega) (by omega) dX5_about_106 ?_
      have hP9 : va_P D vwCl [(mo, oMo (bI (¬ (0 ≤ w ∧ w ≤ 9))) a1 a2 a3 re a4 a5 a6 tl a7 a8), (a1, aI yI 96 S), (a7, aI yI 1681 Bd)] _ := (hP.sub (ws' := [(mo, oMo 0 a1 a2 a3 re a4 a5 a6 tl a7 a8), (a1, aI yI 96 S), (a7, aI yI 1681 Bd)]) [0, 1, 2] rfl).cv (by first | (exfalso; omega) | rw [bI_f (by omega)] | rw [bI_t (by omega)])
      exact W.iret hx hb hr (fun t ht hW => ⟨⟨iI (S (1 + w - 2)), Bd, rfl, ⟨congrArg iI (show S (1 + w - 2) = abt S w by first | (exfalso; omega) | (subst csw; rfl) | (unfold abt; (repeat (first | rw [if_pos (by omega)] | rw [if_neg (by omega)])))), trivial⟩, by show va_P D vwCl _ t.heap; rw [ht]; exact hP9⟩, hS.F ht⟩) hS.2.2 dX5_about_107
    · refine lv_tableIn (off := 77) (tgt := 97) hx hb dX5_about_20 (by rw [hsw]; omega) (by rw [hsw]; omega) (by rw [hsw, csw]; rfl) (by decide) ?_
      refine lv_aload_n hx hb dX5_about_97 rfl (lv_at hl 0 rfl) ?_
      refine va_get (D := D) (ci := 5) (v := .ref a1) (C := RX5) (T := TX5) (N := 11) hx hb hts hinX5 hown hK hP 0 rfl rfl 1 (by decide) hf7 (fun _ h9 => h9) rfl dX5_about_98 ?_
      refine lv_iconst (v := iI 1) hx hb dX5_about_101 (by decide +kernel) ?_
      refine lv_iload_n hx hb dX5_about_102 rfl (lv_at hl 1 rfl) ?_
      refine iv_add hx hb dX5_about_103 ?_
      refine lv_iconst (v := iI 2) hx hb dX5_about_104 (by decide +kernel) ?_
      refine iv_sub hx hb dX5_about_105 ?_
      refine iv_ald hx hb hK hP 1 0 rfl rfl (z := 1 + w - 2) (by omega) (by omega) (by omega) dX5_about_106 ?_
      have hP9 : va_P D vwCl [(mo, oMo (bI (¬ (0 ≤ w ∧ w ≤ 9))) a1 a2 a3 re a4 a5 a6 tl a7 a8), (a1, aI yI 96 S), (a7, aI yI 1681 Bd)] _ := (hP.sub (ws' := [(mo, oMo 0 a1 a2 a3 re a4 a5 a6 tl a7 a8), (a1, aI yI 96 S), (a7, aI yI 1681 Bd)]) [0, 1, 2] rfl).cv (by first | (exfalso; omega) | rw [bI_f (by omega)] | rw [bI_t (by omega)])
      exact W.iret hx hb hr (fun t ht hW => ⟨⟨iI (S (1 + w - 2)), Bd, rfl, ⟨congrArg iI (show S (1 + w - 2) = abt S w by first | (exfalso; omega) | (subst csw; rfl) | (unfold abt; (repeat (first | rw [if_pos (by omega)] | rw [if_neg (by omega)])))), trivial⟩, by show va_P D vwCl _ t.heap; rw [ht]; exact hP9⟩, hS.F ht⟩) hS.2.2 dX5_about_107
    · refine lv_tableIn (off := 88) (tgt := 108) hx hb dX5_about_20 (by rw [hsw]; omega) (by rw [hsw]; omega) (by rw [hsw, csw]; rfl) (by decide) ?_
      refine lv_aload_n hx hb dX5_about_108 rfl (lv_at hl 0 rfl) ?_
      refine lv_iconst (v := iI (-1)) hx hb dX5_about_109 (by decide +kernel) ?_
      refine iv_rwVv (As := [.int (iI (-1))]) (rest := []) (C := RX5) (n := 1) ⟨hx, hb, hml, hown, hts⟩ (c_X5_findBounds l D yI yC yD mo 0 re tl a1 a2 a3 a4 a5 a6 a7 a8 S Bd (-1) (by assumption) (by omega) _) (cwV 1 hts gX5_about_X5_findBounds rfl rfl rfl (by decide +kernel) ⟨Nat.le_of_ble_eq_true rfl, Nat.le_of_ble_eq_true rfl⟩) hK hP hD hS hA [0, 1, 2] (by decide) rfl 0 rfl rfl rfl hl.1 rfl (Nat.le_of_ble_eq_true rfl) dX5_about_110 ⟨Nat.zero_le _, Nat.zero_le _⟩ (fun _ => rfl) (fun u110 H locs hw110 hP hD hS => ?_)
      have hP : va_P D vwCl [(mo, oMo 0 a1 a2 a3 re a4 a5 a6 tl a7 a8), (a1, aI yI 96 S), (a7, aI yI 1681 (FB S (-1)))] H := hP
      have hD : va_D A [(mo, oMo 0 a1 a2 a3 re a4 a5 a6 tl a7 a8), (a1, aI yI 96 S), (a7, aI yI 1681 (FB S (-1)))] := hD
      refine lv_aload_n hx hb dX5_about_113 rfl (lv_at hl 0 rfl) ?_
      refine lv_aload_n hx hb dX5_about_114 rfl (lv_at hl 0 rfl) ?_
      refine va_get (D := D) (ci := 5) (v := .ref a7) (C := RX5) (T := TX5) (N := 11) hx hb hts hinX5 hown hK hP 0 rfl rfl 9 (by decide) hf28 (fun _ h9 => h9) rfl dX5_about_115 ?_
      refine iv_roV (As := [.ref a7]) (rest := []) (C := RX5) (n := 1) ⟨hx, hb, hml, hown, hts⟩ (c_X5_knownIn l D yI yC yD mo 0 re tl a1 a2 a3 a4 a5 a6 a7 a8 S a7 (FB S (-1)) (by omega) (gb_FB hI _)) (cwV 1 hts gX5_about_X5_knownIn rfl rfl rfl (by decide +kernel) ⟨Nat.le_of_ble_eq_true rfl, Nat.le_of_ble_eq_true rfl⟩) hK hP [0, 1, 2] rfl 0 rfl rfl rfl hl.1 rfl (Nat.le_of_ble_eq_true rfl) dX5_about_118 ⟨Nat.zero_le _, Nat.zero_le _⟩ ?_
      have hP9 : va_P D vwCl [(mo, oMo (bI (¬ (0 ≤ w ∧ w ≤ 9))) a1 a2 a3 re a4 a5 a6 tl a7 a8), (a1, aI yI 96 S), (a7, aI yI 1681 (FB S (-1)))] _ := (hP.sub (ws' := [(mo, oMo 0 a1 a2 a3 re a4 a5 a6 tl a7 a8), (a1, aI yI 96 S), (a7, aI yI 1681 (FB S (-1)))]) [0, 1, 2] rfl).cv (by first | (exfalso; omega) | rw [bI_f (by omega)] | rw [bI_t (by omega)])
      exact W.iret hx hb hr (fun t ht hW => ⟨⟨iI (knownIn (FB S (-1)) (S 0)), (FB S (-1)), rfl, ⟨congrArg iI (show knownIn (FB S (-1)) (S 0) = abt S w by first | (exfalso; omega) | (subst csw; rfl) | (unfold abt; (repeat (first | rw [if_pos (by omega)] | rw [if_neg (by omega)])))), trivial⟩, by show va_P D vwCl _ t.heap; rw [ht]; exact hP9⟩, hS.F ht⟩) hS.2.2 dX5_about_121
set_option maxHeartbeats 4000000 in
set_option maxRecDepth 100000 in
theorem c_X5_remember (l : Launch) (D : va_G) (yI yC yD : ClassId) (mo : Nat) (th : Int) (re : Int) (tl : Int) (a1 : Nat) (a2 : Nat) (a3 : Nat) (a4 : Nat) (a5 : Nat) (a6 : Nat) (a7 : Nat) (a8 : Nat) (S : Int → Int) (Hh : Int → Int) (hre : 0 ≤ re ∧ re ≤ 14) (sz : Nat) : Met l yX5_remember wsX5_remember ({ frames := 1, cells := 0, slots := 0, locals := 24 }) (rwP [.ref mo] D (tyz yI yC yD) [(mo, oMo th a1 a2 a3 re a4 a5 a6 tl a7 a8), (a1, aI yI 96 S), (a3, aI yI 1344 Hh)] sz) (va_Qv (fun (_ : Unit) => True) (fun (_ : Unit) (t : State) => va_P D vwCl [(mo, oMo th a1 a2 a3 (remR re + 1) a4 a5 a6 tl a7 a8), (a1, aI yI 96 S), (a3, aI yI 1344 (remH S Hh re))] t.heap) (va_A [(mo, oMo th a1 a2 a3 re a4 a5 a6 tl a7 a8), (a1, aI yI 96 S), (a3, aI yI 1344 Hh)] sz)) 0 0 (va_A [(mo, oMo th a1 a2 a3 re a4 a5 a6 tl a7 a8), (a1, aI yI 96 S), (a3, aI yI 1344 Hh)] sz) := by
  refine Met.ofW (cc := cX5_remember) (maxL := 2) (ret := none) (by decide) rfl ?_
  intro p e s m args below meth c s₁ B hml hv
  obtain ⟨rfl, hsz, hP, hK, hD0⟩ := hv
  have hx := B.exec
  have hb := B.bytes
  have hr := B.returns
  have hts := atoms_spec (ws := wsX5_remember) B.pre
  have hown : s.vm.findClass RX5 = some m.cls := findClass_of_methodNamed B.named
  have hlocks := B.notSynchronized
  subst hsz
  have hD := hD0.self (sz := s.heap.size)
  generalize hAe : va_A [(mo, oMo th a1 a2 a3 re a4 a5 a6 tl a7 a8), (a1, aI yI 96 S), (a3, aI yI 1344 Hh)] s.heap.size = A at hD ⊢
  have hA : ∀ q : Nat, s.heap.size ≤ q → A q := fun q h => by rw [← hAe]; exact Or.inr h
  have hS : va_S A s.heap s.heap [] := va_S.rf
  have hP : va_P D vwCl [(mo, oMo th a1 a2 a3 re a4 a5 a6 tl a7 a8), (a1, aI yI 96 S), (a3, aI yI 1344 Hh)] s.heap := hP
  have hinX5 : ∀ w ∈ wsX50, w ∈ wsX5_remember := by decide +kernel
  have hf7 : (Cond.fieldLink RX5 7 "RiddleDriveModel" "state" "[I").before _ s = true := hts _ (by decide +kernel)
  have hf16 : (Cond.fieldLink RX5 16 "RiddleDriveModel" "history" "[I").before _ s = true := hts _ (by decide +kernel)
  have hf105 : (Cond.fieldLink RX5 105 "RiddleDriveModel" "remembered" "I").before _ s = true := hts _ (by decide +kernel)
  have hl := lv_entry ([.ref mo]) (n := 2) (Nat.le_of_ble_eq_true rfl)
  rw [lg_entry_eq]
  generalize (lg_sl ([.ref mo]) ++ List.replicate (2 - (lg_sl ([.ref mo])).length) Slot.unset).toArray = ls at hl ⊢
  have hl : lv_has ls 2 [(0, .ref mo)] := hl
  refine lv_aload_n hx hb dX5_remember_0 rfl (lv_at hl 0 rfl) ?_
  refine va_get (D := D) (ci := 5) (v := .int (iI re)) (C := RX5) (T := TX5) (N := 11) hx hb hts hinX5 hown hK hP 0 rfl rfl 4 (by decide) hf105 (fun _ h9 => h9) rfl dX5_remember_1 ?_
  refine lv_bipush (v := iI 14) hx hb dX5_remember_4 (by decide +kernel) ?_
  refine iv_icmp_ne (a := re) (b := 14) (tgt := 49) hx hb (by omega) (by omega) dX5_remember_6 (by decide) (fun c6 => ?_) (fun c6 => ?_)
  · refine lv_aload_n hx hb dX5_remember_49 rfl (lv_at hl 0 rfl) ?_
    refine va_get (D := D) (ci := 5) (v := .ref a1) (C := RX5) (T := TX5) (N := 11) hx hb hts hinX5 hown hK hP 0 rfl rfl 1 (by decide) hf7 (fun _ h9 => h9) rfl dX5_remember_50 ?_
    refine lv_iconst (v := iI 0) hx hb dX5_remember_53 (by decide +kernel) ?_
    refine lv_aload_n hx hb dX5_remember_54 rfl (lv_at hl 0 rfl) ?_
    refine va_get (D := D) (ci := 5) (v := .ref a3) (C := RX5) (T := TX5) (N := 11) hx hb hts hinX5 hown hK hP 0 rfl rfl 3 (by decide) hf16 (fun _ h9 => h9) rfl dX5_remember_55 ?_
    refine lv_aload_n hx hb dX5_remember_58 rfl (lv_at hl 0 rfl) ?_
    refine va_get (D := D) (ci := 5) (v := .int (iI re)) (C := RX5) (T := TX5) (N := 11) hx hb hts hinX5 hown hK hP 0 rfl rfl 4 (by decide) hf105 (fun _ h9 => h9) rfl dX5_remember_59 ?_
    refine lv_bipush (v := iI 96) hx hb dX5_remember_62 (by decide +kernel) ?_
    refine iv_mul hx hb dX5_remember_64 ?_
    refine iv_rwSv (As := [.ref a1, .int (iI 0), .ref a3, .int (iI (re * 96))]) (rest := []) (n := 4) ⟨hx, hb, hml, hown, hts⟩ (c_X5_copy l D yI yC yD a1 a3 96 1344 S Hh 0 (re * 96) (by omega) (by omega) (by omega) _) (va_cwS 4 hts gX5_remember_X5_copy rfl rfl rfl (by decide +kernel) ⟨Nat.le_of_ble_eq_true rfl, Nat.le_of_ble_eq_true rfl⟩) hK hP hD hS hA [1, 2] (by decide) rfl rfl hl.1 rfl (Nat.le_of_ble_eq_true rfl) dX5_remember_65 ⟨Nat.zero_le _, Nat.zero_le _⟩ (fun _ => rfl) (fun u65 H locs hw65 hP hD hS => ?_)
    have hP : va_P D vwCl [(mo, oMo th a1 a2 a3 re a4 a5 a6 tl a7 a8), (a1, aI yI 96 S), (a3, aI yI 1344 (cpy S Hh 0 (re * 96)))] H := hP
    have hD : va_D A [(mo, oMo th a1 a2 a3 re a4 a5 a6 tl a7 a8), (a1, aI yI 96 S), (a3, aI yI 1344 (cpy S Hh 0 (re * 96)))] := hD
    refine lv_aload_n hx hb dX5_remember_68 rfl (lv_at hl 0 rfl) ?_
    refine lv_dup hx hb dX5_remember_69 rfl ?_
    refine va_get (D := D) (ci := 5) (v := .int (iI re)) (C := RX5) (T := TX5) (N := 11) hx hb hts hinX5 hown hK hP 0 rfl rfl 4 (by decide) hf105 (fun _ h9 => h9) rfl dX5_remember_70 ?_
    refine lv_iconst (v := iI 1) hx hb dX5_remember_73 (by decide +kernel) ?_
    refine iv_add hx hb dX5_remember_74 ?_
    refine va_put (D := D) (ci := 5) (v := .int (iI (re + 1))) (ty := .int) (C := RX5) (T := TX5) (N := 11) hx hb hts hinX5 tyX5 tyX5_ok nmX5 hown hK hP hD hS 0 rfl rfl 4 (by decide) hf105 (fun _ h9 => h9) rfl (by decide +kernel) rfl rfl (Nat.le_of_ble_eq_true rfl) dX5_remember_75 (fun H locs hP hD hS => ?_)
    have hP : va_P D vwCl [(mo, oMo th a1 a2 a3 (re + 1) a4 a5 a6 tl a7 a8), (a1, aI yI 96 S), (a3, aI yI 1344 (cpy S Hh 0 (re * 96)))] H := hP
    have hD : va_D A [(mo, oMo th a1 a2 a3 (re + 1) a4 a5 a6 tl a7 a8), (a1, aI yI 96 S), (a3, aI yI 1344 (cpy S Hh 0 (re * 96)))] := hD
    have hP9 : va_P D vwCl [(mo, oMo th a1 a2 a3 (remR re + 1) a4 a5 a6 tl a7 a8), (a1, aI yI 96 S), (a3, aI yI 1344 (remH S Hh re))] _ := (hP.sub (ws' := [(mo, oMo th a1 a2 a3 (re + 1) a4 a5 a6 tl a7 a8), (a1, aI yI 96 S), (a3, aI yI 1344 (cpy S Hh 0 (re * 96)))]) [0, 1, 2] rfl).cv (by first | (have e : k = 1248 := (by omega); subst e; subst hG; unfold remH remB remR; rw [if_pos c6, if_pos c6, c6]; rfl) | (unfold remH remB remR; rw [if_neg c6, if_neg c6]))
    exact W.vret hx hb hr (fun t ht hW => ⟨⟨(), rfl, trivial, by show va_P D vwCl _ t.heap; rw [ht]; exact hP9⟩, hS.F ht⟩) hS.2.2 dX5_remember_78
  · refine lv_iconst (v := iI 0) hx hb dX5_remember_9 (by decide +kernel) ?_
    refine lv_istore_n (lv' := [(1, .int (iI 0)), (0, .ref mo)]) hx hb dX5_remember_10 rfl hl (by decide) rfl (fun ls hl => ?_)
    refine iv_loop (I := fun (qq : Nat × Int × (Int → Int)) H locs ls => match qq with | (k, x1, G) => (k ≤ 1248) ∧ (x1 = k) ∧ (G = shH Hh k) ∧ va_P D vwCl [(mo, oMo th a1 a2 a3 re a4 a5 a6 tl a7 a8), (a1, aI yI 96 S), (a3, aI yI 1344 G)] H ∧ va_D A [(mo, oMo th a1 a2 a3 re a4 a5 a6 tl a7 a8), (a1, aI yI 96 S), (a3, aI yI 1344 G)] ∧ va_S A s.heap H locs ∧ lv_has ls 2 [(1, .int (iI x1)), (0, .ref mo)]) (μ := fun (qq : Nat × Int × (Int → Int)) => match qq with | (k, x1, G) => 1248 - k) (0, 0, Hh) ?_ ?_
    · exact ⟨by omega, by omega, shH_0, hP, hD, hS, lv_sub hl [0, 1] rfl⟩
    · intro qq H locs ls hI ih11
      obtain ⟨k, x1, G⟩ := qq
      obtain ⟨hk, h5, hG, hP, hD, hS, hl⟩ := hI
      refine lv_iload_n hx hb dX5_remember_11 rfl (lv_at hl 0 rfl) ?_
      refine lv_sipush (v := iI 1248) hx hb dX5_remember_12 (by decide +kernel) ?_
      refine iv_icmp_ge (a := x1) (b := 1248) (tgt := 39) hx hb (by omega) (by omega) dX5_remember_15 (by decide) (fun c15 => ?_) (fun c15 => ?_)
      · refine lv_aload_n hx hb dX5_remember_39 rfl (lv_at hl 1 rfl) ?_
        refine lv_dup hx hb dX5_remember_40 rfl ?_
        refine va_get (D := D) (ci := 5) (v := .int (iI re)) (C := RX5) (T := TX5) (N := 11) hx hb hts hinX5 hown hK hP 0 rfl rfl 4 (by decide) hf105 (fun _ h9 => h9) rfl dX5_remember_41 ?_
        refine lv_iconst (v := iI 1) hx hb dX5_remember_44 (by decide +kernel) ?_
        refine iv_sub hx hb dX5_remember_45 ?_
        refine va_put (D := D) (ci := 5) (v := .int (iI (re - 1))) (ty := .int) (C := RX5) (T := TX5) (N := 11) hx hb hts hinX5 tyX5 tyX5_ok nmX5 hown hK hP hD hS 0 rfl rfl 4 (by decide) hf105 (fun _ h9 => h9) rfl (by decide +kernel) rfl rfl (Nat.le_of_ble_eq_true rfl) dX5_remember_46 (fun H locs hP hD hS => ?_)
        have hP : va_P D vwCl [(mo, oMo th a1 a2 a3 (re - 1) a4 a5 a6 tl a7 a8), (a1, aI yI 96 S), (a3, aI yI 1344 G)] H := hP
        have hD : va_D A [(mo, oMo th a1 a2 a3 (re - 1) a4 a5 a6 tl a7 a8), (a1, aI yI 96 S), (a3, aI yI 1344 G)] := hD
        refine lv_aload_n hx hb dX5_remember_49 rfl (lv_at hl 1 rfl) ?_
        refine va_get (D := D) (ci := 5) (v := .ref a1) (C := RX5) (T := TX5) (N := 11) hx hb hts hinX5 hown hK hP 0 rfl rfl 1 (by decide) hf7 (fun _ h9 => h9) rfl dX5_remember_50 ?_
        refine lv_iconst (v := iI 0) hx hb dX5_remember_53 (by decide +kernel) ?_
        refine lv_aload_n hx hb dX5_remember_54 rfl (lv_at hl 1 rfl) ?_
        refine va_get (D := D) (ci := 5) (v := .ref a3) (C := RX5) (T := TX5) (N := 11) hx hb hts hinX5 hown hK hP 0 rfl rfl 3 (by decide) hf16 (fun _ h9 => h9) rfl dX5_remember_55 ?_
        refine lv_aload_n hx hb dX5_remember_58 rfl (lv_at hl 1 rfl) ?_
        refine va_get (D := D) (ci := 5) (v := .int (iI (re - 1))) (C := RX5) (T := TX5) (N := 11) hx hb hts hinX5 hown hK hP 0 rfl rfl 4 (by decide) hf105 (fun _ h9 => h9) rfl dX5_remember_59 ?_
        refine lv_bipush (v := iI 96) hx hb dX5_remember_62 (by decide +kernel) ?_
        refine iv_mul hx hb dX5_remember_64 ?_
        refine iv_rwSv (As := [.ref a1, .int (iI 0), .ref a3, .int (iI ((re - 1) * 96))]) (rest := []) (n := 4) ⟨hx, hb, hml, hown, hts⟩ (c_X5_copy l D yI yC yD a1 a3 96 1344 S G 0 ((re - 1) * 96) (by omega) (by omega) (by omega) _) (va_cwS 4 hts gX5_remember_X5_copy rfl rfl rfl (by decide +kernel) ⟨Nat.le_of_ble_eq_true rfl, Nat.le_of_ble_eq_true rfl⟩) hK hP hD hS hA [1, 2] (by decide) rfl rfl hl.1 rfl (Nat.le_of_ble_eq_true rfl) dX5_remember_65 ⟨Nat.zero_le _, Nat.zero_le _⟩ (fun _ => rfl) (fun u65 H locs hw65 hP hD hS => ?_)
        have hP : va_P D vwCl [(mo, oMo th a1 a2 a3 (re - 1) a4 a5 a6 tl a7 a8), (a1, aI yI 96 S), (a3, aI yI 1344 (cpy S G 0 ((re - 1) * 96)))] H := hP
        have hD : va_D A [(mo, oMo th a1 a2 a3 (re - 1) a4 a5 a6 tl a7 a8), (a1, aI yI 96 S), (a3, aI yI 1344 (cpy S G 0 ((re - 1) * 96)))] := hD
        refine lv_aload_n hx hb dX5_remember_68 rfl (lv_at hl 1 rfl) ?_
        refine lv_dup hx hb dX5_remember_69 rfl ?_
        refine va_get (D := D) (ci := 5) (v := .int (iI (re - 1))) (C := RX5) (T := TX5) (N := 11) hx hb hts hinX5 hown hK hP 0 rfl rfl 4 (by decide) hf105 (fun _ h9 => h9) rfl dX5_remember_70 ?_
        refine lv_iconst (v := iI 1) hx hb dX5_remember_73 (by decide +kernel) ?_
        refine iv_add hx hb dX5_remember_74 ?_
        refine va_put (D := D) (ci := 5) (v := .int (iI (re - 1 + 1))) (ty := .int) (C := RX5) (T := TX5) (N := 11) hx hb hts hinX5 tyX5 tyX5_ok nmX5 hown hK hP hD hS 0 rfl rfl 4 (by decide) hf105 (fun _ h9 => h9) rfl (by decide +kernel) rfl rfl (Nat.le_of_ble_eq_true rfl) dX5_remember_75 (fun H locs hP hD hS => ?_)
        have hP : va_P D vwCl [(mo, oMo th a1 a2 a3 (re - 1 + 1) a4 a5 a6 tl a7 a8), (a1, aI yI 96 S), (a3, aI yI 1344 (cpy S G 0 ((re - 1) * 96)))] H := hP
        have hD : va_D A [(mo, oMo th a1 a2 a3 (re - 1 + 1) a4 a5 a6 tl a7 a8), (a1, aI yI 96 S), (a3, aI yI 1344 (cpy S G 0 ((re - 1) * 96)))] := hD
        have hP9 : va_P D vwCl [(mo, oMo th a1 a2 a3 (remR re + 1) a4 a5 a6 tl a7 a8), (a1, aI yI 96 S), (a3, aI yI 1344 (remH S Hh re))] _ := (hP.sub (ws' := [(mo, oMo th a1 a2 a3 (re - 1 + 1) a4 a5 a6 tl a7 a8), (a1, aI yI 96 S), (a3, aI yI 1344 (cpy S G 0 ((re - 1) * 96)))]) [0, 1, 2] rfl).cv (by first | (have e : k = 1248 := (by omega); subst e; subst hG; unfold remH remB remR; rw [if_pos c6, if_pos c6, c6]; rfl) | (unfold remH remB remR; rw [if_neg c6, if_neg c6]))
        exact W.vret hx hb hr (fun t ht hW => ⟨⟨(), rfl, trivial, by show va_P D vwCl _ t.heap; rw [ht]; exact hP9⟩, hS.F ht⟩) hS.2.2 dX5_remember_78
      · refine lv_aload_n hx hb dX5_remember_18 rfl (lv_at hl 1 rfl) ?_
        refine va_get (D := D) (ci := 5) (v := .ref a3) (C := RX5) (T := TX5) (N := 11) hx hb hts hinX5 hown hK hP 0 rfl rfl 3 (by decide) hf16 (fun _ h9 => h9) rfl dX5_remember_19 ?_
        refine lv_iload_n hx hb dX5_remember_22 rfl (lv_at hl 0 rfl) ?_
        refine lv_aload_n hx hb dX5_remember_23 rfl (lv_at hl 1 rfl) ?_
        refine va_get (D := D) (ci := 5) (v := .ref a3) (C := RX5) (T := TX5) (N := 11) hx hb hts hinX5 hown hK hP 0 rfl rfl 3 (by decide) hf16 (fun _ h9 => h9) rfl dX5_remember_24 ?_
        refine lv_iload_n hx hb dX5_remember_27 rfl (lv_at hl 0 rfl) ?_
        refine lv_bipush (v := iI 96) hx hb dX5_remember_28 (by decide +kernel) ?_
        refine iv_add hx hb dX5_remember_30 ?_
        refine iv_ald hx hb hK hP 2 0 rfl rfl (z := x1 + 96) (by omega) (by omega) (by omega) dX5_remember_31 ?_
        refine iv_ast hx hb hK hP hD hS 2 0 rfl rfl (z := x1) (v := G (x1 + 96)) (by omega) (by omega) (by omega) dX5_remember_32 (fun H locs hP hD hS => ?_)
        have hP : va_P D vwCl [(mo, oMo th a1 a2 a3 re a4 a5 a6 tl a7 a8), (a1, aI yI 96 S), (a3, aI yI 1344 (up G x1 (G (x1 + 96))))] H := hP
        have hD : va_D A [(mo, oMo th a1 a2 a3 re a4 a5 a6 tl a7 a8), (a1, aI yI 96 S), (a3, aI yI 1344 (up G x1 (G (x1 + 96))))] := hD
        refine iv_inc (lv' := [(1, .int (iI (x1 + 1))), (0, .ref mo)]) hx hb dX5_remember_33 hl (k := 0) rfl (by decide) rfl (fun ls hl => ?_)
        refine lv_goto (tgt := 11) hx hb dX5_remember_36 (by decide) ?_
        refine ih11 (k + 1, x1 + 1, up G x1 (G (x1 + 96))) _ _ (by show (1248 - (k + 1) : Nat) < 1248 - k; omega) ?_
        exact ⟨by omega, by omega, by rw [hG, h5]; exact shH_s, hP, hD, hS, lv_sub hl [0, 1] rfl⟩
set_option maxHeartbeats 4000000 in
set_option maxRecDepth 100000 in
theorem c_X5_written (l : Launch) (D : va_G) (yI yC yD : ClassId) (mo : Nat) (th : Int) (re : Int) (tl : Int) (a1 : Nat) (a2 : Nat) (a3 : Nat) (a4 : Nat) (a5 : Nat) (a6 : Nat) (a7 : Nat) (a8 : Nat) (S : Int → Int) (i : Int) (v : Int) (h1 : 0 ≤ i ∧ i < 40) (hv : 0 ≤ v ∧ v ≤ 1) (hkv : inR (S (8 + i))) (hna : 0 ≤ S 4 ∧ S 4 ≤ 12) (han : ∀ i, 0 ≤ i → i < S 4 → inR (an S i 0) ∧ inR (an S i 1)) (sz : Nat) : Met l yX5_written wsX5_written ({ frames := 1, cells := 0, slots := 0, locals := 22 }) (rwP [.ref mo, .int (iI i), .int (iI v)] D (tyz yI yC yD) [(mo, oMo th a1 a2 a3 re a4 a5 a6 tl a7 a8), (a1, aI yI 96 S)] sz) (va_Qi (fun (r : Int32) (_ : Unit) => r = iI (S 4 - wr S i v 4) ∧ True) (fun (_ : Unit) (t : State) => va_P D vwCl [(mo, oMo th a1 a2 a3 re a4 a5 a6 tl a7 a8), (a1, aI yI 96 (wr S i v))] t.heap) (va_A [(mo, oMo th a1 a2 a3 re a4 a5 a6 tl a7 a8), (a1, aI yI 96 S)] sz)) 0 0 (va_A [(mo, oMo th a1 a2 a3 re a4 a5 a6 tl a7 a8), (a1, aI yI 96 S)] sz) := by
  refine Met.ofW (cc := cX5_written) (maxL := 5) (ret := (some .int)) (by decide) rfl ?_
  intro p e s m args below meth c s₁ B hml hv
  obtain ⟨rfl, hsz, hP, hK, hD0⟩ := hv
  have hx := B.exec
  have hb := B.bytes
  have hr := B.returns
  have hts := atoms_spec (ws := wsX5_written) B.pre
  have hown : s.vm.findClass RX5 = some m.cls := findClass_of_methodNamed B.named
  have hlocks := B.notSynchronized
  subst hsz
  have hD := hD0.self (sz := s.heap.size)
  generalize hAe : va_A [(mo, oMo th a1 a2 a3 re a4 a5 a6 tl a7 a8), (a1, aI yI 96 S)] s.heap.size = A at hD ⊢
  have hA : ∀ q : Nat, s.heap.size ≤ q → A q := fun q h => by rw [← hAe]; exact Or.inr h
  have hS : va_S A s.heap s.heap [] := va_S.rf
  have hP : va_P D vwCl [(mo, oMo th a1 a2 a3 re a4 a5 a6 tl a7 a8), (a1, aI yI 96 S)] s.heap := hP
  have hinX5 : ∀ w ∈ wsX50, w ∈ wsX5_written := by decide +kernel
  have hf7 : (Cond.fieldLink RX5 7 "RiddleDriveModel" "state" "[I").before _ s = true := hts _ (by decide +kernel)
  have hl := lv_entry ([.ref mo, .int (iI i), .int (iI v)]) (n := 5) (Nat.le_of_ble_eq_true rfl)
  rw [lg_entry_eq]
  generalize (lg_sl ([.ref mo, .int (iI i), .int (iI v)]) ++ List.replicate (5 - (lg_sl ([.ref mo, .int (iI i), .int (iI v)])).length) Slot.unset).toArray = ls at hl ⊢
  have hl : lv_has ls 5 [(0, .ref mo), (1, .int (iI i)), (2, .int (iI v))] := hl
  refine lv_aload_n hx hb dX5_written_0 rfl (lv_at hl 0 rfl) ?_
  refine va_get (D := D) (ci := 5) (v := .ref a1) (C := RX5) (T := TX5) (N := 11) hx hb hts hinX5 hown hK hP 0 rfl rfl 1 (by decide) hf7 (fun _ h9 => h9) rfl dX5_written_1 ?_
  refine lv_bipush (v := iI 8) hx hb dX5_written_4 (by decide +kernel) ?_
  refine lv_iload_n hx hb dX5_written_6 rfl (lv_at hl 1 rfl) ?_
  refine iv_add hx hb dX5_written_7 ?_
  refine iv_ald hx hb hK hP 1 0 rfl rfl (z := 8 + i) (by omega) (by omega) (by omega) dX5_written_8 ?_
  refine lv_iload_n hx hb dX5_written_9 rfl (lv_at hl 2 rfl) ?_
  refine iv_icmp_ne (a := S (8 + i)) (b := v) (tgt := 15) hx hb (by omega) (by omega) dX5_written_10 (by decide) (fun c10 => ?_) (fun c10 => ?_)
  · refine lv_aload_n hx hb dX5_written_15 rfl (lv_at hl 0 rfl) ?_
    refine va_get (D := D) (ci := 5) (v := .ref a1) (C := RX5) (T := TX5) (N := 11) hx hb hts hinX5 hown hK hP 0 rfl rfl 1 (by decide) hf7 (fun _ h9 => h9) rfl dX5_written_16 ?_
    refine lv_bipush (v := iI 8) hx hb dX5_written_19 (by decide +kernel) ?_
    refine lv_iload_n hx hb dX5_written_21 rfl (lv_at hl 1 rfl) ?_
    refine iv_add hx hb dX5_written_22 ?_
    refine lv_iload_n hx hb dX5_written_23 rfl (lv_at hl 2 rfl) ?_
    refine iv_ast hx hb hK hP hD hS 1 0 rfl rfl (z := 8 + i) (v := v) (by omega) (by omega) (by omega) dX5_written_24 (fun H locs hP hD hS => ?_)
    have hP : va_P D vwCl [(mo, oMo th a1 a2 a3 re a4 a5 a6 tl a7 a8), (a1, aI yI 96 (up S (8 + i) v))] H := hP
    have hD : va_D A [(mo, oMo th a1 a2 a3 re a4 a5 a6 tl a7 a8), (a1, aI yI 96 (up S (8 + i) v))] := hD
    refine lv_iconst (v := iI 0) hx hb dX5_written_25 (by decide +kernel) ?_
    refine lv_istore_n (lv' := [(3, .int (iI 0)), (0, .ref mo), (1, .int (iI i)), (2, .int (iI v))]) hx hb dX5_written_26 rfl hl (by decide) rfl (fun ls hl => ?_)
    refine lv_aload_n hx hb dX5_written_27 rfl (lv_at hl 1 rfl) ?_
    refine va_get (D := D) (ci := 5) (v := .ref a1) (C := RX5) (T := TX5) (N := 11) hx hb hts hinX5 hown hK hP 0 rfl rfl 1 (by decide) hf7 (fun _ h9 => h9) rfl dX5_written_28 ?_
    refine lv_iconst (v := iI 4) hx hb dX5_written_31 (by decide +kernel) ?_
    refine iv_ald hx hb hK hP 1 0 rfl rfl (z := 4) (by omega) (by omega) (by omega) dX5_written_32 ?_
    refine lv_iconst (v := iI 1) hx hb dX5_written_33 (by decide +kernel) ?_
    refine iv_sub hx hb dX5_written_34 ?_
    refine lv_istore (lv' := [(4, .int (iI ((up S (8 + i) v) 4 - 1))), (3, .int (iI 0)), (0, .ref mo), (1, .int (iI i)), (2, .int (iI v))]) hx hb dX5_written_35 hl (by decide) rfl (fun ls hl => ?_)
    refine iv_loop (I := fun (qq : Nat × Int × Int × (Int → Int)) H locs ls => match qq with | (n, x3, x4, G) => ((n : Int) ≤ G 4 ∧ G 4 ≤ 12) ∧ (x4 = (n : Int) - 1) ∧ (x3 = S 4 - G 4) ∧ (wloop i n G = wloop i (S 4).toNat (up S (8 + i) v)) ∧ (∀ k : Int, 0 ≤ k → k < n → an G k 0 = an S k 0 ∧ an G k 1 = an S k 1) ∧ ((n : Int) ≤ S 4) ∧ va_P D vwCl [(mo, oMo th a1 a2 a3 re a4 a5 a6 tl a7 a8), (a1, aI yI 96 G)] H ∧ va_D A [(mo, oMo th a1 a2 a3 re a4 a5 a6 tl a7 a8), (a1, aI yI 96 G)] ∧ va_S A s.heap H locs ∧ lv_has ls 5 [(4, .int (iI x4)), (3, .int (iI x3)), (0, .ref mo), (1, .int (iI i)), (2, .int (iI v))]) (μ := fun (qq : Nat × Int × Int × (Int → Int)) => match qq with | (n, x3, x4, G) => n) ((S 4).toNat, 0, (up S (8 + i) v) 4 - 1, up S (8 + i) v) ?_ ?_
    · exact ⟨by rw [up_n (by omega)]; omega, by rw [up_n (by omega)]; omega, by rw [up_n (by omega)]; omega, rfl, fun k h5 h6 => ⟨an_up0 (by omega), an_up0 (by omega)⟩, by omega, hP, hD, hS, lv_sub hl [0, 1, 2, 3, 4] rfl⟩
    · intro qq H locs ls hI ih37
      obtain ⟨n, x3, x4, G⟩ := qq
      obtain ⟨hn, h4, h3, hw, hg, hn2, hP, hD, hS, hl⟩ := hI
      refine lv_iload hx hb dX5_written_37 (lv_at hl 0 rfl) ?_
      refine iv_if_lt (a := x4) (tgt := 78) hx hb (by omega) dX5_written_39 (by decide) (fun c39 => ?_) (fun c39 => ?_)
      · refine lv_iload_n hx hb dX5_written_78 rfl (lv_at hl 1 rfl) ?_
        have hP9 : va_P D vwCl [(mo, oMo th a1 a2 a3 re a4 a5 a6 tl a7 a8), (a1, aI yI 96 (wr S i v))] _ := (hP.sub (ws' := [(mo, oMo th a1 a2 a3 re a4 a5 a6 tl a7 a8), (a1, aI yI 96 G)]) [0, 1] rfl).cv (by rw [wr_eq c10 hw (by omega)])
        exact W.iret hx hb hr (fun t ht hW => ⟨⟨iI x3, (), rfl, ⟨congrArg iI (show x3 = S 4 - wr S i v 4 by rw [wr_eq c10 hw (by omega)]; omega), trivial⟩, by show va_P D vwCl _ t.heap; rw [ht]; exact hP9⟩, hS.F ht⟩) hS.2.2 dX5_written_79
      · have hgx := hg x4 (by omega) (by omega)
        have hax := han x4 (by omega) (by omega)
        refine lv_iload_n hx hb dX5_written_42 rfl (lv_at hl 3 rfl) ?_
        refine lv_aload_n hx hb dX5_written_43 rfl (lv_at hl 2 rfl) ?_
        refine lv_iload hx hb dX5_written_44 (lv_at hl 0 rfl) ?_
        refine lv_iconst (v := iI 0) hx hb dX5_written_46 (by decide +kernel) ?_
        refine iv_roV (As := [.int (iI x4), .int (iI 0)]) (rest := [.int (iI i)]) (C := RX5) (n := 2) ⟨hx, hb, hml, hown, hts⟩ (c_X5_answerPart l D yI yC yD mo th re tl a1 a2 a3 a4 a5 a6 a7 a8 G x4 0 (by omega) (by omega)) (cwV 2 hts gX5_written_X5_answerPart rfl rfl rfl (by decide +kernel) ⟨Nat.le_of_ble_eq_true rfl, Nat.le_of_ble_eq_true rfl⟩) hK hP [0, 1] rfl 0 rfl rfl rfl hl.1 rfl (Nat.le_of_ble_eq_true rfl) dX5_written_47 ⟨Nat.zero_le _, Nat.zero_le _⟩ ?_
        refine lv_aload_n hx hb dX5_written_50 rfl (lv_at hl 2 rfl) ?_
        refine lv_iload hx hb dX5_written_51 (lv_at hl 0 rfl) ?_
        refine lv_iconst (v := iI 1) hx hb dX5_written_53 (by decide +kernel) ?_
        refine iv_roV (As := [.int (iI x4), .int (iI 1)]) (rest := [.int (iI (an G x4 0)), .int (iI i)]) (C := RX5) (n := 2) ⟨hx, hb, hml, hown, hts⟩ (c_X5_answerPart l D yI yC yD mo th re tl a1 a2 a3 a4 a5 a6 a7 a8 G x4 1 (by omega) (by omega)) (cwV 2 hts gX5_written_X5_answerPart rfl rfl rfl (by decide +kernel) ⟨Nat.le_of_ble_eq_true rfl, Nat.le_of_ble_eq_true rfl⟩) hK hP [0, 1] rfl 0 rfl rfl rfl hl.1 rfl (Nat.le_of_ble_eq_true rfl) dX5_written_54 ⟨Nat.zero_le _, Nat.zero_le _⟩ ?_
        refine iv_roS (As := [.int (iI i), .int (iI (an G x4 0)), .int (iI (an G x4 1))]) (rest := []) (n := 3) ⟨hx, hb, hml, hown, hts⟩ (c_X5_within l D yI yC yD i (an G x4 0) (an G x4 1) (by omega) (by rw [hgx.1]; exact hax.1) (by rw [hgx.2]; exact hax.2)) (va_cwS 3 hts gX5_written_X5_within rfl rfl rfl (by decide +kernel) ⟨Nat.le_of_ble_eq_true rfl, Nat.le_of_ble_eq_true rfl⟩) hK hP [] rfl rfl hl.1 rfl (Nat.le_of_ble_eq_true rfl) dX5_written_57 ⟨Nat.zero_le _, Nat.zero_le _⟩ ?_
        refine iv_ifb_eq (P := (an G x4 0) ≤ i ∧ i ≤ (an G x4 1)) (tgt := 72) hx hb dX5_written_60 (by decide) (fun c60 => ?_) (fun c60 => ?_)
        · refine iv_inc (lv' := [(4, .int (iI (x4 + (-1)))), (3, .int (iI x3)), (0, .ref mo), (1, .int (iI i)), (2, .int (iI v))]) hx hb dX5_written_72 hl (k := 0) rfl (by decide) rfl (fun ls hl => ?_)
          refine lv_goto (tgt := 37) hx hb dX5_written_75 (by decide) ?_
          refine ih37 (n - 1, x3, x4 + (-1), G) _ _ (by show (n - 1 : Nat) < n; omega) ?_
          exact ⟨by first | omega | (have e4 : forget1 G x4 4 = G 4 - 1 := rfl; rw [e4]; omega), by omega, by first | omega | (have e4 : forget1 G x4 4 = G 4 - 1 := rfl; rw [e4]; omega), by rw [← hw, show n = (n - 1) + 1 by omega, show n - 1 + 1 - 1 = n - 1 by omega]; show _ = wloop i (n - 1) (if _ then _ else _); rw [show ((n - 1 : Nat) : Int) = x4 by omega]; first | rw [if_pos c60] | rw [if_neg c60], fun k h5 h6 => by first | exact hg k h5 (by omega) | (rw [an_forget (by omega) (by omega), an_forget (by omega) (by omega)]; exact hg k h5 (by omega)), by omega, hP, hD, hS, lv_sub hl [0, 1, 2, 3, 4] rfl⟩
        · refine lv_aload_n hx hb dX5_written_63 rfl (lv_at hl 2 rfl) ?_
          refine lv_iload hx hb dX5_written_64 (lv_at hl 0 rfl) ?_
          refine iv_rwVv (As := [.int (iI x4)]) (rest := []) (C := RX5) (n := 1) ⟨hx, hb, hml, hown, hts⟩ (c_X5_forgetOne l D yI yC yD mo th re tl a1 a2 a3 a4 a5 a6 a7 a8 G x4 (by omega) _) (cwV 1 hts gX5_written_X5_forgetOne rfl rfl rfl (by decide +kernel) ⟨Nat.le_of_ble_eq_true rfl, Nat.le_of_ble_eq_true rfl⟩) hK hP hD hS hA [0, 1] (by decide) rfl 0 rfl rfl rfl hl.1 rfl (Nat.le_of_ble_eq_true rfl) dX5_written_66 ⟨Nat.zero_le _, Nat.zero_le _⟩ (fun _ => rfl) (fun u66 H locs hw66 hP hD hS => ?_)
          have hP : va_P D vwCl [(mo, oMo th a1 a2 a3 re a4 a5 a6 tl a7 a8), (a1, aI yI 96 (forget1 G x4))] H := hP
          have hD : va_D A [(mo, oMo th a1 a2 a3 re a4 a5 a6 tl a7 a8), (a1, aI yI 96 (forget1 G x4))] := hD
          refine iv_inc (lv' := [(3, .int (iI (x3 + 1))), (4, .int (iI x4)), (0, .ref mo), (1, .int (iI i)), (2, .int (iI v))]) hx hb dX5_written_69 hl (k := 1) rfl (by decide) rfl (fun ls hl => ?_)
          refine iv_inc (lv' := [(4, .int (iI (x4 + (-1)))), (3, .int (iI (x3 + 1))), (0, .ref mo), (1, .int (iI i)), (2, .int (iI v))]) hx hb dX5_written_72 hl (k := 1) rfl (by decide) rfl (fun ls hl => ?_)
          refine lv_goto (tgt := 37) hx hb dX5_written_75 (by decide) ?_
          refine ih37 (n - 1, x3 + 1, x4 + (-1), forget1 G x4) _ _ (by show (n - 1 : Nat) < n; omega) ?_
          exact ⟨by first | omega | (have e4 : forget1 G x4 4 = G 4 - 1 := rfl; rw [e4]; omega), by omega, by first | omega | (have e4 : forget1 G x4 4 = G 4 - 1 := rfl; rw [e4]; omega), by rw [← hw, show n = (n - 1) + 1 by omega, show n - 1 + 1 - 1 = n - 1 by omega]; show _ = wloop i (n - 1) (if _ then _ else _); rw [show ((n - 1 : Nat) : Int) = x4 by omega]; first | rw [if_pos c60] | rw [if_neg c60], fun k h5 h6 => by first | exact hg k h5 (by omega) | (rw [an_forget (by omega) (by omega), an_forget (by omega) (by omega)]; exact hg k h5 (by omega)), by omega, hP, hD, hS, lv_sub hl [0, 1, 2, 3, 4] rfl⟩
  · refine lv_iconst (v := iI 0) hx hb dX5_written_13 (by decide +kernel) ?_
    have hP9 : va_P D vwCl [(mo, oMo th a1 a2 a3 re a4 a5 a6 tl a7 a8), (a1, aI yI 96 (wr S i v))] _ := (hP.sub (ws' := [(mo, oMo th a1 a2 a3 re a4 a5 a6 tl a7 a8), (a1, aI yI 96 S)]) [0, 1] rfl).cv (by unfold wr; rw [if_pos c10])
    exact W.iret hx hb hr (fun t ht hW => ⟨⟨iI 0, (), rfl, ⟨congrArg iI (show 0 = S 4 - wr S i v 4 by unfold wr; rw [if_pos c10]; omega), trivial⟩, by show va_P D vwCl _ t.heap; rw [ht]; exact hP9⟩, hS.F ht⟩) hS.2.2 dX5_written_14
set_option maxHeartbeats 4000000 in
set_option maxRecDepth 100000 in
theorem c_X5_set (l : Launch) (D : va_G) (yI yC yD : ClassId) (mo : Nat) (th : Int) (re : Int) (tl : Int) (a1 : Nat) (a2 : Nat) (a3 : Nat) (a4 : Nat) (a5 : Nat) (a6 : Nat) (a7 : Nat) (a8 : Nat) (S : Int → Int) (Hh : Int → Int) (w : Int) (v : Int) (hI : Inv S) (hw9 : inR w ∧ inR v) (hre : 0 ≤ re ∧ re ≤ 14) (sz : Nat) : Met l yX5_set wsX5_set ({ frames := 2, cells := 0, slots := 0, locals := 45 }) (rwP [.ref mo, .int (iI w), .int (iI v)] D (tyz yI yC yD) [(mo, oMo th a1 a2 a3 re a4 a5 a6 tl a7 a8), (a1, aI yI 96 S), (a3, aI yI 1344 Hh)] sz) (va_Qi (fun (r : Int32) (_ : Unit) => r = iI (if okS w v then S (1 + w) else 0) ∧ True) (fun (_ : Unit) (t : State) => va_P D vwCl [(mo, oMo (bI (¬ okS w v)) a1 a2 a3 (if okS w v then remR re + 1 else re) a4 a5 a6 tl a7 a8), (a1, aI yI 96 (if okS w v then setg S w v else S)), (a3, aI yI 1344 (if okS w v then remH S Hh re else Hh))] t.heap) (va_A [(mo, oMo th a1 a2 a3 re a4 a5 a6 tl a7 a8), (a1, aI yI 96 S), (a3, aI yI 1344 Hh)] sz)) 0 0 (va_A [(mo, oMo th a1 a2 a3 re a4 a5 a6 tl a7 a8), (a1, aI yI 96 S), (a3, aI yI 1344 Hh)] sz) := by
  refine Met.ofW (cc := cX5_set) (maxL := 3) (ret := (some .int)) (by decide) rfl ?_
  intro p e s m args below meth c s₁ B hml hv
  obtain ⟨rfl, hsz, hP, hK, hD0⟩ := hv
  have hx := B.exec
  have hb := B.bytes
  have hr := B.returns
  have hts := atoms_spec (ws := wsX5_set) B.pre
  have hown : s.vm.findClass RX5 = some m.cls := findClass_of_methodNamed B.named
  have hlocks := B.notSynchronized
  subst hsz
  have hD := hD0.self (sz := s.heap.size)
  generalize hAe : va_A [(mo, oMo th a1 a2 a3 re a4 a5 a6 tl a7 a8), (a1, aI yI 96 S), (a3, aI yI 1344 Hh)] s.heap.size = A at hD ⊢
  have hA : ∀ q : Nat, s.heap.size ≤ q → A q := fun q h => by rw [← hAe]; exact Or.inr h
  have hS : va_S A s.heap s.heap [] := va_S.rf
  have hP : va_P D vwCl [(mo, oMo th a1 a2 a3 re a4 a5 a6 tl a7 a8), (a1, aI yI 96 S), (a3, aI yI 1344 Hh)] s.heap := hP
  have hinX5 : ∀ w ∈ wsX50, w ∈ wsX5_set := by decide +kernel
  have hf38 : (Cond.fieldLink RX5 38 "RiddleDriveModel" "thrown" "I").before _ s = true := hts _ (by decide +kernel)
  have hl := lv_entry ([.ref mo, .int (iI w), .int (iI v)]) (n := 3) (Nat.le_of_ble_eq_true rfl)
  rw [lg_entry_eq]
  generalize (lg_sl ([.ref mo, .int (iI w), .int (iI v)]) ++ List.replicate (3 - (lg_sl ([.ref mo, .int (iI w), .int (iI v)])).length) Slot.unset).toArray = ls at hl ⊢
  have hl : lv_has ls 3 [(0, .ref mo), (1, .int (iI w)), (2, .int (iI v))] := hl
  have hpl := hI.pl
  have hna := hI.na
  have hse := hI.se
  have hwi := hI.wi
  refine lv_aload_n hx hb dX5_set_0 rfl (lv_at hl 0 rfl) ?_
  refine lv_iload_n hx hb dX5_set_1 rfl (lv_at hl 1 rfl) ?_
  refine lv_iload_n hx hb dX5_set_2 rfl (lv_at hl 2 rfl) ?_
  refine iv_roS (As := [.int (iI w), .int (iI v)]) (rest := [.ref mo]) (n := 2) ⟨hx, hb, hml, hown, hts⟩ (c_X5_isSetting l D yI yC yD w v (by omega)) (va_cwS 2 hts gX5_set_X5_isSetting rfl rfl rfl (by decide +kernel) ⟨Nat.le_of_ble_eq_true rfl, Nat.le_of_ble_eq_true rfl⟩) hK hP [] rfl rfl hl.1 rfl (Nat.le_of_ble_eq_true rfl) dX5_set_3 ⟨Nat.zero_le _, Nat.zero_le _⟩ ?_
  refine iv_ifb_eq (P := okS w v) (tgt := 13) hx hb dX5_set_6 (by decide) (fun c6 => ?_) (fun c6 => ?_)
  · refine lv_iconst (v := iI 1) hx hb dX5_set_13 (by decide +kernel) ?_
    refine va_put (D := D) (ci := 5) (v := .int (iI 1)) (ty := .int) (C := RX5) (T := TX5) (N := 11) hx hb hts hinX5 tyX5 tyX5_ok nmX5 hown hK hP hD hS 0 rfl rfl 0 (by decide) hf38 (fun _ h9 => h9) rfl (by decide +kernel) rfl rfl (Nat.le_of_ble_eq_true rfl) dX5_set_14 (fun H locs hP hD hS => ?_)
    have hP : va_P D vwCl [(mo, oMo 1 a1 a2 a3 re a4 a5 a6 tl a7 a8), (a1, aI yI 96 S), (a3, aI yI 1344 Hh)] H := hP
    have hD : va_D A [(mo, oMo 1 a1 a2 a3 re a4 a5 a6 tl a7 a8), (a1, aI yI 96 S), (a3, aI yI 1344 Hh)] := hD
    refine lv_aload_n hx hb dX5_set_17 rfl (lv_at hl 0 rfl) ?_
    refine va_get (D := D) (ci := 5) (v := .int (iI 1)) (C := RX5) (T := TX5) (N := 11) hx hb hts hinX5 hown hK hP 0 rfl rfl 0 (by decide) hf38 (fun _ h9 => h9) rfl dX5_set_18 ?_
    refine iv_if_le (a := 1) (tgt := 26) hx hb (by omega) dX5_set_21 (by decide) (fun c21 => ?_) (fun c21 => ?_)
    · exact absurd c21 (by omega)
    · refine lv_iconst (v := iI 0) hx hb dX5_set_24 (by decide +kernel) ?_
      have hq : ¬ (okS w v) := by omega
      have hP9 : va_P D vwCl [(mo, oMo (bI (¬ okS w v)) a1 a2 a3 (if okS w v then remR re + 1 else re) a4 a5 a6 tl a7 a8), (a1, aI yI 96 (if okS w v then setg S w v else S)), (a3, aI yI 1344 (if okS w v then remH S Hh re else Hh))] _ := (hP.sub (ws' := [(mo, oMo 1 a1 a2 a3 re a4 a5 a6 tl a7 a8), (a1, aI yI 96 S), (a3, aI yI 1344 Hh)]) [0, 1, 2] rfl).cv (by simp only [if_neg hq, bI_t hq])
      exact W.iret hx hb hr (fun t ht hW => ⟨⟨iI 0, (), rfl, ⟨congrArg iI (show 0 = if okS w v then S (1 + w) else 0 by rw [if_neg hq]), trivial⟩, by show va_P D vwCl _ t.heap; rw [ht]; exact hP9⟩, hS.F ht⟩) hS.2.2 dX5_set_25
  · refine lv_iconst (v := iI 0) hx hb dX5_set_9 (by decide +kernel) ?_
    refine lv_goto (tgt := 14) hx hb dX5_set_10 (by decide) ?_
    refine va_put (D := D) (ci := 5) (v := .int (iI 0)) (ty := .int) (C := RX5) (T := TX5) (N := 11) hx hb hts hinX5 tyX5 tyX5_ok nmX5 hown hK hP hD hS 0 rfl rfl 0 (by decide) hf38 (fun _ h9 => h9) rfl (by decide +kernel) rfl rfl (Nat.le_of_ble_eq_true rfl) dX5_set_14 (fun H locs hP hD hS => ?_)
    have hP : va_P D vwCl [(mo, oMo 0 a1 a2 a3 re a4 a5 a6 tl a7 a8), (a1, aI yI 96 S), (a3, aI yI 1344 Hh)] H := hP
    have hD : va_D A [(mo, oMo 0 a1 a2 a3 re a4 a5 a6 tl a7 a8), (a1, aI yI 96 S), (a3, aI yI 1344 Hh)] := hD
    refine lv_aload_n hx hb dX5_set_17 rfl (lv_at hl 0 rfl) ?_
    refine va_get (D := D) (ci := 5) (v := .int (iI 0)) (C := RX5) (T := TX5) (N := 11) hx hb hts hinX5 hown hK hP 0 rfl rfl 0 (by decide) hf38 (fun _ h9 => h9) rfl dX5_set_18 ?_
    refine iv_if_le (a := 0) (tgt := 26) hx hb (by omega) dX5_set_21 (by decide) (fun c21 => ?_) (fun c21 => ?_)
    · refine lv_aload_n hx hb dX5_set_26 rfl (lv_at hl 0 rfl) ?_
      refine iv_rwVv (As := []) (rest := []) (C := RX5) (n := 0) ⟨hx, hb, hml, hown, hts⟩ (c_X5_remember l D yI yC yD mo 0 re tl a1 a2 a3 a4 a5 a6 a7 a8 S Hh (by assumption) _) (cwV 0 hts gX5_set_X5_remember rfl rfl rfl (by decide +kernel) ⟨Nat.le_of_ble_eq_true rfl, Nat.le_of_ble_eq_true rfl⟩) hK hP hD hS hA [0, 1, 2] (by decide) rfl 0 rfl rfl rfl hl.1 rfl (Nat.le_of_ble_eq_true rfl) dX5_set_27 ⟨Nat.zero_le _, Nat.zero_le _⟩ (fun _ => rfl) (fun u27 H locs hw27 hP hD hS => ?_)
      have hP : va_P D vwCl [(mo, oMo 0 a1 a2 a3 (remR re + 1) a4 a5 a6 tl a7 a8), (a1, aI yI 96 S), (a3, aI yI 1344 (remH S Hh re))] H := hP
      have hD : va_D A [(mo, oMo 0 a1 a2 a3 (remR re + 1) a4 a5 a6 tl a7 a8), (a1, aI yI 96 S), (a3, aI yI 1344 (remH S Hh re))] := hD
      refine lv_aload_n hx hb dX5_set_30 rfl (lv_at hl 0 rfl) ?_
      refine lv_iload_n hx hb dX5_set_31 rfl (lv_at hl 1 rfl) ?_
      refine lv_iload_n hx hb dX5_set_32 rfl (lv_at hl 2 rfl) ?_
      refine iv_rwV (As := [.int (iI w), .int (iI v)]) (rest := []) (C := RX5) (n := 2) ⟨hx, hb, hml, hown, hts⟩ (c_X5_changed l D yI yC yD mo 0 (remR re + 1) tl a1 a2 a3 a4 a5 a6 a7 a8 S w v (by omega) (set_h2 hI (by omega)) _) (cwV 2 hts gX5_set_X5_changed rfl rfl rfl (by decide +kernel) ⟨Nat.le_of_ble_eq_true rfl, Nat.le_of_ble_eq_true rfl⟩) hK hP hD hS hA [0, 1] (by decide) rfl 0 rfl rfl rfl hl.1 rfl (Nat.le_of_ble_eq_true rfl) dX5_set_33 ⟨Nat.zero_le _, Nat.zero_le _⟩ (fun _ => rfl) (fun r33 u33 H locs hw33 hP hD hS => ?_)
      obtain ⟨hr33, -⟩ := hw33
      subst hr33
      have hP : va_P D vwCl [(mo, oMo 0 a1 a2 a3 (remR re + 1) a4 a5 a6 tl a7 a8), (a1, aI yI 96 (setg S w v)), (a3, aI yI 1344 (remH S Hh re))] H := hP
      have hD : va_D A [(mo, oMo 0 a1 a2 a3 (remR re + 1) a4 a5 a6 tl a7 a8), (a1, aI yI 96 (setg S w v)), (a3, aI yI 1344 (remH S Hh re))] := hD
      have hq : okS w v := by omega
      have hP9 : va_P D vwCl [(mo, oMo (bI (¬ okS w v)) a1 a2 a3 (if okS w v then remR re + 1 else re) a4 a5 a6 tl a7 a8), (a1, aI yI 96 (if okS w v then setg S w v else S)), (a3, aI yI 1344 (if okS w v then remH S Hh re else Hh))] _ := (hP.sub (ws' := [(mo, oMo 0 a1 a2 a3 (remR re + 1) a4 a5 a6 tl a7 a8), (a1, aI yI 96 (setg S w v)), (a3, aI yI 1344 (remH S Hh re))]) [0, 1, 2] rfl).cv (by simp only [if_pos hq, bI_f (not_not_intro hq)])
      exact W.iret hx hb hr (fun t ht hW => ⟨⟨iI (S (1 + w)), (), rfl, ⟨congrArg iI (show S (1 + w) = if okS w v then S (1 + w) else 0 by rw [if_pos hq]), trivial⟩, by show va_P D vwCl _ t.heap; rw [ht]; exact hP9⟩, hS.F ht⟩) hS.2.2 dX5_set_36
    · exact absurd c21 (by omega)
