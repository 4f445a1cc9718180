set_option maxHeartbeats 4000000 in
set_option maxRecDepth 100000 in
theorem c_X5_asked (l : Launch) (D : va_G) (yI yC yD : ClassId) (mo : Nat) (th : Int) (re : Int) (tl : Int) (a1 : Nat) (a2 : Nat) (a3 : Nat) (a4 : Nat) (a5 : Nat) (a6 : Nat) (a7 : Nat) (a8 : Nat) (S : Int → Int) (a : Int) (b : Int) (hI : Inv S) (hab : 0 ≤ a ∧ a ≤ b ∧ b < S 0) (sz : Nat) : Met l yX5_asked wsX5_asked ({ frames := 3, cells := 0, slots := 0, locals := 68 }) (rwP [.ref mo, .int (iI a), .int (iI b)] D (tyz yI yC yD) [(mo, oMo th a1 a2 a3 re a4 a5 a6 tl a7 a8), (a1, aI yI 96 S)] sz) (va_Qi (fun (r : Int32) (_ : Unit) => r = iI (told S a b) ∧ True) (fun (_ : Unit) (t : State) => va_P D vwCl [(mo, oMo th a1 a2 a3 re a4 a5 a6 tl a7 a8), (a1, aI yI 96 (askd S a b))] t.heap) (va_A [(mo, oMo th a1 a2 a3 re a4 a5 a6 tl a7 a8), (a1, aI yI 96 S)] sz)) 0 0 (va_A [(mo, oMo th a1 a2 a3 re a4 a5 a6 tl a7 a8), (a1, aI yI 96 S)] sz) := by
  refine Met.ofW (cc := cX5_asked) (maxL := 7) (ret := (some .int)) (by decide) rfl ?_
  intro p e s m args below meth c s₁ B hml hv
  obtain ⟨rfl, hsz, hP, hK, hD0⟩ := hv
  have hx := B.exec
  have hb := B.bytes
  have hr := B.returns
  have hts := atoms_spec (ws := wsX5_asked) B.pre
  have hown : s.vm.findClass RX5 = some m.cls := findClass_of_methodNamed B.named
  have hlocks := B.notSynchronized
  subst hsz
  have hD := hD0.self (sz := s.heap.size)
  generalize hAe : va_A [(mo, oMo th a1 a2 a3 re a4 a5 a6 tl a7 a8), (a1, aI yI 96 S)] s.heap.size = A at hD ⊢
  have hA : ∀ q : Nat, s.heap.size ≤ q → A q := fun q h => by rw [← hAe]; exact Or.inr h
  have hS : va_S A s.heap s.heap [] := va_S.rf
  have hP : va_P D vwCl [(mo, oMo th a1 a2 a3 re a4 a5 a6 tl a7 a8), (a1, aI yI 96 S)] s.heap := hP
  have hinX5 : ∀ w ∈ wsX50, w ∈ wsX5_asked := by decide +kernel
  have hf7 : (Cond.fieldLink RX5 7 "RiddleDriveModel" "state" "[I").before _ s = true := hts _ (by decide +kernel)
  have hl := lv_entry ([.ref mo, .int (iI a), .int (iI b)]) (n := 7) (Nat.le_of_ble_eq_true rfl)
  rw [lg_entry_eq]
  generalize (lg_sl ([.ref mo, .int (iI a), .int (iI b)]) ++ List.replicate (7 - (lg_sl ([.ref mo, .int (iI a), .int (iI b)])).length) Slot.unset).toArray = ls at hl ⊢
  have hl : lv_has ls 7 [(0, .ref mo), (1, .int (iI a)), (2, .int (iI b))] := hl
  have hpl := hI.pl
  have hna := hI.na
  have hse := hI.se
  have hwi := hI.wi
  have han := hI.anr
  have hki := keysIn_r hI (a := a) (b := b) (by omega) (by omega) (by omega)
  have hai := aboutI_b (S := S) (a := a) (b := b) (by omega)
  refine lv_aload_n hx hb dX5_asked_0 rfl (lv_at hl 0 rfl) ?_
  refine lv_iload_n hx hb dX5_asked_1 rfl (lv_at hl 1 rfl) ?_
  refine lv_iload_n hx hb dX5_asked_2 rfl (lv_at hl 2 rfl) ?_
  refine iv_roV (As := [.int (iI a), .int (iI b)]) (rest := []) (C := RX5) (n := 2) ⟨hx, hb, hml, hown, hts⟩ (c_X5_costOf l D yI yC yD mo th re tl a1 a2 a3 a4 a5 a6 a7 a8 S a b (by omega) (by omega) (by assumption)) (cwV 2 hts gX5_asked_X5_costOf rfl rfl rfl (by decide +kernel) ⟨Nat.le_of_ble_eq_true rfl, Nat.le_of_ble_eq_true rfl⟩) hK hP [0, 1] rfl 0 rfl rfl rfl hl.1 rfl (Nat.le_of_ble_eq_true rfl) dX5_asked_3 ⟨Nat.zero_le _, Nat.zero_le _⟩ ?_
  refine lv_istore_n (lv' := [(3, .int (iI (costOf S a b))), (0, .ref mo), (1, .int (iI a)), (2, .int (iI b))]) hx hb dX5_asked_6 rfl hl (by decide) rfl (fun ls hl => ?_)
  refine lv_aload_n hx hb dX5_asked_7 rfl (lv_at hl 1 rfl) ?_
  refine lv_iload_n hx hb dX5_asked_8 rfl (lv_at hl 2 rfl) ?_
  refine lv_iload_n hx hb dX5_asked_9 rfl (lv_at hl 3 rfl) ?_
  refine iv_roV (As := [.int (iI a), .int (iI b)]) (rest := []) (C := RX5) (n := 2) ⟨hx, hb, hml, hown, hts⟩ (c_X5_answerAbout l D yI yC yD mo th re tl a1 a2 a3 a4 a5 a6 a7 a8 S a b (by omega) (by omega) (by assumption)) (cwV 2 hts gX5_asked_X5_answerAbout rfl rfl rfl (by decide +kernel) ⟨Nat.le_of_ble_eq_true rfl, Nat.le_of_ble_eq_true rfl⟩) hK hP [0, 1] rfl 0 rfl rfl rfl hl.1 rfl (Nat.le_of_ble_eq_true rfl) dX5_asked_10 ⟨Nat.zero_le _, Nat.zero_le _⟩ ?_
  refine lv_istore (lv' := [(4, .int (iI (aboutI S a b))), (3, .int (iI (costOf S a b))), (0, .ref mo), (1, .int (iI a)), (2, .int (iI b))]) hx hb dX5_asked_13 hl (by decide) rfl (fun ls hl => ?_)
  refine lv_iload hx hb dX5_asked_15 (lv_at hl 0 rfl) ?_
  refine lv_iconst (v := iI (-1)) hx hb dX5_asked_17 (by decide +kernel) ?_
  refine iv_icmp_ne (a := aboutI S a b) (b := -1) (tgt := 37) hx hb (by omega) (by omega) dX5_asked_18 (by decide) (fun c18 => ?_) (fun c18 => ?_)
  · refine lv_iload hx hb dX5_asked_37 (lv_at hl 0 rfl) ?_
    refine lv_iconst (v := iI (-1)) hx hb dX5_asked_39 (by decide +kernel) ?_
    refine iv_icmp_ne (a := aboutI S a b) (b := -1) (tgt := 61) hx hb (by omega) (by omega) dX5_asked_40 (by decide) (fun c40 => ?_) (fun c40 => ?_)
    · refine lv_aload_n hx hb dX5_asked_61 rfl (lv_at hl 2 rfl) ?_
      have hkc : keysIn S a b = keysIn S a b := rfl
      have hs2 : (S) 2 = S 2 := by first | rfl | exact ask_c2
      have hs3 : forget1 S 0 2 = S 2 := forget1_k (by omega) (by omega) (by omega) (by omega)
      have hat9 : 0 ≤ (aboutI S a b) ∧ (aboutI S a b) < 12 := by first | omega | (have : forget1 S 0 4 = S 4 - 1 := rfl; omega)
      refine lv_iload_n hx hb dX5_asked_62 rfl (lv_at hl 3 rfl) ?_
      refine lv_iload_n hx hb dX5_asked_63 rfl (lv_at hl 4 rfl) ?_
      refine iv_roV (As := [.int (iI a), .int (iI b)]) (rest := []) (C := RX5) (n := 2) ⟨hx, hb, hml, hown, hts⟩ (c_X5_keysIn l D yI yC yD mo th re tl a1 a2 a3 a4 a5 a6 a7 a8 S a b (by omega)) (cwV 2 hts gX5_asked_X5_keysIn rfl rfl rfl (by decide +kernel) ⟨Nat.le_of_ble_eq_true rfl, Nat.le_of_ble_eq_true rfl⟩) hK hP [0, 1] rfl 0 rfl rfl rfl hl.1 rfl (Nat.le_of_ble_eq_true rfl) dX5_asked_64 ⟨Nat.zero_le _, Nat.zero_le _⟩ ?_
      refine lv_istore (lv' := [(5, .int (iI (keysIn S a b))), (4, .int (iI (aboutI S a b))), (3, .int (iI (costOf S a b))), (0, .ref mo), (1, .int (iI a)), (2, .int (iI b))]) hx hb dX5_asked_67 hl (by decide) rfl (fun ls hl => ?_)
      refine lv_iload hx hb dX5_asked_69 (lv_at hl 0 rfl) ?_
      refine lv_aload_n hx hb dX5_asked_71 rfl (lv_at hl 3 rfl) ?_
      refine va_get (D := D) (ci := 5) (v := .ref a1) (C := RX5) (T := TX5) (N := 11) hx hb hts hinX5 hown hK hP 0 rfl rfl 1 (by decide) hf7 (fun _ h9 => h9) rfl dX5_asked_72 ?_
      refine lv_iconst (v := iI 2) hx hb dX5_asked_75 (by decide +kernel) ?_
      refine iv_ald hx hb hK hP 1 0 rfl rfl (z := 2) (by omega) (by omega) (by omega) dX5_asked_76 ?_
      refine iv_icmp_ge (a := keysIn S a b) (b := S 2) (tgt := 85) hx hb (by omega) (by omega) dX5_asked_77 (by decide) (fun c77 => ?_) (fun c77 => ?_)
      · refine lv_iload hx hb dX5_asked_85 (lv_at hl 0 rfl) ?_
        refine lv_istore (lv' := [(6, .int (iI (keysIn S a b))), (5, .int (iI (keysIn S a b))), (4, .int (iI (aboutI S a b))), (3, .int (iI (costOf S a b))), (0, .ref mo), (1, .int (iI a)), (2, .int (iI b))]) hx hb dX5_asked_87 hl (by decide) rfl (fun ls hl => ?_)
        refine lv_aload_n hx hb dX5_asked_89 rfl (lv_at hl 4 rfl) ?_
        refine va_get (D := D) (ci := 5) (v := .ref a1) (C := RX5) (T := TX5) (N := 11) hx hb hts hinX5 hown hK hP 0 rfl rfl 1 (by decide) hf7 (fun _ h9 => h9) rfl dX5_asked_90 ?_
        refine lv_bipush (v := iI 48) hx hb dX5_asked_93 (by decide +kernel) ?_
        refine lv_iconst (v := iI 4) hx hb dX5_asked_95 (by decide +kernel) ?_
        refine lv_iload hx hb dX5_asked_96 (lv_at hl 2 rfl) ?_
        refine iv_mul hx hb dX5_asked_98 ?_
        refine iv_add hx hb dX5_asked_99 ?_
        refine lv_iconst (v := iI 0) hx hb dX5_asked_100 (by decide +kernel) ?_
        refine iv_add hx hb dX5_asked_101 ?_
        refine lv_iload_n hx hb dX5_asked_102 rfl (lv_at hl 5 rfl) ?_
        refine iv_ast hx hb hK hP hD hS 1 0 rfl rfl (z := 48 + (4 * (aboutI S a b)) + 0) (v := a) (by omega) (by omega) (by omega) dX5_asked_103 (fun H locs hP hD hS => ?_)
        have hP : va_P D vwCl [(mo, oMo th a1 a2 a3 re a4 a5 a6 tl a7 a8), (a1, aI yI 96 (up S (48 + (4 * (aboutI S a b)) + 0) a))] H := hP
        have hD : va_D A [(mo, oMo th a1 a2 a3 re a4 a5 a6 tl a7 a8), (a1, aI yI 96 (up S (48 + (4 * (aboutI S a b)) + 0) a))] := hD
        refine lv_aload_n hx hb dX5_asked_104 rfl (lv_at hl 4 rfl) ?_
        refine va_get (D := D) (ci := 5) (v := .ref a1) (C := RX5) (T := TX5) (N := 11) hx hb hts hinX5 hown hK hP 0 rfl rfl 1 (by decide) hf7 (fun _ h9 => h9) rfl dX5_asked_105 ?_
        refine lv_bipush (v := iI 48) hx hb dX5_asked_108 (by decide +kernel) ?_
        refine lv_iconst (v := iI 4) hx hb dX5_asked_110 (by decide +kernel) ?_
        refine lv_iload hx hb dX5_asked_111 (lv_at hl 2 rfl) ?_
        refine iv_mul hx hb dX5_asked_113 ?_
        refine iv_add hx hb dX5_asked_114 ?_
        refine lv_iconst (v := iI 1) hx hb dX5_asked_115 (by decide +kernel) ?_
        refine iv_add hx hb dX5_asked_116 ?_
        refine lv_iload_n hx hb dX5_asked_117 rfl (lv_at hl 6 rfl) ?_
        refine iv_ast hx hb hK hP hD hS 1 0 rfl rfl (z := 48 + (4 * (aboutI S a b)) + 1) (v := b) (by omega) (by omega) (by omega) dX5_asked_118 (fun H locs hP hD hS => ?_)
        have hP : va_P D vwCl [(mo, oMo th a1 a2 a3 re a4 a5 a6 tl a7 a8), (a1, aI yI 96 (up (up S (48 + (4 * (aboutI S a b)) + 0) a) (48 + (4 * (aboutI S a b)) + 1) b))] H := hP
        have hD : va_D A [(mo, oMo th a1 a2 a3 re a4 a5 a6 tl a7 a8), (a1, aI yI 96 (up (up S (48 + (4 * (aboutI S a b)) + 0) a) (48 + (4 * (aboutI S a b)) + 1) b))] := hD
        refine lv_aload_n hx hb dX5_asked_119 rfl (lv_at hl 4 rfl) ?_
        refine va_get (D := D) (ci := 5) (v := .ref a1) (C := RX5) (T := TX5) (N := 11) hx hb hts hinX5 hown hK hP 0 rfl rfl 1 (by decide) hf7 (fun _ h9 => h9) rfl dX5_asked_120 ?_
        refine lv_bipush (v := iI 48) hx hb dX5_asked_123 (by decide +kernel) ?_
        refine lv_iconst (v := iI 4) hx hb dX5_asked_125 (by decide +kernel) ?_
        refine lv_iload hx hb dX5_asked_126 (lv_at hl 2 rfl) ?_
        refine iv_mul hx hb dX5_asked_128 ?_
        refine iv_add hx hb dX5_asked_129 ?_
        refine lv_iconst (v := iI 2) hx hb dX5_asked_130 (by decide +kernel) ?_
        refine iv_add hx hb dX5_asked_131 ?_
        refine lv_iload hx hb dX5_asked_132 (lv_at hl 0 rfl) ?_
        refine iv_ast hx hb hK hP hD hS 1 0 rfl rfl (z := 48 + (4 * (aboutI S a b)) + 2) (v := keysIn S a b) (by omega) (by omega) (by omega) dX5_asked_134 (fun H locs hP hD hS => ?_)
        have hP : va_P D vwCl [(mo, oMo th a1 a2 a3 re a4 a5 a6 tl a7 a8), (a1, aI yI 96 (up (up (up S (48 + (4 * (aboutI S a b)) + 0) a) (48 + (4 * (aboutI S a b)) + 1) b) (48 + (4 * (aboutI S a b)) + 2) (keysIn S a b)))] H := hP
        have hD : va_D A [(mo, oMo th a1 a2 a3 re a4 a5 a6 tl a7 a8), (a1, aI yI 96 (up (up (up S (48 + (4 * (aboutI S a b)) + 0) a) (48 + (4 * (aboutI S a b)) + 1) b) (48 + (4 * (aboutI S a b)) + 2) (keysIn S a b)))] := hD
        refine lv_aload_n hx hb dX5_asked_135 rfl (lv_at hl 4 rfl) ?_
        refine va_get (D := D) (ci := 5) (v := .ref a1) (C := RX5) (T := TX5) (N := 11) hx hb hts hinX5 hown hK hP 0 rfl rfl 1 (by decide) hf7 (fun _ h9 => h9) rfl dX5_asked_136 ?_
        refine lv_bipush (v := iI 48) hx hb dX5_asked_139 (by decide +kernel) ?_
        refine lv_iconst (v := iI 4) hx hb dX5_asked_141 (by decide +kernel) ?_
        refine lv_iload hx hb dX5_asked_142 (lv_at hl 2 rfl) ?_
        refine iv_mul hx hb dX5_asked_144 ?_
        refine iv_add hx hb dX5_asked_145 ?_
        refine lv_iconst (v := iI 3) hx hb dX5_asked_146 (by decide +kernel) ?_
        refine iv_add hx hb dX5_asked_147 ?_
        refine lv_iload_n hx hb dX5_asked_148 rfl (lv_at hl 3 rfl) ?_
        refine iv_ast hx hb hK hP hD hS 1 0 rfl rfl (z := 48 + (4 * (aboutI S a b)) + 3) (v := costOf S a b) (by omega) (by omega) (by omega) dX5_asked_149 (fun H locs hP hD hS => ?_)
        have hP : va_P D vwCl [(mo, oMo th a1 a2 a3 re a4 a5 a6 tl a7 a8), (a1, aI yI 96 (up (up (up (up S (48 + (4 * (aboutI S a b)) + 0) a) (48 + (4 * (aboutI S a b)) + 1) b) (48 + (4 * (aboutI S a b)) + 2) (keysIn S a b)) (48 + (4 * (aboutI S a b)) + 3) (costOf S a b)))] H := hP
        have hD : va_D A [(mo, oMo th a1 a2 a3 re a4 a5 a6 tl a7 a8), (a1, aI yI 96 (up (up (up (up S (48 + (4 * (aboutI S a b)) + 0) a) (48 + (4 * (aboutI S a b)) + 1) b) (48 + (4 * (aboutI S a b)) + 2) (keysIn S a b)) (48 + (4 * (aboutI S a b)) + 3) (costOf S a b)))] := hD
        refine lv_aload_n hx hb dX5_asked_150 rfl (lv_at hl 4 rfl) ?_
        refine va_get (D := D) (ci := 5) (v := .ref a1) (C := RX5) (T := TX5) (N := 11) hx hb hts hinX5 hown hK hP 0 rfl rfl 1 (by decide) hf7 (fun _ h9 => h9) rfl dX5_asked_151 ?_
        refine lv_iconst (v := iI 5) hx hb dX5_asked_154 (by decide +kernel) ?_
        refine lv_dup2_11 hx hb dX5_asked_155 rfl rfl ?_
        refine iv_ald hx hb hK hP 1 0 rfl rfl (z := 5) (by omega) (by omega) (by omega) dX5_asked_156 ?_
        refine lv_iload_n hx hb dX5_asked_157 rfl (lv_at hl 3 rfl) ?_
        refine iv_add hx hb dX5_asked_158 ?_
        refine iv_ast hx hb hK hP hD hS 1 0 rfl rfl (z := 5) (v := (up (up (up (up S (48 + (4 * (aboutI S a b)) + 0) a) (48 + (4 * (aboutI S a b)) + 1) b) (48 + (4 * (aboutI S a b)) + 2) (keysIn S a b)) (48 + (4 * (aboutI S a b)) + 3) (costOf S a b)) 5 + (costOf S a b)) (by omega) (by omega) (by omega) dX5_asked_159 (fun H locs hP hD hS => ?_)
        have hP : va_P D vwCl [(mo, oMo th a1 a2 a3 re a4 a5 a6 tl a7 a8), (a1, aI yI 96 (up (up (up (up (up S (48 + (4 * (aboutI S a b)) + 0) a) (48 + (4 * (aboutI S a b)) + 1) b) (48 + (4 * (aboutI S a b)) + 2) (keysIn S a b)) (48 + (4 * (aboutI S a b)) + 3) (costOf S a b)) 5 ((up (up (up (up S (48 + (4 * (aboutI S a b)) + 0) a) (48 + (4 * (aboutI S a b)) + 1) b) (48 + (4 * (aboutI S a b)) + 2) (keysIn S a b)) (48 + (4 * (aboutI S a b)) + 3) (costOf S a b)) 5 + (costOf S a b))))] H := hP
        have hD : va_D A [(mo, oMo th a1 a2 a3 re a4 a5 a6 tl a7 a8), (a1, aI yI 96 (up (up (up (up (up S (48 + (4 * (aboutI S a b)) + 0) a) (48 + (4 * (aboutI S a b)) + 1) b) (48 + (4 * (aboutI S a b)) + 2) (keysIn S a b)) (48 + (4 * (aboutI S a b)) + 3) (costOf S a b)) 5 ((up (up (up (up S (48 + (4 * (aboutI S a b)) + 0) a) (48 + (4 * (aboutI S a b)) + 1) b) (48 + (4 * (aboutI S a b)) + 2) (keysIn S a b)) (48 + (4 * (aboutI S a b)) + 3) (costOf S a b)) 5 + (costOf S a b))))] := hD
        refine lv_aload_n hx hb dX5_asked_160 rfl (lv_at hl 4 rfl) ?_
        refine va_get (D := D) (ci := 5) (v := .ref a1) (C := RX5) (T := TX5) (N := 11) hx hb hts hinX5 hown hK hP 0 rfl rfl 1 (by decide) hf7 (fun _ h9 => h9) rfl dX5_asked_161 ?_
        refine lv_bipush (v := iI 6) hx hb dX5_asked_164 (by decide +kernel) ?_
        refine lv_dup2_11 hx hb dX5_asked_166 rfl rfl ?_
        refine iv_ald hx hb hK hP 1 0 rfl rfl (z := 6) (by omega) (by omega) (by omega) dX5_asked_167 ?_
        refine lv_iconst (v := iI 1) hx hb dX5_asked_168 (by decide +kernel) ?_
        refine iv_add hx hb dX5_asked_169 ?_
        refine iv_ast hx hb hK hP hD hS 1 0 rfl rfl (z := 6) (v := (up (up (up (up S (48 + (4 * (aboutI S a b)) + 0) a) (48 + (4 * (aboutI S a b)) + 1) b) (48 + (4 * (aboutI S a b)) + 2) (keysIn S a b)) (48 + (4 * (aboutI S a b)) + 3) (costOf S a b)) 6 + 1) (by omega) (by omega) (by omega) dX5_asked_170 (fun H locs hP hD hS => ?_)
        have hP : va_P D vwCl [(mo, oMo th a1 a2 a3 re a4 a5 a6 tl a7 a8), (a1, aI yI 96 (up (up (up (up (up (up S (48 + (4 * (aboutI S a b)) + 0) a) (48 + (4 * (aboutI S a b)) + 1) b) (48 + (4 * (aboutI S a b)) + 2) (keysIn S a b)) (48 + (4 * (aboutI S a b)) + 3) (costOf S a b)) 5 ((up (up (up (up S (48 + (4 * (aboutI S a b)) + 0) a) (48 + (4 * (aboutI S a b)) + 1) b) (48 + (4 * (aboutI S a b)) + 2) (keysIn S a b)) (48 + (4 * (aboutI S a b)) + 3) (costOf S a b)) 5 + (costOf S a b))) 6 ((up (up (up (up S (48 + (4 * (aboutI S a b)) + 0) a) (48 + (4 * (aboutI S a b)) + 1) b) (48 + (4 * (aboutI S a b)) + 2) (keysIn S a b)) (48 + (4 * (aboutI S a b)) + 3) (costOf S a b)) 6 + 1)))] H := hP
        have hD : va_D A [(mo, oMo th a1 a2 a3 re a4 a5 a6 tl a7 a8), (a1, aI yI 96 (up (up (up (up (up (up S (48 + (4 * (aboutI S a b)) + 0) a) (48 + (4 * (aboutI S a b)) + 1) b) (48 + (4 * (aboutI S a b)) + 2) (keysIn S a b)) (48 + (4 * (aboutI S a b)) + 3) (costOf S a b)) 5 ((up (up (up (up S (48 + (4 * (aboutI S a b)) + 0) a) (48 + (4 * (aboutI S a b)) + 1) b) (48 + (4 * (aboutI S a b)) + 2) (keysIn S a b)) (48 + (4 * (aboutI S a b)) + 3) (costOf S a b)) 5 + (costOf S a b))) 6 ((up (up (up (up S (48 + (4 * (aboutI S a b)) + 0) a) (48 + (4 * (aboutI S a b)) + 1) b) (48 + (4 * (aboutI S a b)) + 2) (keysIn S a b)) (48 + (4 * (aboutI S a b)) + 3) (costOf S a b)) 6 + 1)))] := hD
        refine lv_iload hx hb dX5_asked_171 (lv_at hl 0 rfl) ?_
        have hP9 : va_P D vwCl [(mo, oMo th a1 a2 a3 re a4 a5 a6 tl a7 a8), (a1, aI yI 96 (askd S a b))] _ := (hP.sub (ws' := [(mo, oMo th a1 a2 a3 re a4 a5 a6 tl a7 a8), (a1, aI yI 96 (up (up (up (up (up (up S (48 + (4 * (aboutI S a b)) + 0) a) (48 + (4 * (aboutI S a b)) + 1) b) (48 + (4 * (aboutI S a b)) + 2) (keysIn S a b)) (48 + (4 * (aboutI S a b)) + 3) (costOf S a b)) 5 ((up (up (up (up S (48 + (4 * (aboutI S a b)) + 0) a) (48 + (4 * (aboutI S a b)) + 1) b) (48 + (4 * (aboutI S a b)) + 2) (keysIn S a b)) (48 + (4 * (aboutI S a b)) + 3) (costOf S a b)) 5 + (costOf S a b))) 6 ((up (up (up (up S (48 + (4 * (aboutI S a b)) + 0) a) (48 + (4 * (aboutI S a b)) + 1) b) (48 + (4 * (aboutI S a b)) + 2) (keysIn S a b)) (48 + (4 * (aboutI S a b)) + 3) (costOf S a b)) 6 + 1)))]) [0, 1] rfl).cv (by first | (exfalso; omega) | (rw [ask_eq1 (by omega) (by omega) (by unfold told; first | rw [if_pos (by omega)] | rw [if_neg (by omega)])] <;> rfl) | (rw [ask_eq2 (by omega) (by omega) (by unfold told; first | rw [if_pos (by omega)] | rw [if_neg (by omega)])] <;> rfl) | (rw [ask_eq3 (by omega) (by unfold told; first | rw [if_pos (by omega)] | rw [if_neg (by omega)])] <;> rfl))
        exact W.iret hx hb hr (fun t ht hW => ⟨⟨iI (keysIn S a b), (), rfl, ⟨congrArg iI (show keysIn S a b = told S a b by unfold told; first | rw [if_pos (by omega)] | rw [if_neg (by omega)]), trivial⟩, by show va_P D vwCl _ t.heap; rw [ht]; exact hP9⟩, hS.F ht⟩) hS.2.2 dX5_asked_173
      · refine lv_bipush (v := iI (-2)) hx hb dX5_asked_80 (by decide +kernel) ?_
        refine lv_goto (tgt := 87) hx hb dX5_asked_82 (by decide) ?_
        refine lv_istore (lv' := [(6, .int (iI (-2))), (5, .int (iI (keysIn S a b))), (4, .int (iI (aboutI S a b))), (3, .int (iI (costOf S a b))), (0, .ref mo), (1, .int (iI a)), (2, .int (iI b))]) hx hb dX5_asked_87 hl (by decide) rfl (fun ls hl => ?_)
        refine lv_aload_n hx hb dX5_asked_89 rfl (lv_at hl 4 rfl) ?_
        refine va_get (D := D) (ci := 5) (v := .ref a1) (C := RX5) (T := TX5) (N := 11) hx hb hts hinX5 hown hK hP 0 rfl rfl 1 (by decide) hf7 (fun _ h9 => h9) rfl dX5_asked_90 ?_
        refine lv_bipush (v := iI 48) hx hb dX5_asked_93 (by decide +kernel) ?_
        refine lv_iconst (v := iI 4) hx hb dX5_asked_95 (by decide +kernel) ?_
        refine lv_iload hx hb dX5_asked_96 (lv_at hl 2 rfl) ?_
        refine iv_mul hx hb dX5_asked_98 ?_
        refine iv_add hx hb dX5_asked_99 ?_
        refine lv_iconst (v := iI 0) hx hb dX5_asked_100 (by decide +kernel) ?_
        refine iv_add hx hb dX5_asked_101 ?_
        refine lv_iload_n hx hb dX5_asked_102 rfl (lv_at hl 5 rfl) ?_
        refine iv_ast hx hb hK hP hD hS 1 0 rfl rfl (z := 48 + (4 * (aboutI S a b)) + 0) (v := a) (by omega) (by omega) (by omega) dX5_asked_103 (fun H locs hP hD hS => ?_)
        have hP : va_P D vwCl [(mo, oMo th a1 a2 a3 re a4 a5 a6 tl a7 a8), (a1, aI yI 96 (up S (48 + (4 * (aboutI S a b)) + 0) a))] H := hP
        have hD : va_D A [(mo, oMo th a1 a2 a3 re a4 a5 a6 tl a7 a8), (a1, aI yI 96 (up S (48 + (4 * (aboutI S a b)) + 0) a))] := hD
        refine lv_aload_n hx hb dX5_asked_104 rfl (lv_at hl 4 rfl) ?_
        refine va_get (D := D) (ci := 5) (v := .ref a1) (C := RX5) (T := TX5) (N := 11) hx hb hts hinX5 hown hK hP 0 rfl rfl 1 (by decide) hf7 (fun _ h9 => h9) rfl dX5_asked_105 ?_
        refine lv_bipush (v := iI 48) hx hb dX5_asked_108 (by decide +kernel) ?_
        refine lv_iconst (v := iI 4) hx hb dX5_asked_110 (by decide +kernel) ?_
        refine lv_iload hx hb dX5_asked_111 (lv_at hl 2 rfl) ?_
        refine iv_mul hx hb dX5_asked_113 ?_
        refine iv_add hx hb dX5_asked_114 ?_
        refine lv_iconst (v := iI 1) hx hb dX5_asked_115 (by decide +kernel) ?_
        refine iv_add hx hb dX5_asked_116 ?_
        refine lv_iload_n hx hb dX5_asked_117 rfl (lv_at hl 6 rfl) ?_
        refine iv_ast hx hb hK hP hD hS 1 0 rfl rfl (z := 48 + (4 * (aboutI S a b)) + 1) (v := b) (by omega) (by omega) (by omega) dX5_asked_118 (fun H locs hP hD hS => ?_)
        have hP : va_P D vwCl [(mo, oMo th a1 a2 a3 re a4 a5 a6 tl a7 a8), (a1, aI yI 96 (up (up S (48 + (4 * (aboutI S a b)) + 0) a) (48 + (4 * (aboutI S a b)) + 1) b))] H := hP
        have hD : va_D A [(mo, oMo th a1 a2 a3 re a4 a5 a6 tl a7 a8), (a1, aI yI 96 (up (up S (48 + (4 * (aboutI S a b)) + 0) a) (48 + (4 * (aboutI S a b)) + 1) b))] := hD
        refine lv_aload_n hx hb dX5_asked_119 rfl (lv_at hl 4 rfl) ?_
        refine va_get (D := D) (ci := 5) (v := .ref a1) (C := RX5) (T := TX5) (N := 11) hx hb hts hinX5 hown hK hP 0 rfl rfl 1 (by decide) hf7 (fun _ h9 => h9) rfl dX5_asked_120 ?_
        refine lv_bipush (v := iI 48) hx hb dX5_asked_123 (by decide +kernel) ?_
        refine lv_iconst (v := iI 4) hx hb dX5_asked_125 (by decide +kernel) ?_
        refine lv_iload hx hb dX5_asked_126 (lv_at hl 2 rfl) ?_
        refine iv_mul hx hb dX5_asked_128 ?_
        refine iv_add hx hb dX5_asked_129 ?_
        refine lv_iconst (v := iI 2) hx hb dX5_asked_130 (by decide +kernel) ?_
        refine iv_add hx hb dX5_asked_131 ?_
        refine lv_iload hx hb dX5_asked_132 (lv_at hl 0 rfl) ?_
        refine iv_ast hx hb hK hP hD hS 1 0 rfl rfl (z := 48 + (4 * (aboutI S a b)) + 2) (v := -2) (by omega) (by omega) (by omega) dX5_asked_134 (fun H locs hP hD hS => ?_)
        have hP : va_P D vwCl [(mo, oMo th a1 a2 a3 re a4 a5 a6 tl a7 a8), (a1, aI yI 96 (up (up (up S (48 + (4 * (aboutI S a b)) + 0) a) (48 + (4 * (aboutI S a b)) + 1) b) (48 + (4 * (aboutI S a b)) + 2) (-2)))] H := hP
        have hD : va_D A [(mo, oMo th a1 a2 a3 re a4 a5 a6 tl a7 a8), (a1, aI yI 96 (up (up (up S (48 + (4 * (aboutI S a b)) + 0) a) (48 + (4 * (aboutI S a b)) + 1) b) (48 + (4 * (aboutI S a b)) + 2) (-2)))] := hD
        refine lv_aload_n hx hb dX5_asked_135 rfl (lv_at hl 4 rfl) ?_
        refine va_get (D := D) (ci := 5) (v := .ref a1) (C := RX5) (T := TX5) (N := 11) hx hb hts hinX5 hown hK hP 0 rfl rfl 1 (by decide) hf7 (fun _ h9 => h9) rfl dX5_asked_136 ?_
        refine lv_bipush (v := iI 48) hx hb dX5_asked_139 (by decide +kernel) ?_
        refine lv_iconst (v := iI 4) hx hb dX5_asked_141 (by decide +kernel) ?_
        refine lv_iload hx hb dX5_asked_142 (lv_at hl 2 rfl) ?_
        refine iv_mul hx hb dX5_asked_144 ?_
        refine iv_add hx hb dX5_asked_145 ?_
        refine lv_iconst (v := iI 3) hx hb dX5_asked_146 (by decide +kernel) ?_
        refine iv_add hx hb dX5_asked_147 ?_
        refine lv_iload_n hx hb dX5_asked_148 rfl (lv_at hl 3 rfl) ?_
        refine iv_ast hx hb hK hP hD hS 1 0 rfl rfl (z := 48 + (4 * (aboutI S a b)) + 3) (v := costOf S a b) (by omega) (by omega) (by omega) dX5_asked_149 (fun H locs hP hD hS => ?_)
        have hP : va_P D vwCl [(mo, oMo th a1 a2 a3 re a4 a5 a6 tl a7 a8), (a1, aI yI 96 (up (up (up (up S (48 + (4 * (aboutI S a b)) + 0) a) (48 + (4 * (aboutI S a b)) + 1) b) (48 + (4 * (aboutI S a b)) + 2) (-2)) (48 + (4 * (aboutI S a b)) + 3) (costOf S a b)))] H := hP
        have hD : va_D A [(mo, oMo th a1 a2 a3 re a4 a5 a6 tl a7 a8), (a1, aI yI 96 (up (up (up (up S (48 + (4 * (aboutI S a b)) + 0) a) (48 + (4 * (aboutI S a b)) + 1) b) (48 + (4 * (aboutI S a b)) + 2) (-2)) (48 + (4 * (aboutI S a b)) + 3) (costOf S a b)))] := hD
        refine lv_aload_n hx hb dX5_asked_150 rfl (lv_at hl 4 rfl) ?_
        refine va_get (D := D) (ci := 5) (v := .ref a1) (C := RX5) (T := TX5) (N := 11) hx hb hts hinX5 hown hK hP 0 rfl rfl 1 (by decide) hf7 (fun _ h9 => h9) rfl dX5_asked_151 ?_
        refine lv_iconst (v := iI 5) hx hb dX5_asked_154 (by decide +kernel) ?_
        refine lv_dup2_11 hx hb dX5_asked_155 rfl rfl ?_
        refine iv_ald hx hb hK hP 1 0 rfl rfl (z := 5) (by omega) (by omega) (by omega) dX5_asked_156 ?_
        refine lv_iload_n hx hb dX5_asked_157 rfl (lv_at hl 3 rfl) ?_
        refine iv_add hx hb dX5_asked_158 ?_
        refine iv_ast hx hb hK hP hD hS 1 0 rfl rfl (z := 5) (v := (up (up (up (up S (48 + (4 * (aboutI S a b)) + 0) a) (48 + (4 * (aboutI S a b)) + 1) b) (48 + (4 * (aboutI S a b)) + 2) (-2)) (48 + (4 * (aboutI S a b)) + 3) (costOf S a b)) 5 + (costOf S a b)) (by omega) (by omega) (by omega) dX5_asked_159 (fun H locs hP hD hS => ?_)
        have hP : va_P D vwCl [(mo, oMo th a1 a2 a3 re a4 a5 a6 tl a7 a8), (a1, aI yI 96 (up (up (up (up (up S (48 + (4 * (aboutI S a b)) + 0) a) (48 + (4 * (aboutI S a b)) + 1) b) (48 + (4 * (aboutI S a b)) + 2) (-2)) (48 + (4 * (aboutI S a b)) + 3) (costOf S a b)) 5 ((up (up (up (up S (48 + (4 * (aboutI S a b)) + 0) a) (48 + (4 * (aboutI S a b)) + 1) b) (48 + (4 * (aboutI S a b)) + 2) (-2)) (48 + (4 * (aboutI S a b)) + 3) (costOf S a b)) 5 + (costOf S a b))))] H := hP
        have hD : va_D A [(mo, oMo th a1 a2 a3 re a4 a5 a6 tl a7 a8), (a1, aI yI 96 (up (up (up (up (up S (48 + (4 * (aboutI S a b)) + 0) a) (48 + (4 * (aboutI S a b)) + 1) b) (48 + (4 * (aboutI S a b)) + 2) (-2)) (48 + (4 * (aboutI S a b)) + 3) (costOf S a b)) 5 ((up (up (up (up S (48 + (4 * (aboutI S a b)) + 0) a) (48 + (4 * (aboutI S a b)) + 1) b) (48 + (4 * (aboutI S a b)) + 2) (-2)) (48 + (4 * (aboutI S a b)) + 3) (costOf S a b)) 5 + (costOf S a b))))] := hD
        refine lv_aload_n hx hb dX5_asked_160 rfl (lv_at hl 4 rfl) ?_
        refine va_get (D := D) (ci := 5) (v := .ref a1) (C := RX5) (T := TX5) (N := 11) hx hb hts hinX5 hown hK hP 0 rfl rfl 1 (by decide) hf7 (fun _ h9 => h9) rfl dX5_asked_161 ?_
        refine lv_bipush (v := iI 6) hx hb dX5_asked_164 (by decide +kernel) ?_
        refine lv_dup2_11 hx hb dX5_asked_166 rfl rfl ?_
        refine iv_ald hx hb hK hP 1 0 rfl rfl (z := 6) (by omega) (by omega) (by omega) dX5_asked_167 ?_
        refine lv_iconst (v := iI 1) hx hb dX5_asked_168 (by decide +kernel) ?_
        refine iv_add hx hb dX5_asked_169 ?_
        refine iv_ast hx hb hK hP hD hS 1 0 rfl rfl (z := 6) (v := (up (up (up (up S (48 + (4 * (aboutI S a b)) + 0) a) (48 + (4 * (aboutI S a b)) + 1) b) (48 + (4 * (aboutI S a b)) + 2) (-2)) (48 + (4 * (aboutI S a b)) + 3) (costOf S a b)) 6 + 1) (by omega) (by omega) (by omega) dX5_asked_170 (fun H locs hP hD hS => ?_)
        have hP : va_P D vwCl [(mo, oMo th a1 a2 a3 re a4 a5 a6 tl a7 a8), (a1, aI yI 96 (up (up (up (up (up (up S (48 + (4 * (aboutI S a b)) + 0) a) (48 + (4 * (aboutI S a b)) + 1) b) (48 + (4 * (aboutI S a b)) + 2) (-2)) (48 + (4 * (aboutI S a b)) + 3) (costOf S a b)) 5 ((up (up (up (up S (48 + (4 * (aboutI S a b)) + 0) a) (48 + (4 * (aboutI S a b)) + 1) b) (48 + (4 * (aboutI S a b)) + 2) (-2)) (48 + (4 * (aboutI S a b)) + 3) (costOf S a b)) 5 + (costOf S a b))) 6 ((up (up (up (up S (48 + (4 * (aboutI S a b)) + 0) a) (48 + (4 * (aboutI S a b)) + 1) b) (48 + (4 * (aboutI S a b)) + 2) (-2)) (48 + (4 * (aboutI S a b)) + 3) (costOf S a b)) 6 + 1)))] H := hP
        have hD : va_D A [(mo, oMo th a1 a2 a3 re a4 a5 a6 tl a7 a8), (a1, aI yI 96 (up (up (up (up (up (up S (48 + (4 * (aboutI S a b)) + 0) a) (48 + (4 * (aboutI S a b)) + 1) b) (48 + (4 * (aboutI S a b)) + 2) (-2)) (48 + (4 * (aboutI S a b)) + 3) (costOf S a b)) 5 ((up (up (up (up S (48 + (4 * (aboutI S a b)) + 0) a) (48 + (4 * (aboutI S a b)) + 1) b) (48 + (4 * (aboutI S a b)) + 2) (-2)) (48 + (4 * (aboutI S a b)) + 3) (costOf S a b)) 5 + (costOf S a b))) 6 ((up (up (up (up S (48 + (4 * (aboutI S a b)) + 0) a) (48 + (4 * (aboutI S a b)) + 1) b) (48 + (4 * (aboutI S a b)) + 2) (-2)) (48 + (4 * (aboutI S a b)) + 3) (costOf S a b)) 6 + 1)))] := hD
        refine lv_iload hx hb dX5_asked_171 (lv_at hl 0 rfl) ?_
        have hP9 : va_P D vwCl [(mo, oMo th a1 a2 a3 re a4 a5 a6 tl a7 a8), (a1, aI yI 96 (askd S a b))] _ := (hP.sub (ws' := [(mo, oMo th a1 a2 a3 re a4 a5 a6 tl a7 a8), (a1, aI yI 96 (up (up (up (up (up (up S (48 + (4 * (aboutI S a b)) + 0) a) (48 + (4 * (aboutI S a b)) + 1) b) (48 + (4 * (aboutI S a b)) + 2) (-2)) (48 + (4 * (aboutI S a b)) + 3) (costOf S a b)) 5 ((up (up (up (up S (48 + (4 * (aboutI S a b)) + 0) a) (48 + (4 * (aboutI S a b)) + 1) b) (48 + (4 * (aboutI S a b)) + 2) (-2)) (48 + (4 * (aboutI S a b)) + 3) (costOf S a b)) 5 + (costOf S a b))) 6 ((up (up (up (up S (48 + (4 * (aboutI S a b)) + 0) a) (48 + (4 * (aboutI S a b)) + 1) b) (48 + (4 * (aboutI S a b)) + 2) (-2)) (48 + (4 * (aboutI S a b)) + 3) (costOf S a b)) 6 + 1)))]) [0, 1] rfl).cv (by first | (exfalso; omega) | (rw [ask_eq1 (by omega) (by omega) (by unfold told; first | rw [if_pos (by omega)] | rw [if_neg (by omega)])] <;> rfl) | (rw [ask_eq2 (by omega) (by omega) (by unfold told; first | rw [if_pos (by omega)] | rw [if_neg (by omega)])] <;> rfl) | (rw [ask_eq3 (by omega) (by unfold told; first | rw [if_pos (by omega)] | rw [if_neg (by omega)])] <;> rfl))
        exact W.iret hx hb hr (fun t ht hW => ⟨⟨iI (-2), (), rfl, ⟨congrArg iI (show -2 = told S a b by unfold told; first | rw [if_pos (by omega)] | rw [if_neg (by omega)]), trivial⟩, by show va_P D vwCl _ t.heap; rw [ht]; exact hP9⟩, hS.F ht⟩) hS.2.2 dX5_asked_173
    · exact absurd c40 (by omega)
  · refine lv_aload_n hx hb dX5_asked_21 rfl (lv_at hl 2 rfl) ?_
    refine va_get (D := D) (ci := 5) (v := .ref a1) (C := RX5) (T := TX5) (N := 11) hx hb hts hinX5 hown hK hP 0 rfl rfl 1 (by decide) hf7 (fun _ h9 => h9) rfl dX5_asked_22 ?_
    refine lv_iconst (v := iI 4) hx hb dX5_asked_25 (by decide +kernel) ?_
    refine iv_ald hx hb hK hP 1 0 rfl rfl (z := 4) (by omega) (by omega) (by omega) dX5_asked_26 ?_
    refine lv_bipush (v := iI 12) hx hb dX5_asked_27 (by decide +kernel) ?_
    refine iv_icmp_ne (a := S 4) (b := 12) (tgt := 37) hx hb (by omega) (by omega) dX5_asked_29 (by decide) (fun c29 => ?_) (fun c29 => ?_)
    · refine lv_iload hx hb dX5_asked_37 (lv_at hl 0 rfl) ?_
      refine lv_iconst (v := iI (-1)) hx hb dX5_asked_39 (by decide +kernel) ?_
      refine iv_icmp_ne (a := aboutI S a b) (b := -1) (tgt := 61) hx hb (by omega) (by omega) dX5_asked_40 (by decide) (fun c40 => ?_) (fun c40 => ?_)
      · exact absurd c40 (by omega)
      · refine lv_aload_n hx hb dX5_asked_43 rfl (lv_at hl 2 rfl) ?_
        refine va_get (D := D) (ci := 5) (v := .ref a1) (C := RX5) (T := TX5) (N := 11) hx hb hts hinX5 hown hK hP 0 rfl rfl 1 (by decide) hf7 (fun _ h9 => h9) rfl dX5_asked_44 ?_
        refine lv_iconst (v := iI 4) hx hb dX5_asked_47 (by decide +kernel) ?_
        refine iv_ald hx hb hK hP 1 0 rfl rfl (z := 4) (by omega) (by omega) (by omega) dX5_asked_48 ?_
        refine lv_istore (lv' := [(4, .int (iI (S 4))), (3, .int (iI (costOf S a b))), (0, .ref mo), (1, .int (iI a)), (2, .int (iI b))]) hx hb dX5_asked_49 hl (by decide) rfl (fun ls hl => ?_)
        refine lv_aload_n hx hb dX5_asked_51 rfl (lv_at hl 2 rfl) ?_
        refine va_get (D := D) (ci := 5) (v := .ref a1) (C := RX5) (T := TX5) (N := 11) hx hb hts hinX5 hown hK hP 0 rfl rfl 1 (by decide) hf7 (fun _ h9 => h9) rfl dX5_asked_52 ?_
        refine lv_iconst (v := iI 4) hx hb dX5_asked_55 (by decide +kernel) ?_
        refine lv_dup2_11 hx hb dX5_asked_56 rfl rfl ?_
        refine iv_ald hx hb hK hP 1 0 rfl rfl (z := 4) (by omega) (by omega) (by omega) dX5_asked_57 ?_
        refine lv_iconst (v := iI 1) hx hb dX5_asked_58 (by decide +kernel) ?_
        refine iv_add hx hb dX5_asked_59 ?_
        refine iv_ast hx hb hK hP hD hS 1 0 rfl rfl (z := 4) (v := S 4 + 1) (by omega) (by omega) (by omega) dX5_asked_60 (fun H locs hP hD hS => ?_)
        have hP : va_P D vwCl [(mo, oMo th a1 a2 a3 re a4 a5 a6 tl a7 a8), (a1, aI yI 96 (up S 4 (S 4 + 1)))] H := hP
        have hD : va_D A [(mo, oMo th a1 a2 a3 re a4 a5 a6 tl a7 a8), (a1, aI yI 96 (up S 4 (S 4 + 1)))] := hD
        refine lv_aload_n hx hb dX5_asked_61 rfl (lv_at hl 2 rfl) ?_
        have hkc : keysIn (up S 4 (S 4 + 1)) a b = keysIn S a b := keysIn_c (by omega) (by omega) (fun z h1 h2 => by first | exact ask_ca h1 h2 | exact ask_cb h1 h2)
        have hs2 : (up S 4 (S 4 + 1)) 2 = S 2 := by first | rfl | exact ask_c2
        have hs3 : forget1 S 0 2 = S 2 := forget1_k (by omega) (by omega) (by omega) (by omega)
        have hat9 : 0 ≤ (S 4) ∧ (S 4) < 12 := by first | omega | (have : forget1 S 0 4 = S 4 - 1 := rfl; omega)
        refine lv_iload_n hx hb dX5_asked_62 rfl (lv_at hl 3 rfl) ?_
        refine lv_iload_n hx hb dX5_asked_63 rfl (lv_at hl 4 rfl) ?_
        refine iv_roV (As := [.int (iI a), .int (iI b)]) (rest := []) (C := RX5) (n := 2) ⟨hx, hb, hml, hown, hts⟩ (c_X5_keysIn l D yI yC yD mo th re tl a1 a2 a3 a4 a5 a6 a7 a8 (up S 4 (S 4 + 1)) a b (by omega)) (cwV 2 hts gX5_asked_X5_keysIn rfl rfl rfl (by decide +kernel) ⟨Nat.le_of_ble_eq_true rfl, Nat.le_of_ble_eq_true rfl⟩) hK hP [0, 1] rfl 0 rfl rfl rfl hl.1 rfl (Nat.le_of_ble_eq_true rfl) dX5_asked_64 ⟨Nat.zero_le _, Nat.zero_le _⟩ ?_
        rw [show (keysIn (up S 4 (S 4 + 1)) a b : Int) = keysIn S a b from (by rw [hkc])]
        refine lv_istore (lv' := [(5, .int (iI (keysIn S a b))), (4, .int (iI (S 4))), (3, .int (iI (costOf S a b))), (0, .ref mo), (1, .int (iI a)), (2, .int (iI b))]) hx hb dX5_asked_67 hl (by decide) rfl (fun ls hl => ?_)
        refine lv_iload hx hb dX5_asked_69 (lv_at hl 0 rfl) ?_
        refine lv_aload_n hx hb dX5_asked_71 rfl (lv_at hl 3 rfl) ?_
        refine va_get (D := D) (ci := 5) (v := .ref a1) (C := RX5) (T := TX5) (N := 11) hx hb hts hinX5 hown hK hP 0 rfl rfl 1 (by decide) hf7 (fun _ h9 => h9) rfl dX5_asked_72 ?_
        refine lv_iconst (v := iI 2) hx hb dX5_asked_75 (by decide +kernel) ?_
        refine iv_ald hx hb hK hP 1 0 rfl rfl (z := 2) (by omega) (by omega) (by omega) dX5_asked_76 ?_
        refine iv_icmp_ge (a := keysIn S a b) (b := S 2) (tgt := 85) hx hb (by omega) (by omega) dX5_asked_77 (by decide) (fun c77 => ?_) (fun c77 => ?_)
        · refine lv_iload hx hb dX5_asked_85 (lv_at hl 0 rfl) ?_
          refine lv_istore (lv' := [(6, .int (iI (keysIn S a b))), (5, .int (iI (keysIn S a b))), (4, .int (iI (S 4))), (3, .int (iI (costOf S a b))), (0, .ref mo), (1, .int (iI a)), (2, .int (iI b))]) hx hb dX5_asked_87 hl (by decide) rfl (fun ls hl => ?_)
          refine lv_aload_n hx hb dX5_asked_89 rfl (lv_at hl 4 rfl) ?_
          refine va_get (D := D) (ci := 5) (v := .ref a1) (C := RX5) (T := TX5) (N := 11) hx hb hts hinX5 hown hK hP 0 rfl rfl 1 (by decide) hf7 (fun _ h9 => h9) rfl dX5_asked_90 ?_
          refine lv_bipush (v := iI 48) hx hb dX5_asked_93 (by decide +kernel) ?_
          refine lv_iconst (v := iI 4) hx hb dX5_asked_95 (by decide +kernel) ?_
          refine lv_iload hx hb dX5_asked_96 (lv_at hl 2 rfl) ?_
          refine iv_mul hx hb dX5_asked_98 ?_
          refine iv_add hx hb dX5_asked_99 ?_
          refine lv_iconst (v := iI 0) hx hb dX5_asked_100 (by decide +kernel) ?_
          refine iv_add hx hb dX5_asked_101 ?_
          refine lv_iload_n hx hb dX5_asked_102 rfl (lv_at hl 5 rfl) ?_
          refine iv_ast hx hb hK hP hD hS 1 0 rfl rfl (z := 48 + (4 * (S 4)) + 0) (v := a) (by omega) (by omega) (by omega) dX5_asked_103 (fun H locs hP hD hS => ?_)
          have hP : va_P D vwCl [(mo, oMo th a1 a2 a3 re a4 a5 a6 tl a7 a8), (a1, aI yI 96 (up (up S 4 (S 4 + 1)) (48 + (4 * (S 4)) + 0) a))] H := hP
          have hD : va_D A [(mo, oMo th a1 a2 a3 re a4 a5 a6 tl a7 a8), (a1, aI yI 96 (up (up S 4 (S 4 + 1)) (48 + (4 * (S 4)) + 0) a))] := hD
          refine lv_aload_n hx hb dX5_asked_104 rfl (lv_at hl 4 rfl) ?_
          refine va_get (D := D) (ci := 5) (v := .ref a1) (C := RX5) (T := TX5) (N := 11) hx hb hts hinX5 hown hK hP 0 rfl rfl 1 (by decide) hf7 (fun _ h9 => h9) rfl dX5_asked_105 ?_
          refine lv_bipush (v := iI 48) hx hb dX5_asked_108 (by decide +kernel) ?_
          refine lv_iconst (v := iI 4) hx hb dX5_asked_110 (by decide +kernel) ?_
          refine lv_iload hx hb dX5_asked_111 (lv_at hl 2 rfl) ?_
          refine iv_mul hx hb dX5_asked_113 ?_
          refine iv_add hx hb dX5_asked_114 ?_
          refine lv_iconst (v := iI 1) hx hb dX5_asked_115 (by decide +kernel) ?_
          refine iv_add hx hb dX5_asked_116 ?_
          refine lv_iload_n hx hb dX5_asked_117 rfl (lv_at hl 6 rfl) ?_
          refine iv_ast hx hb hK hP hD hS 1 0 rfl rfl (z := 48 + (4 * (S 4)) + 1) (v := b) (by omega) (by omega) (by omega) dX5_asked_118 (fun H locs hP hD hS => ?_)
          have hP : va_P D vwCl [(mo, oMo th a1 a2 a3 re a4 a5 a6 tl a7 a8), (a1, aI yI 96 (up (up (up S 4 (S 4 + 1)) (48 + (4 * (S 4)) + 0) a) (48 + (4 * (S 4)) + 1) b))] H := hP
          have hD : va_D A [(mo, oMo th a1 a2 a3 re a4 a5 a6 tl a7 a8), (a1, aI yI 96 (up (up (up S 4 (S 4 + 1)) (48 + (4 * (S 4)) + 0) a) (48 + (4 * (S 4)) + 1) b))] := hD
          refine lv_aload_n hx hb dX5_asked_119 rfl (lv_at hl 4 rfl) ?_
          refine va_get (D := D) (ci := 5) (v := .ref a1) (C := RX5) (T := TX5) (N := 11) hx hb hts hinX5 hown hK hP 0 rfl rfl 1 (by decide) hf7 (fun _ h9 => h9) rfl dX5_asked_120 ?_
          refine lv_bipush (v := iI 48) hx hb dX5_asked_123 (by decide +kernel) ?_
          refine lv_iconst (v := iI 4) hx hb dX5_asked_125 (by decide +kernel) ?_
          refine lv_iload hx hb dX5_asked_126 (lv_at hl 2 rfl) ?_
          refine iv_mul hx hb dX5_asked_128 ?_
          refine iv_add hx hb dX5_asked_129 ?_
          refine lv_iconst (v := iI 2) hx hb dX5_asked_130 (by decide +kernel) ?_
          refine iv_add hx hb dX5_asked_131 ?_
          refine lv_iload hx hb dX5_asked_132 (lv_at hl 0 rfl) ?_
          refine iv_ast hx hb hK hP hD hS 1 0 rfl rfl (z := 48 + (4 * (S 4)) + 2) (v := keysIn S a b) (by omega) (by omega) (by omega) dX5_asked_134 (fun H locs hP hD hS => ?_)
          have hP : va_P D vwCl [(mo, oMo th a1 a2 a3 re a4 a5 a6 tl a7 a8), (a1, aI yI 96 (up (up (up (up S 4 (S 4 + 1)) (48 + (4 * (S 4)) + 0) a) (48 + (4 * (S 4)) + 1) b) (48 + (4 * (S 4)) + 2) (keysIn S a b)))] H := hP
          have hD : va_D A [(mo, oMo th a1 a2 a3 re a4 a5 a6 tl a7 a8), (a1, aI yI 96 (up (up (up (up S 4 (S 4 + 1)) (48 + (4 * (S 4)) + 0) a) (48 + (4 * (S 4)) + 1) b) (48 + (4 * (S 4)) + 2) (keysIn S a b)))] := hD
          refine lv_aload_n hx hb dX5_asked_135 rfl (lv_at hl 4 rfl) ?_
          refine va_get (D := D) (ci := 5) (v := .ref a1) (C := RX5) (T := TX5) (N := 11) hx hb hts hinX5 hown hK hP 0 rfl rfl 1 (by decide) hf7 (fun _ h9 => h9) rfl dX5_asked_136 ?_
          refine lv_bipush (v := iI 48) hx hb dX5_asked_139 (by decide +kernel) ?_
          refine lv_iconst (v := iI 4) hx hb dX5_asked_141 (by decide +kernel) ?_
          refine lv_iload hx hb dX5_asked_142 (lv_at hl 2 rfl) ?_
          refine iv_mul hx hb dX5_asked_144 ?_
          refine iv_add hx hb dX5_asked_145 ?_
          refine lv_iconst (v := iI 3) hx hb dX5_asked_146 (by decide +kernel) ?_
          refine iv_add hx hb dX5_asked_147 ?_
          refine lv_iload_n hx hb dX5_asked_148 rfl (lv_at hl 3 rfl) ?_
          refine iv_ast hx hb hK hP hD hS 1 0 rfl rfl (z := 48 + (4 * (S 4)) + 3) (v := costOf S a b) (by omega) (by omega) (by omega) dX5_asked_149 (fun H locs hP hD hS => ?_)
          have hP : va_P D vwCl [(mo, oMo th a1 a2 a3 re a4 a5 a6 tl a7 a8), (a1, aI yI 96 (up (up (up (up (up S 4 (S 4 + 1)) (48 + (4 * (S 4)) + 0) a) (48 + (4 * (S 4)) + 1) b) (48 + (4 * (S 4)) + 2) (keysIn S a b)) (48 + (4 * (S 4)) + 3) (costOf S a b)))] H := hP
          have hD : va_D A [(mo, oMo th a1 a2 a3 re a4 a5 a6 tl a7 a8), (a1, aI yI 96 (up (up (up (up (up S 4 (S 4 + 1)) (48 + (4 * (S 4)) + 0) a) (48 + (4 * (S 4)) + 1) b) (48 + (4 * (S 4)) + 2) (keysIn S a b)) (48 + (4 * (S 4)) + 3) (costOf S a b)))] := hD
          refine lv_aload_n hx hb dX5_asked_150 rfl (lv_at hl 4 rfl) ?_
          refine va_get (D := D) (ci := 5) (v := .ref a1) (C := RX5) (T := TX5) (N := 11) hx hb hts hinX5 hown hK hP 0 rfl rfl 1 (by decide) hf7 (fun _ h9 => h9) rfl dX5_asked_151 ?_
          refine lv_iconst (v := iI 5) hx hb dX5_asked_154 (by decide +kernel) ?_
          refine lv_dup2_11 hx hb dX5_asked_155 rfl rfl ?_
          refine iv_ald hx hb hK hP 1 0 rfl rfl (z := 5) (by omega) (by omega) (by omega) dX5_asked_156 ?_
          refine lv_iload_n hx hb dX5_asked_157 rfl (lv_at hl 3 rfl) ?_
          refine iv_add hx hb dX5_asked_158 ?_
          refine iv_ast hx hb hK hP hD hS 1 0 rfl rfl (z := 5) (v := (up (up (up (up (up S 4 (S 4 + 1)) (48 + (4 * (S 4)) + 0) a) (48 + (4 * (S 4)) + 1) b) (48 + (4 * (S 4)) + 2) (keysIn S a b)) (48 + (4 * (S 4)) + 3) (costOf S a b)) 5 + (costOf S a b)) (by omega) (by omega) (by omega) dX5_asked_159 (fun H locs hP hD hS => ?_)
          have hP : va_P D vwCl [(mo, oMo th a1 a2 a3 re a4 a5 a6 tl a7 a8), (a1, aI yI 96 (up (up (up (up (up (up S 4 (S 4 + 1)) (48 + (4 * (S 4)) + 0) a) (48 + (4 * (S 4)) + 1) b) (48 + (4 * (S 4)) + 2) (keysIn S a b)) (48 + (4 * (S 4)) + 3) (costOf S a b)) 5 ((up (up (up (up (up S 4 (S 4 + 1)) (48 + (4 * (S 4)) + 0) a) (48 + (4 * (S 4)) + 1) b) (48 + (4 * (S 4)) + 2) (keysIn S a b)) (48 + (4 * (S 4)) + 3) (costOf S a b)) 5 + (costOf S a b))))] H := hP
          have hD : va_D A [(mo, oMo th a1 a2 a3 re a4 a5 a6 tl a7 a8), (a1, aI yI 96 (up (up (up (up (up (up S 4 (S 4 + 1)) (48 + (4 * (S 4)) + 0) a) (48 + (4 * (S 4)) + 1) b) (48 + (4 * (S 4)) + 2) (keysIn S a b)) (48 + (4 * (S 4)) + 3) (costOf S a b)) 5 ((up (up (up (up (up S 4 (S 4 + 1)) (48 + (4 * (S 4)) + 0) a) (48 + (4 * (S 4)) + 1) b) (48 + (4 * (S 4)) + 2) (keysIn S a b)) (48 + (4 * (S 4)) + 3) (costOf S a b)) 5 + (costOf S a b))))] := hD
          refine lv_aload_n hx hb dX5_asked_160 rfl (lv_at hl 4 rfl) ?_
          refine va_get (D := D) (ci := 5) (v := .ref a1) (C := RX5) (T := TX5) (N := 11) hx hb hts hinX5 hown hK hP 0 rfl rfl 1 (by decide) hf7 (fun _ h9 => h9) rfl dX5_asked_161 ?_
          refine lv_bipush (v := iI 6) hx hb dX5_asked_164 (by decide +kernel) ?_
          refine lv_dup2_11 hx hb dX5_asked_166 rfl rfl ?_
          refine iv_ald hx hb hK hP 1 0 rfl rfl (z := 6) (by omega) (by omega) (by omega) dX5_asked_167 ?_
          refine lv_iconst (v := iI 1) hx hb dX5_asked_168 (by decide +kernel) ?_
          refine iv_add hx hb dX5_asked_169 ?_
          refine iv_ast hx hb hK hP hD hS 1 0 rfl rfl (z := 6) (v := (up (up (up (up (up S 4 (S 4 + 1)) (48 + (4 * (S 4)) + 0) a) (48 + (4 * (S 4)) + 1) b) (48 + (4 * (S 4)) + 2) (keysIn S a b)) (48 + (4 * (S 4)) + 3) (costOf S a b)) 6 + 1) (by omega) (by omega) (by omega) dX5_asked_170 (fun H locs hP hD hS => ?_)
          have hP : va_P D vwCl [(mo, oMo th a1 a2 a3 re a4 a5 a6 tl a7 a8), (a1, aI yI 96 (up (up (up (up (up (up (up S 4 (S 4 + 1)) (48 + (4 * (S 4)) + 0) a) (48 + (4 * (S 4)) + 1) b) (48 + (4 * (S 4)) + 2) (keysIn S a b)) (48 + (4 * (S 4)) + 3) (costOf S a b)) 5 ((up (up (up (up (up S 4 (S 4 + 1)) (48 + (4 * (S 4)) + 0) a) (48 + (4 * (S 4)) + 1) b) (48 + (4 * (S 4)) + 2) (keysIn S a b)) (48 + (4 * (S 4)) + 3) (costOf S a b)) 5 + (costOf S a b))) 6 ((up (up (up (up (up S 4 (S 4 + 1)) (48 + (4 * (S 4)) + 0) a) (48 + (4 * (S 4)) + 1) b) (48 + (4 * (S 4)) + 2) (keysIn S a b)) (48 + (4 * (S 4)) + 3) (costOf S a b)) 6 + 1)))] H := hP
          have hD : va_D A [(mo, oMo th a1 a2 a3 re a4 a5 a6 tl a7 a8), (a1, aI yI 96 (up (up (up (up (up (up (up S 4 (S 4 + 1)) (48 + (4 * (S 4)) + 0) a) (48 + (4 * (S 4)) + 1) b) (48 + (4 * (S 4)) + 2) (keysIn S a b)) (48 + (4 * (S 4)) + 3) (costOf S a b)) 5 ((up (up (up (up (up S 4 (S 4 + 1)) (48 + (4 * (S 4)) + 0) a) (48 + (4 * (S 4)) + 1) b) (48 + (4 * (S 4)) + 2) (keysIn S a b)) (48 + (4 * (S 4)) + 3) (costOf S a b)) 5 + (costOf S a b))) 6 ((up (up (up (up (up S 4 (S 4 + 1)) (48 + (4 * (S 4)) + 0) a) (48 + (4 * (S 4)) + 1) b) (48 + (4 * (S 4)) + 2) (keysIn S a b)) (48 + (4 * (S 4)) + 3) (costOf S a b)) 6 + 1)))] := hD
          refine lv_iload hx hb dX5_asked_171 (lv_at hl 0 rfl) ?_
          have hP9 : va_P D vwCl [(mo, oMo th a1 a2 a3 re a4 a5 a6 tl a7 a8), (a1, aI yI 96 (askd S a b))] _ := (hP.sub (ws' := [(mo, oMo th a1 a2 a3 re a4 a5 a6 tl a7 a8), (a1, aI yI 96 (up (up (up (up (up (up (up S 4 (S 4 + 1)) (48 + (4 * (S 4)) + 0) a) (48 + (4 * (S 4)) + 1) b) (48 + (4 * (S 4)) + 2) (keysIn S a b)) (48 + (4 * (S 4)) + 3) (costOf S a b)) 5 ((up (up (up (up (up S 4 (S 4 + 1)) (48 + (4 * (S 4)) + 0) a) (48 + (4 * (S 4)) + 1) b) (48 + (4 * (S 4)) + 2) (keysIn S a b)) (48 + (4 * (S 4)) + 3) (costOf S a b)) 5 + (costOf S a b))) 6 ((up (up (up (up (up S 4 (S 4 + 1)) (48 + (4 * (S 4)) + 0) a) (48 + (4 * (S 4)) + 1) b) (48 + (4 * (S 4)) + 2) (keysIn S a b)) (48 + (4 * (S 4)) + 3) (costOf S a b)) 6 + 1)))]) [0, 1] rfl).cv (by first | (exfalso; omega) | (rw [ask_eq1 (by omega) (by omega) (by unfold told; first | rw [if_pos (by omega)] | rw [if_neg (by omega)])] <;> rfl) | (rw [ask_eq2 (by omega) (by omega) (by unfold told; first | rw [if_pos (by omega)] | rw [if_neg (by omega)])] <;> rfl) | (rw [ask_eq3 (by omega) (by unfold told; first | rw [if_pos (by omega)] | rw [if_neg (by omega)])] <;> rfl))
          exact W.iret hx hb hr (fun t ht hW => ⟨⟨iI (keysIn S a b), (), rfl, ⟨congrArg iI (show keysIn S a b = told S a b by unfold told; first | rw [if_pos (by omega)] | rw [if_neg (by omega)]), trivial⟩, by show va_P D vwCl _ t.heap; rw [ht]; exact hP9⟩, hS.F ht⟩) hS.2.2 dX5_asked_173
        · refine lv_bipush (v := iI (-2)) hx hb dX5_asked_80 (by decide +kernel) ?_
          refine lv_goto (tgt := 87) hx hb dX5_asked_82 (by decide) ?_
          refine lv_istore (lv' := [(6, .int (iI (-2))), (5, .int (iI (keysIn S a b))), (4, .int (iI (S 4))), (3, .int (iI (costOf S a b))), (0, .ref mo), (1, .int (iI a)), (2, .int (iI b))]) hx hb dX5_asked_87 hl (by decide) rfl (fun ls hl => ?_)
          refine lv_aload_n hx hb dX5_asked_89 rfl (lv_at hl 4 rfl) ?_
          refine va_get (D := D) (ci := 5) (v := .ref a1) (C := RX5) (T := TX5) (N := 11) hx hb hts hinX5 hown hK hP 0 rfl rfl 1 (by decide) hf7 (fun _ h9 => h9) rfl dX5_asked_90 ?_
          refine lv_bipush (v := iI 48) hx hb dX5_asked_93 (by decide +kernel) ?_
          refine lv_iconst (v := iI 4) hx hb dX5_asked_95 (by decide +kernel) ?_
          refine lv_iload hx hb dX5_asked_96 (lv_at hl 2 rfl) ?_
          refine iv_mul hx hb dX5_asked_98 ?_
          refine iv_add hx hb dX5_asked_99 ?_
          refine lv_iconst (v := iI 0) hx hb dX5_asked_100 (by decide +kernel) ?_
          refine iv_add hx hb dX5_asked_101 ?_
          refine lv_iload_n hx hb dX5_asked_102 rfl (lv_at hl 5 rfl) ?_
          refine iv_ast hx hb hK hP hD hS 1 0 rfl rfl (z := 48 + (4 * (S 4)) + 0) (v := a) (by omega) (by omega) (by omega) dX5_asked_103 (fun H locs hP hD hS => ?_)
          have hP : va_P D vwCl [(mo, oMo th a1 a2 a3 re a4 a5 a6 tl a7 a8), (a1, aI yI 96 (up (up S 4 (S 4 + 1)) (48 + (4 * (S 4)) + 0) a))] H := hP
          have hD : va_D A [(mo, oMo th a1 a2 a3 re a4 a5 a6 tl a7 a8), (a1, aI yI 96 (up (up S 4 (S 4 + 1)) (48 + (4 * (S 4)) + 0) a))] := hD
          refine lv_aload_n hx hb dX5_asked_104 rfl (lv_at hl 4 rfl) ?_
          refine va_get (D := D) (ci := 5) (v := .ref a1) (C := RX5) (T := TX5) (N := 11) hx hb hts hinX5 hown hK hP 0 rfl rfl 1 (by decide) hf7 (fun _ h9 => h9) rfl dX5_asked_105 ?_
          refine lv_bipush (v := iI 48) hx hb dX5_asked_108 (by decide +kernel) ?_
          refine lv_iconst (v := iI 4) hx hb dX5_asked_110 (by decide +kernel) ?_
          refine lv_iload hx hb dX5_asked_111 (lv_at hl 2 rfl) ?_
          refine iv_mul hx hb dX5_asked_113 ?_
          refine iv_add hx hb dX5_asked_114 ?_
          refine lv_iconst (v := iI 1) hx hb dX5_asked_115 (by decide +kernel) ?_
          refine iv_add hx hb dX5_asked_116 ?_
          refine lv_iload_n hx hb dX5_asked_117 rfl (lv_at hl 6 rfl) ?_
          refine iv_ast hx hb hK hP hD hS 1 0 rfl rfl (z := 48 + (4 * (S 4)) + 1) (v := b) (by omega) (by omega) (by omega) dX5_asked_118 (fun H locs hP hD hS => ?_)
          have hP : va_P D vwCl [(mo, oMo th a1 a2 a3 re a4 a5 a6 tl a7 a8), (a1, aI yI 96 (up (up (up S 4 (S 4 + 1)) (48 + (4 * (S 4)) + 0) a) (48 + (4 * (S 4)) + 1) b))] H := hP
          have hD : va_D A [(mo, oMo th a1 a2 a3 re a4 a5 a6 tl a7 a8), (a1, aI yI 96 (up (up (up S 4 (S 4 + 1)) (48 + (4 * (S 4)) + 0) a) (48 + (4 * (S 4)) + 1) b))] := hD
          refine lv_aload_n hx hb dX5_asked_119 rfl (lv_at hl 4 rfl) ?_
          refine va_get (D := D) (ci := 5) (v := .ref a1) (C := RX5) (T := TX5) (N := 11) hx hb hts hinX5 hown hK hP 0 rfl rfl 1 (by decide) hf7 (fun _ h9 => h9) rfl dX5_asked_120 ?_
          refine lv_bipush (v := iI 48) hx hb dX5_asked_123 (by decide +kernel) ?_
          refine lv_iconst (v := iI 4) hx hb dX5_asked_125 (by decide +kernel) ?_
          refine lv_iload hx hb dX5_asked_126 (lv_at hl 2 rfl) ?_
          refine iv_mul hx hb dX5_asked_128 ?_
          refine iv_add hx hb dX5_asked_129 ?_
          refine lv_iconst (v := iI 2) hx hb dX5_asked_130 (by decide +kernel) ?_
          refine iv_add hx hb dX5_asked_131 ?_
          refine lv_iload hx hb dX5_asked_132 (lv_at hl 0 rfl) ?_
          refine iv_ast hx hb hK hP hD hS 1 0 rfl rfl (z := 48 + (4 * (S 4)) + 2) (v := -2) (by omega) (by omega) (by omega) dX5_asked_134 (fun H locs hP hD hS => ?_)
          have hP : va_P D vwCl [(mo, oMo th a1 a2 a3 re a4 a5 a6 tl a7 a8), (a1, aI yI 96 (up (up (up (up S 4 (S 4 + 1)) (48 + (4 * (S 4)) + 0) a) (48 + (4 * (S 4)) + 1) b) (48 + (4 * (S 4)) + 2) (-2)))] H := hP
          have hD : va_D A [(mo, oMo th a1 a2 a3 re a4 a5 a6 tl a7 a8), (a1, aI yI 96 (up (up (up (up S 4 (S 4 + 1)) (48 + (4 * (S 4)) + 0) a) (48 + (4 * (S 4)) + 1) b) (48 + (4 * (S 4)) + 2) (-2)))] := hD
          refine lv_aload_n hx hb dX5_asked_135 rfl (lv_at hl 4 rfl) ?_
          refine va_get (D := D) (ci := 5) (v := .ref a1) (C := RX5) (T := TX5) (N := 11) hx hb hts hinX5 hown hK hP 0 rfl rfl 1 (by decide) hf7 (fun _ h9 => h9) rfl dX5_asked_136 ?_
          refine lv_bipush (v := iI 48) hx hb dX5_asked_139 (by decide +kernel) ?_
          refine lv_iconst (v := iI 4) hx hb dX5_asked_141 (by decide +kernel) ?_
          refine lv_iload hx hb dX5_asked_142 (lv_at hl 2 rfl) ?_
          refine iv_mul hx hb dX5_asked_144 ?_
          refine iv_add hx hb dX5_asked_145 ?_
          refine lv_iconst (v := iI 3) hx hb dX5_asked_146 (by decide +kernel) ?_
          refine iv_add hx hb dX5_asked_147 ?_
          refine lv_iload_n hx hb dX5_asked_148 rfl (lv_at hl 3 rfl) ?_
          refine iv_ast hx hb hK hP hD hS 1 0 rfl rfl (z := 48 + (4 * (S 4)) + 3) (v := costOf S a b) (by omega) (by omega) (by omega) dX5_asked_149 (fun H locs hP hD hS => ?_)
          have hP : va_P D vwCl [(mo, oMo th a1 a2 a3 re a4 a5 a6 tl a7 a8), (a1, aI yI 96 (up (up (up (up (up S 4 (S 4 + 1)) (48 + (4 * (S 4)) + 0) a) (48 + (4 * (S 4)) + 1) b) (48 + (4 * (S 4)) + 2) (-2)) (48 + (4 * (S 4)) + 3) (costOf S a b)))] H := hP
          have hD : va_D A [(mo, oMo th a1 a2 a3 re a4 a5 a6 tl a7 a8), (a1, aI yI 96 (up (up (up (up (up S 4 (S 4 + 1)) (48 + (4 * (S 4)) + 0) a) (48 + (4 * (S 4)) + 1) b) (48 + (4 * (S 4)) + 2) (-2)) (48 + (4 * (S 4)) + 3) (costOf S a b)))] := hD
          refine lv_aload_n hx hb dX5_asked_150 rfl (lv_at hl 4 rfl) ?_
          refine va_get (D := D) (ci := 5) (v := .ref a1) (C := RX5) (T := TX5) (N := 11) hx hb hts hinX5 hown hK hP 0 rfl rfl 1 (by decide) hf7 (fun _ h9 => h9) rfl dX5_asked_151 ?_
          refine lv_iconst (v := iI 5) hx hb dX5_asked_154 (by decide +kernel) ?_
          refine lv_dup2_11 hx hb dX5_asked_155 rfl rfl ?_
          refine iv_ald hx hb hK hP 1 0 rfl rfl (z := 5) (by omega) (by omega) (by omega) dX5_asked_156 ?_
          refine lv_iload_n hx hb dX5_asked_157 rfl (lv_at hl 3 rfl) ?_
          refine iv_add hx hb dX5_asked_158 ?_
          refine iv_ast hx hb hK hP hD hS 1 0 rfl rfl (z := 5) (v := (up (up (up (up (up S 4 (S 4 + 1)) (48 + (4 * (S 4)) + 0) a) (48 + (4 * (S 4)) + 1) b) (48 + (4 * (S 4)) + 2) (-2)) (48 + (4 * (S 4)) + 3) (costOf S a b)) 5 + (costOf S a b)) (by omega) (by omega) (by omega) dX5_asked_159 (fun H locs hP hD hS => ?_)
          have hP : va_P D vwCl [(mo, oMo th a1 a2 a3 re a4 a5 a6 tl a7 a8), (a1, aI yI 96 (up (up (up (up (up (up S 4 (S 4 + 1)) (48 + (4 * (S 4)) + 0) a) (48 + (4 * (S 4)) + 1) b) (48 + (4 * (S 4)) + 2) (-2)) (48 + (4 * (S 4)) + 3) (costOf S a b)) 5 ((up (up (up (up (up S 4 (S 4 + 1)) (48 + (4 * (S 4)) + 0) a) (48 + (4 * (S 4)) + 1) b) (48 + (4 * (S 4)) + 2) (-2)) (48 + (4 * (S 4)) + 3) (costOf S a b)) 5 + (costOf S a b))))] H := hP
          have hD : va_D A [(mo, oMo th a1 a2 a3 re a4 a5 a6 tl a7 a8), (a1, aI yI 96 (up (up (up (up (up (up S 4 (S 4 + 1)) (48 + (4 * (S 4)) + 0) a) (48 + (4 * (S 4)) + 1) b) (48 + (4 * (S 4)) + 2) (-2)) (48 + (4 * (S 4)) + 3) (costOf S a b)) 5 ((up (up (up (up (up S 4 (S 4 + 1)) (48 + (4 * (S 4)) + 0) a) (48 + (4 * (S 4)) + 1) b) (48 + (4 * (S 4)) + 2) (-2)) (48 + (4 * (S 4)) + 3) (costOf S a b)) 5 + (costOf S a b))))] := hD
          refine lv_aload_n hx hb dX5_asked_160 rfl (lv_at hl 4 rfl) ?_
          refine va_get (D := D) (ci := 5) (v := .ref a1) (C := RX5) (T := TX5) (N := 11) hx hb hts hinX5 hown hK hP 0 rfl rfl 1 (by decide) hf7 (fun _ h9 => h9) rfl dX5_asked_161 ?_
          refine lv_bipush (v := iI 6) hx hb dX5_asked_164 (by decide +kernel) ?_
          refine lv_dup2_11 hx hb dX5_asked_166 rfl rfl ?_
          refine iv_ald hx hb hK hP 1 0 rfl rfl (z := 6) (by omega) (by omega) (by omega) dX5_asked_167 ?_
          refine lv_iconst (v := iI 1) hx hb dX5_asked_168 (by decide +kernel) ?_
          refine iv_add hx hb dX5_asked_169 ?_
          refine iv_ast hx hb hK hP hD hS 1 0 rfl rfl (z := 6) (v := (up (up (up (up (up S 4 (S 4 + 1)) (48 + (4 * (S 4)) + 0) a) (48 + (4 * (S 4)) + 1) b) (48 + (4 * (S 4)) + 2) (-2)) (48 + (4 * (S 4)) + 3) (costOf S a b)) 6 + 1) (by omega) (by omega) (by omega) dX5_asked_170 (fun H locs hP hD hS => ?_)
          have hP : va_P D vwCl [(mo, oMo th a1 a2 a3 re a4 a5 a6 tl a7 a8), (a1, aI yI 96 (up (up (up (up (up (up (up S 4 (S 4 + 1)) (48 + (4 * (S 4)) + 0) a) (48 + (4 * (S 4)) + 1) b) (48 + (4 * (S 4)) + 2) (-2)) (48 + (4 * (S 4)) + 3) (costOf S a b)) 5 ((up (up (up (up (up S 4 (S 4 + 1)) (48 + (4 * (S 4)) + 0) a) (48 + (4 * (S 4)) + 1) b) (48 + (4 * (S 4)) + 2) (-2)) (48 + (4 * (S 4)) + 3) (costOf S a b)) 5 + (costOf S a b))) 6 ((up (up (up (up (up S 4 (S 4 + 1)) (48 + (4 * (S 4)) + 0) a) (48 + (4 * (S 4)) + 1) b) (48 + (4 * (S 4)) + 2) (-2)) (48 + (4 * (S 4)) + 3) (costOf S a b)) 6 + 1)))] H := hP
          have hD : va_D A [(mo, oMo th a1 a2 a3 re a4 a5 a6 tl a7 a8), (a1, aI yI 96 (up (up (up (up (up (up (up S 4 (S 4 + 1)) (48 + (4 * (S 4)) + 0) a) (48 + (4 * (S 4)) + 1) b) (48 + (4 * (S 4)) + 2) (-2)) (48 + (4 * (S 4)) + 3) (costOf S a b)) 5 ((up (up (up (up (up S 4 (S 4 + 1)) (48 + (4 * (S 4)) + 0) a) (48 + (4 * (S 4)) + 1) b) (48 + (4 * (S 4)) + 2) (-2)) (48 + (4 * (S 4)) + 3) (costOf S a b)) 5 + (costOf S a b))) 6 ((up (up (up (up (up S 4 (S 4 + 1)) (48 + (4 * (S 4)) + 0) a) (48 + (4 * (S 4)) + 1) b) (48 + (4 * (S 4)) + 2) (-2)) (48 + (4 * (S 4)) + 3) (costOf S a b)) 6 + 1)))] := hD
          refine lv_iload hx hb dX5_asked_171 (lv_at hl 0 rfl) ?_
          have hP9 : va_P D vwCl [(mo, oMo th a1 a2 a3 re a4 a5 a6 tl a7 a8), (a1, aI yI 96 (askd S a b))] _ := (hP.sub (ws' := [(mo, oMo th a1 a2 a3 re a4 a5 a6 tl a7 a8), (a1, aI yI 96 (up (up (up (up (up (up (up S 4 (S 4 + 1)) (48 + (4 * (S 4)) + 0) a) (48 + (4 * (S 4)) + 1) b) (48 + (4 * (S 4)) + 2) (-2)) (48 + (4 * (S 4)) + 3) (costOf S a b)) 5 ((up (up (up (up (up S 4 (S 4 + 1)) (48 + (4 * (S 4)) + 0) a) (48 + (4 * (S 4)) + 1) b) (48 + (4 * (S 4)) + 2) (-2)) (48 + (4 * (S 4)) + 3) (costOf S a b)) 5 + (costOf S a b))) 6 ((up (up (up (up (up S 4 (S 4 + 1)) (48 + (4 * (S 4)) + 0) a) (48 + (4 * (S 4)) + 1) b) (48 + (4 * (S 4)) + 2) (-2)) (48 + (4 * (S 4)) + 3) (costOf S a b)) 6 + 1)))]) [0, 1] rfl).cv (by first | (exfalso; omega) | (rw [ask_eq1 (by omega) (by omega) (by unfold told; first | rw [if_pos (by omega)] | rw [if_neg (by omega)])] <;> rfl) | (rw [ask_eq2 (by omega) (by omega) (by unfold told; first | rw [if_pos (by omega)] | rw [if_neg (by omega)])] <;> rfl) | (rw [ask_eq3 (by omega) (by unfold told; first | rw [if_pos (by omega)] | rw [if_neg (by omega)])] <;> rfl))
          exact W.iret hx hb hr (fun t ht hW => ⟨⟨iI (-2), (), rfl, ⟨congrArg iI (show -2 = told S a b by unfold told; first | rw [if_pos (by omega)] | rw [if_neg (by omega)]), trivial⟩, by show va_P D vwCl _ t.heap; rw [ht]; exact hP9⟩, hS.F ht⟩) hS.2.2 dX5_asked_173
    · refine lv_aload_n hx hb dX5_asked_32 rfl (lv_at hl 2 rfl) ?_
      refine lv_iconst (v := iI 0) hx hb dX5_asked_33 (by decide +kernel) ?_
      refine iv_rwVv (As := [.int (iI 0)]) (rest := []) (C := RX5) (n := 1) ⟨hx, hb, hml, hown, hts⟩ (c_X5_forgetOne l D yI yC yD mo th re tl a1 a2 a3 a4 a5 a6 a7 a8 S 0 (by omega) _) (cwV 1 hts gX5_asked_X5_forgetOne rfl rfl rfl (by decide +kernel) ⟨Nat.le_of_ble_eq_true rfl, Nat.le_of_ble_eq_true rfl⟩) hK hP hD hS hA [0, 1] (by decide) rfl 0 rfl rfl rfl hl.1 rfl (Nat.le_of_ble_eq_true rfl) dX5_asked_34 ⟨Nat.zero_le _, Nat.zero_le _⟩ (fun _ => rfl) (fun u34 H locs hw34 hP hD hS => ?_)
      have hP : va_P D vwCl [(mo, oMo th a1 a2 a3 re a4 a5 a6 tl a7 a8), (a1, aI yI 96 (forget1 S 0))] H := hP
      have hD : va_D A [(mo, oMo th a1 a2 a3 re a4 a5 a6 tl a7 a8), (a1, aI yI 96 (forget1 S 0))] := hD
      refine lv_iload hx hb dX5_asked_37 (lv_at hl 0 rfl) ?_
      refine lv_iconst (v := iI (-1)) hx hb dX5_asked_39 (by decide +kernel) ?_
      refine iv_icmp_ne (a := aboutI S a b) (b := -1) (tgt := 61) hx hb (by omega) (by omega) dX5_asked_40 (by decide) (fun c40 => ?_) (fun c40 => ?_)
      · exact absurd c40 (by omega)
      · refine lv_aload_n hx hb dX5_asked_43 rfl (lv_at hl 2 rfl) ?_
        refine va_get (D := D) (ci := 5) (v := .ref a1) (C := RX5) (T := TX5) (N := 11) hx hb hts hinX5 hown hK hP 0 rfl rfl 1 (by decide) hf7 (fun _ h9 => h9) rfl dX5_asked_44 ?_
        refine lv_iconst (v := iI 4) hx hb dX5_asked_47 (by decide +kernel) ?_
        refine iv_ald hx hb hK hP 1 0 rfl rfl (z := 4) (by omega) (by omega) (by omega) dX5_asked_48 ?_
        refine lv_istore (lv' := [(4, .int (iI ((forget1 S 0) 4))), (3, .int (iI (costOf S a b))), (0, .ref mo), (1, .int (iI a)), (2, .int (iI b))]) hx hb dX5_asked_49 hl (by decide) rfl (fun ls hl => ?_)
        refine lv_aload_n hx hb dX5_asked_51 rfl (lv_at hl 2 rfl) ?_
        refine va_get (D := D) (ci := 5) (v := .ref a1) (C := RX5) (T := TX5) (N := 11) hx hb hts hinX5 hown hK hP 0 rfl rfl 1 (by decide) hf7 (fun _ h9 => h9) rfl dX5_asked_52 ?_
        refine lv_iconst (v := iI 4) hx hb dX5_asked_55 (by decide +kernel) ?_
        refine lv_dup2_11 hx hb dX5_asked_56 rfl rfl ?_
        refine iv_ald hx hb hK hP 1 0 rfl rfl (z := 4) (by omega) (by omega) (by omega) dX5_asked_57 ?_
        refine lv_iconst (v := iI 1) hx hb dX5_asked_58 (by decide +kernel) ?_
        refine iv_add hx hb dX5_asked_59 ?_
        refine iv_ast hx hb hK hP hD hS 1 0 rfl rfl (z := 4) (v := (forget1 S 0) 4 + 1) (by omega) (by omega) (by omega) dX5_asked_60 (fun H locs hP hD hS => ?_)
        have hP : va_P D vwCl [(mo, oMo th a1 a2 a3 re a4 a5 a6 tl a7 a8), (a1, aI yI 96 (up (forget1 S 0) 4 ((forget1 S 0) 4 + 1)))] H := hP
        have hD : va_D A [(mo, oMo th a1 a2 a3 re a4 a5 a6 tl a7 a8), (a1, aI yI 96 (up (forget1 S 0) 4 ((forget1 S 0) 4 + 1)))] := hD
        refine lv_aload_n hx hb dX5_asked_61 rfl (lv_at hl 2 rfl) ?_
        have hkc : keysIn (up (forget1 S 0) 4 ((forget1 S 0) 4 + 1)) a b = keysIn S a b := keysIn_c (by omega) (by omega) (fun z h1 h2 => by first | exact ask_ca h1 h2 | exact ask_cb h1 h2)
        have hs2 : (up (forget1 S 0) 4 ((forget1 S 0) 4 + 1)) 2 = S 2 := by first | rfl | exact ask_c2
        have hs3 : forget1 S 0 2 = S 2 := forget1_k (by omega) (by omega) (by omega) (by omega)
        have hat9 : 0 ≤ ((forget1 S 0) 4) ∧ ((forget1 S 0) 4) < 12 := by first | omega | (have : forget1 S 0 4 = S 4 - 1 := rfl; omega)
        refine lv_iload_n hx hb dX5_asked_62 rfl (lv_at hl 3 rfl) ?_
        refine lv_iload_n hx hb dX5_asked_63 rfl (lv_at hl 4 rfl) ?_
        refine iv_roV (As := [.int (iI a), .int (iI b)]) (rest := []) (C := RX5) (n := 2) ⟨hx, hb, hml, hown, hts⟩ (c_X5_keysIn l D yI yC yD mo th re tl a1 a2 a3 a4 a5 a6 a7 a8 (up (forget1 S 0) 4 ((forget1 S 0) 4 + 1)) a b (by omega)) (cwV 2 hts gX5_asked_X5_keysIn rfl rfl rfl (by decide +kernel) ⟨Nat.le_of_ble_eq_true rfl, Nat.le_of_ble_eq_true rfl⟩) hK hP [0, 1] rfl 0 rfl rfl rfl hl.1 rfl (Nat.le_of_ble_eq_true rfl) dX5_asked_64 ⟨Nat.zero_le _, Nat.zero_le _⟩ ?_
        rw [show (keysIn (up (forget1 S 0) 4 ((forget1 S 0) 4 + 1)) a b : Int) = keysIn S a b from (by rw [hkc])]
        refine lv_istore (lv' := [(5, .int (iI (keysIn S a b))), (4, .int (iI ((forget1 S 0) 4))), (3, .int (iI (costOf S a b))), (0, .ref mo), (1, .int (iI a)), (2, .int (iI b))]) hx hb dX5_asked_67 hl (by decide) rfl (fun ls hl => ?_)
        refine lv_iload hx hb dX5_asked_69 (lv_at hl 0 rfl) ?_
        refine lv_aload_n hx hb dX5_asked_71 rfl (lv_at hl 3 rfl) ?_
        refine va_get (D := D) (ci := 5) (v := .ref a1) (C := RX5) (T := TX5) (N := 11) hx hb hts hinX5 hown hK hP 0 rfl rfl 1 (by decide) hf7 (fun _ h9 => h9) rfl dX5_asked_72 ?_
        refine lv_iconst (v := iI 2) hx hb dX5_asked_75 (by decide +kernel) ?_
        refine iv_ald hx hb hK hP 1 0 rfl rfl (z := 2) (by omega) (by omega) (by omega) dX5_asked_76 ?_
        refine iv_icmp_ge (a := keysIn S a b) (b := (forget1 S 0) 2) (tgt := 85) hx hb (by omega) (by omega) dX5_asked_77 (by decide) (fun c77 => ?_) (fun c77 => ?_)
        · refine lv_iload hx hb dX5_asked_85 (lv_at hl 0 rfl) ?_
          refine lv_istore (lv' := [(6, .int (iI (keysIn S a b))), (5, .int (iI (keysIn S a b))), (4, .int (iI ((forget1 S 0) 4))), (3, .int (iI (costOf S a b))), (0, .ref mo), (1, .int (iI a)), (2, .int (iI b))]) hx hb dX5_asked_87 hl (by decide) rfl (fun ls hl => ?_)
          refine lv_aload_n hx hb dX5_asked_89 rfl (lv_at hl 4 rfl) ?_
          refine va_get (D := D) (ci := 5) (v := .ref a1) (C := RX5) (T := TX5) (N := 11) hx hb hts hinX5 hown hK hP 0 rfl rfl 1 (by decide) hf7 (fun _ h9 => h9) rfl dX5_asked_90 ?_
          refine lv_bipush (v := iI 48) hx hb dX5_asked_93 (by decide +kernel) ?_
          refine lv_iconst (v := iI 4) hx hb dX5_asked_95 (by decide +kernel) ?_
          refine lv_iload hx hb dX5_asked_96 (lv_at hl 2 rfl) ?_
          refine iv_mul hx hb dX5_asked_98 ?_
          refine iv_add hx hb dX5_asked_99 ?_
          refine lv_iconst (v := iI 0) hx hb dX5_asked_100 (by decide +kernel) ?_
          refine iv_add hx hb dX5_asked_101 ?_
          refine lv_iload_n hx hb dX5_asked_102 rfl (lv_at hl 5 rfl) ?_
          refine iv_ast hx hb hK hP hD hS 1 0 rfl rfl (z := 48 + (4 * ((forget1 S 0) 4)) + 0) (v := a) (by omega) (by omega) (by omega) dX5_asked_103 (fun H locs hP hD hS => ?_)
          have hP : va_P D vwCl [(mo, oMo th a1 a2 a3 re a4 a5 a6 tl a7 a8), (a1, aI yI 96 (up (up (forget1 S 0) 4 ((forget1 S 0) 4 + 1)) (48 + (4 * ((forget1 S 0) 4)) + 0) a))] H := hP
          have hD : va_D A [(mo, oMo th a1 a2 a3 re a4 a5 a6 tl a7 a8), (a1, aI yI 96 (up (up (forget1 S 0) 4 ((forget1 S 0) 4 + 1)) (48 + (4 * ((forget1 S 0) 4)) + 0) a))] := hD
          refine lv_aload_n hx hb dX5_asked_104 rfl (lv_at hl 4 rfl) ?_
          refine va_get (D := D) (ci := 5) (v := .ref a1) (C := RX5) (T := TX5) (N := 11) hx hb hts hinX5 hown hK hP 0 rfl rfl 1 (by decide) hf7 (fun _ h9 => h9) rfl dX5_asked_105 ?_
          refine lv_bipush (v := iI 48) hx hb dX5_asked_108 (by decide +kernel) ?_
          refine lv_iconst (v := iI 4) hx hb dX5_asked_110 (by decide +kernel) ?_
          refine lv_iload hx hb dX5_asked_111 (lv_at hl 2 rfl) ?_
          refine iv_mul hx hb dX5_asked_113 ?_
          refine iv_add hx hb dX5_asked_114 ?_
          refine lv_iconst (v := iI 1) hx hb dX5_asked_115 (by decide +kernel) ?_
          refine iv_add hx hb dX5_asked_116 ?_
          refine lv_iload_n hx hb dX5_asked_117 rfl (lv_at hl 6 rfl) ?_
          refine iv_ast hx hb hK hP hD hS 1 0 rfl rfl (z := 48 + (4 * ((forget1 S 0) 4)) + 1) (v := b) (by omega) (by omega) (by omega) dX5_asked_118 (fun H locs hP hD hS => ?_)
          have hP : va_P D vwCl [(mo, oMo th a1 a2 a3 re a4 a5 a6 tl a7 a8), (a1, aI yI 96 (up (up (up (forget1 S 0) 4 ((forget1 S 0) 4 + 1)) (48 + (4 * ((forget1 S 0) 4)) + 0) a) (48 + (4 * ((forget1 S 0) 4)) + 1) b))] H := hP
          have hD : va_D A [(mo, oMo th a1 a2 a3 re a4 a5 a6 tl a7 a8), (a1, aI yI 96 (up (up (up (forget1 S 0) 4 ((forget1 S 0) 4 + 1)) (48 + (4 * ((forget1 S 0) 4)) + 0) a) (48 + (4 * ((forget1 S 0) 4)) + 1) b))] := hD
          refine lv_aload_n hx hb dX5_asked_119 rfl (lv_at hl 4 rfl) ?_
          refine va_get (D := D) (ci := 5) (v := .ref a1) (C := RX5) (T := TX5) (N := 11) hx hb hts hinX5 hown hK hP 0 rfl rfl 1 (by decide) hf7 (fun _ h9 => h9) rfl dX5_asked_120 ?_
          refine lv_bipush (v := iI 48) hx hb dX5_asked_123 (by decide +kernel) ?_
          refine lv_iconst (v := iI 4) hx hb dX5_asked_125 (by decide +kernel) ?_
          refine lv_iload hx hb dX5_asked_126 (lv_at hl 2 rfl) ?_
          refine iv_mul hx hb dX5_asked_128 ?_
          refine iv_add hx hb dX5_asked_129 ?_
          refine lv_iconst (v := iI 2) hx hb dX5_asked_130 (by decide +kernel) ?_
          refine iv_add hx hb dX5_asked_131 ?_
          refine lv_iload hx hb dX5_asked_132 (lv_at hl 0 rfl) ?_
          refine iv_ast hx hb hK hP hD hS 1 0 rfl rfl (z := 48 + (4 * ((forget1 S 0) 4)) + 2) (v := keysIn S a b) (by omega) (by omega) (by omega) dX5_asked_134 (fun H locs hP hD hS => ?_)
          have hP : va_P D vwCl [(mo, oMo th a1 a2 a3 re a4 a5 a6 tl a7 a8), (a1, aI yI 96 (up (up (up (up (forget1 S 0) 4 ((forget1 S 0) 4 + 1)) (48 + (4 * ((forget1 S 0) 4)) + 0) a) (48 + (4 * ((forget1 S 0) 4)) + 1) b) (48 + (4 * ((forget1 S 0) 4)) + 2) (keysIn S a b)))] H := hP
          have hD : va_D A [(mo, oMo th a1 a2 a3 re a4 a5 a6 tl a7 a8), (a1, aI yI 96 (up (up (up (up (forget1 S 0) 4 ((forget1 S 0) 4 + 1)) (48 + (4 * ((forget1 S 0) 4)) + 0) a) (48 + (4 * ((forget1 S 0) 4)) + 1) b) (48 + (4 * ((forget1 S 0) 4)) + 2) (keysIn S a b)))] := hD
          refine lv_aload_n hx hb dX5_asked_135 rfl (lv_at hl 4 rfl) ?_
          refine va_get (D := D) (ci := 5) (v := .ref a1) (C := RX5) (T := TX5) (N := 11) hx hb hts hinX5 hown hK hP 0 rfl rfl 1 (by decide) hf7 (fun _ h9 => h9) rfl dX5_asked_136 ?_
          refine lv_bipush (v := iI 48) hx hb dX5_asked_139 (by decide +kernel) ?_
          refine lv_iconst (v := iI 4) hx hb dX5_asked_141 (by decide +kernel) ?_
          refine lv_iload hx hb dX5_asked_142 (lv_at hl 2 rfl) ?_
          refine iv_mul hx hb dX5_asked_144 ?_
          refine iv_add hx hb dX5_asked_145 ?_
          refine lv_iconst (v := iI 3) hx hb dX5_asked_146 (by decide +kernel) ?_
          refine iv_add hx hb dX5_asked_147 ?_
          refine lv_iload_n hx hb dX5_asked_148 rfl (lv_at hl 3 rfl) ?_
          refine iv_ast hx hb hK hP hD hS 1 0 rfl rfl (z := 48 + (4 * ((forget1 S 0) 4)) + 3) (v := costOf S a b) (by omega) (by omega) (by omega) dX5_asked_149 (fun H locs hP hD hS => ?_)
          have hP : va_P D vwCl [(mo, oMo th a1 a2 a3 re a4 a5 a6 tl a7 a8), (a1, aI yI 96 (up (up (up (up (up (forget1 S 0) 4 ((forget1 S 0) 4 + 1)) (48 + (4 * ((forget1 S 0) 4)) + 0) a) (48 + (4 * ((forget1 S 0) 4)) + 1) b) (48 + (4 * ((forget1 S 0) 4)) + 2) (keysIn S a b)) (48 + (4 * ((forget1 S 0) 4)) + 3) (costOf S a b)))] H := hP
          have hD : va_D A [(mo, oMo th a1 a2 a3 re a4 a5 a6 tl a7 a8), (a1, aI yI 96 (up (up (up (up (up (forget1 S 0) 4 ((forget1 S 0) 4 + 1)) (48 + (4 * ((forget1 S 0) 4)) + 0) a) (48 + (4 * ((forget1 S 0) 4)) + 1) b) (48 + (4 * ((forget1 S 0) 4)) + 2) (keysIn S a b)) (48 + (4 * ((forget1 S 0) 4)) + 3) (costOf S a b)))] := hD
          refine lv_aload_n hx hb dX5_asked_150 rfl (lv_at hl 4 rfl) ?_
          refine va_get (D := D) (ci := 5) (v := .ref a1) (C := RX5) (T := TX5) (N := 11) hx hb hts hinX5 hown hK hP 0 rfl rfl 1 (by decide) hf7 (fun _ h9 => h9) rfl dX5_asked_151 ?_
          refine lv_iconst (v := iI 5) hx hb dX5_asked_154 (by decide +kernel) ?_
          refine lv_dup2_11 hx hb dX5_asked_155 rfl rfl ?_
          refine iv_ald hx hb hK hP 1 0 rfl rfl (z := 5) (by omega) (by omega) (by omega) dX5_asked_156 ?_
          refine lv_iload_n hx hb dX5_asked_157 rfl (lv_at hl 3 rfl) ?_
          refine iv_add hx hb dX5_asked_158 ?_
          refine iv_ast hx hb hK hP hD hS 1 0 rfl rfl (z := 5) (v := (up (up (up (up (up (forget1 S 0) 4 ((forget1 S 0) 4 + 1)) (48 + (4 * ((forget1 S 0) 4)) + 0) a) (48 + (4 * ((forget1 S 0) 4)) + 1) b) (48 + (4 * ((forget1 S 0) 4)) + 2) (keysIn S a b)) (48 + (4 * ((forget1 S 0) 4)) + 3) (costOf S a b)) 5 + (costOf S a b)) (by omega) (by omega) (by omega) dX5_asked_159 (fun H locs hP hD hS => ?_)
          have hP : va_P D vwCl [(mo, oMo th a1 a2 a3 re a4 a5 a6 tl a7 a8), (a1, aI yI 96 (up (up (up (up (up (up (forget1 S 0) 4 ((forget1 S 0) 4 + 1)) (48 + (4 * ((forget1 S 0) 4)) + 0) a) (48 + (4 * ((forget1 S 0) 4)) + 1) b) (48 + (4 * ((forget1 S 0) 4)) + 2) (keysIn S a b)) (48 + (4 * ((forget1 S 0) 4)) + 3) (costOf S a b)) 5 ((up (up (up (up (up (forget1 S 0) 4 ((forget1 S 0) 4 + 1)) (48 + (4 * ((forget1 S 0) 4)) + 0) a) (48 + (4 * ((forget1 S 0) 4)) + 1) b) (48 + (4 * ((forget1 S 0) 4)) + 2) (keysIn S a b)) (48 + (4 * ((forget1 S 0) 4)) + 3) (costOf S a b)) 5 + (costOf S a b))))] H := hP
          have hD : va_D A [(mo, oMo th a1 a2 a3 re a4 a5 a6 tl a7 a8), (a1, aI yI 96 (up (up (up (up (up (up (forget1 S 0) 4 ((forget1 S 0) 4 + 1)) (48 + (4 * ((forget1 S 0) 4)) + 0) a) (48 + (4 * ((forget1 S 0) 4)) + 1) b) (48 + (4 * ((forget1 S 0) 4)) + 2) (keysIn S a b)) (48 + (4 * ((forget1 S 0) 4)) + 3) (costOf S a b)) 5 ((up (up (up (up (up (forget1 S 0) 4 ((forget1 S 0) 4 + 1)) (48 + (4 * ((forget1 S 0) 4)) + 0) a) (48 + (4 * ((forget1 S 0) 4)) + 1) b) (48 + (4 * ((forget1 S 0) 4)) + 2) (keysIn S a b)) (48 + (4 * ((forget1 S 0) 4)) + 3) (costOf S a b)) 5 + (costOf S a b))))] := hD
          refine lv_aload_n hx hb dX5_asked_160 rfl (lv_at hl 4 rfl) ?_
          refine va_get (D := D) (ci := 5) (v := .ref a1) (C := RX5) (T := TX5) (N := 11) hx hb hts hinX5 hown hK hP 0 rfl rfl 1 (by decide) hf7 (fun _ h9 => h9) rfl dX5_asked_161 ?_
          refine lv_bipush (v := iI 6) hx hb dX5_asked_164 (by decide +kernel) ?_
          refine lv_dup2_11 hx hb dX5_asked_166 rfl rfl ?_
          refine iv_ald hx hb hK hP 1 0 rfl rfl (z := 6) (by omega) (by omega) (by omega) dX5_asked_167 ?_
          refine lv_iconst (v := iI 1) hx hb dX5_asked_168 (by decide +kernel) ?_
          refine iv_add hx hb dX5_asked_169 ?_
          refine iv_ast hx hb hK hP hD hS 1 0 rfl rfl (z := 6) (v := (up (up (up (up (up (forget1 S 0) 4 ((forget1 S 0) 4 + 1)) (48 + (4 * ((forget1 S 0) 4)) + 0) a) (48 + (4 * ((forget1 S 0) 4)) + 1) b) (48 + (4 * ((forget1 S 0) 4)) + 2) (keysIn S a b)) (48 + (4 * ((forget1 S 0) 4)) + 3) (costOf S a b)) 6 + 1) (by omega) (by omega) (by omega) dX5_asked_170 (fun H locs hP hD hS => ?_)
          have hP : va_P D vwCl [(mo, oMo th a1 a2 a3 re a4 a5 a6 tl a7 a8), (a1, aI yI 96 (up (up (up (up (up (up (up (forget1 S 0) 4 ((forget1 S 0) 4 + 1)) (48 + (4 * ((forget1 S 0) 4)) + 0) a) (48 + (4 * ((forget1 S 0) 4)) + 1) b) (48 + (4 * ((forget1 S 0) 4)) + 2) (keysIn S a b)) (48 + (4 * ((forget1 S 0) 4)) + 3) (costOf S a b)) 5 ((up (up (up (up (up (forget1 S 0) 4 ((forget1 S 0) 4 + 1)) (48 + (4 * ((forget1 S 0) 4)) + 0) a) (48 + (4 * ((forget1 S 0) 4)) + 1) b) (48 + (4 * ((forget1 S 0) 4)) + 2) (keysIn S a b)) (48 + (4 * ((forget1 S 0) 4)) + 3) (costOf S a b)) 5 + (costOf S a b))) 6 ((up (up (up (up (up (forget1 S 0) 4 ((forget1 S 0) 4 + 1)) (48 + (4 * ((forget1 S 0) 4)) + 0) a) (48 + (4 * ((forget1 S 0) 4)) + 1) b) (48 + (4 * ((forget1 S 0) 4)) + 2) (keysIn S a b)) (48 + (4 * ((forget1 S 0) 4)) + 3) (costOf S a b)) 6 + 1)))] H := hP
          have hD : va_D A [(mo, oMo th a1 a2 a3 re a4 a5 a6 tl a7 a8), (a1, aI yI 96 (up (up (up (up (up (up (up (forget1 S 0) 4 ((forget1 S 0) 4 + 1)) (48 + (4 * ((forget1 S 0) 4)) + 0) a) (48 + (4 * ((forget1 S 0) 4)) + 1) b) (48 + (4 * ((forget1 S 0) 4)) + 2) (keysIn S a b)) (48 + (4 * ((forget1 S 0) 4)) + 3) (costOf S a b)) 5 ((up (up (up (up (up (forget1 S 0) 4 ((forget1 S 0) 4 + 1)) (48 + (4 * ((forget1 S 0) 4)) + 0) a) (48 + (4 * ((forget1 S 0) 4)) + 1) b) (48 + (4 * ((forget1 S 0) 4)) + 2) (keysIn S a b)) (48 + (4 * ((forget1 S 0) 4)) + 3) (costOf S a b)) 5 + (costOf S a b))) 6 ((up (up (up (up (up (forget1 S 0) 4 ((forget1 S 0) 4 + 1)) (48 + (4 * ((forget1 S 0) 4)) + 0) a) (48 + (4 * ((forget1 S 0) 4)) + 1) b) (48 + (4 * ((forget1 S 0) 4)) + 2) (keysIn S a b)) (48 + (4 * ((forget1 S 0) 4)) + 3) (costOf S a b)) 6 + 1)))] := hD
          refine lv_iload hx hb dX5_asked_171 (lv_at hl 0 rfl) ?_
          have hP9 : va_P D vwCl [(mo, oMo th a1 a2 a3 re a4 a5 a6 tl a7 a8), (a1, aI yI 96 (askd S a b))] _ := (hP.sub (ws' := [(mo, oMo th a1 a2 a3 re a4 a5 a6 tl a7 a8), (a1, aI yI 96 (up (up (up (up (up (up (up (forget1 S 0) 4 ((forget1 S 0) 4 + 1)) (48 + (4 * ((forget1 S 0) 4)) + 0) a) (48 + (4 * ((forget1 S 0) 4)) + 1) b) (48 + (4 * ((forget1 S 0) 4)) + 2) (keysIn S a b)) (48 + (4 * ((forget1 S 0) 4)) + 3) (costOf S a b)) 5 ((up (up (up (up (up (forget1 S 0) 4 ((forget1 S 0) 4 + 1)) (48 + (4 * ((forget1 S 0) 4)) + 0) a) (48 + (4 * ((forget1 S 0) 4)) + 1) b) (48 + (4 * ((forget1 S 0) 4)) + 2) (keysIn S a b)) (48 + (4 * ((forget1 S 0) 4)) + 3) (costOf S a b)) 5 + (costOf S a b))) 6 ((up (up (up (up (up (forget1 S 0) 4 ((forget1 S 0) 4 + 1)) (48 + (4 * ((forget1 S 0) 4)) + 0) a) (48 + (4 * ((forget1 S 0) 4)) + 1) b) (48 + (4 * ((forget1 S 0) 4)) + 2) (keysIn S a b)) (48 + (4 * ((forget1 S 0) 4)) + 3) (costOf S a b)) 6 + 1)))]) [0, 1] rfl).cv (by first | (exfalso; omega) | (rw [ask_eq1 (by omega) (by omega) (by unfold told; first | rw [if_pos (by omega)] | rw [if_neg (by omega)])] <;> rfl) | (rw [ask_eq2 (by omega) (by omega) (by unfold told; first | rw [if_pos (by omega)] | rw [if_neg (by omega)])] <;> rfl) | (rw [ask_eq3 (by omega) (by unfold told; first | rw [if_pos (by omega)] | rw [if_neg (by omega)])] <;> rfl))
          exact W.iret hx hb hr (fun t ht hW => ⟨⟨iI (keysIn S a b), (), rfl, ⟨congrArg iI (show keysIn S a b = told S a b by unfold told; first | rw [if_pos (by omega)] | rw [if_neg (by omega)]), trivial⟩, by show va_P D vwCl _ t.heap; rw [ht]; exact hP9⟩, hS.F ht⟩) hS.2.2 dX5_asked_173
        · refine lv_bipush (v := iI (-2)) hx hb dX5_asked_80 (by decide +kernel) ?_
          refine lv_goto (tgt := 87) hx hb dX5_asked_82 (by decide) ?_
          refine lv_istore (lv' := [(6, .int (iI (-2))), (5, .int (iI (keysIn S a b))), (4, .int (iI ((forget1 S 0) 4))), (3, .int (iI (costOf S a b))), (0, .ref mo), (1, .int (iI a)), (2, .int (iI b))]) hx hb dX5_asked_87 hl (by decide) rfl (fun ls hl => ?_)
          refine lv_aload_n hx hb dX5_asked_89 rfl (lv_at hl 4 rfl) ?_
          refine va_get (D := D) (ci := 5) (v := .ref a1) (C := RX5) (T := TX5) (N := 11) hx hb hts hinX5 hown hK hP 0 rfl rfl 1 (by decide) hf7 (fun _ h9 => h9) rfl dX5_asked_90 ?_
          refine lv_bipush (v := iI 48) hx hb dX5_asked_93 (by decide +kernel) ?_
          refine lv_iconst (v := iI 4) hx hb dX5_asked_95 (by decide +kernel) ?_
          refine lv_iload hx hb dX5_asked_96 (lv_at hl 2 rfl) ?_
          refine iv_mul hx hb dX5_asked_98 ?_
          refine iv_add hx hb dX5_asked_99 ?_
          refine lv_iconst (v := iI 0) hx hb dX5_asked_100 (by decide +kernel) ?_
          refine iv_add hx hb dX5_asked_101 ?_
          refine lv_iload_n hx hb dX5_asked_102 rfl (lv_at hl 5 rfl) ?_
          refine iv_ast hx hb hK hP hD hS 1 0 rfl rfl (z := 48 + (4 * ((forget1 S 0) 4)) + 0) (v := a) (by omega) (by omega) (by omega) dX5_asked_103 (fun H locs hP hD hS => ?_)
          have hP : va_P D vwCl [(mo, oMo th a1 a2 a3 re a4 a5 a6 tl a7 a8), (a1, aI yI 96 (up (up (forget1 S 0) 4 ((forget1 S 0) 4 + 1)) (48 + (4 * ((forget1 S 0) 4)) + 0) a))] H := hP
          have hD : va_D A [(mo, oMo th a1 a2 a3 re a4 a5 a6 tl a7 a8), (a1, aI yI 96 (up (up (forget1 S 0) 4 ((forget1 S 0) 4 + 1)) (48 + (4 * ((forget1 S 0) 4)) + 0) a))] := hD
          refine lv_aload_n hx hb dX5_asked_104 rfl (lv_at hl 4 rfl) ?_
          refine va_get (D := D) (ci := 5) (v := .ref a1) (C := RX5) (T := TX5) (N := 11) hx hb hts hinX5 hown hK hP 0 rfl rfl 1 (by decide) hf7 (fun _ h9 => h9) rfl dX5_asked_105 ?_
          refine lv_bipush (v := iI 48) hx hb dX5_asked_108 (by decide +kernel) ?_
          refine lv_iconst (v := iI 4) hx hb dX5_asked_110 (by decide +kernel) ?_
          refine lv_iload hx hb dX5_asked_111 (lv_at hl 2 rfl) ?_
          refine iv_mul hx hb dX5_asked_113 ?_
          refine iv_add hx hb dX5_asked_114 ?_
          refine lv_iconst (v := iI 1) hx hb dX5_asked_115 (by decide +kernel) ?_
          refine iv_add hx hb dX5_asked_116 ?_
          refine lv_iload_n hx hb dX5_asked_117 rfl (lv_at hl 6 rfl) ?_
          refine iv_ast hx hb hK hP hD hS 1 0 rfl rfl (z := 48 + (4 * ((forget1 S 0) 4)) + 1) (v := b) (by omega) (by omega) (by omega) dX5_asked_118 (fun H locs hP hD hS => ?_)
          have hP : va_P D vwCl [(mo, oMo th a1 a2 a3 re a4 a5 a6 tl a7 a8), (a1, aI yI 96 (up (up (up (forget1 S 0) 4 ((forget1 S 0) 4 + 1)) (48 + (4 * ((forget1 S 0) 4)) + 0) a) (48 + (4 * ((forget1 S 0) 4)) + 1) b))] H := hP
          have hD : va_D A [(mo, oMo th a1 a2 a3 re a4 a5 a6 tl a7 a8), (a1, aI yI 96 (up (up (up (forget1 S 0) 4 ((forget1 S 0) 4 + 1)) (48 + (4 * ((forget1 S 0) 4)) + 0) a) (48 + (4 * ((forget1 S 0) 4)) + 1) b))] := hD
          refine lv_aload_n hx hb dX5_asked_119 rfl (lv_at hl 4 rfl) ?_
          refine va_get (D := D) (ci := 5) (v := .ref a1) (C := RX5) (T := TX5) (N := 11) hx hb hts hinX5 hown hK hP 0 rfl rfl 1 (by decide) hf7 (fun _ h9 => h9) rfl dX5_asked_120 ?_
          refine lv_bipush (v := iI 48) hx hb dX5_asked_123 (by decide +kernel) ?_
          refine lv_iconst (v := iI 4) hx hb dX5_asked_125 (by decide +kernel) ?_
          refine lv_iload hx hb dX5_asked_126 (lv_at hl 2 rfl) ?_
          refine iv_mul hx hb dX5_asked_128 ?_
          refine iv_add hx hb dX5_asked_129 ?_
          refine lv_iconst (v := iI 2) hx hb dX5_asked_130 (by decide +kernel) ?_
          refine iv_add hx hb dX5_asked_131 ?_
          refine lv_iload hx hb dX5_asked_132 (lv_at hl 0 rfl) ?_
          refine iv_ast hx hb hK hP hD hS 1 0 rfl rfl (z := 48 + (4 * ((forget1 S 0) 4)) + 2) (v := -2) (by omega) (by omega) (by omega) dX5_asked_134 (fun H locs hP hD hS => ?_)
          have hP : va_P D vwCl [(mo, oMo th a1 a2 a3 re a4 a5 a6 tl a7 a8), (a1, aI yI 96 (up (up (up (up (forget1 S 0) 4 ((forget1 S 0) 4 + 1)) (48 + (4 * ((forget1 S 0) 4)) + 0) a) (48 + (4 * ((forget1 S 0) 4)) + 1) b) (48 + (4 * ((forget1 S 0) 4)) + 2) (-2)))] H := hP
          have hD : va_D A [(mo, oMo th a1 a2 a3 re a4 a5 a6 tl a7 a8), (a1, aI yI 96 (up (up (up (up (forget1 S 0) 4 ((forget1 S 0) 4 + 1)) (48 + (4 * ((forget1 S 0) 4)) + 0) a) (48 + (4 * ((forget1 S 0) 4)) + 1) b) (48 + (4 * ((forget1 S 0) 4)) + 2) (-2)))] := hD
          refine lv_aload_n hx hb dX5_asked_135 rfl (lv_at hl 4 rfl) ?_
          refine va_get (D := D) (ci := 5) (v := .ref a1) (C := RX5) (T := TX5) (N := 11) hx hb hts hinX5 hown hK hP 0 rfl rfl 1 (by decide) hf7 (fun _ h9 => h9) rfl dX5_asked_136 ?_
          refine lv_bipush (v := iI 48) hx hb dX5_asked_139 (by decide +kernel) ?_
          refine lv_iconst (v := iI 4) hx hb dX5_asked_141 (by decide +kernel) ?_
          refine lv_iload hx hb dX5_asked_142 (lv_at hl 2 rfl) ?_
          refine iv_mul hx hb dX5_asked_144 ?_
          refine iv_add hx hb dX5_asked_145 ?_
          refine lv_iconst (v := iI 3) hx hb dX5_asked_146 (by decide +kernel) ?_
          refine iv_add hx hb dX5_asked_147 ?_
          refine lv_iload_n hx hb dX5_asked_148 rfl (lv_at hl 3 rfl) ?_
          refine iv_ast hx hb hK hP hD hS 1 0 rfl rfl (z := 48 + (4 * ((forget1 S 0) 4)) + 3) (v := costOf S a b) (by omega) (by omega) (by omega) dX5_asked_149 (fun H locs hP hD hS => ?_)
          have hP : va_P D vwCl [(mo, oMo th a1 a2 a3 re a4 a5 a6 tl a7 a8), (a1, aI yI 96 (up (up (up (up (up (forget1 S 0) 4 ((forget1 S 0) 4 + 1)) (48 + (4 * ((forget1 S 0) 4)) + 0) a) (48 + (4 * ((forget1 S 0) 4)) + 1) b) (48 + (4 * ((forget1 S 0) 4)) + 2) (-2)) (48 + (4 * ((forget1 S 0) 4)) + 3) (costOf S a b)))] H := hP
          have hD : va_D A [(mo, oMo th a1 a2 a3 re a4 a5 a6 tl a7 a8), (a1, aI yI 96 (up (up (up (up (up (forget1 S 0) 4 ((forget1 S 0) 4 + 1)) (48 + (4 * ((forget1 S 0) 4)) + 0) a) (48 + (4 * ((forget1 S 0) 4)) + 1) b) (48 + (4 * ((forget1 S 0) 4)) + 2) (-2)) (48 + (4 * ((forget1 S 0) 4)) + 3) (costOf S a b)))] := hD
          refine lv_aload_n hx hb dX5_asked_150 rfl (lv_at hl 4 rfl) ?_
          refine va_get (D := D) (ci := 5) (v := .ref a1) (C := RX5) (T := TX5) (N := 11) hx hb hts hinX5 hown hK hP 0 rfl rfl 1 (by decide) hf7 (fun _ h9 => h9) rfl dX5_asked_151 ?_
          refine lv_iconst (v := iI 5) hx hb dX5_asked_154 (by decide +kernel) ?_
          refine lv_dup2_11 hx hb dX5_asked_155 rfl rfl ?_
          refine iv_ald hx hb hK hP 1 0 rfl rfl (z := 5) (by omega) (by omega) (by omega) dX5_asked_156 ?_
          refine lv_iload_n hx hb dX5_asked_157 rfl (lv_at hl 3 rfl) ?_
          refine iv_add hx hb dX5_asked_158 ?_
          refine iv_ast hx hb hK hP hD hS 1 0 rfl rfl (z := 5) (v := (up (up (up (up (up (forget1 S 0) 4 ((forget1 S 0) 4 + 1)) (48 + (4 * ((forget1 S 0) 4)) + 0) a) (48 + (4 * ((forget1 S 0) 4)) + 1) b) (48 + (4 * ((forget1 S 0) 4)) + 2) (-2)) (48 + (4 * ((forget1 S 0) 4)) + 3) (costOf S a b)) 5 + (costOf S a b)) (by omega) (by omega) (by omega) dX5_asked_159 (fun H locs hP hD hS => ?_)
          have hP : va_P D vwCl [(mo, oMo th a1 a2 a3 re a4 a5 a6 tl a7 a8), (a1, aI yI 96 (up (up (up (up (up (up (forget1 S 0) 4 ((forget1 S 0) 4 + 1)) (48 + (4 * ((forget1 S 0) 4)) + 0) a) (48 + (4 * ((forget1 S 0) 4)) + 1) b) (48 + (4 * ((forget1 S 0) 4)) + 2) (-2)) (48 + (4 * ((forget1 S 0) 4)) + 3) (costOf S a b)) 5 ((up (up (up (up (up (forget1 S 0) 4 ((forget1 S 0) 4 + 1)) (48 + (4 * ((forget1 S 0) 4)) + 0) a) (48 + (4 * ((forget1 S 0) 4)) + 1) b) (48 + (4 * ((forget1 S 0) 4)) + 2) (-2)) (48 + (4 * ((forget1 S 0) 4)) + 3) (costOf S a b)) 5 + (costOf S a b))))] H := hP
          have hD : va_D A [(mo, oMo th a1 a2 a3 re a4 a5 a6 tl a7 a8), (a1, aI yI 96 (up (up (up (up (up (up (forget1 S 0) 4 ((forget1 S 0) 4 + 1)) (48 + (4 * ((forget1 S 0) 4)) + 0) a) (48 + (4 * ((forget1 S 0) 4)) + 1) b) (48 + (4 * ((forget1 S 0) 4)) + 2) (-2)) (48 + (4 * ((forget1 S 0) 4)) + 3) (costOf S a b)) 5 ((up (up (up (up (up (forget1 S 0) 4 ((forget1 S 0) 4 + 1)) (48 + (4 * ((forget1 S 0) 4)) + 0) a) (48 + (4 * ((forget1 S 0) 4)) + 1) b) (48 + (4 * ((forget1 S 0) 4)) + 2) (-2)) (48 + (4 * ((forget1 S 0) 4)) + 3) (costOf S a b)) 5 + (costOf S a b))))] := hD
          refine lv_aload_n hx hb dX5_asked_160 rfl (lv_at hl 4 rfl) ?_
          refine va_get (D := D) (ci := 5) (v := .ref a1) (C := RX5) (T := TX5) (N := 11) hx hb hts hinX5 hown hK hP 0 rfl rfl 1 (by decide) hf7 (fun _ h9 => h9) rfl dX5_asked_161 ?_
          refine lv_bipush (v := iI 6) hx hb dX5_asked_164 (by decide +kernel) ?_
          refine lv_dup2_11 hx hb dX5_asked_166 rfl rfl ?_
          refine iv_ald hx hb hK hP 1 0 rfl rfl (z := 6) (by omega) (by omega) (by omega) dX5_asked_167 ?_
          refine lv_iconst (v := iI 1) hx hb dX5_asked_168 (by decide +kernel) ?_
          refine iv_add hx hb dX5_asked_169 ?_
          refine iv_ast hx hb hK hP hD hS 1 0 rfl rfl (z := 6) (v := (up (up (up (up (up (forget1 S 0) 4 ((forget1 S 0) 4 + 1)) (48 + (4 * ((forget1 S 0) 4)) + 0) a) (48 + (4 * ((forget1 S 0) 4)) + 1) b) (48 + (4 * ((forget1 S 0) 4)) + 2) (-2)) (48 + (4 * ((forget1 S 0) 4)) + 3) (costOf S a b)) 6 + 1) (by omega) (by omega) (by omega) dX5_asked_170 (fun H locs hP hD hS => ?_)
          have hP : va_P D vwCl [(mo, oMo th a1 a2 a3 re a4 a5 a6 tl a7 a8), (a1, aI yI 96 (up (up (up (up (up (up (up (forget1 S 0) 4 ((forget1 S 0) 4 + 1)) (48 + (4 * ((forget1 S 0) 4)) + 0) a) (48 + (4 * ((forget1 S 0) 4)) + 1) b) (48 + (4 * ((forget1 S 0) 4)) + 2) (-2)) (48 + (4 * ((forget1 S 0) 4)) + 3) (costOf S a b)) 5 ((up (up (up (up (up (forget1 S 0) 4 ((forget1 S 0) 4 + 1)) (48 + (4 * ((forget1 S 0) 4)) + 0) a) (48 + (4 * ((forget1 S 0) 4)) + 1) b) (48 + (4 * ((forget1 S 0) 4)) + 2) (-2)) (48 + (4 * ((forget1 S 0) 4)) + 3) (costOf S a b)) 5 + (costOf S a b))) 6 ((up (up (up (up (up (forget1 S 0) 4 ((forget1 S 0) 4 + 1)) (48 + (4 * ((forget1 S 0) 4)) + 0) a) (48 + (4 * ((forget1 S 0) 4)) + 1) b) (48 + (4 * ((forget1 S 0) 4)) + 2) (-2)) (48 + (4 * ((forget1 S 0) 4)) + 3) (costOf S a b)) 6 + 1)))] H := hP
          have hD : va_D A [(mo, oMo th a1 a2 a3 re a4 a5 a6 tl a7 a8), (a1, aI yI 96 (up (up (up (up (up (up (up (forget1 S 0) 4 ((forget1 S 0) 4 + 1)) (48 + (4 * ((forget1 S 0) 4)) + 0) a) (48 + (4 * ((forget1 S 0) 4)) + 1) b) (48 + (4 * ((forget1 S 0) 4)) + 2) (-2)) (48 + (4 * ((forget1 S 0) 4)) + 3) (costOf S a b)) 5 ((up (up (up (up (up (forget1 S 0) 4 ((forget1 S 0) 4 + 1)) (48 + (4 * ((forget1 S 0) 4)) + 0) a) (48 + (4 * ((forget1 S 0) 4)) + 1) b) (48 + (4 * ((forget1 S 0) 4)) + 2) (-2)) (48 + (4 * ((forget1 S 0) 4)) + 3) (costOf S a b)) 5 + (costOf S a b))) 6 ((up (up (up (up (up (forget1 S 0) 4 ((forget1 S 0) 4 + 1)) (48 + (4 * ((forget1 S 0) 4)) + 0) a) (48 + (4 * ((forget1 S 0) 4)) + 1) b) (48 + (4 * ((forget1 S 0) 4)) + 2) (-2)) (48 + (4 * ((forget1 S 0) 4)) + 3) (costOf S a b)) 6 + 1)))] := hD
          refine lv_iload hx hb dX5_asked_171 (lv_at hl 0 rfl) ?_
          have hP9 : va_P D vwCl [(mo, oMo th a1 a2 a3 re a4 a5 a6 tl a7 a8), (a1, aI yI 96 (askd S a b))] _ := (hP.sub (ws' := [(mo, oMo th a1 a2 a3 re a4 a5 a6 tl a7 a8), (a1, aI yI 96 (up (up (up (up (up (up (up (forget1 S 0) 4 ((forget1 S 0) 4 + 1)) (48 + (4 * ((forget1 S 0) 4)) + 0) a) (48 + (4 * ((forget1 S 0) 4)) + 1) b) (48 + (4 * ((forget1 S 0) 4)) + 2) (-2)) (48 + (4 * ((forget1 S 0) 4)) + 3) (costOf S a b)) 5 ((up (up (up (up (up (forget1 S 0) 4 ((forget1 S 0) 4 + 1)) (48 + (4 * ((forget1 S 0) 4)) + 0) a) (48 + (4 * ((forget1 S 0) 4)) + 1) b) (48 + (4 * ((forget1 S 0) 4)) + 2) (-2)) (48 + (4 * ((forget1 S 0) 4)) + 3) (costOf S a b)) 5 + (costOf S a b))) 6 ((up (up (up (up (up (forget1 S 0) 4 ((forget1 S 0) 4 + 1)) (48 + (4 * ((forget1 S 0) 4)) + 0) a) (48 + (4 * ((forget1 S 0) 4)) + 1) b) (48 + (4 * ((forget1 S 0) 4)) + 2) (-2)) (48 + (4 * ((forget1 S 0) 4)) + 3) (costOf S a b)) 6 + 1)))]) [0, 1] rfl).cv (by first | (exfalso; omega) | (rw [ask_eq1 (by omega) (by omega) (by unfold told; first | rw [if_pos (by omega)] | rw [if_neg (by omega)])] <;> rfl) | (rw [ask_eq2 (by omega) (by omega) (by unfold told; first | rw [if_pos (by omega)] | rw [if_neg (by omega)])] <;> rfl) | (rw [ask_eq3 (by omega) (by unfold told; first | rw [if_pos (by omega)] | rw [if_neg (by omega)])] <;> rfl))
          exact W.iret hx hb hr (fun t ht hW => ⟨⟨iI (-2), (), rfl, ⟨congrArg iI (show -2 = told S a b by unfold told; first | rw [if_pos (by omega)] | rw [if_neg (by omega)]), trivial⟩, by show va_P D vwCl _ t.heap; rw [ht]; exact hP9⟩, hS.F ht⟩) hS.2.2 dX5_asked_173
