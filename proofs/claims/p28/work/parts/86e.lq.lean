set_option maxHeartbeats 4000000 in
set_option maxRecDepth 100000 in
theorem c_L_asked (l : Launch) (D : va_G) (yI yC yD yL : ClassId) (qa : Nat) (aa : Nat) (S : Int → Int) (g : Int → Int) (a : Int) (b : Int) (hI : Inv S) (hR : Rc S g) (h9 : S 0 ≤ 9) (hab : 0 ≤ a ∧ a ≤ b ∧ b < S 0) (sz : Nat) : Met l yL_asked wsL_asked ({ frames := 2, cells := 0, slots := 0, locals := 47 }) (rwP [.int (iI a), .int (iI b), .ref qa, .ref aa] D (tyl yI yC yD yL) [(qa, aI yI 9 (qS S)), (aa, aI yI 48 g)] sz) (va_Qi (fun (r : Int32) (G9 : (Int → Int)) => r = iI (told S a b) ∧ Rc (askd S a b) G9) (fun (G9 : (Int → Int)) (t : State) => va_P D vwCl [(qa, aI yI 9 (qS (askd S a b))), (aa, aI yI 48 G9)] t.heap) (va_A [(qa, aI yI 9 (qS S)), (aa, aI yI 48 g)] sz)) 0 0 (va_A [(qa, aI yI 9 (qS S)), (aa, aI yI 48 g)] sz) := by
  refine Met.ofW (cc := cL_asked) (maxL := 7) (ret := (some .int)) (by decide) rfl ?_
  intro p e s m args below meth c s₁ B hml hv
  obtain ⟨rfl, hsz, hP, hK, hD0⟩ := hv
  have hx := B.exec
  have hb := B.bytes
  have hr := B.returns
  have hts := atoms_spec (ws := wsL_asked) B.pre
  have hown : s.vm.findClass RL = some m.cls := findClass_of_methodNamed B.named
  have hlocks := B.notSynchronized
  subst hsz
  have hD := hD0.self (sz := s.heap.size)
  generalize hAe : va_A [(qa, aI yI 9 (qS S)), (aa, aI yI 48 g)] s.heap.size = A at hD ⊢
  have hA : ∀ q : Nat, s.heap.size ≤ q → A q := fun q h => by rw [← hAe]; exact Or.inr h
  have hS : va_S A s.heap s.heap [] := va_S.rf
  have hP : va_P D vwCl [(qa, aI yI 9 (qS S)), (aa, aI yI 48 g)] s.heap := hP
  have hKz : va_K D vwCl (tyz yI yC yD) s := hK.sub [0, 1, 2] rfl
  have hl := lv_entry ([.int (iI a), .int (iI b), .ref qa, .ref aa]) (n := 7) (Nat.le_of_ble_eq_true rfl)
  rw [lg_entry_eq]
  generalize (lg_sl ([.int (iI a), .int (iI b), .ref qa, .ref aa]) ++ List.replicate (7 - (lg_sl ([.int (iI a), .int (iI b), .ref qa, .ref aa])).length) Slot.unset).toArray = ls at hl ⊢
  have hl : lv_has ls 7 [(0, .int (iI a)), (1, .int (iI b)), (2, .ref qa), (3, .ref aa)] := hl
  have hpl := hI.pl
  have hna := hI.na
  have hse := hI.se
  have hwi := hI.wi
  have hfe := hI.fe
  have hna := hI.na
  have hfe := hI.fe
  have hbt := aboutI_b (S := S) (a := a) (b := b) hna.1
  have hkl := kq_lt hI h9
  have hki := keysIn_r hI (a := a) (b := b) (by omega) (by omega) (by omega)
  have hse := hI.se
  refine lv_iload_n hx hb dL_asked_0 rfl (lv_at hl 0 rfl) ?_
  refine lv_iload_n hx hb dL_asked_1 rfl (lv_at hl 1 rfl) ?_
  refine lv_aload_n hx hb dL_asked_2 rfl (lv_at hl 2 rfl) ?_
  refine lv_aload_n hx hb dL_asked_3 rfl (lv_at hl 3 rfl) ?_
  refine iv_roS (As := [.int (iI a), .int (iI b), .ref qa, .ref aa]) (rest := []) (n := 4) ⟨hx, hb, hml, hown, hts⟩ (c_L_cost l D yI yC yD yL qa aa S g a b (by assumption) (by assumption) (by omega)) (va_cwS 4 hts gL_asked_L_cost rfl rfl rfl (by decide +kernel) ⟨Nat.le_of_ble_eq_true rfl, Nat.le_of_ble_eq_true rfl⟩) hK hP [0, 1] rfl rfl hl.1 rfl (Nat.le_of_ble_eq_true rfl) dL_asked_4 ⟨Nat.zero_le _, Nat.zero_le _⟩ ?_
  refine lv_istore (lv' := [(4, .int (iI (costOf S a b))), (0, .int (iI a)), (1, .int (iI b)), (2, .ref qa), (3, .ref aa)]) hx hb dL_asked_7 hl (by decide) rfl (fun ls hl => ?_)
  refine lv_aload_n hx hb dL_asked_9 rfl (lv_at hl 3 rfl) ?_
  refine lv_bipush (v := iI 8) hx hb dL_asked_10 (by decide +kernel) ?_
  refine iv_aldE hx hb hK hP 0 0 rfl rfl (z := 8) (w := ((kL S 0 40 : Nat) : Int)) (qS_8) (by omega) (by omega) (by omega) dL_asked_12 ?_
  refine lv_iload_n hx hb dL_asked_13 rfl (lv_at hl 1 rfl) ?_
  refine lv_iload_n hx hb dL_asked_14 rfl (lv_at hl 2 rfl) ?_
  refine iv_roS (As := [.int (iI ((kL S 0 40 : Nat) : Int)), .int (iI a), .int (iI b)]) (rest := []) (n := 3) ⟨hx, hb, hml, hown, hts⟩ (c_L_in l D yI yC yD yL ((kL S 0 40 : Nat) : Int) a b (by omega) (by omega)) (va_cwS 3 hts gL_asked_L_in rfl rfl rfl (by decide +kernel) ⟨Nat.le_of_ble_eq_true rfl, Nat.le_of_ble_eq_true rfl⟩) hK hP [] rfl rfl hl.1 rfl (Nat.le_of_ble_eq_true rfl) dL_asked_15 ⟨Nat.zero_le _, Nat.zero_le _⟩ ?_
  rw [show (inL ((kL S 0 40 : Nat) : Int).toNat a b : Int) = keysIn S a b from (kq_in hI (by omega))]
  refine lv_istore (lv' := [(5, .int (iI (keysIn S a b))), (4, .int (iI (costOf S a b))), (0, .int (iI a)), (1, .int (iI b)), (2, .ref qa), (3, .ref aa)]) hx hb dL_asked_18 hl (by decide) rfl (fun ls hl => ?_)
  refine lv_iload_n hx hb dL_asked_20 rfl (lv_at hl 2 rfl) ?_
  refine lv_iload_n hx hb dL_asked_21 rfl (lv_at hl 3 rfl) ?_
  refine lv_aload_n hx hb dL_asked_22 rfl (lv_at hl 4 rfl) ?_
  refine lv_aload_n hx hb dL_asked_23 rfl (lv_at hl 5 rfl) ?_
  refine iv_roS (As := [.int (iI a), .int (iI b), .ref qa, .ref aa]) (rest := []) (n := 4) ⟨hx, hb, hml, hown, hts⟩ (c_L_about l D yI yC yD yL qa aa S g a b (by assumption) (by assumption) (⟨⟨by omega, by omega⟩, ⟨by omega, by omega⟩⟩)) (va_cwS 4 hts gL_asked_L_about rfl rfl rfl (by decide +kernel) ⟨Nat.le_of_ble_eq_true rfl, Nat.le_of_ble_eq_true rfl⟩) hK hP [0, 1] rfl rfl hl.1 rfl (Nat.le_of_ble_eq_true rfl) dL_asked_24 ⟨Nat.zero_le _, Nat.zero_le _⟩ ?_
  refine lv_istore (lv' := [(6, .int (iI (aboutI S a b))), (5, .int (iI (keysIn S a b))), (4, .int (iI (costOf S a b))), (0, .int (iI a)), (1, .int (iI b)), (2, .ref qa), (3, .ref aa)]) hx hb dL_asked_27 hl (by decide) rfl (fun ls hl => ?_)
  refine lv_iload hx hb dL_asked_29 (lv_at hl 0 rfl) ?_
  refine iv_if_ge (a := aboutI S a b) (tgt := 48) hx hb (by omega) dL_asked_31 (by decide) (fun c31 => ?_) (fun c31 => ?_)
  · refine lv_iload hx hb dL_asked_48 (lv_at hl 0 rfl) ?_
    refine iv_if_ge (a := aboutI S a b) (tgt := 64) hx hb (by omega) dL_asked_50 (by decide) (fun c50 => ?_) (fun c50 => ?_)
    · refine lv_iload hx hb dL_asked_64 (lv_at hl 0 rfl) ?_
      refine lv_istore (lv' := [(6, .int (iI (aboutI S a b))), (5, .int (iI (keysIn S a b))), (4, .int (iI (costOf S a b))), (0, .int (iI a)), (1, .int (iI b)), (2, .ref qa), (3, .ref aa)]) hx hb dL_asked_66 hl (by decide) rfl (fun ls hl => ?_)
      refine lv_aload_n hx hb dL_asked_68 rfl (lv_at hl 6 rfl) ?_
      refine lv_iconst (v := iI 4) hx hb dL_asked_69 (by decide +kernel) ?_
      refine lv_iload hx hb dL_asked_70 (lv_at hl 0 rfl) ?_
      refine iv_mul hx hb dL_asked_72 ?_
      refine lv_iload_n hx hb dL_asked_73 rfl (lv_at hl 3 rfl) ?_
      refine iv_ast hx hb hK hP hD hS 1 0 rfl rfl (z := 4 * (aboutI S a b)) (v := a) (by omega) (by omega) (by omega) dL_asked_74 (fun H locs hP hD hS => ?_)
      have hP : va_P D vwCl [(qa, aI yI 9 (qS S)), (aa, aI yI 48 (up g (4 * (aboutI S a b)) a))] H := hP
      have hD : va_D A [(qa, aI yI 9 (qS S)), (aa, aI yI 48 (up g (4 * (aboutI S a b)) a))] := hD
      refine lv_aload_n hx hb dL_asked_75 rfl (lv_at hl 6 rfl) ?_
      refine lv_iconst (v := iI 4) hx hb dL_asked_76 (by decide +kernel) ?_
      refine lv_iload hx hb dL_asked_77 (lv_at hl 0 rfl) ?_
      refine iv_mul hx hb dL_asked_79 ?_
      refine lv_iconst (v := iI 1) hx hb dL_asked_80 (by decide +kernel) ?_
      refine iv_add hx hb dL_asked_81 ?_
      refine lv_iload_n hx hb dL_asked_82 rfl (lv_at hl 4 rfl) ?_
      refine iv_ast hx hb hK hP hD hS 1 0 rfl rfl (z := 4 * (aboutI S a b) + 1) (v := b) (by omega) (by omega) (by omega) dL_asked_83 (fun H locs hP hD hS => ?_)
      have hP : va_P D vwCl [(qa, aI yI 9 (qS S)), (aa, aI yI 48 (up (up g (4 * (aboutI S a b)) a) (4 * (aboutI S a b) + 1) b))] H := hP
      have hD : va_D A [(qa, aI yI 9 (qS S)), (aa, aI yI 48 (up (up g (4 * (aboutI S a b)) a) (4 * (aboutI S a b) + 1) b))] := hD
      refine lv_aload_n hx hb dL_asked_84 rfl (lv_at hl 6 rfl) ?_
      refine lv_iconst (v := iI 4) hx hb dL_asked_85 (by decide +kernel) ?_
      refine lv_iload hx hb dL_asked_86 (lv_at hl 0 rfl) ?_
      refine iv_mul hx hb dL_asked_88 ?_
      refine lv_iconst (v := iI 2) hx hb dL_asked_89 (by decide +kernel) ?_
      refine iv_add hx hb dL_asked_90 ?_
      refine iv_join (I := fun (qq : Int) H locs ls => match qq with | yv => (yv = told S a b) ∧ va_P D vwCl [(qa, aI yI 9 (qS S)), (aa, aI yI 48 (up (up g (4 * (aboutI S a b)) a) (4 * (aboutI S a b) + 1) b))] H ∧ va_D A [(qa, aI yI 9 (qS S)), (aa, aI yI 48 (up (up g (4 * (aboutI S a b)) a) (4 * (aboutI S a b) + 1) b))] ∧ va_S A s.heap H locs ∧ lv_has ls 7 [(6, .int (iI (aboutI S a b))), (5, .int (iI (keysIn S a b))), (4, .int (iI (costOf S a b))), (0, .int (iI a)), (1, .int (iI b)), (2, .ref qa), (3, .ref aa)]) (sx := fun (qq : Int) => match qq with | yv => [.int (iI yv), .int (iI (4 * (aboutI S a b) + 2)), .ref aa]) (pcj := 106) ?_ (fun J106 => ?_)
      · intro yv H locs ls hI
        obtain ⟨hy, hP, hD, hS, hl⟩ := hI
        refine iv_ast hx hb hK hP hD hS 1 0 rfl rfl (z := 4 * (aboutI S a b) + 2) (v := yv) (by omega) (by omega) (by omega) dL_asked_106 (fun H locs hP hD hS => ?_)
        have hP : va_P D vwCl [(qa, aI yI 9 (qS S)), (aa, aI yI 48 (up (up (up g (4 * (aboutI S a b)) a) (4 * (aboutI S a b) + 1) b) (4 * (aboutI S a b) + 2) yv))] H := hP
        have hD : va_D A [(qa, aI yI 9 (qS S)), (aa, aI yI 48 (up (up (up g (4 * (aboutI S a b)) a) (4 * (aboutI S a b) + 1) b) (4 * (aboutI S a b) + 2) yv))] := hD
        refine lv_aload_n hx hb dL_asked_107 rfl (lv_at hl 6 rfl) ?_
        refine lv_iconst (v := iI 4) hx hb dL_asked_108 (by decide +kernel) ?_
        refine lv_iload hx hb dL_asked_109 (lv_at hl 0 rfl) ?_
        refine iv_mul hx hb dL_asked_111 ?_
        refine lv_iconst (v := iI 3) hx hb dL_asked_112 (by decide +kernel) ?_
        refine iv_add hx hb dL_asked_113 ?_
        refine lv_iload hx hb dL_asked_114 (lv_at hl 2 rfl) ?_
        refine iv_ast hx hb hK hP hD hS 1 0 rfl rfl (z := 4 * (aboutI S a b) + 3) (v := costOf S a b) (by omega) (by omega) (by omega) dL_asked_116 (fun H locs hP hD hS => ?_)
        have hP : va_P D vwCl [(qa, aI yI 9 (qS S)), (aa, aI yI 48 (up (up (up (up g (4 * (aboutI S a b)) a) (4 * (aboutI S a b) + 1) b) (4 * (aboutI S a b) + 2) yv) (4 * (aboutI S a b) + 3) (costOf S a b)))] H := hP
        have hD : va_D A [(qa, aI yI 9 (qS S)), (aa, aI yI 48 (up (up (up (up g (4 * (aboutI S a b)) a) (4 * (aboutI S a b) + 1) b) (4 * (aboutI S a b) + 2) yv) (4 * (aboutI S a b) + 3) (costOf S a b)))] := hD
        refine lv_aload_n hx hb dL_asked_117 rfl (lv_at hl 5 rfl) ?_
        refine lv_iconst (v := iI 5) hx hb dL_asked_118 (by decide +kernel) ?_
        refine lv_dup2_11 hx hb dL_asked_119 rfl rfl ?_
        refine iv_aldE hx hb hK hP 0 0 rfl rfl (z := 5) (w := S 5) (by first | exact qS_n (by omega) | exact up_s | rfl) (by omega) (by omega) (by omega) dL_asked_120 ?_
        refine lv_iload hx hb dL_asked_121 (lv_at hl 2 rfl) ?_
        refine iv_add hx hb dL_asked_123 ?_
        refine iv_ast hx hb hK hP hD hS 0 0 rfl rfl (z := 5) (v := S 5 + (costOf S a b)) (by omega) (by omega) (by omega) dL_asked_124 (fun H locs hP hD hS => ?_)
        have hP : va_P D vwCl [(qa, aI yI 9 (up (qS S) 5 (S 5 + (costOf S a b)))), (aa, aI yI 48 (up (up (up (up g (4 * (aboutI S a b)) a) (4 * (aboutI S a b) + 1) b) (4 * (aboutI S a b) + 2) yv) (4 * (aboutI S a b) + 3) (costOf S a b)))] H := hP
        have hD : va_D A [(qa, aI yI 9 (up (qS S) 5 (S 5 + (costOf S a b)))), (aa, aI yI 48 (up (up (up (up g (4 * (aboutI S a b)) a) (4 * (aboutI S a b) + 1) b) (4 * (aboutI S a b) + 2) yv) (4 * (aboutI S a b) + 3) (costOf S a b)))] := hD
        refine lv_aload_n hx hb dL_asked_125 rfl (lv_at hl 5 rfl) ?_
        refine lv_bipush (v := iI 6) hx hb dL_asked_126 (by decide +kernel) ?_
        refine lv_dup2_11 hx hb dL_asked_128 rfl rfl ?_
        refine iv_aldE hx hb hK hP 0 0 rfl rfl (z := 6) (w := S 6) (by first | exact qS_n (by omega) | exact up_s | rfl) (by omega) (by omega) (by omega) dL_asked_129 ?_
        refine lv_iconst (v := iI 1) hx hb dL_asked_130 (by decide +kernel) ?_
        refine iv_add hx hb dL_asked_131 ?_
        refine iv_ast hx hb hK hP hD hS 0 0 rfl rfl (z := 6) (v := S 6 + 1) (by omega) (by omega) (by omega) dL_asked_132 (fun H locs hP hD hS => ?_)
        have hP : va_P D vwCl [(qa, aI yI 9 (up (up (qS S) 5 (S 5 + (costOf S a b))) 6 (S 6 + 1))), (aa, aI yI 48 (up (up (up (up g (4 * (aboutI S a b)) a) (4 * (aboutI S a b) + 1) b) (4 * (aboutI S a b) + 2) yv) (4 * (aboutI S a b) + 3) (costOf S a b)))] H := hP
        have hD : va_D A [(qa, aI yI 9 (up (up (qS S) 5 (S 5 + (costOf S a b))) 6 (S 6 + 1))), (aa, aI yI 48 (up (up (up (up g (4 * (aboutI S a b)) a) (4 * (aboutI S a b) + 1) b) (4 * (aboutI S a b) + 2) yv) (4 * (aboutI S a b) + 3) (costOf S a b)))] := hD
        have hP := va_P.arr hP 0 (g := qS (askd S a b)) rfl (qs_ask2 hI (by omega))
        have hD : va_D A [(qa, aI yI 9 (qS (askd S a b))), (aa, aI yI 48 (up (up (up (up g (4 * (aboutI S a b)) a) (4 * (aboutI S a b) + 1) b) (4 * (aboutI S a b) + 2) yv) (4 * (aboutI S a b) + 3) (costOf S a b)))] := hD.set (p := 0) rfl
        have hP : va_P D vwCl [(qa, aI yI 9 (qS (askd S a b))), (aa, aI yI 48 (up (up (up (up g (4 * (aboutI S a b)) a) (4 * (aboutI S a b) + 1) b) (4 * (aboutI S a b) + 2) yv) (4 * (aboutI S a b) + 3) (costOf S a b)))] _ := hP
        refine lv_aload_n hx hb dL_asked_133 rfl (lv_at hl 6 rfl) ?_
        refine lv_iconst (v := iI 4) hx hb dL_asked_134 (by decide +kernel) ?_
        refine lv_iload hx hb dL_asked_135 (lv_at hl 0 rfl) ?_
        refine iv_mul hx hb dL_asked_137 ?_
        refine lv_iconst (v := iI 2) hx hb dL_asked_138 (by decide +kernel) ?_
        refine iv_add hx hb dL_asked_139 ?_
        refine iv_ald hx hb hK hP 1 0 rfl rfl (z := 4 * (aboutI S a b) + 2) (by omega) (by omega) (by omega) dL_asked_140 ?_
        have hP9 : va_P D vwCl [(qa, aI yI 9 (qS (askd S a b))), (aa, aI yI 48 (up (up (up (up g (4 * (aboutI S a b)) a) (4 * (aboutI S a b) + 1) b) (4 * (aboutI S a b) + 2) yv) (4 * (aboutI S a b) + 3) (costOf S a b)))] _ := hP.sub [0, 1] rfl
        exact W.iret hx hb hr (fun t ht hW => ⟨⟨iI ((up (up (up (up g (4 * (aboutI S a b)) a) (4 * (aboutI S a b) + 1) b) (4 * (aboutI S a b) + 2) yv) (4 * (aboutI S a b) + 3) (costOf S a b)) (4 * (aboutI S a b) + 2)), (up (up (up (up g (4 * (aboutI S a b)) a) (4 * (aboutI S a b) + 1) b) (4 * (aboutI S a b) + 2) yv) (4 * (aboutI S a b) + 3) (costOf S a b)), rfl, ⟨congrArg iI (show (up (up (up (up g (4 * (aboutI S a b)) a) (4 * (aboutI S a b) + 1) b) (4 * (aboutI S a b) + 2) yv) (4 * (aboutI S a b) + 3) (costOf S a b)) (4 * (aboutI S a b) + 2) = told S a b by rw [up_n (by omega), up_s]; exact hy), (by rw [up4, hy]; first | exact rc_ask1 hI hRk (by omega) | (have e0 : costOf S a b = 0 := if_pos (by omega)) <;> rw [e0] <;> exact rc_ask2 hI hR (by omega))⟩, by show va_P D vwCl _ t.heap; rw [ht]; exact hP9⟩, hS.F ht⟩) hS.2.2 dL_asked_141
      · refine lv_iload hx hb dL_asked_91 (lv_at hl 1 rfl) ?_
        refine lv_aload_n hx hb dL_asked_93 rfl (lv_at hl 5 rfl) ?_
        refine lv_iconst (v := iI 2) hx hb dL_asked_94 (by decide +kernel) ?_
        refine iv_aldE hx hb hK hP 0 0 rfl rfl (z := 2) (w := S 2) (by first | exact qS_n (by omega) | exact up_s | rfl) (by omega) (by omega) (by omega) dL_asked_95 ?_
        refine iv_icmp_ge (a := keysIn S a b) (b := S 2) (tgt := 104) hx hb (by omega) (by omega) dL_asked_96 (by decide) (fun c96 => ?_) (fun c96 => ?_)
        · refine lv_iload hx hb dL_asked_104 (lv_at hl 1 rfl) ?_
          exact J106 (keysIn S a b) _ _ ⟨by show _ = if keysIn S a b < S 2 then -2 else keysIn S a b; first | (rw [if_pos (by omega)]; done) | (rw [if_neg (by omega)]; done), hP, hD, hS, lv_sub hl [0, 1, 2, 3, 4, 5, 6] rfl⟩
        · refine lv_bipush (v := iI (-2)) hx hb dL_asked_99 (by decide +kernel) ?_
          refine lv_goto (tgt := 106) hx hb dL_asked_101 (by decide) ?_
          exact J106 (-2) _ _ ⟨by show _ = if keysIn S a b < S 2 then -2 else keysIn S a b; first | (rw [if_pos (by omega)]; done) | (rw [if_neg (by omega)]; done), hP, hD, hS, lv_sub hl [0, 1, 2, 3, 4, 5, 6] rfl⟩
    · exact absurd c50 (by omega)
  · refine lv_aload_n hx hb dL_asked_34 rfl (lv_at hl 5 rfl) ?_
    refine lv_iconst (v := iI 4) hx hb dL_asked_35 (by decide +kernel) ?_
    refine iv_aldE hx hb hK hP 0 0 rfl rfl (z := 4) (w := S 4) (by first | exact qS_n (by omega) | exact up_s | rfl) (by omega) (by omega) (by omega) dL_asked_36 ?_
    refine lv_bipush (v := iI 12) hx hb dL_asked_37 (by decide +kernel) ?_
    refine iv_icmp_ne (a := S 4) (b := 12) (tgt := 48) hx hb (by omega) (by omega) dL_asked_39 (by decide) (fun c39 => ?_) (fun c39 => ?_)
    · have er0 : askroom S = S := room_f (by omega)
      have hP := va_P.arr hP 0 (g := qS (askroom S)) rfl (fun z _ _ => by rw [er0])
      have hD : va_D A [(qa, aI yI 9 (qS (askroom S))), (aa, aI yI 48 g)] := hD.set (p := 0) rfl
      have hP : va_P D vwCl [(qa, aI yI 9 (qS (askroom S))), (aa, aI yI 48 g)] _ := hP
      have hRk : Rc (askroom S) g := by rw [er0]; exact hR
      have hk4 := (inv_room hI).1.na; have hk5 := (inv_room hI).2.1; have hk2 : askroom S 2 = S 2 := room_k (by omega) (by omega) (by omega)
      refine lv_iload hx hb dL_asked_48 (lv_at hl 0 rfl) ?_
      refine iv_if_ge (a := aboutI S a b) (tgt := 64) hx hb (by omega) dL_asked_50 (by decide) (fun c50 => ?_) (fun c50 => ?_)
      · exact absurd c50 (by omega)
      · refine lv_aload_n hx hb dL_asked_53 rfl (lv_at hl 5 rfl) ?_
        refine lv_iconst (v := iI 4) hx hb dL_asked_54 (by decide +kernel) ?_
        refine lv_dup2_11 hx hb dL_asked_55 rfl rfl ?_
        refine iv_aldE hx hb hK hP 0 0 rfl rfl (z := 4) (w := (askroom S) 4) (by first | exact qS_n (by omega) | exact up_s | rfl) (by omega) (by omega) (by omega) dL_asked_56 ?_
        refine lv_dup_x2 hx hb dL_asked_57 rfl rfl rfl ?_
        refine lv_iconst (v := iI 1) hx hb dL_asked_58 (by decide +kernel) ?_
        refine iv_add hx hb dL_asked_59 ?_
        refine iv_ast hx hb hK hP hD hS 0 0 rfl rfl (z := 4) (v := (askroom S) 4 + 1) (by omega) (by omega) (by omega) dL_asked_60 (fun H locs hP hD hS => ?_)
        have hP : va_P D vwCl [(qa, aI yI 9 (up (qS (askroom S)) 4 ((askroom S) 4 + 1))), (aa, aI yI 48 g)] H := hP
        have hD : va_D A [(qa, aI yI 9 (up (qS (askroom S)) 4 ((askroom S) 4 + 1))), (aa, aI yI 48 g)] := hD
        refine lv_goto (tgt := 66) hx hb dL_asked_61 (by decide) ?_
        refine lv_istore (lv' := [(6, .int (iI ((askroom S) 4))), (5, .int (iI (keysIn S a b))), (4, .int (iI (costOf S a b))), (0, .int (iI a)), (1, .int (iI b)), (2, .ref qa), (3, .ref aa)]) hx hb dL_asked_66 hl (by decide) rfl (fun ls hl => ?_)
        refine lv_aload_n hx hb dL_asked_68 rfl (lv_at hl 6 rfl) ?_
        refine lv_iconst (v := iI 4) hx hb dL_asked_69 (by decide +kernel) ?_
        refine lv_iload hx hb dL_asked_70 (lv_at hl 0 rfl) ?_
        refine iv_mul hx hb dL_asked_72 ?_
        refine lv_iload_n hx hb dL_asked_73 rfl (lv_at hl 3 rfl) ?_
        refine iv_ast hx hb hK hP hD hS 1 0 rfl rfl (z := 4 * ((askroom S) 4)) (v := a) (by omega) (by omega) (by omega) dL_asked_74 (fun H locs hP hD hS => ?_)
        have hP : va_P D vwCl [(qa, aI yI 9 (up (qS (askroom S)) 4 ((askroom S) 4 + 1))), (aa, aI yI 48 (up g (4 * ((askroom S) 4)) a))] H := hP
        have hD : va_D A [(qa, aI yI 9 (up (qS (askroom S)) 4 ((askroom S) 4 + 1))), (aa, aI yI 48 (up g (4 * ((askroom S) 4)) a))] := hD
        refine lv_aload_n hx hb dL_asked_75 rfl (lv_at hl 6 rfl) ?_
        refine lv_iconst (v := iI 4) hx hb dL_asked_76 (by decide +kernel) ?_
        refine lv_iload hx hb dL_asked_77 (lv_at hl 0 rfl) ?_
        refine iv_mul hx hb dL_asked_79 ?_
        refine lv_iconst (v := iI 1) hx hb dL_asked_80 (by decide +kernel) ?_
        refine iv_add hx hb dL_asked_81 ?_
        refine lv_iload_n hx hb dL_asked_82 rfl (lv_at hl 4 rfl) ?_
        refine iv_ast hx hb hK hP hD hS 1 0 rfl rfl (z := 4 * ((askroom S) 4) + 1) (v := b) (by omega) (by omega) (by omega) dL_asked_83 (fun H locs hP hD hS => ?_)
        have hP : va_P D vwCl [(qa, aI yI 9 (up (qS (askroom S)) 4 ((askroom S) 4 + 1))), (aa, aI yI 48 (up (up g (4 * ((askroom S) 4)) a) (4 * ((askroom S) 4) + 1) b))] H := hP
        have hD : va_D A [(qa, aI yI 9 (up (qS (askroom S)) 4 ((askroom S) 4 + 1))), (aa, aI yI 48 (up (up g (4 * ((askroom S) 4)) a) (4 * ((askroom S) 4) + 1) b))] := hD
        refine lv_aload_n hx hb dL_asked_84 rfl (lv_at hl 6 rfl) ?_
        refine lv_iconst (v := iI 4) hx hb dL_asked_85 (by decide +kernel) ?_
        refine lv_iload hx hb dL_asked_86 (lv_at hl 0 rfl) ?_
        refine iv_mul hx hb dL_asked_88 ?_
        refine lv_iconst (v := iI 2) hx hb dL_asked_89 (by decide +kernel) ?_
        refine iv_add hx hb dL_asked_90 ?_
        refine iv_join (I := fun (qq : Int) H locs ls => match qq with | yv => (yv = told S a b) ∧ va_P D vwCl [(qa, aI yI 9 (up (qS (askroom S)) 4 ((askroom S) 4 + 1))), (aa, aI yI 48 (up (up g (4 * ((askroom S) 4)) a) (4 * ((askroom S) 4) + 1) b))] H ∧ va_D A [(qa, aI yI 9 (up (qS (askroom S)) 4 ((askroom S) 4 + 1))), (aa, aI yI 48 (up (up g (4 * ((askroom S) 4)) a) (4 * ((askroom S) 4) + 1) b))] ∧ va_S A s.heap H locs ∧ lv_has ls 7 [(6, .int (iI ((askroom S) 4))), (5, .int (iI (keysIn S a b))), (4, .int (iI (costOf S a b))), (0, .int (iI a)), (1, .int (iI b)), (2, .ref qa), (3, .ref aa)]) (sx := fun (qq : Int) => match qq with | yv => [.int (iI yv), .int (iI (4 * ((askroom S) 4) + 2)), .ref aa]) (pcj := 106) ?_ (fun J106 => ?_)
        · intro yv H locs ls hI
          obtain ⟨hy, hP, hD, hS, hl⟩ := hI
          refine iv_ast hx hb hK hP hD hS 1 0 rfl rfl (z := 4 * ((askroom S) 4) + 2) (v := yv) (by omega) (by omega) (by omega) dL_asked_106 (fun H locs hP hD hS => ?_)
          have hP : va_P D vwCl [(qa, aI yI 9 (up (qS (askroom S)) 4 ((askroom S) 4 + 1))), (aa, aI yI 48 (up (up (up g (4 * ((askroom S) 4)) a) (4 * ((askroom S) 4) + 1) b) (4 * ((askroom S) 4) + 2) yv))] H := hP
          have hD : va_D A [(qa, aI yI 9 (up (qS (askroom S)) 4 ((askroom S) 4 + 1))), (aa, aI yI 48 (up (up (up g (4 * ((askroom S) 4)) a) (4 * ((askroom S) 4) + 1) b) (4 * ((askroom S) 4) + 2) yv))] := hD
          refine lv_aload_n hx hb dL_asked_107 rfl (lv_at hl 6 rfl) ?_
          refine lv_iconst (v := iI 4) hx hb dL_asked_108 (by decide +kernel) ?_
          refine lv_iload hx hb dL_asked_109 (lv_at hl 0 rfl) ?_
          refine iv_mul hx hb dL_asked_111 ?_
          refine lv_iconst (v := iI 3) hx hb dL_asked_112 (by decide +kernel) ?_
          refine iv_add hx hb dL_asked_113 ?_
          refine lv_iload hx hb dL_asked_114 (lv_at hl 2 rfl) ?_
          refine iv_ast hx hb hK hP hD hS 1 0 rfl rfl (z := 4 * ((askroom S) 4) + 3) (v := costOf S a b) (by omega) (by omega) (by omega) dL_asked_116 (fun H locs hP hD hS => ?_)
          have hP : va_P D vwCl [(qa, aI yI 9 (up (qS (askroom S)) 4 ((askroom S) 4 + 1))), (aa, aI yI 48 (up (up (up (up g (4 * ((askroom S) 4)) a) (4 * ((askroom S) 4) + 1) b) (4 * ((askroom S) 4) + 2) yv) (4 * ((askroom S) 4) + 3) (costOf S a b)))] H := hP
          have hD : va_D A [(qa, aI yI 9 (up (qS (askroom S)) 4 ((askroom S) 4 + 1))), (aa, aI yI 48 (up (up (up (up g (4 * ((askroom S) 4)) a) (4 * ((askroom S) 4) + 1) b) (4 * ((askroom S) 4) + 2) yv) (4 * ((askroom S) 4) + 3) (costOf S a b)))] := hD
          refine lv_aload_n hx hb dL_asked_117 rfl (lv_at hl 5 rfl) ?_
          refine lv_iconst (v := iI 5) hx hb dL_asked_118 (by decide +kernel) ?_
          refine lv_dup2_11 hx hb dL_asked_119 rfl rfl ?_
          refine iv_aldE hx hb hK hP 0 0 rfl rfl (z := 5) (w := (askroom S) 5) (by first | exact qS_n (by omega) | exact up_s | rfl) (by omega) (by omega) (by omega) dL_asked_120 ?_
          refine lv_iload hx hb dL_asked_121 (lv_at hl 2 rfl) ?_
          refine iv_add hx hb dL_asked_123 ?_
          refine iv_ast hx hb hK hP hD hS 0 0 rfl rfl (z := 5) (v := (askroom S) 5 + (costOf S a b)) (by omega) (by omega) (by omega) dL_asked_124 (fun H locs hP hD hS => ?_)
          have hP : va_P D vwCl [(qa, aI yI 9 (up (up (qS (askroom S)) 4 ((askroom S) 4 + 1)) 5 ((askroom S) 5 + (costOf S a b)))), (aa, aI yI 48 (up (up (up (up g (4 * ((askroom S) 4)) a) (4 * ((askroom S) 4) + 1) b) (4 * ((askroom S) 4) + 2) yv) (4 * ((askroom S) 4) + 3) (costOf S a b)))] H := hP
          have hD : va_D A [(qa, aI yI 9 (up (up (qS (askroom S)) 4 ((askroom S) 4 + 1)) 5 ((askroom S) 5 + (costOf S a b)))), (aa, aI yI 48 (up (up (up (up g (4 * ((askroom S) 4)) a) (4 * ((askroom S) 4) + 1) b) (4 * ((askroom S) 4) + 2) yv) (4 * ((askroom S) 4) + 3) (costOf S a b)))] := hD
          refine lv_aload_n hx hb dL_asked_125 rfl (lv_at hl 5 rfl) ?_
          refine lv_bipush (v := iI 6) hx hb dL_asked_126 (by decide +kernel) ?_
          refine lv_dup2_11 hx hb dL_asked_128 rfl rfl ?_
          refine iv_aldE hx hb hK hP 0 0 rfl rfl (z := 6) (w := (askroom S) 6) (by first | exact qS_n (by omega) | exact up_s | rfl) (by omega) (by omega) (by omega) dL_asked_129 ?_
          refine lv_iconst (v := iI 1) hx hb dL_asked_130 (by decide +kernel) ?_
          refine iv_add hx hb dL_asked_131 ?_
          refine iv_ast hx hb hK hP hD hS 0 0 rfl rfl (z := 6) (v := (askroom S) 6 + 1) (by omega) (by omega) (by omega) dL_asked_132 (fun H locs hP hD hS => ?_)
          have hP : va_P D vwCl [(qa, aI yI 9 (up (up (up (qS (askroom S)) 4 ((askroom S) 4 + 1)) 5 ((askroom S) 5 + (costOf S a b))) 6 ((askroom S) 6 + 1))), (aa, aI yI 48 (up (up (up (up g (4 * ((askroom S) 4)) a) (4 * ((askroom S) 4) + 1) b) (4 * ((askroom S) 4) + 2) yv) (4 * ((askroom S) 4) + 3) (costOf S a b)))] H := hP
          have hD : va_D A [(qa, aI yI 9 (up (up (up (qS (askroom S)) 4 ((askroom S) 4 + 1)) 5 ((askroom S) 5 + (costOf S a b))) 6 ((askroom S) 6 + 1))), (aa, aI yI 48 (up (up (up (up g (4 * ((askroom S) 4)) a) (4 * ((askroom S) 4) + 1) b) (4 * ((askroom S) 4) + 2) yv) (4 * ((askroom S) 4) + 3) (costOf S a b)))] := hD
          have hP := va_P.arr hP 0 (g := qS (askd S a b)) rfl (qs_ask1 hI (by omega))
          have hD : va_D A [(qa, aI yI 9 (qS (askd S a b))), (aa, aI yI 48 (up (up (up (up g (4 * ((askroom S) 4)) a) (4 * ((askroom S) 4) + 1) b) (4 * ((askroom S) 4) + 2) yv) (4 * ((askroom S) 4) + 3) (costOf S a b)))] := hD.set (p := 0) rfl
          have hP : va_P D vwCl [(qa, aI yI 9 (qS (askd S a b))), (aa, aI yI 48 (up (up (up (up g (4 * ((askroom S) 4)) a) (4 * ((askroom S) 4) + 1) b) (4 * ((askroom S) 4) + 2) yv) (4 * ((askroom S) 4) + 3) (costOf S a b)))] _ := hP
          refine lv_aload_n hx hb dL_asked_133 rfl (lv_at hl 6 rfl) ?_
          refine lv_iconst (v := iI 4) hx hb dL_asked_134 (by decide +kernel) ?_
          refine lv_iload hx hb dL_asked_135 (lv_at hl 0 rfl) ?_
          refine iv_mul hx hb dL_asked_137 ?_
          refine lv_iconst (v := iI 2) hx hb dL_asked_138 (by decide +kernel) ?_
          refine iv_add hx hb dL_asked_139 ?_
          refine iv_ald hx hb hK hP 1 0 rfl rfl (z := 4 * ((askroom S) 4) + 2) (by omega) (by omega) (by omega) dL_asked_140 ?_
          have hP9 : va_P D vwCl [(qa, aI yI 9 (qS (askd S a b))), (aa, aI yI 48 (up (up (up (up g (4 * ((askroom S) 4)) a) (4 * ((askroom S) 4) + 1) b) (4 * ((askroom S) 4) + 2) yv) (4 * ((askroom S) 4) + 3) (costOf S a b)))] _ := hP.sub [0, 1] rfl
          exact W.iret hx hb hr (fun t ht hW => ⟨⟨iI ((up (up (up (up g (4 * ((askroom S) 4)) a) (4 * ((askroom S) 4) + 1) b) (4 * ((askroom S) 4) + 2) yv) (4 * ((askroom S) 4) + 3) (costOf S a b)) (4 * ((askroom S) 4) + 2)), (up (up (up (up g (4 * ((askroom S) 4)) a) (4 * ((askroom S) 4) + 1) b) (4 * ((askroom S) 4) + 2) yv) (4 * ((askroom S) 4) + 3) (costOf S a b)), rfl, ⟨congrArg iI (show (up (up (up (up g (4 * ((askroom S) 4)) a) (4 * ((askroom S) 4) + 1) b) (4 * ((askroom S) 4) + 2) yv) (4 * ((askroom S) 4) + 3) (costOf S a b)) (4 * ((askroom S) 4) + 2) = told S a b by rw [up_n (by omega), up_s]; exact hy), (by rw [up4, hy]; first | exact rc_ask1 hI hRk (by omega) | (have e0 : costOf S a b = 0 := if_pos (by omega)) <;> rw [e0] <;> exact rc_ask2 hI hR (by omega))⟩, by show va_P D vwCl _ t.heap; rw [ht]; exact hP9⟩, hS.F ht⟩) hS.2.2 dL_asked_141
        · refine lv_iload hx hb dL_asked_91 (lv_at hl 1 rfl) ?_
          refine lv_aload_n hx hb dL_asked_93 rfl (lv_at hl 5 rfl) ?_
          refine lv_iconst (v := iI 2) hx hb dL_asked_94 (by decide +kernel) ?_
          refine iv_aldE hx hb hK hP 0 0 rfl rfl (z := 2) (w := (askroom S) 2) (by first | exact qS_n (by omega) | exact up_s | rfl) (by omega) (by omega) (by omega) dL_asked_95 ?_
          refine iv_icmp_ge (a := keysIn S a b) (b := (askroom S) 2) (tgt := 104) hx hb (by omega) (by omega) dL_asked_96 (by decide) (fun c96 => ?_) (fun c96 => ?_)
          · refine lv_iload hx hb dL_asked_104 (lv_at hl 1 rfl) ?_
            exact J106 (keysIn S a b) _ _ ⟨by show _ = if keysIn S a b < S 2 then -2 else keysIn S a b; first | (rw [if_pos (by omega)]; done) | (rw [if_neg (by omega)]; done), hP, hD, hS, lv_sub hl [0, 1, 2, 3, 4, 5, 6] rfl⟩
          · refine lv_bipush (v := iI (-2)) hx hb dL_asked_99 (by decide +kernel) ?_
            refine lv_goto (tgt := 106) hx hb dL_asked_101 (by decide) ?_
            exact J106 (-2) _ _ ⟨by show _ = if keysIn S a b < S 2 then -2 else keysIn S a b; first | (rw [if_pos (by omega)]; done) | (rw [if_neg (by omega)]; done), hP, hD, hS, lv_sub hl [0, 1, 2, 3, 4, 5, 6] rfl⟩
    · refine lv_iconst (v := iI 0) hx hb dL_asked_42 (by decide +kernel) ?_
      refine lv_aload_n hx hb dL_asked_43 rfl (lv_at hl 5 rfl) ?_
      refine lv_aload_n hx hb dL_asked_44 rfl (lv_at hl 6 rfl) ?_
      refine iv_rwSv (As := [.int (iI 0), .ref qa, .ref aa]) (rest := []) (n := 3) ⟨hx, hb, hml, hown, hts⟩ (c_L_drop l D yI yC yD yL qa aa S g 0 (by omega) (by assumption) (by omega) _) (va_cwS 3 hts gL_asked_L_drop rfl rfl rfl (by decide +kernel) ⟨Nat.le_of_ble_eq_true rfl, Nat.le_of_ble_eq_true rfl⟩) hK hP hD hS hA [0, 1] (by decide) rfl rfl hl.1 rfl (Nat.le_of_ble_eq_true rfl) dL_asked_45 ⟨Nat.zero_le _, Nat.zero_le _⟩ (fun _ => by simp only [List.map_cons, List.map_nil]) (fun u45 H locs hw45 hP hD hS => ?_)
      obtain ⟨G945, hu45⟩ : ∃ z, z = u45 := ⟨_, rfl⟩
      subst hu45
      have hR9_45 := hw45
      have hP : va_P D vwCl [(qa, aI yI 9 (qS (forget1 S 0))), (aa, aI yI 48 G945)] H := hP
      have hD : va_D A [(qa, aI yI 9 (qS (forget1 S 0))), (aa, aI yI 48 G945)] := hD
      have er0 : forget1 S 0 = askroom S := (room_t (by omega)).symm
      rw [er0] at hP hD hR9_45
      have hP : va_P D vwCl [(qa, aI yI 9 (qS (askroom S))), (aa, aI yI 48 G945)] H := hP
      have hD : va_D A [(qa, aI yI 9 (qS (askroom S))), (aa, aI yI 48 G945)] := hD
      have hRk := hR9_45
      have hk4 := (inv_room hI).1.na; have hk5 := (inv_room hI).2.1; have hk2 : askroom S 2 = S 2 := room_k (by omega) (by omega) (by omega)
      refine lv_iload hx hb dL_asked_48 (lv_at hl 0 rfl) ?_
      refine iv_if_ge (a := aboutI S a b) (tgt := 64) hx hb (by omega) dL_asked_50 (by decide) (fun c50 => ?_) (fun c50 => ?_)
      · exact absurd c50 (by omega)
      · refine lv_aload_n hx hb dL_asked_53 rfl (lv_at hl 5 rfl) ?_
        refine lv_iconst (v := iI 4) hx hb dL_asked_54 (by decide +kernel) ?_
        refine lv_dup2_11 hx hb dL_asked_55 rfl rfl ?_
        refine iv_aldE hx hb hK hP 0 0 rfl rfl (z := 4) (w := (askroom S) 4) (by first | exact qS_n (by omega) | exact up_s | rfl) (by omega) (by omega) (by omega) dL_asked_56 ?_
        refine lv_dup_x2 hx hb dL_asked_57 rfl rfl rfl ?_
        refine lv_iconst (v := iI 1) hx hb dL_asked_58 (by decide +kernel) ?_
        refine iv_add hx hb dL_asked_59 ?_
        refine iv_ast hx hb hK hP hD hS 0 0 rfl rfl (z := 4) (v := (askroom S) 4 + 1) (by omega) (by omega) (by omega) dL_asked_60 (fun H locs hP hD hS => ?_)
        have hP : va_P D vwCl [(qa, aI yI 9 (up (qS (askroom S)) 4 ((askroom S) 4 + 1))), (aa, aI yI 48 G945)] H := hP
        have hD : va_D A [(qa, aI yI 9 (up (qS (askroom S)) 4 ((askroom S) 4 + 1))), (aa, aI yI 48 G945)] := hD
        refine lv_goto (tgt := 66) hx hb dL_asked_61 (by decide) ?_
        refine lv_istore (lv' := [(6, .int (iI ((askroom S) 4))), (5, .int (iI (keysIn S a b))), (4, .int (iI (costOf S a b))), (0, .int (iI a)), (1, .int (iI b)), (2, .ref qa), (3, .ref aa)]) hx hb dL_asked_66 hl (by decide) rfl (fun ls hl => ?_)
        refine lv_aload_n hx hb dL_asked_68 rfl (lv_at hl 6 rfl) ?_
        refine lv_iconst (v := iI 4) hx hb dL_asked_69 (by decide +kernel) ?_
        refine lv_iload hx hb dL_asked_70 (lv_at hl 0 rfl) ?_
        refine iv_mul hx hb dL_asked_72 ?_
        refine lv_iload_n hx hb dL_asked_73 rfl (lv_at hl 3 rfl) ?_
        refine iv_ast hx hb hK hP hD hS 1 0 rfl rfl (z := 4 * ((askroom S) 4)) (v := a) (by omega) (by omega) (by omega) dL_asked_74 (fun H locs hP hD hS => ?_)
        have hP : va_P D vwCl [(qa, aI yI 9 (up (qS (askroom S)) 4 ((askroom S) 4 + 1))), (aa, aI yI 48 (up G945 (4 * ((askroom S) 4)) a))] H := hP
        have hD : va_D A [(qa, aI yI 9 (up (qS (askroom S)) 4 ((askroom S) 4 + 1))), (aa, aI yI 48 (up G945 (4 * ((askroom S) 4)) a))] := hD
        refine lv_aload_n hx hb dL_asked_75 rfl (lv_at hl 6 rfl) ?_
        refine lv_iconst (v := iI 4) hx hb dL_asked_76 (by decide +kernel) ?_
        refine lv_iload hx hb dL_asked_77 (lv_at hl 0 rfl) ?_
        refine iv_mul hx hb dL_asked_79 ?_
        refine lv_iconst (v := iI 1) hx hb dL_asked_80 (by decide +kernel) ?_
        refine iv_add hx hb dL_asked_81 ?_
        refine lv_iload_n hx hb dL_asked_82 rfl (lv_at hl 4 rfl) ?_
        refine iv_ast hx hb hK hP hD hS 1 0 rfl rfl (z := 4 * ((askroom S) 4) + 1) (v := b) (by omega) (by omega) (by omega) dL_asked_83 (fun H locs hP hD hS => ?_)
        have hP : va_P D vwCl [(qa, aI yI 9 (up (qS (askroom S)) 4 ((askroom S) 4 + 1))), (aa, aI yI 48 (up (up G945 (4 * ((askroom S) 4)) a) (4 * ((askroom S) 4) + 1) b))] H := hP
        have hD : va_D A [(qa, aI yI 9 (up (qS (askroom S)) 4 ((askroom S) 4 + 1))), (aa, aI yI 48 (up (up G945 (4 * ((askroom S) 4)) a) (4 * ((askroom S) 4) + 1) b))] := hD
        refine lv_aload_n hx hb dL_asked_84 rfl (lv_at hl 6 rfl) ?_
        refine lv_iconst (v := iI 4) hx hb dL_asked_85 (by decide +kernel) ?_
        refine lv_iload hx hb dL_asked_86 (lv_at hl 0 rfl) ?_
        refine iv_mul hx hb dL_asked_88 ?_
        refine lv_iconst (v := iI 2) hx hb dL_asked_89 (by decide +kernel) ?_
        refine iv_add hx hb dL_asked_90 ?_
        refine iv_join (I := fun (qq : Int) H locs ls => match qq with | yv => (yv = told S a b) ∧ va_P D vwCl [(qa, aI yI 9 (up (qS (askroom S)) 4 ((askroom S) 4 + 1))), (aa, aI yI 48 (up (up G945 (4 * ((askroom S) 4)) a) (4 * ((askroom S) 4) + 1) b))] H ∧ va_D A [(qa, aI yI 9 (up (qS (askroom S)) 4 ((askroom S) 4 + 1))), (aa, aI yI 48 (up (up G945 (4 * ((askroom S) 4)) a) (4 * ((askroom S) 4) + 1) b))] ∧ va_S A s.heap H locs ∧ lv_has ls 7 [(6, .int (iI ((askroom S) 4))), (5, .int (iI (keysIn S a b))), (4, .int (iI (costOf S a b))), (0, .int (iI a)), (1, .int (iI b)), (2, .ref qa), (3, .ref aa)]) (sx := fun (qq : Int) => match qq with | yv => [.int (iI yv), .int (iI (4 * ((askroom S) 4) + 2)), .ref aa]) (pcj := 106) ?_ (fun J106 => ?_)
        · intro yv H locs ls hI
          obtain ⟨hy, hP, hD, hS, hl⟩ := hI
          refine iv_ast hx hb hK hP hD hS 1 0 rfl rfl (z := 4 * ((askroom S) 4) + 2) (v := yv) (by omega) (by omega) (by omega) dL_asked_106 (fun H locs hP hD hS => ?_)
          have hP : va_P D vwCl [(qa, aI yI 9 (up (qS (askroom S)) 4 ((askroom S) 4 + 1))), (aa, aI yI 48 (up (up (up G945 (4 * ((askroom S) 4)) a) (4 * ((askroom S) 4) + 1) b) (4 * ((askroom S) 4) + 2) yv))] H := hP
          have hD : va_D A [(qa, aI yI 9 (up (qS (askroom S)) 4 ((askroom S) 4 + 1))), (aa, aI yI 48 (up (up (up G945 (4 * ((askroom S) 4)) a) (4 * ((askroom S) 4) + 1) b) (4 * ((askroom S) 4) + 2) yv))] := hD
          refine lv_aload_n hx hb dL_asked_107 rfl (lv_at hl 6 rfl) ?_
          refine lv_iconst (v := iI 4) hx hb dL_asked_108 (by decide +kernel) ?_
          refine lv_iload hx hb dL_asked_109 (lv_at hl 0 rfl) ?_
          refine iv_mul hx hb dL_asked_111 ?_
          refine lv_iconst (v := iI 3) hx hb dL_asked_112 (by decide +kernel) ?_
          refine iv_add hx hb dL_asked_113 ?_
          refine lv_iload hx hb dL_asked_114 (lv_at hl 2 rfl) ?_
          refine iv_ast hx hb hK hP hD hS 1 0 rfl rfl (z := 4 * ((askroom S) 4) + 3) (v := costOf S a b) (by omega) (by omega) (by omega) dL_asked_116 (fun H locs hP hD hS => ?_)
          have hP : va_P D vwCl [(qa, aI yI 9 (up (qS (askroom S)) 4 ((askroom S) 4 + 1))), (aa, aI yI 48 (up (up (up (up G945 (4 * ((askroom S) 4)) a) (4 * ((askroom S) 4) + 1) b) (4 * ((askroom S) 4) + 2) yv) (4 * ((askroom S) 4) + 3) (costOf S a b)))] H := hP
          have hD : va_D A [(qa, aI yI 9 (up (qS (askroom S)) 4 ((askroom S) 4 + 1))), (aa, aI yI 48 (up (up (up (up G945 (4 * ((askroom S) 4)) a) (4 * ((askroom S) 4) + 1) b) (4 * ((askroom S) 4) + 2) yv) (4 * ((askroom S) 4) + 3) (costOf S a b)))] := hD
          refine lv_aload_n hx hb dL_asked_117 rfl (lv_at hl 5 rfl) ?_
          refine lv_iconst (v := iI 5) hx hb dL_asked_118 (by decide +kernel) ?_
          refine lv_dup2_11 hx hb dL_asked_119 rfl rfl ?_
          refine iv_aldE hx hb hK hP 0 0 rfl rfl (z := 5) (w := (askroom S) 5) (by first | exact qS_n (by omega) | exact up_s | rfl) (by omega) (by omega) (by omega) dL_asked_120 ?_
          refine lv_iload hx hb dL_asked_121 (lv_at hl 2 rfl) ?_
          refine iv_add hx hb dL_asked_123 ?_
          refine iv_ast hx hb hK hP hD hS 0 0 rfl rfl (z := 5) (v := (askroom S) 5 + (costOf S a b)) (by omega) (by omega) (by omega) dL_asked_124 (fun H locs hP hD hS => ?_)
          have hP : va_P D vwCl [(qa, aI yI 9 (up (up (qS (askroom S)) 4 ((askroom S) 4 + 1)) 5 ((askroom S) 5 + (costOf S a b)))), (aa, aI yI 48 (up (up (up (up G945 (4 * ((askroom S) 4)) a) (4 * ((askroom S) 4) + 1) b) (4 * ((askroom S) 4) + 2) yv) (4 * ((askroom S) 4) + 3) (costOf S a b)))] H := hP
          have hD : va_D A [(qa, aI yI 9 (up (up (qS (askroom S)) 4 ((askroom S) 4 + 1)) 5 ((askroom S) 5 + (costOf S a b)))), (aa, aI yI 48 (up (up (up (up G945 (4 * ((askroom S) 4)) a) (4 * ((askroom S) 4) + 1) b) (4 * ((askroom S) 4) + 2) yv) (4 * ((askroom S) 4) + 3) (costOf S a b)))] := hD
          refine lv_aload_n hx hb dL_asked_125 rfl (lv_at hl 5 rfl) ?_
          refine lv_bipush (v := iI 6) hx hb dL_asked_126 (by decide +kernel) ?_
          refine lv_dup2_11 hx hb dL_asked_128 rfl rfl ?_
          refine iv_aldE hx hb hK hP 0 0 rfl rfl (z := 6) (w := (askroom S) 6) (by first | exact qS_n (by omega) | exact up_s | rfl) (by omega) (by omega) (by omega) dL_asked_129 ?_
          refine lv_iconst (v := iI 1) hx hb dL_asked_130 (by decide +kernel) ?_
          refine iv_add hx hb dL_asked_131 ?_
          refine iv_ast hx hb hK hP hD hS 0 0 rfl rfl (z := 6) (v := (askroom S) 6 + 1) (by omega) (by omega) (by omega) dL_asked_132 (fun H locs hP hD hS => ?_)
          have hP : va_P D vwCl [(qa, aI yI 9 (up (up (up (qS (askroom S)) 4 ((askroom S) 4 + 1)) 5 ((askroom S) 5 + (costOf S a b))) 6 ((askroom S) 6 + 1))), (aa, aI yI 48 (up (up (up (up G945 (4 * ((askroom S) 4)) a) (4 * ((askroom S) 4) + 1) b) (4 * ((askroom S) 4) + 2) yv) (4 * ((askroom S) 4) + 3) (costOf S a b)))] H := hP
          have hD : va_D A [(qa, aI yI 9 (up (up (up (qS (askroom S)) 4 ((askroom S) 4 + 1)) 5 ((askroom S) 5 + (costOf S a b))) 6 ((askroom S) 6 + 1))), (aa, aI yI 48 (up (up (up (up G945 (4 * ((askroom S) 4)) a) (4 * ((askroom S) 4) + 1) b) (4 * ((askroom S) 4) + 2) yv) (4 * ((askroom S) 4) + 3) (costOf S a b)))] := hD
          have hP := va_P.arr hP 0 (g := qS (askd S a b)) rfl (qs_ask1 hI (by omega))
          have hD : va_D A [(qa, aI yI 9 (qS (askd S a b))), (aa, aI yI 48 (up (up (up (up G945 (4 * ((askroom S) 4)) a) (4 * ((askroom S) 4) + 1) b) (4 * ((askroom S) 4) + 2) yv) (4 * ((askroom S) 4) + 3) (costOf S a b)))] := hD.set (p := 0) rfl
          have hP : va_P D vwCl [(qa, aI yI 9 (qS (askd S a b))), (aa, aI yI 48 (up (up (up (up G945 (4 * ((askroom S) 4)) a) (4 * ((askroom S) 4) + 1) b) (4 * ((askroom S) 4) + 2) yv) (4 * ((askroom S) 4) + 3) (costOf S a b)))] _ := hP
          refine lv_aload_n hx hb dL_asked_133 rfl (lv_at hl 6 rfl) ?_
          refine lv_iconst (v := iI 4) hx hb dL_asked_134 (by decide +kernel) ?_
          refine lv_iload hx hb dL_asked_135 (lv_at hl 0 rfl) ?_
          refine iv_mul hx hb dL_asked_137 ?_
          refine lv_iconst (v := iI 2) hx hb dL_asked_138 (by decide +kernel) ?_
          refine iv_add hx hb dL_asked_139 ?_
          refine iv_ald hx hb hK hP 1 0 rfl rfl (z := 4 * ((askroom S) 4) + 2) (by omega) (by omega) (by omega) dL_asked_140 ?_
          have hP9 : va_P D vwCl [(qa, aI yI 9 (qS (askd S a b))), (aa, aI yI 48 (up (up (up (up G945 (4 * ((askroom S) 4)) a) (4 * ((askroom S) 4) + 1) b) (4 * ((askroom S) 4) + 2) yv) (4 * ((askroom S) 4) + 3) (costOf S a b)))] _ := hP.sub [0, 1] rfl
          exact W.iret hx hb hr (fun t ht hW => ⟨⟨iI ((up (up (up (up G945 (4 * ((askroom S) 4)) a) (4 * ((askroom S) 4) + 1) b) (4 * ((askroom S) 4) + 2) yv) (4 * ((askroom S) 4) + 3) (costOf S a b)) (4 * ((askroom S) 4) + 2)), (up (up (up (up G945 (4 * ((askroom S) 4)) a) (4 * ((askroom S) 4) + 1) b) (4 * ((askroom S) 4) + 2) yv) (4 * ((askroom S) 4) + 3) (costOf S a b)), rfl, ⟨congrArg iI (show (up (up (up (up G945 (4 * ((askroom S) 4)) a) (4 * ((askroom S) 4) + 1) b) (4 * ((askroom S) 4) + 2) yv) (4 * ((askroom S) 4) + 3) (costOf S a b)) (4 * ((askroom S) 4) + 2) = told S a b by rw [up_n (by omega), up_s]; exact hy), (by rw [up4, hy]; first | exact rc_ask1 hI hRk (by omega) | (have e0 : costOf S a b = 0 := if_pos (by omega)) <;> rw [e0] <;> exact rc_ask2 hI hR (by omega))⟩, by show va_P D vwCl _ t.heap; rw [ht]; exact hP9⟩, hS.F ht⟩) hS.2.2 dL_asked_141
        · refine lv_iload hx hb dL_asked_91 (lv_at hl 1 rfl) ?_
          refine lv_aload_n hx hb dL_asked_93 rfl (lv_at hl 5 rfl) ?_
          refine lv_iconst (v := iI 2) hx hb dL_asked_94 (by decide +kernel) ?_
          refine iv_aldE hx hb hK hP 0 0 rfl rfl (z := 2) (w := (askroom S) 2) (by first | exact qS_n (by omega) | exact up_s | rfl) (by omega) (by omega) (by omega) dL_asked_95 ?_
          refine iv_icmp_ge (a := keysIn S a b) (b := (askroom S) 2) (tgt := 104) hx hb (by omega) (by omega) dL_asked_96 (by decide) (fun c96 => ?_) (fun c96 => ?_)
          · refine lv_iload hx hb dL_asked_104 (lv_at hl 1 rfl) ?_
            exact J106 (keysIn S a b) _ _ ⟨by show _ = if keysIn S a b < S 2 then -2 else keysIn S a b; first | (rw [if_pos (by omega)]; done) | (rw [if_neg (by omega)]; done), hP, hD, hS, lv_sub hl [0, 1, 2, 3, 4, 5, 6] rfl⟩
          · refine lv_bipush (v := iI (-2)) hx hb dL_asked_99 (by decide +kernel) ?_
            refine lv_goto (tgt := 106) hx hb dL_asked_101 (by decide) ?_
            exact J106 (-2) _ _ ⟨by show _ = if keysIn S a b < S 2 then -2 else keysIn S a b; first | (rw [if_pos (by omega)]; done) | (rw [if_neg (by omega)]; done), hP, hD, hS, lv_sub hl [0, 1, 2, 3, 4, 5, 6] rfl⟩
