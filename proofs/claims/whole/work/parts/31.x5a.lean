set_option maxHeartbeats 4000000 in
set_option maxRecDepth 100000 in
theorem c_X5_copy (l : Launch) (D : va_G) (yI yC yD : ClassId) (af : Nat) (at_ : Nat) (n1 : Nat) (n2 : Nat) (F : Int → Int) (G : Int → Int) (f : Int) (tt : Int) (h1 : 0 ≤ f ∧ f + 96 ≤ n1) (h2 : 0 ≤ tt ∧ tt + 96 ≤ n2) (h3 : n1 < 2147483648 ∧ n2 < 2147483648) (sz : Nat) : Met l yX5_copy wsX5_copy ({ frames := 0, cells := 0, slots := 0, locals := 0 }) (rwP [.ref af, .int (iI f), .ref at_, .int (iI tt)] D (tyz yI yC yD) [(af, aI yI n1 F), (at_, aI yI n2 G)] sz) (va_Qv (fun (_ : Unit) => True) (fun (_ : Unit) (t : State) => va_P D vwCl [(af, aI yI n1 F), (at_, aI yI n2 (cpy F G f tt))] t.heap) (va_A [(af, aI yI n1 F), (at_, aI yI n2 G)] sz)) 0 0 (va_A [(af, aI yI n1 F), (at_, aI yI n2 G)] sz) := by
  refine Met.ofW (cc := cX5_copy) (maxL := 5) (ret := none) (by decide) rfl ?_
  intro p e s m args below meth c s₁ B hml hv
  obtain ⟨rfl, hsz, hP, hK, hD0⟩ := hv
  have hx := B.exec
  have hb := B.bytes
  have hr := B.returns
  have hts := atoms_spec (ws := wsX5_copy) B.pre
  have hown : s.vm.findClass RX5 = some m.cls := findClass_of_methodNamed B.named
  have hlocks := B.notSynchronized
  subst hsz
  have hD := hD0.self (sz := s.heap.size)
  generalize hAe : va_A [(af, aI yI n1 F), (at_, aI yI n2 G)] s.heap.size = A at hD ⊢
  have hA : ∀ q : Nat, s.heap.size ≤ q → A q := fun q h => by rw [← hAe]; exact Or.inr h
  have hS : va_S A s.heap s.heap [] := va_S.rf
  have hP : va_P D vwCl [(af, aI yI n1 F), (at_, aI yI n2 G)] s.heap := hP
  have hl := lv_entry ([.ref af, .int (iI f), .ref at_, .int (iI tt)]) (n := 5) (Nat.le_of_ble_eq_true rfl)
  rw [lg_entry_eq]
  generalize (lg_sl ([.ref af, .int (iI f), .ref at_, .int (iI tt)]) ++ List.replicate (5 - (lg_sl ([.ref af, .int (iI f), .ref at_, .int (iI tt)])).length) Slot.unset).toArray = ls at hl ⊢
  have hl : lv_has ls 5 [(0, .ref af), (1, .int (iI f)), (2, .ref at_), (3, .int (iI tt))] := hl
  refine lv_iconst (v := iI 0) hx hb dX5_copy_0 (by decide +kernel) ?_
  refine lv_istore (lv' := [(4, .int (iI 0)), (0, .ref af), (1, .int (iI f)), (2, .ref at_), (3, .int (iI tt))]) hx hb dX5_copy_1 hl (by decide) rfl (fun ls hl => ?_)
  refine iv_loop (I := fun (qq : Nat × Int × (Int → Int)) H locs ls => match qq with | (k, x4, G1) => (k ≤ 96) ∧ (x4 = k) ∧ (G1 = cpyN F G f tt k) ∧ va_P D vwCl [(af, aI yI n1 F), (at_, aI yI n2 G1)] H ∧ va_D A [(af, aI yI n1 F), (at_, aI yI n2 G1)] ∧ va_S A s.heap H locs ∧ lv_has ls 5 [(4, .int (iI x4)), (0, .ref af), (1, .int (iI f)), (2, .ref at_), (3, .int (iI tt))]) (μ := fun (qq : Nat × Int × (Int → Int)) => match qq with | (k, x4, G1) => 96 - k) (0, 0, G) ?_ ?_
  · exact ⟨by omega, by omega, cpyN_0, hP, hD, hS, lv_sub hl [0, 1, 2, 3, 4] rfl⟩
  · intro qq H locs ls hI ih3
    obtain ⟨k, x4, G1⟩ := qq
    obtain ⟨hk, h4, hG, hP, hD, hS, hl⟩ := hI
    refine lv_iload hx hb dX5_copy_3 (lv_at hl 0 rfl) ?_
    refine lv_bipush (v := iI 96) hx hb dX5_copy_5 (by decide +kernel) ?_
    refine iv_icmp_ge (a := x4) (b := 96) (tgt := 28) hx hb (by omega) (by omega) dX5_copy_7 (by decide) (fun c7 => ?_) (fun c7 => ?_)
    · have hP9 : va_P D vwCl [(af, aI yI n1 F), (at_, aI yI n2 (cpy F G f tt))] _ := (hP.sub (ws' := [(af, aI yI n1 F), (at_, aI yI n2 G1)]) [0, 1] rfl).cv (by have e : k = 96 := (by omega); subst e; subst hG; rfl)
      exact W.vret hx hb hr (fun t ht hW => ⟨⟨(), rfl, trivial, by show va_P D vwCl _ t.heap; rw [ht]; exact hP9⟩, hS.F ht⟩) hS.2.2 dX5_copy_28
    · refine lv_aload_n hx hb dX5_copy_10 rfl (lv_at hl 3 rfl) ?_
      refine lv_iload_n hx hb dX5_copy_11 rfl (lv_at hl 4 rfl) ?_
      refine lv_iload hx hb dX5_copy_12 (lv_at hl 0 rfl) ?_
      refine iv_add hx hb dX5_copy_14 ?_
      refine lv_aload_n hx hb dX5_copy_15 rfl (lv_at hl 1 rfl) ?_
      refine lv_iload_n hx hb dX5_copy_16 rfl (lv_at hl 2 rfl) ?_
      refine lv_iload hx hb dX5_copy_17 (lv_at hl 0 rfl) ?_
      refine iv_add hx hb dX5_copy_19 ?_
      refine iv_ald hx hb hK hP 0 0 rfl rfl (z := f + x4) (by omega) (by omega) (by omega) dX5_copy_20 ?_
      refine iv_ast hx hb hK hP hD hS 1 0 rfl rfl (z := tt + x4) (v := F (f + x4)) (by omega) (by omega) (by omega) dX5_copy_21 (fun H locs hP hD hS => ?_)
      have hP : va_P D vwCl [(af, aI yI n1 F), (at_, aI yI n2 (up G1 (tt + x4) (F (f + x4))))] H := hP
      have hD : va_D A [(af, aI yI n1 F), (at_, aI yI n2 (up G1 (tt + x4) (F (f + x4))))] := hD
      refine iv_inc (lv' := [(4, .int (iI (x4 + 1))), (0, .ref af), (1, .int (iI f)), (2, .ref at_), (3, .int (iI tt))]) hx hb dX5_copy_22 hl (k := 0) rfl (by decide) rfl (fun ls hl => ?_)
      refine lv_goto (tgt := 3) hx hb dX5_copy_25 (by decide) ?_
      refine ih3 (k + 1, x4 + 1, up G1 (tt + x4) (F (f + x4))) _ _ (by show (96 - (k + 1) : Nat) < 96 - k; omega) ?_
      exact ⟨by omega, by omega, by rw [hG, h4]; exact cpyN_s, hP, hD, hS, lv_sub hl [0, 1, 2, 3, 4] rfl⟩
set_option maxHeartbeats 4000000 in
set_option maxRecDepth 100000 in
theorem c_X5_within (l : Launch) (D : va_G) (yI yC yD : ClassId) (v : Int) (lo : Int) (hi : Int) (h1 : inR v) (h2 : inR lo) (h3 : inR hi) : Met l yX5_within wsX5_within ({ frames := 0, cells := 0, slots := 0, locals := 0 }) (roP [.int (iI v), .int (iI lo), .int (iI hi)] D (tyz yI yC yD) []) (QcRead (iI (bI (lo ≤ v ∧ v ≤ hi)))) 0 0 (fun _ => False) := by
  refine Met.ofW (cc := cX5_within) (maxL := 3) (ret := (some .boolean)) (by decide) rfl ?_
  intro p e s m args below meth c s₁ B hml hv
  obtain ⟨rfl, hP, hK⟩ := hv
  have hx := B.exec
  have hb := B.bytes
  have hr := B.returns
  have hts := atoms_spec (ws := wsX5_within) B.pre
  have hown : s.vm.findClass RX5 = some m.cls := findClass_of_methodNamed B.named
  have hlocks := B.notSynchronized
  have hP : va_P D vwCl [] s.heap := hP
  have hl := lv_entry ([.int (iI v), .int (iI lo), .int (iI hi)]) (n := 3) (Nat.le_of_ble_eq_true rfl)
  rw [lg_entry_eq]
  generalize (lg_sl ([.int (iI v), .int (iI lo), .int (iI hi)]) ++ List.replicate (3 - (lg_sl ([.int (iI v), .int (iI lo), .int (iI hi)])).length) Slot.unset).toArray = ls at hl ⊢
  have hl : lv_has ls 3 [(0, .int (iI v)), (1, .int (iI lo)), (2, .int (iI hi))] := hl
  refine lv_iload_n hx hb dX5_within_0 rfl (lv_at hl 0 rfl) ?_
  refine lv_iload_n hx hb dX5_within_1 rfl (lv_at hl 1 rfl) ?_
  refine iv_icmp_lt (a := v) (b := lo) (tgt := 14) hx hb (by omega) (by omega) dX5_within_2 (by decide) (fun c2 => ?_) (fun c2 => ?_)
  · refine lv_iconst (v := iI 0) hx hb dX5_within_14 (by decide +kernel) ?_
    exact W.zret hx hb hr (by decide +kernel) (fun t ht hW => ⟨congrArg (fun z => Outcome.returned (some (Value.int (iI z)))) (show 0 = bI (lo ≤ v ∧ v ≤ hi) by first | exact (bI_t (by omega)).symm | exact (bI_f (by omega)).symm), ht⟩) (fun q h => by cases h) dX5_within_15
  · refine lv_iload_n hx hb dX5_within_5 rfl (lv_at hl 0 rfl) ?_
    refine lv_iload_n hx hb dX5_within_6 rfl (lv_at hl 2 rfl) ?_
    refine iv_icmp_gt (a := v) (b := hi) (tgt := 14) hx hb (by omega) (by omega) dX5_within_7 (by decide) (fun c7 => ?_) (fun c7 => ?_)
    · refine lv_iconst (v := iI 0) hx hb dX5_within_14 (by decide +kernel) ?_
      exact W.zret hx hb hr (by decide +kernel) (fun t ht hW => ⟨congrArg (fun z => Outcome.returned (some (Value.int (iI z)))) (show 0 = bI (lo ≤ v ∧ v ≤ hi) by first | exact (bI_t (by omega)).symm | exact (bI_f (by omega)).symm), ht⟩) (fun q h => by cases h) dX5_within_15
    · refine lv_iconst (v := iI 1) hx hb dX5_within_10 (by decide +kernel) ?_
      refine lv_goto (tgt := 15) hx hb dX5_within_11 (by decide) ?_
      exact W.zret hx hb hr (by decide +kernel) (fun t ht hW => ⟨congrArg (fun z => Outcome.returned (some (Value.int (iI z)))) (show 1 = bI (lo ≤ v ∧ v ≤ hi) by first | exact (bI_t (by omega)).symm | exact (bI_f (by omega)).symm), ht⟩) (fun q h => by cases h) dX5_within_15
set_option maxHeartbeats 4000000 in
set_option maxRecDepth 100000 in
theorem c_X5_isPlace (l : Launch) (D : va_G) (yI yC yD : ClassId) (mo : Nat) (th : Int) (re : Int) (tl : Int) (a1 : Nat) (a2 : Nat) (a3 : Nat) (a4 : Nat) (a5 : Nat) (a6 : Nat) (a7 : Nat) (a8 : Nat) (S : Int → Int) (i : Int) (h1 : inR i) (h2 : 0 ≤ S 0 ∧ S 0 ≤ 40) : Met l yX5_isPlace wsX5_isPlace ({ frames := 1, cells := 0, slots := 0, locals := 22 }) (roP [.ref mo, .int (iI i)] D (tyz yI yC yD) [(mo, oMo th a1 a2 a3 re a4 a5 a6 tl a7 a8), (a1, aI yI 96 S)]) (QcRead (iI (bI (0 ≤ i ∧ i < S 0)))) 0 0 (fun _ => False) := by
  refine Met.ofW (cc := cX5_isPlace) (maxL := 2) (ret := (some .boolean)) (by decide) rfl ?_
  intro p e s m args below meth c s₁ B hml hv
  obtain ⟨rfl, hP, hK⟩ := hv
  have hx := B.exec
  have hb := B.bytes
  have hr := B.returns
  have hts := atoms_spec (ws := wsX5_isPlace) B.pre
  have hown : s.vm.findClass RX5 = some m.cls := findClass_of_methodNamed B.named
  have hlocks := B.notSynchronized
  have hP : va_P D vwCl [(mo, oMo th a1 a2 a3 re a4 a5 a6 tl a7 a8), (a1, aI yI 96 S)] s.heap := hP
  have hinX5 : ∀ w ∈ wsX50, w ∈ wsX5_isPlace := by decide +kernel
  have hf7 : (Cond.fieldLink RX5 7 "RiddleDriveModel" "state" "[I").before _ s = true := hts _ (by decide +kernel)
  have hl := lv_entry ([.ref mo, .int (iI i)]) (n := 2) (Nat.le_of_ble_eq_true rfl)
  rw [lg_entry_eq]
  generalize (lg_sl ([.ref mo, .int (iI i)]) ++ List.replicate (2 - (lg_sl ([.ref mo, .int (iI i)])).length) Slot.unset).toArray = ls at hl ⊢
  have hl : lv_has ls 2 [(0, .ref mo), (1, .int (iI i))] := hl
  refine lv_iload_n hx hb dX5_isPlace_0 rfl (lv_at hl 1 rfl) ?_
  refine lv_iconst (v := iI 0) hx hb dX5_isPlace_1 (by decide +kernel) ?_
  refine lv_aload_n hx hb dX5_isPlace_2 rfl (lv_at hl 0 rfl) ?_
  refine va_get (D := D) (ci := 5) (v := .ref a1) (C := RX5) (T := TX5) (N := 11) hx hb hts hinX5 hown hK hP 0 rfl rfl 1 (by decide) hf7 (fun _ h9 => h9) rfl dX5_isPlace_3 ?_
  refine lv_iconst (v := iI 0) hx hb dX5_isPlace_6 (by decide +kernel) ?_
  refine iv_ald hx hb hK hP 1 0 rfl rfl (z := 0) (by omega) (by omega) (by omega) dX5_isPlace_7 ?_
  refine lv_iconst (v := iI 1) hx hb dX5_isPlace_8 (by decide +kernel) ?_
  refine iv_sub hx hb dX5_isPlace_9 ?_
  refine iv_roS (As := [.int (iI i), .int (iI 0), .int (iI (S 0 - 1))]) (rest := []) (n := 3) ⟨hx, hb, hml, hown, hts⟩ (c_X5_within l D yI yC yD i 0 (S 0 - 1) (by omega) (by omega) (by omega)) (va_cwS 3 hts gX5_isPlace_X5_within rfl rfl rfl (by decide +kernel) ⟨Nat.le_of_ble_eq_true rfl, Nat.le_of_ble_eq_true rfl⟩) hK hP [] rfl rfl hl.1 rfl (Nat.le_of_ble_eq_true rfl) dX5_isPlace_10 ⟨Nat.zero_le _, Nat.zero_le _⟩ ?_
  exact W.zret hx hb hr (narB _) (fun t ht hW => ⟨congrArg (fun z => Outcome.returned (some (Value.int (iI z)))) (show bI (0 ≤ i ∧ i ≤ (S 0 - 1)) = bI (0 ≤ i ∧ i < S 0) by exact bI_c (by omega)), ht⟩) (fun q h => by cases h) dX5_isPlace_13
set_option maxHeartbeats 4000000 in
set_option maxRecDepth 100000 in
theorem c_X5_answerPart (l : Launch) (D : va_G) (yI yC yD : ClassId) (mo : Nat) (th : Int) (re : Int) (tl : Int) (a1 : Nat) (a2 : Nat) (a3 : Nat) (a4 : Nat) (a5 : Nat) (a6 : Nat) (a7 : Nat) (a8 : Nat) (S : Int → Int) (i : Int) (w : Int) (h1 : 0 ≤ i ∧ i < 12) (h2 : 0 ≤ w ∧ w < 4) : Met l yX5_answerPart wsX5_answerPart ({ frames := 0, cells := 0, slots := 0, locals := 0 }) (roP [.ref mo, .int (iI i), .int (iI w)] D (tyz yI yC yD) [(mo, oMo th a1 a2 a3 re a4 a5 a6 tl a7 a8), (a1, aI yI 96 S)]) (QcRead (iI (an S i w))) 0 0 (fun _ => False) := by
  refine Met.ofW (cc := cX5_answerPart) (maxL := 3) (ret := (some .int)) (by decide) rfl ?_
  intro p e s m args below meth c s₁ B hml hv
  obtain ⟨rfl, hP, hK⟩ := hv
  have hx := B.exec
  have hb := B.bytes
  have hr := B.returns
  have hts := atoms_spec (ws := wsX5_answerPart) B.pre
  have hown : s.vm.findClass RX5 = some m.cls := findClass_of_methodNamed B.named
  have hlocks := B.notSynchronized
  have hP : va_P D vwCl [(mo, oMo th a1 a2 a3 re a4 a5 a6 tl a7 a8), (a1, aI yI 96 S)] s.heap := hP
  have hinX5 : ∀ w ∈ wsX50, w ∈ wsX5_answerPart := by decide +kernel
  have hf7 : (Cond.fieldLink RX5 7 "RiddleDriveModel" "state" "[I").before _ s = true := hts _ (by decide +kernel)
  have hl := lv_entry ([.ref mo, .int (iI i), .int (iI w)]) (n := 3) (Nat.le_of_ble_eq_true rfl)
  rw [lg_entry_eq]
  generalize (lg_sl ([.ref mo, .int (iI i), .int (iI w)]) ++ List.replicate (3 - (lg_sl ([.ref mo, .int (iI i), .int (iI w)])).length) Slot.unset).toArray = ls at hl ⊢
  have hl : lv_has ls 3 [(0, .ref mo), (1, .int (iI i)), (2, .int (iI w))] := hl
  refine lv_aload_n hx hb dX5_answerPart_0 rfl (lv_at hl 0 rfl) ?_
  refine va_get (D := D) (ci := 5) (v := .ref a1) (C := RX5) (T := TX5) (N := 11) hx hb hts hinX5 hown hK hP 0 rfl rfl 1 (by decide) hf7 (fun _ h9 => h9) rfl dX5_answerPart_1 ?_
  refine lv_bipush (v := iI 48) hx hb dX5_answerPart_4 (by decide +kernel) ?_
  refine lv_iconst (v := iI 4) hx hb dX5_answerPart_6 (by decide +kernel) ?_
  refine lv_iload_n hx hb dX5_answerPart_7 rfl (lv_at hl 1 rfl) ?_
  refine iv_mul hx hb dX5_answerPart_8 ?_
  refine iv_add hx hb dX5_answerPart_9 ?_
  refine lv_iload_n hx hb dX5_answerPart_10 rfl (lv_at hl 2 rfl) ?_
  refine iv_add hx hb dX5_answerPart_11 ?_
  refine iv_ald hx hb hK hP 1 0 rfl rfl (z := 48 + (4 * i) + w) (by omega) (by omega) (by omega) dX5_answerPart_12 ?_
  exact W.iret hx hb hr (fun t ht hW => ⟨congrArg (fun z => Outcome.returned (some (Value.int (iI z)))) (show S (48 + (4 * i) + w) = an S i w by rfl), ht⟩) (fun q h => by cases h) dX5_answerPart_13
set_option maxHeartbeats 4000000 in
set_option maxRecDepth 100000 in
theorem c_X5_keysIn (l : Launch) (D : va_G) (yI yC yD : ClassId) (mo : Nat) (th : Int) (re : Int) (tl : Int) (a1 : Nat) (a2 : Nat) (a3 : Nat) (a4 : Nat) (a5 : Nat) (a6 : Nat) (a7 : Nat) (a8 : Nat) (S : Int → Int) (a : Int) (b : Int) (h1 : 0 ≤ a ∧ a ≤ b + 1 ∧ b < 40) : Met l yX5_keysIn wsX5_keysIn ({ frames := 0, cells := 0, slots := 0, locals := 0 }) (roP [.ref mo, .int (iI a), .int (iI b)] D (tyz yI yC yD) [(mo, oMo th a1 a2 a3 re a4 a5 a6 tl a7 a8), (a1, aI yI 96 S)]) (QcRead (iI (keysIn S a b))) 0 0 (fun _ => False) := by
  refine Met.ofW (cc := cX5_keysIn) (maxL := 5) (ret := (some .int)) (by decide) rfl ?_
  intro p e s m args below meth c s₁ B hml hv
  obtain ⟨rfl, hP, hK⟩ := hv
  have hx := B.exec
  have hb := B.bytes
  have hr := B.returns
  have hts := atoms_spec (ws := wsX5_keysIn) B.pre
  have hown : s.vm.findClass RX5 = some m.cls := findClass_of_methodNamed B.named
  have hlocks := B.notSynchronized
  have hP : va_P D vwCl [(mo, oMo th a1 a2 a3 re a4 a5 a6 tl a7 a8), (a1, aI yI 96 S)] s.heap := hP
  have hinX5 : ∀ w ∈ wsX50, w ∈ wsX5_keysIn := by decide +kernel
  have hf7 : (Cond.fieldLink RX5 7 "RiddleDriveModel" "state" "[I").before _ s = true := hts _ (by decide +kernel)
  have hl := lv_entry ([.ref mo, .int (iI a), .int (iI b)]) (n := 5) (Nat.le_of_ble_eq_true rfl)
  rw [lg_entry_eq]
  generalize (lg_sl ([.ref mo, .int (iI a), .int (iI b)]) ++ List.replicate (5 - (lg_sl ([.ref mo, .int (iI a), .int (iI b)])).length) Slot.unset).toArray = ls at hl ⊢
  have hl : lv_has ls 5 [(0, .ref mo), (1, .int (iI a)), (2, .int (iI b))] := hl
  refine lv_iconst (v := iI 0) hx hb dX5_keysIn_0 (by decide +kernel) ?_
  refine lv_istore_n (lv' := [(3, .int (iI 0)), (0, .ref mo), (1, .int (iI a)), (2, .int (iI b))]) hx hb dX5_keysIn_1 rfl hl (by decide) rfl (fun ls hl => ?_)
  refine lv_iload_n hx hb dX5_keysIn_2 rfl (lv_at hl 2 rfl) ?_
  refine lv_istore (lv' := [(4, .int (iI a)), (3, .int (iI 0)), (0, .ref mo), (1, .int (iI a)), (2, .int (iI b))]) hx hb dX5_keysIn_3 hl (by decide) rfl (fun ls hl => ?_)
  refine iv_loopR (I := fun (qq : Nat × Int × Int) ls => match qq with | (k, x3, x4) => ((k : Int) ≤ b + 1 - a) ∧ (x3 = ksum S a k) ∧ (x4 = a + k) ∧ lv_has ls 5 [(4, .int (iI x4)), (3, .int (iI x3)), (0, .ref mo), (1, .int (iI a)), (2, .int (iI b))]) (μ := fun (qq : Nat × Int × Int) => match qq with | (k, x3, x4) => (b + 1 - a).toNat - k) (0, 0, a) ?_ ?_
  · exact ⟨by omega, rfl, by omega, lv_sub hl [0, 1, 2, 3, 4] rfl⟩
  · intro qq ls hI ih5
    obtain ⟨k, x3, x4⟩ := qq
    obtain ⟨hk, h3, h4, hl⟩ := hI
    refine lv_iload hx hb dX5_keysIn_5 (lv_at hl 0 rfl) ?_
    refine lv_iload_n hx hb dX5_keysIn_7 rfl (lv_at hl 4 rfl) ?_
    refine iv_icmp_gt (a := x4) (b := b) (tgt := 30) hx hb (by omega) (by omega) dX5_keysIn_8 (by decide) (fun c8 => ?_) (fun c8 => ?_)
    · refine lv_iload_n hx hb dX5_keysIn_30 rfl (lv_at hl 1 rfl) ?_
      exact W.iret hx hb hr (fun t ht hW => ⟨congrArg (fun z => Outcome.returned (some (Value.int (iI z)))) (show x3 = keysIn S a b by rw [h3]; unfold keysIn; congr 1; omega), ht⟩) (fun q h => by cases h) dX5_keysIn_31
    · refine lv_iload_n hx hb dX5_keysIn_11 rfl (lv_at hl 1 rfl) ?_
      refine lv_aload_n hx hb dX5_keysIn_12 rfl (lv_at hl 2 rfl) ?_
      refine va_get (D := D) (ci := 5) (v := .ref a1) (C := RX5) (T := TX5) (N := 11) hx hb hts hinX5 hown hK hP 0 rfl rfl 1 (by decide) hf7 (fun _ h9 => h9) rfl dX5_keysIn_13 ?_
      refine lv_bipush (v := iI 8) hx hb dX5_keysIn_16 (by decide +kernel) ?_
      refine lv_iload hx hb dX5_keysIn_18 (lv_at hl 0 rfl) ?_
      refine iv_add hx hb dX5_keysIn_20 ?_
      refine iv_ald hx hb hK hP 1 0 rfl rfl (z := 8 + x4) (by omega) (by omega) (by omega) dX5_keysIn_21 ?_
      refine iv_add hx hb dX5_keysIn_22 ?_
      refine lv_istore_n (lv' := [(3, .int (iI (x3 + (S (8 + x4))))), (4, .int (iI x4)), (0, .ref mo), (1, .int (iI a)), (2, .int (iI b))]) hx hb dX5_keysIn_23 rfl hl (by decide) rfl (fun ls hl => ?_)
      refine iv_inc (lv' := [(4, .int (iI (x4 + 1))), (3, .int (iI (x3 + (S (8 + x4))))), (0, .ref mo), (1, .int (iI a)), (2, .int (iI b))]) hx hb dX5_keysIn_24 hl (k := 1) rfl (by decide) rfl (fun ls hl => ?_)
      refine lv_goto (tgt := 5) hx hb dX5_keysIn_27 (by decide) ?_
      refine ih5 (k + 1, x3 + (S (8 + x4)), x4 + 1) (by show ((b + 1 - a).toNat - (k + 1) : Nat) < (b + 1 - a).toNat - k; omega) ?_
      exact ⟨by omega, by rw [h3, h4]; rfl, by omega, lv_sub hl [0, 1, 2, 3, 4] rfl⟩
set_option maxHeartbeats 4000000 in
set_option maxRecDepth 100000 in
theorem c_X5_isWide (l : Launch) (D : va_G) (yI yC yD : ClassId) (mo : Nat) (th : Int) (re : Int) (tl : Int) (a1 : Nat) (a2 : Nat) (a3 : Nat) (a4 : Nat) (a5 : Nat) (a6 : Nat) (a7 : Nat) (a8 : Nat) (S : Int → Int) (a : Int) (b : Int) (h1 : inR (b - a + 1)) (h2 : inR (S 1)) : Met l yX5_isWide wsX5_isWide ({ frames := 0, cells := 0, slots := 0, locals := 0 }) (roP [.ref mo, .int (iI a), .int (iI b)] D (tyz yI yC yD) [(mo, oMo th a1 a2 a3 re a4 a5 a6 tl a7 a8), (a1, aI yI 96 S)]) (QcRead (iI (bI (S 1 ≤ b - a + 1)))) 0 0 (fun _ => False) := by
  refine Met.ofW (cc := cX5_isWide) (maxL := 3) (ret := (some .boolean)) (by decide) rfl ?_
  intro p e s m args below meth c s₁ B hml hv
  obtain ⟨rfl, hP, hK⟩ := hv
  have hx := B.exec
  have hb := B.bytes
  have hr := B.returns
  have hts := atoms_spec (ws := wsX5_isWide) B.pre
  have hown : s.vm.findClass RX5 = some m.cls := findClass_of_methodNamed B.named
  have hlocks := B.notSynchronized
  have hP : va_P D vwCl [(mo, oMo th a1 a2 a3 re a4 a5 a6 tl a7 a8), (a1, aI yI 96 S)] s.heap := hP
  have hinX5 : ∀ w ∈ wsX50, w ∈ wsX5_isWide := by decide +kernel
  have hf7 : (Cond.fieldLink RX5 7 "RiddleDriveModel" "state" "[I").before _ s = true := hts _ (by decide +kernel)
  have hl := lv_entry ([.ref mo, .int (iI a), .int (iI b)]) (n := 3) (Nat.le_of_ble_eq_true rfl)
  rw [lg_entry_eq]
  generalize (lg_sl ([.ref mo, .int (iI a), .int (iI b)]) ++ List.replicate (3 - (lg_sl ([.ref mo, .int (iI a), .int (iI b)])).length) Slot.unset).toArray = ls at hl ⊢
  have hl : lv_has ls 3 [(0, .ref mo), (1, .int (iI a)), (2, .int (iI b))] := hl
  refine lv_iload_n hx hb dX5_isWide_0 rfl (lv_at hl 2 rfl) ?_
  refine lv_iload_n hx hb dX5_isWide_1 rfl (lv_at hl 1 rfl) ?_
  refine iv_sub hx hb dX5_isWide_2 ?_
  refine lv_iconst (v := iI 1) hx hb dX5_isWide_3 (by decide +kernel) ?_
  refine iv_add hx hb dX5_isWide_4 ?_
  refine lv_aload_n hx hb dX5_isWide_5 rfl (lv_at hl 0 rfl) ?_
  refine va_get (D := D) (ci := 5) (v := .ref a1) (C := RX5) (T := TX5) (N := 11) hx hb hts hinX5 hown hK hP 0 rfl rfl 1 (by decide) hf7 (fun _ h9 => h9) rfl dX5_isWide_6 ?_
  refine lv_iconst (v := iI 1) hx hb dX5_isWide_9 (by decide +kernel) ?_
  refine iv_ald hx hb hK hP 1 0 rfl rfl (z := 1) (by omega) (by omega) (by omega) dX5_isWide_10 ?_
  refine iv_icmp_lt (a := b - a + 1) (b := S 1) (tgt := 18) hx hb (by omega) (by omega) dX5_isWide_11 (by decide) (fun c11 => ?_) (fun c11 => ?_)
  · refine lv_iconst (v := iI 0) hx hb dX5_isWide_18 (by decide +kernel) ?_
    exact W.zret hx hb hr (by decide +kernel) (fun t ht hW => ⟨congrArg (fun z => Outcome.returned (some (Value.int (iI z)))) (show 0 = bI (S 1 ≤ b - a + 1) by first | exact (bI_t (by omega)).symm | exact (bI_f (by omega)).symm), ht⟩) (fun q h => by cases h) dX5_isWide_19
  · refine lv_iconst (v := iI 1) hx hb dX5_isWide_14 (by decide +kernel) ?_
    refine lv_goto (tgt := 19) hx hb dX5_isWide_15 (by decide) ?_
    exact W.zret hx hb hr (by decide +kernel) (fun t ht hW => ⟨congrArg (fun z => Outcome.returned (some (Value.int (iI z)))) (show 1 = bI (S 1 ≤ b - a + 1) by first | exact (bI_t (by omega)).symm | exact (bI_f (by omega)).symm), ht⟩) (fun q h => by cases h) dX5_isWide_19
set_option maxHeartbeats 4000000 in
set_option maxRecDepth 100000 in
theorem c_X5_answerAbout (l : Launch) (D : va_G) (yI yC yD : ClassId) (mo : Nat) (th : Int) (re : Int) (tl : Int) (a1 : Nat) (a2 : Nat) (a3 : Nat) (a4 : Nat) (a5 : Nat) (a6 : Nat) (a7 : Nat) (a8 : Nat) (S : Int → Int) (a : Int) (b : Int) (h1 : 0 ≤ S 4 ∧ S 4 ≤ 12) (h2 : inR a ∧ inR b) (h3 : ∀ i, 0 ≤ i → i < S 4 → inR (an S i 0) ∧ inR (an S i 1)) : Met l yX5_answerAbout wsX5_answerAbout ({ frames := 1, cells := 0, slots := 0, locals := 22 }) (roP [.ref mo, .int (iI a), .int (iI b)] D (tyz yI yC yD) [(mo, oMo th a1 a2 a3 re a4 a5 a6 tl a7 a8), (a1, aI yI 96 S)]) (QcRead (iI (aboutI S a b))) 0 0 (fun _ => False) := by
  refine Met.ofW (cc := cX5_answerAbout) (maxL := 5) (ret := (some .int)) (by decide) rfl ?_
  intro p e s m args below meth c s₁ B hml hv
  obtain ⟨rfl, hP, hK⟩ := hv
  have hx := B.exec
  have hb := B.bytes
  have hr := B.returns
  have hts := atoms_spec (ws := wsX5_answerAbout) B.pre
  have hown : s.vm.findClass RX5 = some m.cls := findClass_of_methodNamed B.named
  have hlocks := B.notSynchronized
  have hP : va_P D vwCl [(mo, oMo th a1 a2 a3 re a4 a5 a6 tl a7 a8), (a1, aI yI 96 S)] s.heap := hP
  have hinX5 : ∀ w ∈ wsX50, w ∈ wsX5_answerAbout := by decide +kernel
  have hf7 : (Cond.fieldLink RX5 7 "RiddleDriveModel" "state" "[I").before _ s = true := hts _ (by decide +kernel)
  have hl := lv_entry ([.ref mo, .int (iI a), .int (iI b)]) (n := 5) (Nat.le_of_ble_eq_true rfl)
  rw [lg_entry_eq]
  generalize (lg_sl ([.ref mo, .int (iI a), .int (iI b)]) ++ List.replicate (5 - (lg_sl ([.ref mo, .int (iI a), .int (iI b)])).length) Slot.unset).toArray = ls at hl ⊢
  have hl : lv_has ls 5 [(0, .ref mo), (1, .int (iI a)), (2, .int (iI b))] := hl
  refine lv_iconst (v := iI (-1)) hx hb dX5_answerAbout_0 (by decide +kernel) ?_
  refine lv_istore_n (lv' := [(3, .int (iI (-1))), (0, .ref mo), (1, .int (iI a)), (2, .int (iI b))]) hx hb dX5_answerAbout_1 rfl hl (by decide) rfl (fun ls hl => ?_)
  refine lv_iconst (v := iI 0) hx hb dX5_answerAbout_2 (by decide +kernel) ?_
  refine lv_istore (lv' := [(4, .int (iI 0)), (3, .int (iI (-1))), (0, .ref mo), (1, .int (iI a)), (2, .int (iI b))]) hx hb dX5_answerAbout_3 hl (by decide) rfl (fun ls hl => ?_)
  refine iv_loopR (I := fun (qq : Nat × Int × Int) ls => match qq with | (k, x3, x4) => ((k : Int) ≤ S 4) ∧ (x3 = lastAb S a b k) ∧ (x4 = k) ∧ lv_has ls 5 [(4, .int (iI x4)), (3, .int (iI x3)), (0, .ref mo), (1, .int (iI a)), (2, .int (iI b))]) (μ := fun (qq : Nat × Int × Int) => match qq with | (k, x3, x4) => (S 4).toNat - k) (0, -1, 0) ?_ ?_
  · exact ⟨by omega, rfl, by omega, lv_sub hl [0, 1, 2, 3, 4] rfl⟩
  · intro qq ls hI ih5
    obtain ⟨k, x3, x4⟩ := qq
    obtain ⟨hk, h33, h4, hl⟩ := hI
    refine lv_iload hx hb dX5_answerAbout_5 (lv_at hl 0 rfl) ?_
    refine lv_aload_n hx hb dX5_answerAbout_7 rfl (lv_at hl 2 rfl) ?_
    refine va_get (D := D) (ci := 5) (v := .ref a1) (C := RX5) (T := TX5) (N := 11) hx hb hts hinX5 hown hK hP 0 rfl rfl 1 (by decide) hf7 (fun _ h9 => h9) rfl dX5_answerAbout_8 ?_
    refine lv_iconst (v := iI 4) hx hb dX5_answerAbout_11 (by decide +kernel) ?_
    refine iv_ald hx hb hK hP 1 0 rfl rfl (z := 4) (by omega) (by omega) (by omega) dX5_answerAbout_12 ?_
    refine iv_icmp_ge (a := x4) (b := S 4) (tgt := 51) hx hb (by omega) (by omega) dX5_answerAbout_13 (by decide) (fun c13 => ?_) (fun c13 => ?_)
    · refine lv_iload_n hx hb dX5_answerAbout_51 rfl (lv_at hl 1 rfl) ?_
      exact W.iret hx hb hr (fun t ht hW => ⟨congrArg (fun z => Outcome.returned (some (Value.int (iI z)))) (show x3 = aboutI S a b by rw [h33]; unfold aboutI; congr 1; omega), ht⟩) (fun q h => by cases h) dX5_answerAbout_52
    · refine lv_aload_n hx hb dX5_answerAbout_16 rfl (lv_at hl 2 rfl) ?_
      refine lv_iload hx hb dX5_answerAbout_17 (lv_at hl 0 rfl) ?_
      refine lv_iconst (v := iI 0) hx hb dX5_answerAbout_19 (by decide +kernel) ?_
      refine iv_roV (As := [.int (iI x4), .int (iI 0)]) (rest := []) (C := RX5) (n := 2) ⟨hx, hb, hml, hown, hts⟩ (c_X5_answerPart l D yI yC yD mo th re tl a1 a2 a3 a4 a5 a6 a7 a8 S x4 0 (by omega) (by omega)) (cwV 2 hts gX5_answerAbout_X5_answerPart rfl rfl rfl (by decide +kernel) ⟨Nat.le_of_ble_eq_true rfl, Nat.le_of_ble_eq_true rfl⟩) hK hP [0, 1] rfl 0 rfl rfl rfl hl.1 rfl (Nat.le_of_ble_eq_true rfl) dX5_answerAbout_20 ⟨Nat.zero_le _, Nat.zero_le _⟩ ?_
      refine lv_iload_n hx hb dX5_answerAbout_23 rfl (lv_at hl 3 rfl) ?_
      refine iv_icmp_ne (a := an S x4 0) (b := a) (tgt := 43) hx hb ((h3 _ (by omega) (by omega)).1) (h2.1) dX5_answerAbout_24 (by decide) (fun c24 => ?_) (fun c24 => ?_)
      · refine lv_iload_n hx hb dX5_answerAbout_43 rfl (lv_at hl 1 rfl) ?_
        refine lv_istore_n (lv' := [(3, .int (iI x3)), (4, .int (iI x4)), (0, .ref mo), (1, .int (iI a)), (2, .int (iI b))]) hx hb dX5_answerAbout_44 rfl hl (by decide) rfl (fun ls hl => ?_)
        refine iv_inc (lv' := [(4, .int (iI (x4 + 1))), (3, .int (iI x3)), (0, .ref mo), (1, .int (iI a)), (2, .int (iI b))]) hx hb dX5_answerAbout_45 hl (k := 1) rfl (by decide) rfl (fun ls hl => ?_)
        refine lv_goto (tgt := 5) hx hb dX5_answerAbout_48 (by decide) ?_
        refine ih5 (k + 1, x3, x4 + 1) (by show ((S 4).toNat - (k + 1) : Nat) < (S 4).toNat - k; omega) ?_
        exact ⟨by omega, by subst h4; subst h33; show _ = if _ then _ else _; split <;> omega, by omega, lv_sub hl [0, 1, 2, 3, 4] rfl⟩
      · refine lv_aload_n hx hb dX5_answerAbout_27 rfl (lv_at hl 2 rfl) ?_
        refine lv_iload hx hb dX5_answerAbout_28 (lv_at hl 0 rfl) ?_
        refine lv_iconst (v := iI 1) hx hb dX5_answerAbout_30 (by decide +kernel) ?_
        refine iv_roV (As := [.int (iI x4), .int (iI 1)]) (rest := []) (C := RX5) (n := 2) ⟨hx, hb, hml, hown, hts⟩ (c_X5_answerPart l D yI yC yD mo th re tl a1 a2 a3 a4 a5 a6 a7 a8 S x4 1 (by omega) (by omega)) (cwV 2 hts gX5_answerAbout_X5_answerPart rfl rfl rfl (by decide +kernel) ⟨Nat.le_of_ble_eq_true rfl, Nat.le_of_ble_eq_true rfl⟩) hK hP [0, 1] rfl 0 rfl rfl rfl hl.1 rfl (Nat.le_of_ble_eq_true rfl) dX5_answerAbout_31 ⟨Nat.zero_le _, Nat.zero_le _⟩ ?_
        refine lv_iload_n hx hb dX5_answerAbout_34 rfl (lv_at hl 4 rfl) ?_
        refine iv_icmp_ne (a := an S x4 1) (b := b) (tgt := 43) hx hb ((h3 _ (by omega) (by omega)).2) (h2.2) dX5_answerAbout_35 (by decide) (fun c35 => ?_) (fun c35 => ?_)
        · refine lv_iload_n hx hb dX5_answerAbout_43 rfl (lv_at hl 1 rfl) ?_
          refine lv_istore_n (lv' := [(3, .int (iI x3)), (4, .int (iI x4)), (0, .ref mo), (1, .int (iI a)), (2, .int (iI b))]) hx hb dX5_answerAbout_44 rfl hl (by decide) rfl (fun ls hl => ?_)
          refine iv_inc (lv' := [(4, .int (iI (x4 + 1))), (3, .int (iI x3)), (0, .ref mo), (1, .int (iI a)), (2, .int (iI b))]) hx hb dX5_answerAbout_45 hl (k := 1) rfl (by decide) rfl (fun ls hl => ?_)
          refine lv_goto (tgt := 5) hx hb dX5_answerAbout_48 (by decide) ?_
          refine ih5 (k + 1, x3, x4 + 1) (by show ((S 4).toNat - (k + 1) : Nat) < (S 4).toNat - k; omega) ?_
          exact ⟨by omega, by subst h4; subst h33; show _ = if _ then _ else _; split <;> omega, by omega, lv_sub hl [0, 1, 2, 3, 4] rfl⟩
        · refine lv_iload hx hb dX5_answerAbout_38 (lv_at hl 0 rfl) ?_
          refine lv_goto (tgt := 44) hx hb dX5_answerAbout_40 (by decide) ?_
          refine lv_istore_n (lv' := [(3, .int (iI x4)), (4, .int (iI x4)), (0, .ref mo), (1, .int (iI a)), (2, .int (iI b))]) hx hb dX5_answerAbout_44 rfl hl (by decide) rfl (fun ls hl => ?_)
          refine iv_inc (lv' := [(4, .int (iI (x4 + 1))), (3, .int (iI x4)), (0, .ref mo), (1, .int (iI a)), (2, .int (iI b))]) hx hb dX5_answerAbout_45 hl (k := 1) rfl (by decide) rfl (fun ls hl => ?_)
          refine lv_goto (tgt := 5) hx hb dX5_answerAbout_48 (by decide) ?_
          refine ih5 (k + 1, x4, x4 + 1) (by show ((S 4).toNat - (k + 1) : Nat) < (S 4).toNat - k; omega) ?_
          exact ⟨by omega, by subst h4; subst h33; show _ = if _ then _ else _; split <;> omega, by omega, lv_sub hl [0, 1, 2, 3, 4] rfl⟩
set_option maxHeartbeats 4000000 in
set_option maxRecDepth 100000 in
theorem c_X5_costOf (l : Launch) (D : va_G) (yI yC yD : ClassId) (mo : Nat) (th : Int) (re : Int) (tl : Int) (a1 : Nat) (a2 : Nat) (a3 : Nat) (a4 : Nat) (a5 : Nat) (a6 : Nat) (a7 : Nat) (a8 : Nat) (S : Int → Int) (a : Int) (b : Int) (h1 : 0 ≤ S 4 ∧ S 4 ≤ 12) (h2 : 0 ≤ a ∧ a ≤ b ∧ b < 40) (h3 : ∀ i, 0 ≤ i → i < S 4 → inR (an S i 0) ∧ inR (an S i 1)) : Met l yX5_costOf wsX5_costOf ({ frames := 2, cells := 0, slots := 0, locals := 46 }) (roP [.ref mo, .int (iI a), .int (iI b)] D (tyz yI yC yD) [(mo, oMo th a1 a2 a3 re a4 a5 a6 tl a7 a8), (a1, aI yI 96 S)]) (QcRead (iI (costOf S a b))) 0 0 (fun _ => False) := by
  refine Met.ofW (cc := cX5_costOf) (maxL := 3) (ret := (some .int)) (by decide) rfl ?_
  intro p e s m args below meth c s₁ B hml hv
  obtain ⟨rfl, hP, hK⟩ := hv
  have hx := B.exec
  have hb := B.bytes
  have hr := B.returns
  have hts := atoms_spec (ws := wsX5_costOf) B.pre
  have hown : s.vm.findClass RX5 = some m.cls := findClass_of_methodNamed B.named
  have hlocks := B.notSynchronized
  have hP : va_P D vwCl [(mo, oMo th a1 a2 a3 re a4 a5 a6 tl a7 a8), (a1, aI yI 96 S)] s.heap := hP
  have hinX5 : ∀ w ∈ wsX50, w ∈ wsX5_costOf := by decide +kernel
  have hf7 : (Cond.fieldLink RX5 7 "RiddleDriveModel" "state" "[I").before _ s = true := hts _ (by decide +kernel)
  have hl := lv_entry ([.ref mo, .int (iI a), .int (iI b)]) (n := 3) (Nat.le_of_ble_eq_true rfl)
  rw [lg_entry_eq]
  generalize (lg_sl ([.ref mo, .int (iI a), .int (iI b)]) ++ List.replicate (3 - (lg_sl ([.ref mo, .int (iI a), .int (iI b)])).length) Slot.unset).toArray = ls at hl ⊢
  have hl : lv_has ls 3 [(0, .ref mo), (1, .int (iI a)), (2, .int (iI b))] := hl
  refine lv_aload_n hx hb dX5_costOf_0 rfl (lv_at hl 0 rfl) ?_
  refine lv_iload_n hx hb dX5_costOf_1 rfl (lv_at hl 1 rfl) ?_
  refine lv_iload_n hx hb dX5_costOf_2 rfl (lv_at hl 2 rfl) ?_
  refine iv_roV (As := [.int (iI a), .int (iI b)]) (rest := []) (C := RX5) (n := 2) ⟨hx, hb, hml, hown, hts⟩ (c_X5_answerAbout l D yI yC yD mo th re tl a1 a2 a3 a4 a5 a6 a7 a8 S a b (by omega) (by omega) (by assumption)) (cwV 2 hts gX5_costOf_X5_answerAbout rfl rfl rfl (by decide +kernel) ⟨Nat.le_of_ble_eq_true rfl, Nat.le_of_ble_eq_true rfl⟩) hK hP [0, 1] rfl 0 rfl rfl rfl hl.1 rfl (Nat.le_of_ble_eq_true rfl) dX5_costOf_3 ⟨Nat.zero_le _, Nat.zero_le _⟩ ?_
  refine lv_iconst (v := iI (-1)) hx hb dX5_costOf_6 (by decide +kernel) ?_
  refine iv_icmp_eq (a := aboutI S a b) (b := -1) (tgt := 14) hx hb (aboutI_r h1.1 h1.2) (by omega) dX5_costOf_7 (by decide) (fun c7 => ?_) (fun c7 => ?_)
  · refine lv_aload_n hx hb dX5_costOf_14 rfl (lv_at hl 0 rfl) ?_
    refine va_get (D := D) (ci := 5) (v := .ref a1) (C := RX5) (T := TX5) (N := 11) hx hb hts hinX5 hown hK hP 0 rfl rfl 1 (by decide) hf7 (fun _ h9 => h9) rfl dX5_costOf_15 ?_
    refine lv_iconst (v := iI 3) hx hb dX5_costOf_18 (by decide +kernel) ?_
    refine iv_ald hx hb hK hP 1 0 rfl rfl (z := 3) (by omega) (by omega) (by omega) dX5_costOf_19 ?_
    refine lv_iload_n hx hb dX5_costOf_20 rfl (lv_at hl 2 rfl) ?_
    refine lv_iload_n hx hb dX5_costOf_21 rfl (lv_at hl 1 rfl) ?_
    refine iv_sub hx hb dX5_costOf_22 ?_
    refine lv_iconst (v := iI 1) hx hb dX5_costOf_23 (by decide +kernel) ?_
    refine iv_add hx hb dX5_costOf_24 ?_
    refine lv_iconst (v := iI 4) hx hb dX5_costOf_25 (by decide +kernel) ?_
    refine iv_div hx hb (by omega) (by omega) (by omega) (by omega) dX5_costOf_26 ?_
    refine iv_add hx hb dX5_costOf_27 ?_
    exact W.iret hx hb hr (fun t ht hW => ⟨congrArg (fun z => Outcome.returned (some (Value.int (iI z)))) (show S 3 + ((b - a + 1) / 4) = costOf S a b by (unfold costOf; rw [if_neg (by omega)])), ht⟩) (fun q h => by cases h) dX5_costOf_28
  · refine lv_iconst (v := iI 0) hx hb dX5_costOf_10 (by decide +kernel) ?_
    refine lv_goto (tgt := 28) hx hb dX5_costOf_11 (by decide) ?_
    exact W.iret hx hb hr (fun t ht hW => ⟨congrArg (fun z => Outcome.returned (some (Value.int (iI z)))) (show 0 = costOf S a b by (unfold costOf; rw [if_pos c7])), ht⟩) (fun q h => by cases h) dX5_costOf_28
