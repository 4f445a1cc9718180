set_option maxHeartbeats 4000000 in
set_option maxRecDepth 100000 in
theorem c_X5_whyNotAsked (l : Launch) (D : va_G) (yI yC yD : ClassId) (mo : Nat) (th : Int) (re : Int) (tl : Int) (a1 : Nat) (a2 : Nat) (a3 : Nat) (a4 : Nat) (a5 : Nat) (a6 : Nat) (a7 : Nat) (a8 : Nat) (S : Int → Int) (a : Int) (b : Int) (hI : Inv S) (hab : inR a ∧ inR b) : Met l yX5_whyNotAsked wsX5_whyNotAsked ({ frames := 3, cells := 0, slots := 0, locals := 65 }) (roP [.ref mo, .int (iI a), .int (iI b)] D (tyz yI yC yD) [(mo, oMo th a1 a2 a3 re a4 a5 a6 tl a7 a8), (a1, aI yI 96 S)]) (QcRead (iI (whyA S a b))) 0 0 (fun _ => False) := by
  refine Met.ofW (cc := cX5_whyNotAsked) (maxL := 4) (ret := (some .int)) (by decide) rfl ?_
  intro p e s m args below meth c s₁ B hml hv
  obtain ⟨rfl, hP, hK⟩ := hv
  have hx := B.exec
  have hb := B.bytes
  have hr := B.returns
  have hts := atoms_spec (ws := wsX5_whyNotAsked) B.pre
  have hown : s.vm.findClass RX5 = some m.cls := findClass_of_methodNamed B.named
  have hlocks := B.notSynchronized
  have hP : va_P D vwCl [(mo, oMo th a1 a2 a3 re a4 a5 a6 tl a7 a8), (a1, aI yI 96 S)] s.heap := hP
  have hl := lv_entry ([.ref mo, .int (iI a), .int (iI b)]) (n := 4) (Nat.le_of_ble_eq_true rfl)
  rw [lg_entry_eq]
  generalize (lg_sl ([.ref mo, .int (iI a), .int (iI b)]) ++ List.replicate (4 - (lg_sl ([.ref mo, .int (iI a), .int (iI b)])).length) Slot.unset).toArray = ls at hl ⊢
  have hl : lv_has ls 4 [(0, .ref mo), (1, .int (iI a)), (2, .int (iI b))] := hl
  have hpl := hI.pl
  have hna := hI.na
  have hse := hI.se
  have hwi := hI.wi
  have hwr := whyR_r (S := S) (a := a) (b := b)
  refine lv_aload_n hx hb dX5_whyNotAsked_0 rfl (lv_at hl 0 rfl) ?_
  refine lv_iload_n hx hb dX5_whyNotAsked_1 rfl (lv_at hl 1 rfl) ?_
  refine lv_iload_n hx hb dX5_whyNotAsked_2 rfl (lv_at hl 2 rfl) ?_
  refine iv_roV (As := [.int (iI a), .int (iI b)]) (rest := []) (C := RX5) (n := 2) ⟨hx, hb, hml, hown, hts⟩ (c_X5_whyNoRange l D yI yC yD mo th re tl a1 a2 a3 a4 a5 a6 a7 a8 S a b (by omega) (by omega)) (cwV 2 hts gX5_whyNotAsked_X5_whyNoRange rfl rfl rfl (by decide +kernel) ⟨Nat.le_of_ble_eq_true rfl, Nat.le_of_ble_eq_true rfl⟩) hK hP [0, 1] rfl 0 rfl rfl rfl hl.1 rfl (Nat.le_of_ble_eq_true rfl) dX5_whyNotAsked_3 ⟨Nat.zero_le _, Nat.zero_le _⟩ ?_
  refine lv_istore_n (lv' := [(3, .int (iI (whyR S a b))), (0, .ref mo), (1, .int (iI a)), (2, .int (iI b))]) hx hb dX5_whyNotAsked_6 rfl hl (by decide) rfl (fun ls hl => ?_)
  refine lv_iload_n hx hb dX5_whyNotAsked_7 rfl (lv_at hl 0 rfl) ?_
  refine iv_if_le (a := whyR S a b) (tgt := 15) hx hb (by omega) dX5_whyNotAsked_8 (by decide) (fun c8 => ?_) (fun c8 => ?_)
  · have hrr := whyR_0.mp (show whyR S a b = 0 by omega)
    refine lv_aload_n hx hb dX5_whyNotAsked_15 rfl (lv_at hl 1 rfl) ?_
    refine lv_iload_n hx hb dX5_whyNotAsked_16 rfl (lv_at hl 2 rfl) ?_
    refine lv_iload_n hx hb dX5_whyNotAsked_17 rfl (lv_at hl 3 rfl) ?_
    refine iv_roV (As := [.int (iI a), .int (iI b)]) (rest := []) (C := RX5) (n := 2) ⟨hx, hb, hml, hown, hts⟩ (c_X5_isWide l D yI yC yD mo th re tl a1 a2 a3 a4 a5 a6 a7 a8 S a b (by omega) (by omega)) (cwV 2 hts gX5_whyNotAsked_X5_isWide rfl rfl rfl (by decide +kernel) ⟨Nat.le_of_ble_eq_true rfl, Nat.le_of_ble_eq_true rfl⟩) hK hP [0, 1] rfl 0 rfl rfl rfl hl.1 rfl (Nat.le_of_ble_eq_true rfl) dX5_whyNotAsked_18 ⟨Nat.zero_le _, Nat.zero_le _⟩ ?_
    refine iv_ifb_eq (P := S 1 ≤ b - a + 1) (tgt := 28) hx hb dX5_whyNotAsked_21 (by decide) (fun c21 => ?_) (fun c21 => ?_)
    · refine lv_iconst (v := iI 3) hx hb dX5_whyNotAsked_28 (by decide +kernel) ?_
      exact W.iret hx hb hr (fun t ht hW => ⟨congrArg (fun z => Outcome.returned (some (Value.int (iI z)))) (show 3 = whyA S a b by unfold whyA; (repeat (first | rw [if_pos (by omega)] | rw [if_neg (by omega)]))), ht⟩) (fun q h => by cases h) dX5_whyNotAsked_29
    · refine lv_iconst (v := iI 0) hx hb dX5_whyNotAsked_24 (by decide +kernel) ?_
      refine lv_goto (tgt := 29) hx hb dX5_whyNotAsked_25 (by decide) ?_
      exact W.iret hx hb hr (fun t ht hW => ⟨congrArg (fun z => Outcome.returned (some (Value.int (iI z)))) (show 0 = whyA S a b by unfold whyA; (repeat (first | rw [if_pos (by omega)] | rw [if_neg (by omega)]))), ht⟩) (fun q h => by cases h) dX5_whyNotAsked_29
  · refine lv_iload_n hx hb dX5_whyNotAsked_11 rfl (lv_at hl 0 rfl) ?_
    refine lv_goto (tgt := 29) hx hb dX5_whyNotAsked_12 (by decide) ?_
    exact W.iret hx hb hr (fun t ht hW => ⟨congrArg (fun z => Outcome.returned (some (Value.int (iI z)))) (show whyR S a b = whyA S a b by unfold whyA; (repeat (first | rw [if_pos (by omega)] | rw [if_neg (by omega)]))), ht⟩) (fun q h => by cases h) dX5_whyNotAsked_29
set_option maxHeartbeats 4000000 in
set_option maxRecDepth 100000 in
theorem c_X5_ask (l : Launch) (D : va_G) (yI yC yD : ClassId) (mo : Nat) (th : Int) (re : Int) (tl : Int) (a1 : Nat) (a2 : Nat) (a3 : Nat) (a4 : Nat) (a5 : Nat) (a6 : Nat) (a7 : Nat) (a8 : Nat) (S : Int → Int) (Hh : Int → Int) (a : Int) (b : Int) (hI : Inv S) (hab : inR a ∧ inR b) (hre : 0 ≤ re ∧ re ≤ 14) (sz : Nat) : Met l yX5_ask wsX5_ask ({ frames := 4, cells := 0, slots := 0, locals := 94 }) (rwP [.ref mo, .int (iI a), .int (iI b)] D (tyz yI yC yD) [(mo, oMo th a1 a2 a3 re a4 a5 a6 tl a7 a8), (a1, aI yI 96 S), (a3, aI yI 1344 Hh)] sz) (va_Qi (fun (r : Int32) (_ : Unit) => r = iI (if whyA S a b = 0 then told S a b else 0) ∧ True) (fun (_ : Unit) (t : State) => va_P D vwCl [(mo, oMo (whyA S a b) a1 a2 a3 (if whyA S a b = 0 then remR re + 1 else re) a4 a5 a6 tl a7 a8), (a1, aI yI 96 (if whyA S a b = 0 then askd S a b else S)), (a3, aI yI 1344 (if whyA S a b = 0 then remH S Hh re else Hh))] t.heap) (va_A [(mo, oMo th a1 a2 a3 re a4 a5 a6 tl a7 a8), (a1, aI yI 96 S), (a3, aI yI 1344 Hh)] sz)) 0 0 (va_A [(mo, oMo th a1 a2 a3 re a4 a5 a6 tl a7 a8), (a1, aI yI 96 S), (a3, aI yI 1344 Hh)] sz) := by
  refine Met.ofW (cc := cX5_ask) (maxL := 3) (ret := (some .int)) (by decide) rfl ?_
  intro p e s m args below meth c s₁ B hml hv
  obtain ⟨rfl, hsz, hP, hK, hD0⟩ := hv
  have hx := B.exec
  have hb := B.bytes
  have hr := B.returns
  have hts := atoms_spec (ws := wsX5_ask) B.pre
  have hown : s.vm.findClass RX5 = some m.cls := findClass_of_methodNamed B.named
  have hlocks := B.notSynchronized
  subst hsz
  have hD := hD0.self (sz := s.heap.size)
  generalize hAe : va_A [(mo, oMo th a1 a2 a3 re a4 a5 a6 tl a7 a8), (a1, aI yI 96 S), (a3, aI yI 1344 Hh)] s.heap.size = A at hD ⊢
  have hA : ∀ q : Nat, s.heap.size ≤ q → A q := fun q h => by rw [← hAe]; exact Or.inr h
  have hS : va_S A s.heap s.heap [] := va_S.rf
  have hP : va_P D vwCl [(mo, oMo th a1 a2 a3 re a4 a5 a6 tl a7 a8), (a1, aI yI 96 S), (a3, aI yI 1344 Hh)] s.heap := hP
  have hinX5 : ∀ w ∈ wsX50, w ∈ wsX5_ask := by decide +kernel
  have hf38 : (Cond.fieldLink RX5 38 "RiddleDriveModel" "thrown" "I").before _ s = true := hts _ (by decide +kernel)
  have hl := lv_entry ([.ref mo, .int (iI a), .int (iI b)]) (n := 3) (Nat.le_of_ble_eq_true rfl)
  rw [lg_entry_eq]
  generalize (lg_sl ([.ref mo, .int (iI a), .int (iI b)]) ++ List.replicate (3 - (lg_sl ([.ref mo, .int (iI a), .int (iI b)])).length) Slot.unset).toArray = ls at hl ⊢
  have hl : lv_has ls 3 [(0, .ref mo), (1, .int (iI a)), (2, .int (iI b))] := hl
  have hpl := hI.pl
  have hna := hI.na
  have hse := hI.se
  have hwi := hI.wi
  have hwa := whyA_r (S := S) (a := a) (b := b)
  refine lv_aload_n hx hb dX5_ask_0 rfl (lv_at hl 0 rfl) ?_
  refine lv_aload_n hx hb dX5_ask_1 rfl (lv_at hl 0 rfl) ?_
  refine lv_iload_n hx hb dX5_ask_2 rfl (lv_at hl 1 rfl) ?_
  refine lv_iload_n hx hb dX5_ask_3 rfl (lv_at hl 2 rfl) ?_
  refine iv_roV (As := [.int (iI a), .int (iI b)]) (rest := [.ref mo]) (C := RX5) (n := 2) ⟨hx, hb, hml, hown, hts⟩ (c_X5_whyNotAsked l D yI yC yD mo th re tl a1 a2 a3 a4 a5 a6 a7 a8 S a b (by assumption) (by assumption)) (cwV 2 hts gX5_ask_X5_whyNotAsked rfl rfl rfl (by decide +kernel) ⟨Nat.le_of_ble_eq_true rfl, Nat.le_of_ble_eq_true rfl⟩) hK hP [0, 1] rfl 0 rfl rfl rfl hl.1 rfl (Nat.le_of_ble_eq_true rfl) dX5_ask_4 ⟨Nat.zero_le _, Nat.zero_le _⟩ ?_
  refine va_put (D := D) (ci := 5) (v := .int (iI (whyA S a b))) (ty := .int) (C := RX5) (T := TX5) (N := 11) hx hb hts hinX5 tyX5 tyX5_ok nmX5 hown hK hP hD hS 0 rfl rfl 0 (by decide) hf38 (fun _ h9 => h9) rfl (by decide +kernel) rfl rfl (Nat.le_of_ble_eq_true rfl) dX5_ask_7 (fun H locs hP hD hS => ?_)
  have hP : va_P D vwCl [(mo, oMo (whyA S a b) a1 a2 a3 re a4 a5 a6 tl a7 a8), (a1, aI yI 96 S), (a3, aI yI 1344 Hh)] H := hP
  have hD : va_D A [(mo, oMo (whyA S a b) a1 a2 a3 re a4 a5 a6 tl a7 a8), (a1, aI yI 96 S), (a3, aI yI 1344 Hh)] := hD
  refine lv_aload_n hx hb dX5_ask_10 rfl (lv_at hl 0 rfl) ?_
  refine va_get (D := D) (ci := 5) (v := .int (iI (whyA S a b))) (C := RX5) (T := TX5) (N := 11) hx hb hts hinX5 hown hK hP 0 rfl rfl 0 (by decide) hf38 (fun _ h9 => h9) rfl dX5_ask_11 ?_
  refine iv_if_le (a := whyA S a b) (tgt := 19) hx hb (by omega) dX5_ask_14 (by decide) (fun c14 => ?_) (fun c14 => ?_)
  · have hwa0 := whyA_0.mp (show whyA S a b = 0 by omega)
    have hrr := whyR_0.mp hwa0.1
    refine lv_aload_n hx hb dX5_ask_19 rfl (lv_at hl 0 rfl) ?_
    refine iv_rwVv (As := []) (rest := []) (C := RX5) (n := 0) ⟨hx, hb, hml, hown, hts⟩ (c_X5_remember l D yI yC yD mo (whyA S a b) re tl a1 a2 a3 a4 a5 a6 a7 a8 S Hh (by assumption) _) (cwV 0 hts gX5_ask_X5_remember rfl rfl rfl (by decide +kernel) ⟨Nat.le_of_ble_eq_true rfl, Nat.le_of_ble_eq_true rfl⟩) hK hP hD hS hA [0, 1, 2] (by decide) rfl 0 rfl rfl rfl hl.1 rfl (Nat.le_of_ble_eq_true rfl) dX5_ask_20 ⟨Nat.zero_le _, Nat.zero_le _⟩ (fun _ => rfl) (fun u20 H locs hw20 hP hD hS => ?_)
    have hP : va_P D vwCl [(mo, oMo (whyA S a b) a1 a2 a3 (remR re + 1) a4 a5 a6 tl a7 a8), (a1, aI yI 96 S), (a3, aI yI 1344 (remH S Hh re))] H := hP
    have hD : va_D A [(mo, oMo (whyA S a b) a1 a2 a3 (remR re + 1) a4 a5 a6 tl a7 a8), (a1, aI yI 96 S), (a3, aI yI 1344 (remH S Hh re))] := hD
    refine lv_aload_n hx hb dX5_ask_23 rfl (lv_at hl 0 rfl) ?_
    refine lv_iload_n hx hb dX5_ask_24 rfl (lv_at hl 1 rfl) ?_
    refine lv_iload_n hx hb dX5_ask_25 rfl (lv_at hl 2 rfl) ?_
    refine iv_rwV (As := [.int (iI a), .int (iI b)]) (rest := []) (C := RX5) (n := 2) ⟨hx, hb, hml, hown, hts⟩ (c_X5_asked l D yI yC yD mo (whyA S a b) (remR re + 1) tl a1 a2 a3 a4 a5 a6 a7 a8 S a b (by assumption) (by omega) _) (cwV 2 hts gX5_ask_X5_asked rfl rfl rfl (by decide +kernel) ⟨Nat.le_of_ble_eq_true rfl, Nat.le_of_ble_eq_true rfl⟩) hK hP hD hS hA [0, 1] (by decide) rfl 0 rfl rfl rfl hl.1 rfl (Nat.le_of_ble_eq_true rfl) dX5_ask_26 ⟨Nat.zero_le _, Nat.zero_le _⟩ (fun _ => rfl) (fun r26 u26 H locs hw26 hP hD hS => ?_)
    obtain ⟨hr26, -⟩ := hw26
    subst hr26
    have hP : va_P D vwCl [(mo, oMo (whyA S a b) a1 a2 a3 (remR re + 1) a4 a5 a6 tl a7 a8), (a1, aI yI 96 (askd S a b)), (a3, aI yI 1344 (remH S Hh re))] H := hP
    have hD : va_D A [(mo, oMo (whyA S a b) a1 a2 a3 (remR re + 1) a4 a5 a6 tl a7 a8), (a1, aI yI 96 (askd S a b)), (a3, aI yI 1344 (remH S Hh re))] := hD
    have hq : whyA S a b = 0 := by omega
    have hP9 : va_P D vwCl [(mo, oMo (whyA S a b) a1 a2 a3 (if whyA S a b = 0 then remR re + 1 else re) a4 a5 a6 tl a7 a8), (a1, aI yI 96 (if whyA S a b = 0 then askd S a b else S)), (a3, aI yI 1344 (if whyA S a b = 0 then remH S Hh re else Hh))] _ := (hP.sub (ws' := [(mo, oMo (whyA S a b) a1 a2 a3 (remR re + 1) a4 a5 a6 tl a7 a8), (a1, aI yI 96 (askd S a b)), (a3, aI yI 1344 (remH S Hh re))]) [0, 1, 2] rfl).cv (by simp only [if_pos hq])
    exact W.iret hx hb hr (fun t ht hW => ⟨⟨iI (told S a b), (), rfl, ⟨congrArg iI (show told S a b = if whyA S a b = 0 then told S a b else 0 by rw [if_pos hq]), trivial⟩, by show va_P D vwCl _ t.heap; rw [ht]; exact hP9⟩, hS.F ht⟩) hS.2.2 dX5_ask_29
  · refine lv_iconst (v := iI 0) hx hb dX5_ask_17 (by decide +kernel) ?_
    have hq : ¬ (whyA S a b = 0) := by omega
    have hP9 : va_P D vwCl [(mo, oMo (whyA S a b) a1 a2 a3 (if whyA S a b = 0 then remR re + 1 else re) a4 a5 a6 tl a7 a8), (a1, aI yI 96 (if whyA S a b = 0 then askd S a b else S)), (a3, aI yI 1344 (if whyA S a b = 0 then remH S Hh re else Hh))] _ := (hP.sub (ws' := [(mo, oMo (whyA S a b) a1 a2 a3 re a4 a5 a6 tl a7 a8), (a1, aI yI 96 S), (a3, aI yI 1344 Hh)]) [0, 1, 2] rfl).cv (by simp only [if_neg hq])
    exact W.iret hx hb hr (fun t ht hW => ⟨⟨iI 0, (), rfl, ⟨congrArg iI (show 0 = if whyA S a b = 0 then told S a b else 0 by rw [if_neg hq]), trivial⟩, by show va_P D vwCl _ t.heap; rw [ht]; exact hP9⟩, hS.F ht⟩) hS.2.2 dX5_ask_18
set_option maxHeartbeats 4000000 in
set_option maxRecDepth 100000 in
theorem c_X5_forget (l : Launch) (D : va_G) (yI yC yD : ClassId) (mo : Nat) (th : Int) (re : Int) (tl : Int) (a1 : Nat) (a2 : Nat) (a3 : Nat) (a4 : Nat) (a5 : Nat) (a6 : Nat) (a7 : Nat) (a8 : Nat) (S : Int → Int) (Hh : Int → Int) (i : Int) (hI : Inv S) (hi : inR i) (hre : 0 ≤ re ∧ re ≤ 14) (sz : Nat) : Met l yX5_forget wsX5_forget ({ frames := 2, cells := 0, slots := 0, locals := 45 }) (rwP [.ref mo, .int (iI i)] D (tyz yI yC yD) [(mo, oMo th a1 a2 a3 re a4 a5 a6 tl a7 a8), (a1, aI yI 96 S), (a3, aI yI 1344 Hh)] sz) (va_Qi (fun (r : Int32) (_ : Unit) => r = iI (if 0 ≤ i ∧ i < S 4 then S 4 - 1 else 0) ∧ True) (fun (_ : Unit) (t : State) => va_P D vwCl [(mo, oMo (bI (¬ (0 ≤ i ∧ i < S 4))) a1 a2 a3 (if 0 ≤ i ∧ i < S 4 then remR re + 1 else re) a4 a5 a6 tl a7 a8), (a1, aI yI 96 (if 0 ≤ i ∧ i < S 4 then forget1 S i else S)), (a3, aI yI 1344 (if 0 ≤ i ∧ i < S 4 then remH S Hh re else Hh))] t.heap) (va_A [(mo, oMo th a1 a2 a3 re a4 a5 a6 tl a7 a8), (a1, aI yI 96 S), (a3, aI yI 1344 Hh)] sz)) 0 0 (va_A [(mo, oMo th a1 a2 a3 re a4 a5 a6 tl a7 a8), (a1, aI yI 96 S), (a3, aI yI 1344 Hh)] sz) := by
  refine Met.ofW (cc := cX5_forget) (maxL := 2) (ret := (some .int)) (by decide) rfl ?_
  intro p e s m args below meth c s₁ B hml hv
  obtain ⟨rfl, hsz, hP, hK, hD0⟩ := hv
  have hx := B.exec
  have hb := B.bytes
  have hr := B.returns
  have hts := atoms_spec (ws := wsX5_forget) B.pre
  have hown : s.vm.findClass RX5 = some m.cls := findClass_of_methodNamed B.named
  have hlocks := B.notSynchronized
  subst hsz
  have hD := hD0.self (sz := s.heap.size)
  generalize hAe : va_A [(mo, oMo th a1 a2 a3 re a4 a5 a6 tl a7 a8), (a1, aI yI 96 S), (a3, aI yI 1344 Hh)] s.heap.size = A at hD ⊢
  have hA : ∀ q : Nat, s.heap.size ≤ q → A q := fun q h => by rw [← hAe]; exact Or.inr h
  have hS : va_S A s.heap s.heap [] := va_S.rf
  have hP : va_P D vwCl [(mo, oMo th a1 a2 a3 re a4 a5 a6 tl a7 a8), (a1, aI yI 96 S), (a3, aI yI 1344 Hh)] s.heap := hP
  have hinX5 : ∀ w ∈ wsX50, w ∈ wsX5_forget := by decide +kernel
  have hf7 : (Cond.fieldLink RX5 7 "RiddleDriveModel" "state" "[I").before _ s = true := hts _ (by decide +kernel)
  have hf38 : (Cond.fieldLink RX5 38 "RiddleDriveModel" "thrown" "I").before _ s = true := hts _ (by decide +kernel)
  have hl := lv_entry ([.ref mo, .int (iI i)]) (n := 2) (Nat.le_of_ble_eq_true rfl)
  rw [lg_entry_eq]
  generalize (lg_sl ([.ref mo, .int (iI i)]) ++ List.replicate (2 - (lg_sl ([.ref mo, .int (iI i)])).length) Slot.unset).toArray = ls at hl ⊢
  have hl : lv_has ls 2 [(0, .ref mo), (1, .int (iI i))] := hl
  have hpl := hI.pl
  have hna := hI.na
  have hse := hI.se
  have hwi := hI.wi
  refine lv_aload_n hx hb dX5_forget_0 rfl (lv_at hl 0 rfl) ?_
  refine lv_aload_n hx hb dX5_forget_1 rfl (lv_at hl 0 rfl) ?_
  refine lv_iload_n hx hb dX5_forget_2 rfl (lv_at hl 1 rfl) ?_
  refine iv_roV (As := [.int (iI i)]) (rest := [.ref mo]) (C := RX5) (n := 1) ⟨hx, hb, hml, hown, hts⟩ (c_X5_isAnswer l D yI yC yD mo th re tl a1 a2 a3 a4 a5 a6 a7 a8 S i (by omega) (by omega)) (cwV 1 hts gX5_forget_X5_isAnswer rfl rfl rfl (by decide +kernel) ⟨Nat.le_of_ble_eq_true rfl, Nat.le_of_ble_eq_true rfl⟩) hK hP [0, 1] rfl 0 rfl rfl rfl hl.1 rfl (Nat.le_of_ble_eq_true rfl) dX5_forget_3 ⟨Nat.zero_le _, Nat.zero_le _⟩ ?_
  refine iv_ifb_eq (P := 0 ≤ i ∧ i < S 4) (tgt := 13) hx hb dX5_forget_6 (by decide) (fun c6 => ?_) (fun c6 => ?_)
  · refine lv_iconst (v := iI 1) hx hb dX5_forget_13 (by decide +kernel) ?_
    refine va_put (D := D) (ci := 5) (v := .int (iI 1)) (ty := .int) (C := RX5) (T := TX5) (N := 11) hx hb hts hinX5 tyX5 tyX5_ok nmX5 hown hK hP hD hS 0 rfl rfl 0 (by decide) hf38 (fun _ h9 => h9) rfl (by decide +kernel) rfl rfl (Nat.le_of_ble_eq_true rfl) dX5_forget_14 (fun H locs hP hD hS => ?_)
    have hP : va_P D vwCl [(mo, oMo 1 a1 a2 a3 re a4 a5 a6 tl a7 a8), (a1, aI yI 96 S), (a3, aI yI 1344 Hh)] H := hP
    have hD : va_D A [(mo, oMo 1 a1 a2 a3 re a4 a5 a6 tl a7 a8), (a1, aI yI 96 S), (a3, aI yI 1344 Hh)] := hD
    refine lv_aload_n hx hb dX5_forget_17 rfl (lv_at hl 0 rfl) ?_
    refine va_get (D := D) (ci := 5) (v := .int (iI 1)) (C := RX5) (T := TX5) (N := 11) hx hb hts hinX5 hown hK hP 0 rfl rfl 0 (by decide) hf38 (fun _ h9 => h9) rfl dX5_forget_18 ?_
    refine iv_if_le (a := 1) (tgt := 26) hx hb (by omega) dX5_forget_21 (by decide) (fun c21 => ?_) (fun c21 => ?_)
    · exact absurd c21 (by omega)
    · refine lv_iconst (v := iI 0) hx hb dX5_forget_24 (by decide +kernel) ?_
      have hq : ¬ (0 ≤ i ∧ i < S 4) := by omega
      have hP9 : va_P D vwCl [(mo, oMo (bI (¬ (0 ≤ i ∧ i < S 4))) a1 a2 a3 (if 0 ≤ i ∧ i < S 4 then remR re + 1 else re) a4 a5 a6 tl a7 a8), (a1, aI yI 96 (if 0 ≤ i ∧ i < S 4 then forget1 S i else S)), (a3, aI yI 1344 (if 0 ≤ i ∧ i < S 4 then remH S Hh re else Hh))] _ := (hP.sub (ws' := [(mo, oMo 1 a1 a2 a3 re a4 a5 a6 tl a7 a8), (a1, aI yI 96 S), (a3, aI yI 1344 Hh)]) [0, 1, 2] rfl).cv (by simp only [if_neg hq, bI_t hq])
      exact W.iret hx hb hr (fun t ht hW => ⟨⟨iI 0, (), rfl, ⟨congrArg iI (show 0 = if 0 ≤ i ∧ i < S 4 then S 4 - 1 else 0 by rw [if_neg hq]), trivial⟩, by show va_P D vwCl _ t.heap; rw [ht]; exact hP9⟩, hS.F ht⟩) hS.2.2 dX5_forget_25
  · refine lv_iconst (v := iI 0) hx hb dX5_forget_9 (by decide +kernel) ?_
    refine lv_goto (tgt := 14) hx hb dX5_forget_10 (by decide) ?_
    refine va_put (D := D) (ci := 5) (v := .int (iI 0)) (ty := .int) (C := RX5) (T := TX5) (N := 11) hx hb hts hinX5 tyX5 tyX5_ok nmX5 hown hK hP hD hS 0 rfl rfl 0 (by decide) hf38 (fun _ h9 => h9) rfl (by decide +kernel) rfl rfl (Nat.le_of_ble_eq_true rfl) dX5_forget_14 (fun H locs hP hD hS => ?_)
    have hP : va_P D vwCl [(mo, oMo 0 a1 a2 a3 re a4 a5 a6 tl a7 a8), (a1, aI yI 96 S), (a3, aI yI 1344 Hh)] H := hP
    have hD : va_D A [(mo, oMo 0 a1 a2 a3 re a4 a5 a6 tl a7 a8), (a1, aI yI 96 S), (a3, aI yI 1344 Hh)] := hD
    refine lv_aload_n hx hb dX5_forget_17 rfl (lv_at hl 0 rfl) ?_
    refine va_get (D := D) (ci := 5) (v := .int (iI 0)) (C := RX5) (T := TX5) (N := 11) hx hb hts hinX5 hown hK hP 0 rfl rfl 0 (by decide) hf38 (fun _ h9 => h9) rfl dX5_forget_18 ?_
    refine iv_if_le (a := 0) (tgt := 26) hx hb (by omega) dX5_forget_21 (by decide) (fun c21 => ?_) (fun c21 => ?_)
    · refine lv_aload_n hx hb dX5_forget_26 rfl (lv_at hl 0 rfl) ?_
      refine iv_rwVv (As := []) (rest := []) (C := RX5) (n := 0) ⟨hx, hb, hml, hown, hts⟩ (c_X5_remember l D yI yC yD mo 0 re tl a1 a2 a3 a4 a5 a6 a7 a8 S Hh (by assumption) _) (cwV 0 hts gX5_forget_X5_remember rfl rfl rfl (by decide +kernel) ⟨Nat.le_of_ble_eq_true rfl, Nat.le_of_ble_eq_true rfl⟩) hK hP hD hS hA [0, 1, 2] (by decide) rfl 0 rfl rfl rfl hl.1 rfl (Nat.le_of_ble_eq_true rfl) dX5_forget_27 ⟨Nat.zero_le _, Nat.zero_le _⟩ (fun _ => rfl) (fun u27 H locs hw27 hP hD hS => ?_)
      have hP : va_P D vwCl [(mo, oMo 0 a1 a2 a3 (remR re + 1) a4 a5 a6 tl a7 a8), (a1, aI yI 96 S), (a3, aI yI 1344 (remH S Hh re))] H := hP
      have hD : va_D A [(mo, oMo 0 a1 a2 a3 (remR re + 1) a4 a5 a6 tl a7 a8), (a1, aI yI 96 S), (a3, aI yI 1344 (remH S Hh re))] := hD
      refine lv_aload_n hx hb dX5_forget_30 rfl (lv_at hl 0 rfl) ?_
      refine lv_iload_n hx hb dX5_forget_31 rfl (lv_at hl 1 rfl) ?_
      refine iv_rwVv (As := [.int (iI i)]) (rest := []) (C := RX5) (n := 1) ⟨hx, hb, hml, hown, hts⟩ (c_X5_forgetOne l D yI yC yD mo 0 (remR re + 1) tl a1 a2 a3 a4 a5 a6 a7 a8 S i (by omega) _) (cwV 1 hts gX5_forget_X5_forgetOne rfl rfl rfl (by decide +kernel) ⟨Nat.le_of_ble_eq_true rfl, Nat.le_of_ble_eq_true rfl⟩) hK hP hD hS hA [0, 1] (by decide) rfl 0 rfl rfl rfl hl.1 rfl (Nat.le_of_ble_eq_true rfl) dX5_forget_32 ⟨Nat.zero_le _, Nat.zero_le _⟩ (fun _ => rfl) (fun u32 H locs hw32 hP hD hS => ?_)
      have hP : va_P D vwCl [(mo, oMo 0 a1 a2 a3 (remR re + 1) a4 a5 a6 tl a7 a8), (a1, aI yI 96 (forget1 S i)), (a3, aI yI 1344 (remH S Hh re))] H := hP
      have hD : va_D A [(mo, oMo 0 a1 a2 a3 (remR re + 1) a4 a5 a6 tl a7 a8), (a1, aI yI 96 (forget1 S i)), (a3, aI yI 1344 (remH S Hh re))] := hD
      refine lv_aload_n hx hb dX5_forget_35 rfl (lv_at hl 0 rfl) ?_
      refine va_get (D := D) (ci := 5) (v := .ref a1) (C := RX5) (T := TX5) (N := 11) hx hb hts hinX5 hown hK hP 0 rfl rfl 1 (by decide) hf7 (fun _ h9 => h9) rfl dX5_forget_36 ?_
      refine lv_iconst (v := iI 4) hx hb dX5_forget_39 (by decide +kernel) ?_
      refine iv_ald hx hb hK hP 1 0 rfl rfl (z := 4) (by omega) (by omega) (by omega) dX5_forget_40 ?_
      have hq : 0 ≤ i ∧ i < S 4 := by omega
      have hP9 : va_P D vwCl [(mo, oMo (bI (¬ (0 ≤ i ∧ i < S 4))) a1 a2 a3 (if 0 ≤ i ∧ i < S 4 then remR re + 1 else re) a4 a5 a6 tl a7 a8), (a1, aI yI 96 (if 0 ≤ i ∧ i < S 4 then forget1 S i else S)), (a3, aI yI 1344 (if 0 ≤ i ∧ i < S 4 then remH S Hh re else Hh))] _ := (hP.sub (ws' := [(mo, oMo 0 a1 a2 a3 (remR re + 1) a4 a5 a6 tl a7 a8), (a1, aI yI 96 (forget1 S i)), (a3, aI yI 1344 (remH S Hh re))]) [0, 1, 2] rfl).cv (by simp only [if_pos hq, bI_f (not_not_intro hq)])
      exact W.iret hx hb hr (fun t ht hW => ⟨⟨iI ((forget1 S i) 4), (), rfl, ⟨congrArg iI (show (forget1 S i) 4 = if 0 ≤ i ∧ i < S 4 then S 4 - 1 else 0 by rw [if_pos hq]; rfl), trivial⟩, by show va_P D vwCl _ t.heap; rw [ht]; exact hP9⟩, hS.F ht⟩) hS.2.2 dX5_forget_41
    · exact absurd c21 (by omega)
set_option maxHeartbeats 4000000 in
set_option maxRecDepth 100000 in
theorem c_X5_write (l : Launch) (D : va_G) (yI yC yD : ClassId) (mo : Nat) (th : Int) (re : Int) (tl : Int) (a1 : Nat) (a2 : Nat) (a3 : Nat) (a4 : Nat) (a5 : Nat) (a6 : Nat) (a7 : Nat) (a8 : Nat) (S : Int → Int) (Hh : Int → Int) (i : Int) (v : Int) (hI : Inv S) (hi : inR i) (hre : 0 ≤ re ∧ re ≤ 14) (hv : 0 ≤ v ∧ v ≤ 1) (sz : Nat) : Met l yX5_write wsX5_write ({ frames := 2, cells := 0, slots := 0, locals := 46 }) (rwP [.ref mo, .int (iI i), .int (iI v)] D (tyz yI yC yD) [(mo, oMo th a1 a2 a3 re a4 a5 a6 tl a7 a8), (a1, aI yI 96 S), (a3, aI yI 1344 Hh)] sz) (va_Qi (fun (r : Int32) (_ : Unit) => r = iI (if 0 ≤ i ∧ i < S 0 then S 4 - wr S i v 4 else 0) ∧ True) (fun (_ : Unit) (t : State) => va_P D vwCl [(mo, oMo (bI (¬ (0 ≤ i ∧ i < S 0))) a1 a2 a3 (if 0 ≤ i ∧ i < S 0 then remR re + 1 else re) a4 a5 a6 tl a7 a8), (a1, aI yI 96 (if 0 ≤ i ∧ i < S 0 then wr S i v else S)), (a3, aI yI 1344 (if 0 ≤ i ∧ i < S 0 then remH S Hh re else Hh))] t.heap) (va_A [(mo, oMo th a1 a2 a3 re a4 a5 a6 tl a7 a8), (a1, aI yI 96 S), (a3, aI yI 1344 Hh)] sz)) 0 0 (va_A [(mo, oMo th a1 a2 a3 re a4 a5 a6 tl a7 a8), (a1, aI yI 96 S), (a3, aI yI 1344 Hh)] sz) := by
  refine Met.ofW (cc := cX5_write) (maxL := 3) (ret := (some .int)) (by decide) rfl ?_
  intro p e s m args below meth c s₁ B hml hv
  obtain ⟨rfl, hsz, hP, hK, hD0⟩ := hv
  have hx := B.exec
  have hb := B.bytes
  have hr := B.returns
  have hts := atoms_spec (ws := wsX5_write) B.pre
  have hown : s.vm.findClass RX5 = some m.cls := findClass_of_methodNamed B.named
  have hlocks := B.notSynchronized
  subst hsz
  have hD := hD0.self (sz := s.heap.size)
  generalize hAe : va_A [(mo, oMo th a1 a2 a3 re a4 a5 a6 tl a7 a8), (a1, aI yI 96 S), (a3, aI yI 1344 Hh)] s.heap.size = A at hD ⊢
  have hA : ∀ q : Nat, s.heap.size ≤ q → A q := fun q h => by rw [← hAe]; exact Or.inr h
  have hS : va_S A s.heap s.heap [] := va_S.rf
  have hP : va_P D vwCl [(mo, oMo th a1 a2 a3 re a4 a5 a6 tl a7 a8), (a1, aI yI 96 S), (a3, aI yI 1344 Hh)] s.heap := hP
  have hinX5 : ∀ w ∈ wsX50, w ∈ wsX5_write := by decide +kernel
  have hf38 : (Cond.fieldLink RX5 38 "RiddleDriveModel" "thrown" "I").before _ s = true := hts _ (by decide +kernel)
  have hl := lv_entry ([.ref mo, .int (iI i), .int (iI v)]) (n := 3) (Nat.le_of_ble_eq_true rfl)
  rw [lg_entry_eq]
  generalize (lg_sl ([.ref mo, .int (iI i), .int (iI v)]) ++ List.replicate (3 - (lg_sl ([.ref mo, .int (iI i), .int (iI v)])).length) Slot.unset).toArray = ls at hl ⊢
  have hl : lv_has ls 3 [(0, .ref mo), (1, .int (iI i)), (2, .int (iI v))] := hl
  have hpl := hI.pl
  have hna := hI.na
  have hse := hI.se
  have hwi := hI.wi
  have han := hI.anr
  refine lv_aload_n hx hb dX5_write_0 rfl (lv_at hl 0 rfl) ?_
  refine lv_aload_n hx hb dX5_write_1 rfl (lv_at hl 0 rfl) ?_
  refine lv_iload_n hx hb dX5_write_2 rfl (lv_at hl 1 rfl) ?_
  refine iv_roV (As := [.int (iI i)]) (rest := [.ref mo]) (C := RX5) (n := 1) ⟨hx, hb, hml, hown, hts⟩ (c_X5_isPlace l D yI yC yD mo th re tl a1 a2 a3 a4 a5 a6 a7 a8 S i (by omega) (by omega)) (cwV 1 hts gX5_write_X5_isPlace rfl rfl rfl (by decide +kernel) ⟨Nat.le_of_ble_eq_true rfl, Nat.le_of_ble_eq_true rfl⟩) hK hP [0, 1] rfl 0 rfl rfl rfl hl.1 rfl (Nat.le_of_ble_eq_true rfl) dX5_write_3 ⟨Nat.zero_le _, Nat.zero_le _⟩ ?_
  refine iv_ifb_eq (P := 0 ≤ i ∧ i < S 0) (tgt := 13) hx hb dX5_write_6 (by decide) (fun c6 => ?_) (fun c6 => ?_)
  · refine lv_iconst (v := iI 1) hx hb dX5_write_13 (by decide +kernel) ?_
    refine va_put (D := D) (ci := 5) (v := .int (iI 1)) (ty := .int) (C := RX5) (T := TX5) (N := 11) hx hb hts hinX5 tyX5 tyX5_ok nmX5 hown hK hP hD hS 0 rfl rfl 0 (by decide) hf38 (fun _ h9 => h9) rfl (by decide +kernel) rfl rfl (Nat.le_of_ble_eq_true rfl) dX5_write_14 (fun H locs hP hD hS => ?_)
    have hP : va_P D vwCl [(mo, oMo 1 a1 a2 a3 re a4 a5 a6 tl a7 a8), (a1, aI yI 96 S), (a3, aI yI 1344 Hh)] H := hP
    have hD : va_D A [(mo, oMo 1 a1 a2 a3 re a4 a5 a6 tl a7 a8), (a1, aI yI 96 S), (a3, aI yI 1344 Hh)] := hD
    refine lv_aload_n hx hb dX5_write_17 rfl (lv_at hl 0 rfl) ?_
    refine va_get (D := D) (ci := 5) (v := .int (iI 1)) (C := RX5) (T := TX5) (N := 11) hx hb hts hinX5 hown hK hP 0 rfl rfl 0 (by decide) hf38 (fun _ h9 => h9) rfl dX5_write_18 ?_
    refine iv_if_le (a := 1) (tgt := 26) hx hb (by omega) dX5_write_21 (by decide) (fun c21 => ?_) (fun c21 => ?_)
    · exact absurd c21 (by omega)
    · refine lv_iconst (v := iI 0) hx hb dX5_write_24 (by decide +kernel) ?_
      have hq : ¬ (0 ≤ i ∧ i < S 0) := by omega
      have hP9 : va_P D vwCl [(mo, oMo (bI (¬ (0 ≤ i ∧ i < S 0))) a1 a2 a3 (if 0 ≤ i ∧ i < S 0 then remR re + 1 else re) a4 a5 a6 tl a7 a8), (a1, aI yI 96 (if 0 ≤ i ∧ i < S 0 then wr S i v else S)), (a3, aI yI 1344 (if 0 ≤ i ∧ i < S 0 then remH S Hh re else Hh))] _ := (hP.sub (ws' := [(mo, oMo 1 a1 a2 a3 re a4 a5 a6 tl a7 a8), (a1, aI yI 96 S), (a3, aI yI 1344 Hh)]) [0, 1, 2] rfl).cv (by simp only [if_neg hq, bI_t hq])
      exact W.iret hx hb hr (fun t ht hW => ⟨⟨iI 0, (), rfl, ⟨congrArg iI (show 0 = if 0 ≤ i ∧ i < S 0 then S 4 - wr S i v 4 else 0 by rw [if_neg hq]), trivial⟩, by show va_P D vwCl _ t.heap; rw [ht]; exact hP9⟩, hS.F ht⟩) hS.2.2 dX5_write_25
  · refine lv_iconst (v := iI 0) hx hb dX5_write_9 (by decide +kernel) ?_
    refine lv_goto (tgt := 14) hx hb dX5_write_10 (by decide) ?_
    refine va_put (D := D) (ci := 5) (v := .int (iI 0)) (ty := .int) (C := RX5) (T := TX5) (N := 11) hx hb hts hinX5 tyX5 tyX5_ok nmX5 hown hK hP hD hS 0 rfl rfl 0 (by decide) hf38 (fun _ h9 => h9) rfl (by decide +kernel) rfl rfl (Nat.le_of_ble_eq_true rfl) dX5_write_14 (fun H locs hP hD hS => ?_)
    have hP : va_P D vwCl [(mo, oMo 0 a1 a2 a3 re a4 a5 a6 tl a7 a8), (a1, aI yI 96 S), (a3, aI yI 1344 Hh)] H := hP
    have hD : va_D A [(mo, oMo 0 a1 a2 a3 re a4 a5 a6 tl a7 a8), (a1, aI yI 96 S), (a3, aI yI 1344 Hh)] := hD
    refine lv_aload_n hx hb dX5_write_17 rfl (lv_at hl 0 rfl) ?_
    refine va_get (D := D) (ci := 5) (v := .int (iI 0)) (C := RX5) (T := TX5) (N := 11) hx hb hts hinX5 hown hK hP 0 rfl rfl 0 (by decide) hf38 (fun _ h9 => h9) rfl dX5_write_18 ?_
    refine iv_if_le (a := 0) (tgt := 26) hx hb (by omega) dX5_write_21 (by decide) (fun c21 => ?_) (fun c21 => ?_)
    · refine lv_aload_n hx hb dX5_write_26 rfl (lv_at hl 0 rfl) ?_
      refine iv_rwVv (As := []) (rest := []) (C := RX5) (n := 0) ⟨hx, hb, hml, hown, hts⟩ (c_X5_remember l D yI yC yD mo 0 re tl a1 a2 a3 a4 a5 a6 a7 a8 S Hh (by assumption) _) (cwV 0 hts gX5_write_X5_remember rfl rfl rfl (by decide +kernel) ⟨Nat.le_of_ble_eq_true rfl, Nat.le_of_ble_eq_true rfl⟩) hK hP hD hS hA [0, 1, 2] (by decide) rfl 0 rfl rfl rfl hl.1 rfl (Nat.le_of_ble_eq_true rfl) dX5_write_27 ⟨Nat.zero_le _, Nat.zero_le _⟩ (fun _ => rfl) (fun u27 H locs hw27 hP hD hS => ?_)
      have hP : va_P D vwCl [(mo, oMo 0 a1 a2 a3 (remR re + 1) a4 a5 a6 tl a7 a8), (a1, aI yI 96 S), (a3, aI yI 1344 (remH S Hh re))] H := hP
      have hD : va_D A [(mo, oMo 0 a1 a2 a3 (remR re + 1) a4 a5 a6 tl a7 a8), (a1, aI yI 96 S), (a3, aI yI 1344 (remH S Hh re))] := hD
      refine lv_aload_n hx hb dX5_write_30 rfl (lv_at hl 0 rfl) ?_
      refine lv_iload_n hx hb dX5_write_31 rfl (lv_at hl 1 rfl) ?_
      refine lv_iload_n hx hb dX5_write_32 rfl (lv_at hl 2 rfl) ?_
      refine iv_if_eq (a := v) (tgt := 40) hx hb (by omega) dX5_write_33 (by decide) (fun c33 => ?_) (fun c33 => ?_)
      · have hv1 : v = 0 := by omega
        refine lv_iconst (v := iI 0) hx hb dX5_write_40 (by decide +kernel) ?_
        refine iv_rwV (As := [.int (iI i), .int (iI 0)]) (rest := []) (C := RX5) (n := 2) ⟨hx, hb, hml, hown, hts⟩ (c_X5_written l D yI yC yD mo 0 (remR re + 1) tl a1 a2 a3 a4 a5 a6 a7 a8 S i 0 (by omega) (by omega) (by have := hI.key (j := i) (by omega) (by omega); omega) (by omega) (by assumption) _) (cwV 2 hts gX5_write_X5_written rfl rfl rfl (by decide +kernel) ⟨Nat.le_of_ble_eq_true rfl, Nat.le_of_ble_eq_true rfl⟩) hK hP hD hS hA [0, 1] (by decide) rfl 0 rfl rfl rfl hl.1 rfl (Nat.le_of_ble_eq_true rfl) dX5_write_41 ⟨Nat.zero_le _, Nat.zero_le _⟩ (fun _ => rfl) (fun r41 u41 H locs hw41 hP hD hS => ?_)
        obtain ⟨hr41, -⟩ := hw41
        subst hr41
        have hP : va_P D vwCl [(mo, oMo 0 a1 a2 a3 (remR re + 1) a4 a5 a6 tl a7 a8), (a1, aI yI 96 (wr S i 0)), (a3, aI yI 1344 (remH S Hh re))] H := hP
        have hD : va_D A [(mo, oMo 0 a1 a2 a3 (remR re + 1) a4 a5 a6 tl a7 a8), (a1, aI yI 96 (wr S i 0)), (a3, aI yI 1344 (remH S Hh re))] := hD
        have hq : 0 ≤ i ∧ i < S 0 := by omega
        have hP9 : va_P D vwCl [(mo, oMo (bI (¬ (0 ≤ i ∧ i < S 0))) a1 a2 a3 (if 0 ≤ i ∧ i < S 0 then remR re + 1 else re) a4 a5 a6 tl a7 a8), (a1, aI yI 96 (if 0 ≤ i ∧ i < S 0 then wr S i v else S)), (a3, aI yI 1344 (if 0 ≤ i ∧ i < S 0 then remH S Hh re else Hh))] _ := (hP.sub (ws' := [(mo, oMo 0 a1 a2 a3 (remR re + 1) a4 a5 a6 tl a7 a8), (a1, aI yI 96 (wr S i 0)), (a3, aI yI 1344 (remH S Hh re))]) [0, 1, 2] rfl).cv (by simp only [if_pos hq, bI_f (not_not_intro hq), hv1])
        exact W.iret hx hb hr (fun t ht hW => ⟨⟨iI (S 4 - wr S i 0 4), (), rfl, ⟨congrArg iI (show S 4 - wr S i 0 4 = if 0 ≤ i ∧ i < S 0 then S 4 - wr S i v 4 else 0 by rw [if_pos hq]; rw [hv1]), trivial⟩, by show va_P D vwCl _ t.heap; rw [ht]; exact hP9⟩, hS.F ht⟩) hS.2.2 dX5_write_44
      · have hv1 : v = 1 := by omega
        refine lv_iconst (v := iI 1) hx hb dX5_write_36 (by decide +kernel) ?_
        refine lv_goto (tgt := 41) hx hb dX5_write_37 (by decide) ?_
        refine iv_rwV (As := [.int (iI i), .int (iI 1)]) (rest := []) (C := RX5) (n := 2) ⟨hx, hb, hml, hown, hts⟩ (c_X5_written l D yI yC yD mo 0 (remR re + 1) tl a1 a2 a3 a4 a5 a6 a7 a8 S i 1 (by omega) (by omega) (by have := hI.key (j := i) (by omega) (by omega); omega) (by omega) (by assumption) _) (cwV 2 hts gX5_write_X5_written rfl rfl rfl (by decide +kernel) ⟨Nat.le_of_ble_eq_true rfl, Nat.le_of_ble_eq_true rfl⟩) hK hP hD hS hA [0, 1] (by decide) rfl 0 rfl rfl rfl hl.1 rfl (Nat.le_of_ble_eq_true rfl) dX5_write_41 ⟨Nat.zero_le _, Nat.zero_le _⟩ (fun _ => rfl) (fun r41 u41 H locs hw41 hP hD hS => ?_)
        obtain ⟨hr41, -⟩ := hw41
        subst hr41
        have hP : va_P D vwCl [(mo, oMo 0 a1 a2 a3 (remR re + 1) a4 a5 a6 tl a7 a8), (a1, aI yI 96 (wr S i 1)), (a3, aI yI 1344 (remH S Hh re))] H := hP
        have hD : va_D A [(mo, oMo 0 a1 a2 a3 (remR re + 1) a4 a5 a6 tl a7 a8), (a1, aI yI 96 (wr S i 1)), (a3, aI yI 1344 (remH S Hh re))] := hD
        have hq : 0 ≤ i ∧ i < S 0 := by omega
        have hP9 : va_P D vwCl [(mo, oMo (bI (¬ (0 ≤ i ∧ i < S 0))) a1 a2 a3 (if 0 ≤ i ∧ i < S 0 then remR re + 1 else re) a4 a5 a6 tl a7 a8), (a1, aI yI 96 (if 0 ≤ i ∧ i < S 0 then wr S i v else S)), (a3, aI yI 1344 (if 0 ≤ i ∧ i < S 0 then remH S Hh re else Hh))] _ := (hP.sub (ws' := [(mo, oMo 0 a1 a2 a3 (remR re + 1) a4 a5 a6 tl a7 a8), (a1, aI yI 96 (wr S i 1)), (a3, aI yI 1344 (remH S Hh re))]) [0, 1, 2] rfl).cv (by simp only [if_pos hq, bI_f (not_not_intro hq), hv1])
        exact W.iret hx hb hr (fun t ht hW => ⟨⟨iI (S 4 - wr S i 1 4), (), rfl, ⟨congrArg iI (show S 4 - wr S i 1 4 = if 0 ≤ i ∧ i < S 0 then S 4 - wr S i v 4 else 0 by rw [if_pos hq]; rw [hv1]), trivial⟩, by show va_P D vwCl _ t.heap; rw [ht]; exact hP9⟩, hS.F ht⟩) hS.2.2 dX5_write_44
    · exact absurd c21 (by omega)
set_option maxHeartbeats 4000000 in
set_option maxRecDepth 100000 in
theorem c_X5_resize (l : Launch) (D : va_G) (yI yC yD : ClassId) (mo : Nat) (th : Int) (re : Int) (tl : Int) (a1 : Nat) (a2 : Nat) (a3 : Nat) (a4 : Nat) (a5 : Nat) (a6 : Nat) (a7 : Nat) (a8 : Nat) (S : Int → Int) (Hh : Int → Int) (q : Int) (hI : Inv S) (hq9 : inR q) (hre : 0 ≤ re ∧ re ≤ 14) (sz : Nat) : Met l yX5_resize wsX5_resize ({ frames := 2, cells := 0, slots := 0, locals := 45 }) (rwP [.ref mo, .int (iI q)] D (tyz yI yC yD) [(mo, oMo th a1 a2 a3 re a4 a5 a6 tl a7 a8), (a1, aI yI 96 S), (a3, aI yI 1344 Hh)] sz) (va_Qi (fun (r : Int32) (_ : Unit) => r = iI (if 8 ≤ q ∧ q ≤ 40 then keysIn (rsz S q) 0 (q - 1) else 0) ∧ True) (fun (_ : Unit) (t : State) => va_P D vwCl [(mo, oMo (bI (¬ (8 ≤ q ∧ q ≤ 40))) a1 a2 a3 (if 8 ≤ q ∧ q ≤ 40 then remR re + 1 else re) a4 a5 a6 tl a7 a8), (a1, aI yI 96 (if 8 ≤ q ∧ q ≤ 40 then rsz S q else S)), (a3, aI yI 1344 (if 8 ≤ q ∧ q ≤ 40 then remH S Hh re else Hh))] t.heap) (va_A [(mo, oMo th a1 a2 a3 re a4 a5 a6 tl a7 a8), (a1, aI yI 96 S), (a3, aI yI 1344 Hh)] sz)) 0 0 (va_A [(mo, oMo th a1 a2 a3 re a4 a5 a6 tl a7 a8), (a1, aI yI 96 S), (a3, aI yI 1344 Hh)] sz) := by
  refine Met.ofW (cc := cX5_resize) (maxL := 3) (ret := (some .int)) (by decide) rfl ?_
  intro p e s m args below meth c s₁ B hml hv
  obtain ⟨rfl, hsz, hP, hK, hD0⟩ := hv
  have hx := B.exec
  have hb := B.bytes
  have hr := B.returns
  have hts := atoms_spec (ws := wsX5_resize) B.pre
  have hown : s.vm.findClass RX5 = some m.cls := findClass_of_methodNamed B.named
  have hlocks := B.notSynchronized
  subst hsz
  have hD := hD0.self (sz := s.heap.size)
  generalize hAe : va_A [(mo, oMo th a1 a2 a3 re a4 a5 a6 tl a7 a8), (a1, aI yI 96 S), (a3, aI yI 1344 Hh)] s.heap.size = A at hD ⊢
  have hA : ∀ q : Nat, s.heap.size ≤ q → A q := fun q h => by rw [← hAe]; exact Or.inr h
  have hS : va_S A s.heap s.heap [] := va_S.rf
  have hP : va_P D vwCl [(mo, oMo th a1 a2 a3 re a4 a5 a6 tl a7 a8), (a1, aI yI 96 S), (a3, aI yI 1344 Hh)] s.heap := hP
  have hinX5 : ∀ w ∈ wsX50, w ∈ wsX5_resize := by decide +kernel
  have hf7 : (Cond.fieldLink RX5 7 "RiddleDriveModel" "state" "[I").before _ s = true := hts _ (by decide +kernel)
  have hf38 : (Cond.fieldLink RX5 38 "RiddleDriveModel" "thrown" "I").before _ s = true := hts _ (by decide +kernel)
  have hl := lv_entry ([.ref mo, .int (iI q)]) (n := 3) (Nat.le_of_ble_eq_true rfl)
  rw [lg_entry_eq]
  generalize (lg_sl ([.ref mo, .int (iI q)]) ++ List.replicate (3 - (lg_sl ([.ref mo, .int (iI q)])).length) Slot.unset).toArray = ls at hl ⊢
  have hl : lv_has ls 3 [(0, .ref mo), (1, .int (iI q))] := hl
  have hpl := hI.pl
  have hna := hI.na
  have hse := hI.se
  have hwi := hI.wi
  refine lv_aload_n hx hb dX5_resize_0 rfl (lv_at hl 0 rfl) ?_
  refine lv_iload_n hx hb dX5_resize_1 rfl (lv_at hl 1 rfl) ?_
  refine lv_bipush (v := iI 8) hx hb dX5_resize_2 (by decide +kernel) ?_
  refine lv_bipush (v := iI 40) hx hb dX5_resize_4 (by decide +kernel) ?_
  refine iv_roS (As := [.int (iI q), .int (iI 8), .int (iI 40)]) (rest := [.ref mo]) (n := 3) ⟨hx, hb, hml, hown, hts⟩ (c_X5_within l D yI yC yD q 8 40 (by omega) (by omega) (by omega)) (va_cwS 3 hts gX5_resize_X5_within rfl rfl rfl (by decide +kernel) ⟨Nat.le_of_ble_eq_true rfl, Nat.le_of_ble_eq_true rfl⟩) hK hP [] rfl rfl hl.1 rfl (Nat.le_of_ble_eq_true rfl) dX5_resize_6 ⟨Nat.zero_le _, Nat.zero_le _⟩ ?_
  refine iv_ifb_eq (P := 8 ≤ q ∧ q ≤ 40) (tgt := 16) hx hb dX5_resize_9 (by decide) (fun c9 => ?_) (fun c9 => ?_)
  · refine lv_iconst (v := iI 1) hx hb dX5_resize_16 (by decide +kernel) ?_
    refine va_put (D := D) (ci := 5) (v := .int (iI 1)) (ty := .int) (C := RX5) (T := TX5) (N := 11) hx hb hts hinX5 tyX5 tyX5_ok nmX5 hown hK hP hD hS 0 rfl rfl 0 (by decide) hf38 (fun _ h9 => h9) rfl (by decide +kernel) rfl rfl (Nat.le_of_ble_eq_true rfl) dX5_resize_17 (fun H locs hP hD hS => ?_)
    have hP : va_P D vwCl [(mo, oMo 1 a1 a2 a3 re a4 a5 a6 tl a7 a8), (a1, aI yI 96 S), (a3, aI yI 1344 Hh)] H := hP
    have hD : va_D A [(mo, oMo 1 a1 a2 a3 re a4 a5 a6 tl a7 a8), (a1, aI yI 96 S), (a3, aI yI 1344 Hh)] := hD
    refine lv_aload_n hx hb dX5_resize_20 rfl (lv_at hl 0 rfl) ?_
    refine va_get (D := D) (ci := 5) (v := .int (iI 1)) (C := RX5) (T := TX5) (N := 11) hx hb hts hinX5 hown hK hP 0 rfl rfl 0 (by decide) hf38 (fun _ h9 => h9) rfl dX5_resize_21 ?_
    refine iv_if_le (a := 1) (tgt := 29) hx hb (by omega) dX5_resize_24 (by decide) (fun c24 => ?_) (fun c24 => ?_)
    · exact absurd c24 (by omega)
    · refine lv_iconst (v := iI 0) hx hb dX5_resize_27 (by decide +kernel) ?_
      have hq : ¬ (8 ≤ q ∧ q ≤ 40) := by omega
      have hP9 : va_P D vwCl [(mo, oMo (bI (¬ (8 ≤ q ∧ q ≤ 40))) a1 a2 a3 (if 8 ≤ q ∧ q ≤ 40 then remR re + 1 else re) a4 a5 a6 tl a7 a8), (a1, aI yI 96 (if 8 ≤ q ∧ q ≤ 40 then rsz S q else S)), (a3, aI yI 1344 (if 8 ≤ q ∧ q ≤ 40 then remH S Hh re else Hh))] _ := (hP.sub (ws' := [(mo, oMo 1 a1 a2 a3 re a4 a5 a6 tl a7 a8), (a1, aI yI 96 S), (a3, aI yI 1344 Hh)]) [0, 1, 2] rfl).cv (by simp only [if_neg hq, bI_t hq])
      exact W.iret hx hb hr (fun t ht hW => ⟨⟨iI 0, (), rfl, ⟨congrArg iI (show 0 = if 8 ≤ q ∧ q ≤ 40 then keysIn (rsz S q) 0 (q - 1) else 0 by rw [if_neg hq]), trivial⟩, by show va_P D vwCl _ t.heap; rw [ht]; exact hP9⟩, hS.F ht⟩) hS.2.2 dX5_resize_28
  · refine lv_iconst (v := iI 0) hx hb dX5_resize_12 (by decide +kernel) ?_
    refine lv_goto (tgt := 17) hx hb dX5_resize_13 (by decide) ?_
    refine va_put (D := D) (ci := 5) (v := .int (iI 0)) (ty := .int) (C := RX5) (T := TX5) (N := 11) hx hb hts hinX5 tyX5 tyX5_ok nmX5 hown hK hP hD hS 0 rfl rfl 0 (by decide) hf38 (fun _ h9 => h9) rfl (by decide +kernel) rfl rfl (Nat.le_of_ble_eq_true rfl) dX5_resize_17 (fun H locs hP hD hS => ?_)
    have hP : va_P D vwCl [(mo, oMo 0 a1 a2 a3 re a4 a5 a6 tl a7 a8), (a1, aI yI 96 S), (a3, aI yI 1344 Hh)] H := hP
    have hD : va_D A [(mo, oMo 0 a1 a2 a3 re a4 a5 a6 tl a7 a8), (a1, aI yI 96 S), (a3, aI yI 1344 Hh)] := hD
    refine lv_aload_n hx hb dX5_resize_20 rfl (lv_at hl 0 rfl) ?_
    refine va_get (D := D) (ci := 5) (v := .int (iI 0)) (C := RX5) (T := TX5) (N := 11) hx hb hts hinX5 hown hK hP 0 rfl rfl 0 (by decide) hf38 (fun _ h9 => h9) rfl dX5_resize_21 ?_
    refine iv_if_le (a := 0) (tgt := 29) hx hb (by omega) dX5_resize_24 (by decide) (fun c24 => ?_) (fun c24 => ?_)
    · refine lv_aload_n hx hb dX5_resize_29 rfl (lv_at hl 0 rfl) ?_
      refine iv_rwVv (As := []) (rest := []) (C := RX5) (n := 0) ⟨hx, hb, hml, hown, hts⟩ (c_X5_remember l D yI yC yD mo 0 re tl a1 a2 a3 a4 a5 a6 a7 a8 S Hh (by assumption) _) (cwV 0 hts gX5_resize_X5_remember rfl rfl rfl (by decide +kernel) ⟨Nat.le_of_ble_eq_true rfl, Nat.le_of_ble_eq_true rfl⟩) hK hP hD hS hA [0, 1, 2] (by decide) rfl 0 rfl rfl rfl hl.1 rfl (Nat.le_of_ble_eq_true rfl) dX5_resize_30 ⟨Nat.zero_le _, Nat.zero_le _⟩ (fun _ => rfl) (fun u30 H locs hw30 hP hD hS => ?_)
      have hP : va_P D vwCl [(mo, oMo 0 a1 a2 a3 (remR re + 1) a4 a5 a6 tl a7 a8), (a1, aI yI 96 S), (a3, aI yI 1344 (remH S Hh re))] H := hP
      have hD : va_D A [(mo, oMo 0 a1 a2 a3 (remR re + 1) a4 a5 a6 tl a7 a8), (a1, aI yI 96 S), (a3, aI yI 1344 (remH S Hh re))] := hD
      refine lv_aload_n hx hb dX5_resize_33 rfl (lv_at hl 0 rfl) ?_
      refine iv_rwVv (As := []) (rest := []) (C := RX5) (n := 0) ⟨hx, hb, hml, hown, hts⟩ (c_X5_forgetAll l D yI yC yD mo 0 (remR re + 1) tl a1 a2 a3 a4 a5 a6 a7 a8 S  _) (cwV 0 hts gX5_resize_X5_forgetAll rfl rfl rfl (by decide +kernel) ⟨Nat.le_of_ble_eq_true rfl, Nat.le_of_ble_eq_true rfl⟩) hK hP hD hS hA [0, 1] (by decide) rfl 0 rfl rfl rfl hl.1 rfl (Nat.le_of_ble_eq_true rfl) dX5_resize_34 ⟨Nat.zero_le _, Nat.zero_le _⟩ (fun _ => rfl) (fun u34 H locs hw34 hP hD hS => ?_)
      have hP : va_P D vwCl [(mo, oMo 0 a1 a2 a3 (remR re + 1) a4 a5 a6 tl a7 a8), (a1, aI yI 96 (forgetA S)), (a3, aI yI 1344 (remH S Hh re))] H := hP
      have hD : va_D A [(mo, oMo 0 a1 a2 a3 (remR re + 1) a4 a5 a6 tl a7 a8), (a1, aI yI 96 (forgetA S)), (a3, aI yI 1344 (remH S Hh re))] := hD
      refine lv_iload_n hx hb dX5_resize_37 rfl (lv_at hl 1 rfl) ?_
      refine lv_istore_n (lv' := [(2, .int (iI q)), (0, .ref mo), (1, .int (iI q))]) hx hb dX5_resize_38 rfl hl (by decide) rfl (fun ls hl => ?_)
      refine iv_loop (I := fun (qq : Nat × Int × (Int → Int)) H locs ls => match qq with | (k, x2, G) => ((k : Int) ≤ 40 - q) ∧ (x2 = q + k) ∧ (G = zeroN (forgetA S) (8 + q) k) ∧ va_P D vwCl [(mo, oMo 0 a1 a2 a3 (remR re + 1) a4 a5 a6 tl a7 a8), (a1, aI yI 96 G), (a3, aI yI 1344 (remH S Hh re))] H ∧ va_D A [(mo, oMo 0 a1 a2 a3 (remR re + 1) a4 a5 a6 tl a7 a8), (a1, aI yI 96 G), (a3, aI yI 1344 (remH S Hh re))] ∧ va_S A s.heap H locs ∧ lv_has ls 3 [(2, .int (iI x2)), (0, .ref mo), (1, .int (iI q))]) (μ := fun (qq : Nat × Int × (Int → Int)) => match qq with | (k, x2, G) => 40 - k) (0, q, forgetA S) ?_ ?_
      · exact ⟨by omega, by omega, zeroN_0, hP, hD, hS, lv_sub hl [0, 1, 2] rfl⟩
      · intro qq H locs ls hI ih39
        obtain ⟨k, x2, G⟩ := qq
        obtain ⟨hk, h5, hG, hP, hD, hS, hl⟩ := hI
        refine lv_iload_n hx hb dX5_resize_39 rfl (lv_at hl 0 rfl) ?_
        refine lv_bipush (v := iI 40) hx hb dX5_resize_40 (by decide +kernel) ?_
        refine iv_icmp_ge (a := x2) (b := 40) (tgt := 61) hx hb (by omega) (by omega) dX5_resize_42 (by decide) (fun c42 => ?_) (fun c42 => ?_)
        · refine lv_aload_n hx hb dX5_resize_61 rfl (lv_at hl 1 rfl) ?_
          refine va_get (D := D) (ci := 5) (v := .ref a1) (C := RX5) (T := TX5) (N := 11) hx hb hts hinX5 hown hK hP 0 rfl rfl 1 (by decide) hf7 (fun _ h9 => h9) rfl dX5_resize_62 ?_
          refine lv_iconst (v := iI 0) hx hb dX5_resize_65 (by decide +kernel) ?_
          refine lv_iload_n hx hb dX5_resize_66 rfl (lv_at hl 2 rfl) ?_
          refine iv_ast hx hb hK hP hD hS 1 0 rfl rfl (z := 0) (v := q) (by omega) (by omega) (by omega) dX5_resize_67 (fun H locs hP hD hS => ?_)
          have hP : va_P D vwCl [(mo, oMo 0 a1 a2 a3 (remR re + 1) a4 a5 a6 tl a7 a8), (a1, aI yI 96 (up G 0 q)), (a3, aI yI 1344 (remH S Hh re))] H := hP
          have hD : va_D A [(mo, oMo 0 a1 a2 a3 (remR re + 1) a4 a5 a6 tl a7 a8), (a1, aI yI 96 (up G 0 q)), (a3, aI yI 1344 (remH S Hh re))] := hD
          refine lv_aload_n hx hb dX5_resize_68 rfl (lv_at hl 1 rfl) ?_
          refine lv_iconst (v := iI 0) hx hb dX5_resize_69 (by decide +kernel) ?_
          refine lv_iload_n hx hb dX5_resize_70 rfl (lv_at hl 2 rfl) ?_
          have ers : up G 0 q = rsz S q := by rw [hG]; exact rsz_eq (by omega)
          rw [ers] at hP hD
          have hP : va_P D vwCl [(mo, oMo 0 a1 a2 a3 (remR re + 1) a4 a5 a6 tl a7 a8), (a1, aI yI 96 (rsz S q)), (a3, aI yI 1344 (remH S Hh re))] H := hP
          have hD : va_D A [(mo, oMo 0 a1 a2 a3 (remR re + 1) a4 a5 a6 tl a7 a8), (a1, aI yI 96 (rsz S q)), (a3, aI yI 1344 (remH S Hh re))] := hD
          refine lv_iconst (v := iI 1) hx hb dX5_resize_71 (by decide +kernel) ?_
          refine iv_sub hx hb dX5_resize_72 ?_
          refine iv_roV (As := [.int (iI 0), .int (iI (q - 1))]) (rest := []) (C := RX5) (n := 2) ⟨hx, hb, hml, hown, hts⟩ (c_X5_keysIn l D yI yC yD mo 0 (remR re + 1) tl a1 a2 a3 a4 a5 a6 a7 a8 (rsz S q) 0 (q - 1) (by omega)) (cwV 2 hts gX5_resize_X5_keysIn rfl rfl rfl (by decide +kernel) ⟨Nat.le_of_ble_eq_true rfl, Nat.le_of_ble_eq_true rfl⟩) hK hP [0, 1] rfl 0 rfl rfl rfl hl.1 rfl (Nat.le_of_ble_eq_true rfl) dX5_resize_73 ⟨Nat.zero_le _, Nat.zero_le _⟩ ?_
          have hq : 8 ≤ q ∧ q ≤ 40 := by omega
          have hP9 : va_P D vwCl [(mo, oMo (bI (¬ (8 ≤ q ∧ q ≤ 40))) a1 a2 a3 (if 8 ≤ q ∧ q ≤ 40 then remR re + 1 else re) a4 a5 a6 tl a7 a8), (a1, aI yI 96 (if 8 ≤ q ∧ q ≤ 40 then rsz S q else S)), (a3, aI yI 1344 (if 8 ≤ q ∧ q ≤ 40 then remH S Hh re else Hh))] _ := (hP.sub (ws' := [(mo, oMo 0 a1 a2 a3 (remR re + 1) a4 a5 a6 tl a7 a8), (a1, aI yI 96 (rsz S q)), (a3, aI yI 1344 (remH S Hh re))]) [0, 1, 2] rfl).cv (by simp only [if_pos hq, bI_f (not_not_intro hq)])
          exact W.iret hx hb hr (fun t ht hW => ⟨⟨iI (keysIn (rsz S q) 0 (q - 1)), (), rfl, ⟨congrArg iI (show keysIn (rsz S q) 0 (q - 1) = if 8 ≤ q ∧ q ≤ 40 then keysIn (rsz S q) 0 (q - 1) else 0 by rw [if_pos hq]), trivial⟩, by show va_P D vwCl _ t.heap; rw [ht]; exact hP9⟩, hS.F ht⟩) hS.2.2 dX5_resize_76
        · refine lv_aload_n hx hb dX5_resize_45 rfl (lv_at hl 1 rfl) ?_
          refine va_get (D := D) (ci := 5) (v := .ref a1) (C := RX5) (T := TX5) (N := 11) hx hb hts hinX5 hown hK hP 0 rfl rfl 1 (by decide) hf7 (fun _ h9 => h9) rfl dX5_resize_46 ?_
          refine lv_bipush (v := iI 8) hx hb dX5_resize_49 (by decide +kernel) ?_
          refine lv_iload_n hx hb dX5_resize_51 rfl (lv_at hl 0 rfl) ?_
          refine iv_add hx hb dX5_resize_52 ?_
          refine lv_iconst (v := iI 0) hx hb dX5_resize_53 (by decide +kernel) ?_
          refine iv_ast hx hb hK hP hD hS 1 0 rfl rfl (z := 8 + x2) (v := 0) (by omega) (by omega) (by omega) dX5_resize_54 (fun H locs hP hD hS => ?_)
          have hP : va_P D vwCl [(mo, oMo 0 a1 a2 a3 (remR re + 1) a4 a5 a6 tl a7 a8), (a1, aI yI 96 (up G (8 + x2) 0)), (a3, aI yI 1344 (remH S Hh re))] H := hP
          have hD : va_D A [(mo, oMo 0 a1 a2 a3 (remR re + 1) a4 a5 a6 tl a7 a8), (a1, aI yI 96 (up G (8 + x2) 0)), (a3, aI yI 1344 (remH S Hh re))] := hD
          refine iv_inc (lv' := [(2, .int (iI (x2 + 1))), (0, .ref mo), (1, .int (iI q))]) hx hb dX5_resize_55 hl (k := 0) rfl (by decide) rfl (fun ls hl => ?_)
          refine lv_goto (tgt := 39) hx hb dX5_resize_58 (by decide) ?_
          refine ih39 (k + 1, x2 + 1, up G (8 + x2) 0) _ _ (by show (40 - (k + 1) : Nat) < 40 - k; omega) ?_
          exact ⟨by omega, by omega, by rw [hG, h5, show (8 : Int) + (q + k) = 8 + q + k by omega]; exact zeroN_s, hP, hD, hS, lv_sub hl [0, 1, 2] rfl⟩
    · exact absurd c24 (by omega)
set_option maxHeartbeats 4000000 in
set_option maxRecDepth 100000 in
theorem c_X5_undo (l : Launch) (D : va_G) (yI yC yD : ClassId) (mo : Nat) (th : Int) (re : Int) (tl : Int) (a1 : Nat) (a2 : Nat) (a3 : Nat) (a4 : Nat) (a5 : Nat) (a6 : Nat) (a7 : Nat) (a8 : Nat) (S : Int → Int) (Hh : Int → Int) (hre : 0 ≤ re ∧ re ≤ 14) (sz : Nat) : Met l yX5_undo wsX5_undo ({ frames := 1, cells := 0, slots := 0, locals := 24 }) (rwP [.ref mo] D (tyz yI yC yD) [(mo, oMo th a1 a2 a3 re a4 a5 a6 tl a7 a8), (a1, aI yI 96 S), (a3, aI yI 1344 Hh)] sz) (va_Qi (fun (r : Int32) (_ : Unit) => r = iI (if 0 < re then re - 1 else 0) ∧ True) (fun (_ : Unit) (t : State) => va_P D vwCl [(mo, oMo (bI (¬ (0 < re))) a1 a2 a3 (if 0 < re then re - 1 else re) a4 a5 a6 tl a7 a8), (a1, aI yI 96 (if 0 < re then hst Hh (re - 1) else S)), (a3, aI yI 1344 Hh)] t.heap) (va_A [(mo, oMo th a1 a2 a3 re a4 a5 a6 tl a7 a8), (a1, aI yI 96 S), (a3, aI yI 1344 Hh)] sz)) 0 0 (va_A [(mo, oMo th a1 a2 a3 re a4 a5 a6 tl a7 a8), (a1, aI yI 96 S), (a3, aI yI 1344 Hh)] sz) := by
  refine Met.ofW (cc := cX5_undo) (maxL := 1) (ret := (some .int)) (by decide) rfl ?_
  intro p e s m args below meth c s₁ B hml hv
  obtain ⟨rfl, hsz, hP, hK, hD0⟩ := hv
  have hx := B.exec
  have hb := B.bytes
  have hr := B.returns
  have hts := atoms_spec (ws := wsX5_undo) B.pre
  have hown : s.vm.findClass RX5 = some m.cls := findClass_of_methodNamed B.named
  have hlocks := B.notSynchronized
  subst hsz
  have hD := hD0.self (sz := s.heap.size)
  generalize hAe : va_A [(mo, oMo th a1 a2 a3 re a4 a5 a6 tl a7 a8), (a1, aI yI 96 S), (a3, aI yI 1344 Hh)] s.heap.size = A at hD ⊢
  have hA : ∀ q : Nat, s.heap.size ≤ q → A q := fun q h => by rw [← hAe]; exact Or.inr h
  have hS : va_S A s.heap s.heap [] := va_S.rf
  have hP : va_P D vwCl [(mo, oMo th a1 a2 a3 re a4 a5 a6 tl a7 a8), (a1, aI yI 96 S), (a3, aI yI 1344 Hh)] s.heap := hP
  have hinX5 : ∀ w ∈ wsX50, w ∈ wsX5_undo := by decide +kernel
  have hf7 : (Cond.fieldLink RX5 7 "RiddleDriveModel" "state" "[I").before _ s = true := hts _ (by decide +kernel)
  have hf16 : (Cond.fieldLink RX5 16 "RiddleDriveModel" "history" "[I").before _ s = true := hts _ (by decide +kernel)
  have hf38 : (Cond.fieldLink RX5 38 "RiddleDriveModel" "thrown" "I").before _ s = true := hts _ (by decide +kernel)
  have hf105 : (Cond.fieldLink RX5 105 "RiddleDriveModel" "remembered" "I").before _ s = true := hts _ (by decide +kernel)
  have hl := lv_entry ([.ref mo]) (n := 1) (Nat.le_of_ble_eq_true rfl)
  rw [lg_entry_eq]
  generalize (lg_sl ([.ref mo]) ++ List.replicate (1 - (lg_sl ([.ref mo])).length) Slot.unset).toArray = ls at hl ⊢
  have hl : lv_has ls 1 [(0, .ref mo)] := hl
  refine lv_aload_n hx hb dX5_undo_0 rfl (lv_at hl 0 rfl) ?_
  refine lv_aload_n hx hb dX5_undo_1 rfl (lv_at hl 0 rfl) ?_
  refine va_get (D := D) (ci := 5) (v := .int (iI re)) (C := RX5) (T := TX5) (N := 11) hx hb hts hinX5 hown hK hP 0 rfl rfl 4 (by decide) hf105 (fun _ h9 => h9) rfl dX5_undo_2 ?_
  refine iv_if_le (a := re) (tgt := 12) hx hb (by omega) dX5_undo_5 (by decide) (fun c5 => ?_) (fun c5 => ?_)
  · refine lv_iconst (v := iI 1) hx hb dX5_undo_12 (by decide +kernel) ?_
    refine va_put (D := D) (ci := 5) (v := .int (iI 1)) (ty := .int) (C := RX5) (T := TX5) (N := 11) hx hb hts hinX5 tyX5 tyX5_ok nmX5 hown hK hP hD hS 0 rfl rfl 0 (by decide) hf38 (fun _ h9 => h9) rfl (by decide +kernel) rfl rfl (Nat.le_of_ble_eq_true rfl) dX5_undo_13 (fun H locs hP hD hS => ?_)
    have hP : va_P D vwCl [(mo, oMo 1 a1 a2 a3 re a4 a5 a6 tl a7 a8), (a1, aI yI 96 S), (a3, aI yI 1344 Hh)] H := hP
    have hD : va_D A [(mo, oMo 1 a1 a2 a3 re a4 a5 a6 tl a7 a8), (a1, aI yI 96 S), (a3, aI yI 1344 Hh)] := hD
    refine lv_aload_n hx hb dX5_undo_16 rfl (lv_at hl 0 rfl) ?_
    refine va_get (D := D) (ci := 5) (v := .int (iI 1)) (C := RX5) (T := TX5) (N := 11) hx hb hts hinX5 hown hK hP 0 rfl rfl 0 (by decide) hf38 (fun _ h9 => h9) rfl dX5_undo_17 ?_
    refine iv_if_le (a := 1) (tgt := 25) hx hb (by omega) dX5_undo_20 (by decide) (fun c20 => ?_) (fun c20 => ?_)
    · exact absurd c20 (by omega)
    · refine lv_iconst (v := iI 0) hx hb dX5_undo_23 (by decide +kernel) ?_
      have hq : ¬ (0 < re) := by omega
      have hP9 : va_P D vwCl [(mo, oMo (bI (¬ (0 < re))) a1 a2 a3 (if 0 < re then re - 1 else re) a4 a5 a6 tl a7 a8), (a1, aI yI 96 (if 0 < re then hst Hh (re - 1) else S)), (a3, aI yI 1344 Hh)] _ := (hP.sub (ws' := [(mo, oMo 1 a1 a2 a3 re a4 a5 a6 tl a7 a8), (a1, aI yI 96 S), (a3, aI yI 1344 Hh)]) [0, 1, 2] rfl).cv (by simp only [if_neg hq, bI_t hq])
      exact W.iret hx hb hr (fun t ht hW => ⟨⟨iI 0, (), rfl, ⟨congrArg iI (show 0 = if 0 < re then re - 1 else 0 by rw [if_neg hq]), trivial⟩, by show va_P D vwCl _ t.heap; rw [ht]; exact hP9⟩, hS.F ht⟩) hS.2.2 dX5_undo_24
  · refine lv_iconst (v := iI 0) hx hb dX5_undo_8 (by decide +kernel) ?_
    refine lv_goto (tgt := 13) hx hb dX5_undo_9 (by decide) ?_
    refine va_put (D := D) (ci := 5) (v := .int (iI 0)) (ty := .int) (C := RX5) (T := TX5) (N := 11) hx hb hts hinX5 tyX5 tyX5_ok nmX5 hown hK hP hD hS 0 rfl rfl 0 (by decide) hf38 (fun _ h9 => h9) rfl (by decide +kernel) rfl rfl (Nat.le_of_ble_eq_true rfl) dX5_undo_13 (fun H locs hP hD hS => ?_)
    have hP : va_P D vwCl [(mo, oMo 0 a1 a2 a3 re a4 a5 a6 tl a7 a8), (a1, aI yI 96 S), (a3, aI yI 1344 Hh)] H := hP
    have hD : va_D A [(mo, oMo 0 a1 a2 a3 re a4 a5 a6 tl a7 a8), (a1, aI yI 96 S), (a3, aI yI 1344 Hh)] := hD
    refine lv_aload_n hx hb dX5_undo_16 rfl (lv_at hl 0 rfl) ?_
    refine va_get (D := D) (ci := 5) (v := .int (iI 0)) (C := RX5) (T := TX5) (N := 11) hx hb hts hinX5 hown hK hP 0 rfl rfl 0 (by decide) hf38 (fun _ h9 => h9) rfl dX5_undo_17 ?_
    refine iv_if_le (a := 0) (tgt := 25) hx hb (by omega) dX5_undo_20 (by decide) (fun c20 => ?_) (fun c20 => ?_)
    · refine lv_aload_n hx hb dX5_undo_25 rfl (lv_at hl 0 rfl) ?_
      refine lv_dup hx hb dX5_undo_26 rfl ?_
      refine va_get (D := D) (ci := 5) (v := .int (iI re)) (C := RX5) (T := TX5) (N := 11) hx hb hts hinX5 hown hK hP 0 rfl rfl 4 (by decide) hf105 (fun _ h9 => h9) rfl dX5_undo_27 ?_
      refine lv_iconst (v := iI 1) hx hb dX5_undo_30 (by decide +kernel) ?_
      refine iv_sub hx hb dX5_undo_31 ?_
      refine va_put (D := D) (ci := 5) (v := .int (iI (re - 1))) (ty := .int) (C := RX5) (T := TX5) (N := 11) hx hb hts hinX5 tyX5 tyX5_ok nmX5 hown hK hP hD hS 0 rfl rfl 4 (by decide) hf105 (fun _ h9 => h9) rfl (by decide +kernel) rfl rfl (Nat.le_of_ble_eq_true rfl) dX5_undo_32 (fun H locs hP hD hS => ?_)
      have hP : va_P D vwCl [(mo, oMo 0 a1 a2 a3 (re - 1) a4 a5 a6 tl a7 a8), (a1, aI yI 96 S), (a3, aI yI 1344 Hh)] H := hP
      have hD : va_D A [(mo, oMo 0 a1 a2 a3 (re - 1) a4 a5 a6 tl a7 a8), (a1, aI yI 96 S), (a3, aI yI 1344 Hh)] := hD
      refine lv_aload_n hx hb dX5_undo_35 rfl (lv_at hl 0 rfl) ?_
      refine va_get (D := D) (ci := 5) (v := .ref a3) (C := RX5) (T := TX5) (N := 11) hx hb hts hinX5 hown hK hP 0 rfl rfl 3 (by decide) hf16 (fun _ h9 => h9) rfl dX5_undo_36 ?_
      refine lv_aload_n hx hb dX5_undo_39 rfl (lv_at hl 0 rfl) ?_
      refine va_get (D := D) (ci := 5) (v := .int (iI (re - 1))) (C := RX5) (T := TX5) (N := 11) hx hb hts hinX5 hown hK hP 0 rfl rfl 4 (by decide) hf105 (fun _ h9 => h9) rfl dX5_undo_40 ?_
      refine lv_bipush (v := iI 96) hx hb dX5_undo_43 (by decide +kernel) ?_
      refine iv_mul hx hb dX5_undo_45 ?_
      refine lv_aload_n hx hb dX5_undo_46 rfl (lv_at hl 0 rfl) ?_
      refine va_get (D := D) (ci := 5) (v := .ref a1) (C := RX5) (T := TX5) (N := 11) hx hb hts hinX5 hown hK hP 0 rfl rfl 1 (by decide) hf7 (fun _ h9 => h9) rfl dX5_undo_47 ?_
      refine lv_iconst (v := iI 0) hx hb dX5_undo_50 (by decide +kernel) ?_
      refine iv_rwSv (As := [.ref a3, .int (iI ((re - 1) * 96)), .ref a1, .int (iI 0)]) (rest := []) (n := 4) ⟨hx, hb, hml, hown, hts⟩ (c_X5_copy l D yI yC yD a3 a1 1344 96 Hh S ((re - 1) * 96) 0 (by omega) (by omega) (by omega) _) (va_cwS 4 hts gX5_undo_X5_copy rfl rfl rfl (by decide +kernel) ⟨Nat.le_of_ble_eq_true rfl, Nat.le_of_ble_eq_true rfl⟩) hK hP hD hS hA [2, 1] (by decide) rfl rfl hl.1 rfl (Nat.le_of_ble_eq_true rfl) dX5_undo_51 ⟨Nat.zero_le _, Nat.zero_le _⟩ (fun _ => rfl) (fun u51 H locs hw51 hP hD hS => ?_)
      have hP : va_P D vwCl [(mo, oMo 0 a1 a2 a3 (re - 1) a4 a5 a6 tl a7 a8), (a1, aI yI 96 (cpy Hh S ((re - 1) * 96) 0)), (a3, aI yI 1344 Hh)] H := hP
      have hD : va_D A [(mo, oMo 0 a1 a2 a3 (re - 1) a4 a5 a6 tl a7 a8), (a1, aI yI 96 (cpy Hh S ((re - 1) * 96) 0)), (a3, aI yI 1344 Hh)] := hD
      have hP := va_P.arr hP 1 (g := hst Hh (re - 1)) rfl (fun z h1 h2 => cpy_hst h1 h2)
      have hD : va_D A [(mo, oMo 0 a1 a2 a3 (re - 1) a4 a5 a6 tl a7 a8), (a1, aI yI 96 (hst Hh (re - 1))), (a3, aI yI 1344 Hh)] := hD.set (p := 1) rfl
      have hP : va_P D vwCl [(mo, oMo 0 a1 a2 a3 (re - 1) a4 a5 a6 tl a7 a8), (a1, aI yI 96 (hst Hh (re - 1))), (a3, aI yI 1344 Hh)] H := hP
      refine lv_aload_n hx hb dX5_undo_54 rfl (lv_at hl 0 rfl) ?_
      refine va_get (D := D) (ci := 5) (v := .int (iI (re - 1))) (C := RX5) (T := TX5) (N := 11) hx hb hts hinX5 hown hK hP 0 rfl rfl 4 (by decide) hf105 (fun _ h9 => h9) rfl dX5_undo_55 ?_
      have hq : 0 < re := by omega
      have hP9 : va_P D vwCl [(mo, oMo (bI (¬ (0 < re))) a1 a2 a3 (if 0 < re then re - 1 else re) a4 a5 a6 tl a7 a8), (a1, aI yI 96 (if 0 < re then hst Hh (re - 1) else S)), (a3, aI yI 1344 Hh)] _ := (hP.sub (ws' := [(mo, oMo 0 a1 a2 a3 (re - 1) a4 a5 a6 tl a7 a8), (a1, aI yI 96 (hst Hh (re - 1))), (a3, aI yI 1344 Hh)]) [0, 1, 2] rfl).cv (by simp only [if_pos hq, bI_f (not_not_intro hq)])
      exact W.iret hx hb hr (fun t ht hW => ⟨⟨iI (re - 1), (), rfl, ⟨congrArg iI (show re - 1 = if 0 < re then re - 1 else 0 by rw [if_pos hq]), trivial⟩, by show va_P D vwCl _ t.heap; rw [ht]; exact hP9⟩, hS.F ht⟩) hS.2.2 dX5_undo_58
    · exact absurd c20 (by omega)
set_option maxHeartbeats 4000000 in
set_option maxRecDepth 100000 in
theorem c_X5_costs (l : Launch) (D : va_G) (yI yC yD : ClassId) (mo : Nat) (th : Int) (re : Int) (tl : Int) (a1 : Nat) (a2 : Nat) (a3 : Nat) (a4 : Nat) (a5 : Nat) (a6 : Nat) (a7 : Nat) (a8 : Nat) (S : Int → Int) (a : Int) (b : Int) (hI : Inv S) (hab : inR a ∧ inR b) (sz : Nat) : Met l yX5_costs wsX5_costs ({ frames := 3, cells := 0, slots := 0, locals := 68 }) (rwP [.ref mo, .int (iI a), .int (iI b)] D (tyz yI yC yD) [(mo, oMo th a1 a2 a3 re a4 a5 a6 tl a7 a8), (a1, aI yI 96 S)] sz) (va_Qi (fun (r : Int32) (_ : Unit) => r = iI (if whyR S a b = 0 then (if S 1 ≤ b - a + 1 then costOf S a b else -1) else 0) ∧ True) (fun (_ : Unit) (t : State) => va_P D vwCl [(mo, oMo (whyR S a b) a1 a2 a3 re a4 a5 a6 tl a7 a8), (a1, aI yI 96 S)] t.heap) (va_A [(mo, oMo th a1 a2 a3 re a4 a5 a6 tl a7 a8), (a1, aI yI 96 S)] sz)) 0 0 (va_A [(mo, oMo th a1 a2 a3 re a4 a5 a6 tl a7 a8), (a1, aI yI 96 S)] sz) := by
  refine Met.ofW (cc := cX5_costs) (maxL := 3) (ret := (some .int)) (by decide) rfl ?_
  intro p e s m args below meth c s₁ B hml hv
  obtain ⟨rfl, hsz, hP, hK, hD0⟩ := hv
  have hx := B.exec
  have hb := B.bytes
  have hr := B.returns
  have hts := atoms_spec (ws := wsX5_costs) B.pre
  have hown : s.vm.findClass RX5 = some m.cls := findClass_of_methodNamed B.named
  have hlocks := B.notSynchronized
  subst hsz
  have hD := hD0.self (sz := s.heap.size)
  generalize hAe : va_A [(mo, oMo th a1 a2 a3 re a4 a5 a6 tl a7 a8), (a1, aI yI 96 S)] s.heap.size = A at hD ⊢
  have hA : ∀ q : Nat, s.heap.size ≤ q → A q := fun q h => by rw [← hAe]; exact Or.inr h
  have hS : va_S A s.heap s.heap [] := va_S.rf
  have hP : va_P D vwCl [(mo, oMo th a1 a2 a3 re a4 a5 a6 tl a7 a8), (a1, aI yI 96 S)] s.heap := hP
  have hinX5 : ∀ w ∈ wsX50, w ∈ wsX5_costs := by decide +kernel
  have hf38 : (Cond.fieldLink RX5 38 "RiddleDriveModel" "thrown" "I").before _ s = true := hts _ (by decide +kernel)
  have hl := lv_entry ([.ref mo, .int (iI a), .int (iI b)]) (n := 3) (Nat.le_of_ble_eq_true rfl)
  rw [lg_entry_eq]
  generalize (lg_sl ([.ref mo, .int (iI a), .int (iI b)]) ++ List.replicate (3 - (lg_sl ([.ref mo, .int (iI a), .int (iI b)])).length) Slot.unset).toArray = ls at hl ⊢
  have hl : lv_has ls 3 [(0, .ref mo), (1, .int (iI a)), (2, .int (iI b))] := hl
  have hpl := hI.pl
  have hna := hI.na
  have hse := hI.se
  have hwi := hI.wi
  have hwr := whyR_r (S := S) (a := a) (b := b)
  have han := hI.anr
  refine lv_aload_n hx hb dX5_costs_0 rfl (lv_at hl 0 rfl) ?_
  refine lv_aload_n hx hb dX5_costs_1 rfl (lv_at hl 0 rfl) ?_
  refine lv_iload_n hx hb dX5_costs_2 rfl (lv_at hl 1 rfl) ?_
  refine lv_iload_n hx hb dX5_costs_3 rfl (lv_at hl 2 rfl) ?_
  refine iv_roV (As := [.int (iI a), .int (iI b)]) (rest := [.ref mo]) (C := RX5) (n := 2) ⟨hx, hb, hml, hown, hts⟩ (c_X5_whyNoRange l D yI yC yD mo th re tl a1 a2 a3 a4 a5 a6 a7 a8 S a b (by omega) (by omega)) (cwV 2 hts gX5_costs_X5_whyNoRange rfl rfl rfl (by decide +kernel) ⟨Nat.le_of_ble_eq_true rfl, Nat.le_of_ble_eq_true rfl⟩) hK hP [0, 1] rfl 0 rfl rfl rfl hl.1 rfl (Nat.le_of_ble_eq_true rfl) dX5_costs_4 ⟨Nat.zero_le _, Nat.zero_le _⟩ ?_
  refine va_put (D := D) (ci := 5) (v := .int (iI (whyR S a b))) (ty := .int) (C := RX5) (T := TX5) (N := 11) hx hb hts hinX5 tyX5 tyX5_ok nmX5 hown hK hP hD hS 0 rfl rfl 0 (by decide) hf38 (fun _ h9 => h9) rfl (by decide +kernel) rfl rfl (Nat.le_of_ble_eq_true rfl) dX5_costs_7 (fun H locs hP hD hS => ?_)
  have hP : va_P D vwCl [(mo, oMo (whyR S a b) a1 a2 a3 re a4 a5 a6 tl a7 a8), (a1, aI yI 96 S)] H := hP
  have hD : va_D A [(mo, oMo (whyR S a b) a1 a2 a3 re a4 a5 a6 tl a7 a8), (a1, aI yI 96 S)] := hD
  refine lv_aload_n hx hb dX5_costs_10 rfl (lv_at hl 0 rfl) ?_
  refine va_get (D := D) (ci := 5) (v := .int (iI (whyR S a b))) (C := RX5) (T := TX5) (N := 11) hx hb hts hinX5 hown hK hP 0 rfl rfl 0 (by decide) hf38 (fun _ h9 => h9) rfl dX5_costs_11 ?_
  refine iv_if_le (a := whyR S a b) (tgt := 19) hx hb (by omega) dX5_costs_14 (by decide) (fun c14 => ?_) (fun c14 => ?_)
  · have hrr := whyR_0.mp (show whyR S a b = 0 by omega)
    refine lv_aload_n hx hb dX5_costs_19 rfl (lv_at hl 0 rfl) ?_
    refine lv_iload_n hx hb dX5_costs_20 rfl (lv_at hl 1 rfl) ?_
    refine lv_iload_n hx hb dX5_costs_21 rfl (lv_at hl 2 rfl) ?_
    refine iv_roV (As := [.int (iI a), .int (iI b)]) (rest := []) (C := RX5) (n := 2) ⟨hx, hb, hml, hown, hts⟩ (c_X5_isWide l D yI yC yD mo (whyR S a b) re tl a1 a2 a3 a4 a5 a6 a7 a8 S a b (by omega) (by omega)) (cwV 2 hts gX5_costs_X5_isWide rfl rfl rfl (by decide +kernel) ⟨Nat.le_of_ble_eq_true rfl, Nat.le_of_ble_eq_true rfl⟩) hK hP [0, 1] rfl 0 rfl rfl rfl hl.1 rfl (Nat.le_of_ble_eq_true rfl) dX5_costs_22 ⟨Nat.zero_le _, Nat.zero_le _⟩ ?_
    refine iv_ifb_eq (P := S 1 ≤ b - a + 1) (tgt := 37) hx hb dX5_costs_25 (by decide) (fun c25 => ?_) (fun c25 => ?_)
    · refine lv_iconst (v := iI (-1)) hx hb dX5_costs_37 (by decide +kernel) ?_
      have hq : whyR S a b = 0 := by omega
      have hP9 : va_P D vwCl [(mo, oMo (whyR S a b) a1 a2 a3 re a4 a5 a6 tl a7 a8), (a1, aI yI 96 S)] _ := hP.sub [0, 1] rfl
      exact W.iret hx hb hr (fun t ht hW => ⟨⟨iI (-1), (), rfl, ⟨congrArg iI (show -1 = if whyR S a b = 0 then (if S 1 ≤ b - a + 1 then costOf S a b else -1) else 0 by rw [if_pos hq]; (first | rw [if_pos (by omega)] | rw [if_neg (by omega)])), trivial⟩, by show va_P D vwCl _ t.heap; rw [ht]; exact hP9⟩, hS.F ht⟩) hS.2.2 dX5_costs_38
    · refine lv_aload_n hx hb dX5_costs_28 rfl (lv_at hl 0 rfl) ?_
      refine lv_iload_n hx hb dX5_costs_29 rfl (lv_at hl 1 rfl) ?_
      refine lv_iload_n hx hb dX5_costs_30 rfl (lv_at hl 2 rfl) ?_
      refine iv_roV (As := [.int (iI a), .int (iI b)]) (rest := []) (C := RX5) (n := 2) ⟨hx, hb, hml, hown, hts⟩ (c_X5_costOf l D yI yC yD mo (whyR S a b) re tl a1 a2 a3 a4 a5 a6 a7 a8 S a b (by omega) (by omega) (by assumption)) (cwV 2 hts gX5_costs_X5_costOf rfl rfl rfl (by decide +kernel) ⟨Nat.le_of_ble_eq_true rfl, Nat.le_of_ble_eq_true rfl⟩) hK hP [0, 1] rfl 0 rfl rfl rfl hl.1 rfl (Nat.le_of_ble_eq_true rfl) dX5_costs_31 ⟨Nat.zero_le _, Nat.zero_le _⟩ ?_
      refine lv_goto (tgt := 38) hx hb dX5_costs_34 (by decide) ?_
      have hq : whyR S a b = 0 := by omega
      have hP9 : va_P D vwCl [(mo, oMo (whyR S a b) a1 a2 a3 re a4 a5 a6 tl a7 a8), (a1, aI yI 96 S)] _ := hP.sub [0, 1] rfl
      exact W.iret hx hb hr (fun t ht hW => ⟨⟨iI (costOf S a b), (), rfl, ⟨congrArg iI (show costOf S a b = if whyR S a b = 0 then (if S 1 ≤ b - a + 1 then costOf S a b else -1) else 0 by rw [if_pos hq]; (first | rw [if_pos (by omega)] | rw [if_neg (by omega)])), trivial⟩, by show va_P D vwCl _ t.heap; rw [ht]; exact hP9⟩, hS.F ht⟩) hS.2.2 dX5_costs_38
  · refine lv_iconst (v := iI 0) hx hb dX5_costs_17 (by decide +kernel) ?_
    have hq : ¬ (whyR S a b = 0) := by omega
    have hP9 : va_P D vwCl [(mo, oMo (whyR S a b) a1 a2 a3 re a4 a5 a6 tl a7 a8), (a1, aI yI 96 S)] _ := hP.sub [0, 1] rfl
    exact W.iret hx hb hr (fun t ht hW => ⟨⟨iI 0, (), rfl, ⟨congrArg iI (show 0 = if whyR S a b = 0 then (if S 1 ≤ b - a + 1 then costOf S a b else -1) else 0 by rw [if_neg hq]), trivial⟩, by show va_P D vwCl _ t.heap; rw [ht]; exact hP9⟩, hS.F ht⟩) hS.2.2 dX5_costs_18
