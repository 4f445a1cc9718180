set_option maxHeartbeats 4000000 in
set_option maxRecDepth 100000 in
theorem c_X4_checkPlace_ok (l : Launch) (D : va_G) (yI yC yD : ClassId) (x : Nat) (tx : Nat) (nw : Nat) (tr : Nat) (kn : Nat) (me : Nat) (sl : Nat) (nc : Nat) (S : Int → Int) (g : Int → Int) (i : Int) (hI : Inv S) (hi9 : inR i) (hpl9 : 0 ≤ i ∧ i < S 0) (sz : Nat) : Met l yX4_checkPlace wsX4_checkPlace ({ frames := 1, cells := 0, slots := 0, locals := 21 }) (rwP [.ref x, .int (iI i)] D (tyz yI yC yD) [(x, oRD tx nw tr kn me sl), (nw, oDrv nc S (lN (kL (S) 0 40))), (nc, aI yI 48 g)] sz) (va_Qv (fun (_ : Unit) => True) (fun (_ : Unit) (t : State) => va_P D vwCl [(x, oRD tx nw tr kn me sl), (nw, oDrv nc S (lN (kL (S) 0 40))), (nc, aI yI 48 g)] t.heap) (va_A [(x, oRD tx nw tr kn me sl), (nw, oDrv nc S (lN (kL (S) 0 40))), (nc, aI yI 48 g)] sz)) 0 0 (va_A [(x, oRD tx nw tr kn me sl), (nw, oDrv nc S (lN (kL (S) 0 40))), (nc, aI yI 48 g)] sz) := by
  refine Met.ofW (cc := cX4_checkPlace) (maxL := 2) (ret := none) (by decide) rfl ?_
  intro p e s m args below meth c s₁ B hml hv
  obtain ⟨rfl, hsz, hP, hK, hD0⟩ := hv
  have hx := B.exec
  have hb := B.bytes
  have hr := B.returns
  have hts := atoms_spec (ws := wsX4_checkPlace) B.pre
  have hown : s.vm.findClass RX4 = some m.cls := findClass_of_methodNamed B.named
  have hlocks := B.notSynchronized
  subst hsz
  have hD := hD0.self (sz := s.heap.size)
  generalize hAe : va_A [(x, oRD tx nw tr kn me sl), (nw, oDrv nc S (lN (kL (S) 0 40))), (nc, aI yI 48 g)] s.heap.size = A at hD ⊢
  have hA : ∀ q : Nat, s.heap.size ≤ q → A q := fun q h => by rw [← hAe]; exact Or.inr h
  have hS : va_S A s.heap s.heap [] := va_S.rf
  have hP : va_P D vwCl [(x, oRD tx nw tr kn me sl), (nw, oDrv nc S (lN (kL (S) 0 40))), (nc, aI yI 48 g)] s.heap := hP
  have hinX4 : ∀ w ∈ wsX40, w ∈ wsX4_checkPlace := by decide +kernel
  have hf19 : (Cond.fieldLink RX4 19 "RiddleDrive" "now" "LRiddleDrive$Drive;").before _ s = true := hts _ (by decide +kernel)
  have hl := lv_entry ([.ref x, .int (iI i)]) (n := 2) (Nat.le_of_ble_eq_true rfl)
  rw [lg_entry_eq]
  generalize (lg_sl ([.ref x, .int (iI i)]) ++ List.replicate (2 - (lg_sl ([.ref x, .int (iI i)])).length) Slot.unset).toArray = ls at hl ⊢
  have hl : lv_has ls 2 [(0, .ref x), (1, .int (iI i))] := hl
  have hpl := hI.pl
  have hna := hI.na
  have hse := hI.se
  have hwi := hI.wi
  have hfe := hI.fe
  refine lv_aload_n hx hb dX4_checkPlace_0 rfl (lv_at hl 0 rfl) ?_
  refine va_get (D := D) (ci := 4) (v := .ref nw) (C := RX4) (T := TX4) (N := 6) hx hb hts hinX4 hown hK hP 0 rfl rfl 1 (by decide) hf19 (fun _ h9 => h9) rfl dX4_checkPlace_1 ?_
  refine lv_iload_n hx hb dX4_checkPlace_4 rfl (lv_at hl 1 rfl) ?_
  refine iv_roV (As := [.int (iI i)]) (rest := []) (C := RX0) (n := 1) ⟨hx, hb, hml, hown, hts⟩ (c_X0_isPlace l D yI yC yD nw nc S g (lN (kL (S) 0 40)) i (by omega) (by omega)) (cwV 1 hts gX4_checkPlace_X0_isPlace rfl rfl rfl (by decide +kernel) ⟨Nat.le_of_ble_eq_true rfl, Nat.le_of_ble_eq_true rfl⟩) hK hP [1, 2] rfl 1 rfl rfl rfl hl.1 rfl (Nat.le_of_ble_eq_true rfl) dX4_checkPlace_5 ⟨Nat.zero_le _, Nat.zero_le _⟩ ?_
  refine iv_ifb_ne (P := 0 ≤ i ∧ i < S 0) (tgt := 21) hx hb dX4_checkPlace_8 (by decide) (fun c8 => ?_) (fun c8 => ?_)
  · have hP9 : va_P D vwCl [(x, oRD tx nw tr kn me sl), (nw, oDrv nc S (lN (kL (S) 0 40))), (nc, aI yI 48 g)] _ := hP.sub [0, 1, 2] rfl
    exact W.vret hx hb hr (fun t ht hW => ⟨⟨(), rfl, trivial, by show va_P D vwCl _ t.heap; rw [ht]; exact hP9⟩, hS.F ht⟩) hS.2.2 dX4_checkPlace_21
  · exact absurd hpl9 c8
set_option maxHeartbeats 4000000 in
set_option maxRecDepth 100000 in
theorem c_X4_checkRange_ok (l : Launch) (D : va_G) (yI yC yD : ClassId) (x : Nat) (tx : Nat) (nw : Nat) (tr : Nat) (kn : Nat) (me : Nat) (sl : Nat) (nc : Nat) (S : Int → Int) (g : Int → Int) (a : Int) (b : Int) (hI : Inv S) (hab9 : inR a ∧ inR b) (hab : 0 ≤ a ∧ a ≤ b ∧ b < S 0) (sz : Nat) : Met l yX4_checkRange wsX4_checkRange ({ frames := 2, cells := 0, slots := 0, locals := 42 }) (rwP [.ref x, .int (iI a), .int (iI b)] D (tyz yI yC yD) [(x, oRD tx nw tr kn me sl), (nw, oDrv nc S (lN (kL (S) 0 40))), (nc, aI yI 48 g)] sz) (va_Qv (fun (_ : Unit) => True) (fun (_ : Unit) (t : State) => va_P D vwCl [(x, oRD tx nw tr kn me sl), (nw, oDrv nc S (lN (kL (S) 0 40))), (nc, aI yI 48 g)] t.heap) (va_A [(x, oRD tx nw tr kn me sl), (nw, oDrv nc S (lN (kL (S) 0 40))), (nc, aI yI 48 g)] sz)) 0 0 (va_A [(x, oRD tx nw tr kn me sl), (nw, oDrv nc S (lN (kL (S) 0 40))), (nc, aI yI 48 g)] sz) := by
  refine Met.ofW (cc := cX4_checkRange) (maxL := 3) (ret := none) (by decide) rfl ?_
  intro p e s m args below meth c s₁ B hml hv
  obtain ⟨rfl, hsz, hP, hK, hD0⟩ := hv
  have hx := B.exec
  have hb := B.bytes
  have hr := B.returns
  have hts := atoms_spec (ws := wsX4_checkRange) B.pre
  have hown : s.vm.findClass RX4 = some m.cls := findClass_of_methodNamed B.named
  have hlocks := B.notSynchronized
  subst hsz
  have hD := hD0.self (sz := s.heap.size)
  generalize hAe : va_A [(x, oRD tx nw tr kn me sl), (nw, oDrv nc S (lN (kL (S) 0 40))), (nc, aI yI 48 g)] s.heap.size = A at hD ⊢
  have hA : ∀ q : Nat, s.heap.size ≤ q → A q := fun q h => by rw [← hAe]; exact Or.inr h
  have hS : va_S A s.heap s.heap [] := va_S.rf
  have hP : va_P D vwCl [(x, oRD tx nw tr kn me sl), (nw, oDrv nc S (lN (kL (S) 0 40))), (nc, aI yI 48 g)] s.heap := hP
  have hl := lv_entry ([.ref x, .int (iI a), .int (iI b)]) (n := 3) (Nat.le_of_ble_eq_true rfl)
  rw [lg_entry_eq]
  generalize (lg_sl ([.ref x, .int (iI a), .int (iI b)]) ++ List.replicate (3 - (lg_sl ([.ref x, .int (iI a), .int (iI b)])).length) Slot.unset).toArray = ls at hl ⊢
  have hl : lv_has ls 3 [(0, .ref x), (1, .int (iI a)), (2, .int (iI b))] := hl
  have hpl := hI.pl
  have hna := hI.na
  have hse := hI.se
  have hwi := hI.wi
  have hfe := hI.fe
  refine lv_aload_n hx hb dX4_checkRange_0 rfl (lv_at hl 0 rfl) ?_
  refine lv_iload_n hx hb dX4_checkRange_1 rfl (lv_at hl 1 rfl) ?_
  refine iv_rwVv (As := [.int (iI a)]) (rest := []) (C := RX4) (n := 1) ⟨hx, hb, hml, hown, hts⟩ (c_X4_checkPlace_ok l D yI yC yD x tx nw tr kn me sl nc S g a (by assumption) ((⟨by omega, by omega⟩)) (by omega) _) (cwV 1 hts gX4_checkRange_X4_checkPlace rfl rfl rfl (by decide +kernel) ⟨Nat.le_of_ble_eq_true rfl, Nat.le_of_ble_eq_true rfl⟩) hK hP hD hS hA [0, 1, 2] (by decide) rfl 0 rfl rfl rfl hl.1 rfl (Nat.le_of_ble_eq_true rfl) dX4_checkRange_2 ⟨Nat.zero_le _, Nat.zero_le _⟩ (fun _ => rfl) (fun u2 H locs hw2 hP hD hS => ?_)
  have hP : va_P D vwCl [(x, oRD tx nw tr kn me sl), (nw, oDrv nc S (lN (kL (S) 0 40))), (nc, aI yI 48 g)] H := hP
  have hD : va_D A [(x, oRD tx nw tr kn me sl), (nw, oDrv nc S (lN (kL (S) 0 40))), (nc, aI yI 48 g)] := hD
  refine lv_aload_n hx hb dX4_checkRange_5 rfl (lv_at hl 0 rfl) ?_
  refine lv_iload_n hx hb dX4_checkRange_6 rfl (lv_at hl 2 rfl) ?_
  refine iv_rwVv (As := [.int (iI b)]) (rest := []) (C := RX4) (n := 1) ⟨hx, hb, hml, hown, hts⟩ (c_X4_checkPlace_ok l D yI yC yD x tx nw tr kn me sl nc S g b (by assumption) ((⟨by omega, by omega⟩)) (by omega) _) (cwV 1 hts gX4_checkRange_X4_checkPlace rfl rfl rfl (by decide +kernel) ⟨Nat.le_of_ble_eq_true rfl, Nat.le_of_ble_eq_true rfl⟩) hK hP hD hS hA [0, 1, 2] (by decide) rfl 0 rfl rfl rfl hl.1 rfl (Nat.le_of_ble_eq_true rfl) dX4_checkRange_7 ⟨Nat.zero_le _, Nat.zero_le _⟩ (fun _ => rfl) (fun u7 H locs hw7 hP hD hS => ?_)
  have hP : va_P D vwCl [(x, oRD tx nw tr kn me sl), (nw, oDrv nc S (lN (kL (S) 0 40))), (nc, aI yI 48 g)] H := hP
  have hD : va_D A [(x, oRD tx nw tr kn me sl), (nw, oDrv nc S (lN (kL (S) 0 40))), (nc, aI yI 48 g)] := hD
  refine lv_iload_n hx hb dX4_checkRange_10 rfl (lv_at hl 2 rfl) ?_
  refine lv_iload_n hx hb dX4_checkRange_11 rfl (lv_at hl 1 rfl) ?_
  refine iv_icmp_ge (a := b) (b := a) (tgt := 25) hx hb (by omega) (by omega) dX4_checkRange_12 (by decide) (fun c12 => ?_) (fun c12 => ?_)
  · have hP9 : va_P D vwCl [(x, oRD tx nw tr kn me sl), (nw, oDrv nc S (lN (kL (S) 0 40))), (nc, aI yI 48 g)] _ := hP.sub [0, 1, 2] rfl
    exact W.vret hx hb hr (fun t ht hW => ⟨⟨(), rfl, trivial, by show va_P D vwCl _ t.heap; rw [ht]; exact hP9⟩, hS.F ht⟩) hS.2.2 dX4_checkRange_25
  · exact absurd c12 (by omega)
set_option maxHeartbeats 4000000 in
set_option maxRecDepth 100000 in
theorem c_X4_checkAnswer_ok (l : Launch) (D : va_G) (yI yC yD : ClassId) (x : Nat) (tx : Nat) (nw : Nat) (tr : Nat) (kn : Nat) (me : Nat) (sl : Nat) (nc : Nat) (S : Int → Int) (g : Int → Int) (i : Int) (hI : Inv S) (hi9 : inR i) (hpa9 : 0 ≤ i ∧ i < S 4) (sz : Nat) : Met l yX4_checkAnswer wsX4_checkAnswer ({ frames := 1, cells := 0, slots := 0, locals := 21 }) (rwP [.ref x, .int (iI i)] D (tyz yI yC yD) [(x, oRD tx nw tr kn me sl), (nw, oDrv nc S (lN (kL (S) 0 40))), (nc, aI yI 48 g)] sz) (va_Qv (fun (_ : Unit) => True) (fun (_ : Unit) (t : State) => va_P D vwCl [(x, oRD tx nw tr kn me sl), (nw, oDrv nc S (lN (kL (S) 0 40))), (nc, aI yI 48 g)] t.heap) (va_A [(x, oRD tx nw tr kn me sl), (nw, oDrv nc S (lN (kL (S) 0 40))), (nc, aI yI 48 g)] sz)) 0 0 (va_A [(x, oRD tx nw tr kn me sl), (nw, oDrv nc S (lN (kL (S) 0 40))), (nc, aI yI 48 g)] sz) := by
  refine Met.ofW (cc := cX4_checkAnswer) (maxL := 2) (ret := none) (by decide) rfl ?_
  intro p e s m args below meth c s₁ B hml hv
  obtain ⟨rfl, hsz, hP, hK, hD0⟩ := hv
  have hx := B.exec
  have hb := B.bytes
  have hr := B.returns
  have hts := atoms_spec (ws := wsX4_checkAnswer) B.pre
  have hown : s.vm.findClass RX4 = some m.cls := findClass_of_methodNamed B.named
  have hlocks := B.notSynchronized
  subst hsz
  have hD := hD0.self (sz := s.heap.size)
  generalize hAe : va_A [(x, oRD tx nw tr kn me sl), (nw, oDrv nc S (lN (kL (S) 0 40))), (nc, aI yI 48 g)] s.heap.size = A at hD ⊢
  have hA : ∀ q : Nat, s.heap.size ≤ q → A q := fun q h => by rw [← hAe]; exact Or.inr h
  have hS : va_S A s.heap s.heap [] := va_S.rf
  have hP : va_P D vwCl [(x, oRD tx nw tr kn me sl), (nw, oDrv nc S (lN (kL (S) 0 40))), (nc, aI yI 48 g)] s.heap := hP
  have hinX4 : ∀ w ∈ wsX40, w ∈ wsX4_checkAnswer := by decide +kernel
  have hf19 : (Cond.fieldLink RX4 19 "RiddleDrive" "now" "LRiddleDrive$Drive;").before _ s = true := hts _ (by decide +kernel)
  have hl := lv_entry ([.ref x, .int (iI i)]) (n := 2) (Nat.le_of_ble_eq_true rfl)
  rw [lg_entry_eq]
  generalize (lg_sl ([.ref x, .int (iI i)]) ++ List.replicate (2 - (lg_sl ([.ref x, .int (iI i)])).length) Slot.unset).toArray = ls at hl ⊢
  have hl : lv_has ls 2 [(0, .ref x), (1, .int (iI i))] := hl
  have hpl := hI.pl
  have hna := hI.na
  have hse := hI.se
  have hwi := hI.wi
  have hfe := hI.fe
  refine lv_aload_n hx hb dX4_checkAnswer_0 rfl (lv_at hl 0 rfl) ?_
  refine va_get (D := D) (ci := 4) (v := .ref nw) (C := RX4) (T := TX4) (N := 6) hx hb hts hinX4 hown hK hP 0 rfl rfl 1 (by decide) hf19 (fun _ h9 => h9) rfl dX4_checkAnswer_1 ?_
  refine lv_iload_n hx hb dX4_checkAnswer_4 rfl (lv_at hl 1 rfl) ?_
  refine iv_roV (As := [.int (iI i)]) (rest := []) (C := RX0) (n := 1) ⟨hx, hb, hml, hown, hts⟩ (c_X0_isAnswer l D yI yC yD nw nc S g (lN (kL (S) 0 40)) i (by omega) (by omega)) (cwV 1 hts gX4_checkAnswer_X0_isAnswer rfl rfl rfl (by decide +kernel) ⟨Nat.le_of_ble_eq_true rfl, Nat.le_of_ble_eq_true rfl⟩) hK hP [1, 2] rfl 1 rfl rfl rfl hl.1 rfl (Nat.le_of_ble_eq_true rfl) dX4_checkAnswer_5 ⟨Nat.zero_le _, Nat.zero_le _⟩ ?_
  refine iv_ifb_ne (P := 0 ≤ i ∧ i < S 4) (tgt := 22) hx hb dX4_checkAnswer_8 (by decide) (fun c8 => ?_) (fun c8 => ?_)
  · have hP9 : va_P D vwCl [(x, oRD tx nw tr kn me sl), (nw, oDrv nc S (lN (kL (S) 0 40))), (nc, aI yI 48 g)] _ := hP.sub [0, 1, 2] rfl
    exact W.vret hx hb hr (fun t ht hW => ⟨⟨(), rfl, trivial, by show va_P D vwCl _ t.heap; rw [ht]; exact hP9⟩, hS.F ht⟩) hS.2.2 dX4_checkAnswer_22
  · exact absurd hpa9 c8
set_option maxHeartbeats 4000000 in
set_option maxRecDepth 100000 in
theorem c_X4_about_ok (l : Launch) (D : va_G) (yI yC yD : ClassId) (x : Nat) (tx : Nat) (nw : Nat) (tr : Nat) (kn : Nat) (me : Nat) (sl : Nat) (nc : Nat) (S : Int → Int) (g : Int → Int) (ex : Nat) (pl : Int) (E : Int → Int) (w : Int) (hI : Inv S) (hR : Rc S g) (hw9 : inR w) (hk9 : 0 ≤ w ∧ w ≤ 9) (sz : Nat) : Met l yX4_about wsX4_about ({ frames := 4, cells := 0, slots := 0, locals := 99 }) (rwP [.ref x, .int (iI w)] D (tyz yI yC yD) [(x, oRD tx nw tr kn me sl), (nw, oDrv nc S (lN (kL (S) 0 40))), (nc, aI yI 48 g), (kn, oKn pl ex), (ex, aI yI 1681 E)] sz) (va_Qi (fun (r : Int32) (u : Int × (Int → Int)) => match u with | (p9, E9) => r = iI (abt S w) ∧ True) (fun (u : Int × (Int → Int)) (t : State) => match u with | (p9, E9) => va_P D vwCl [(x, oRD tx nw tr kn me sl), (nw, oDrv nc S (lN (kL (S) 0 40))), (nc, aI yI 48 g), (kn, oKn p9 ex), (ex, aI yI 1681 E9)] t.heap) (va_A [(x, oRD tx nw tr kn me sl), (nw, oDrv nc S (lN (kL (S) 0 40))), (nc, aI yI 48 g), (kn, oKn pl ex), (ex, aI yI 1681 E)] sz)) 0 0 (va_A [(x, oRD tx nw tr kn me sl), (nw, oDrv nc S (lN (kL (S) 0 40))), (nc, aI yI 48 g), (kn, oKn pl ex), (ex, aI yI 1681 E)] sz) := by
  refine Met.ofW (cc := cX4_about) (maxL := 2) (ret := (some .int)) (by decide) rfl ?_
  intro p e s m args below meth c s₁ B hml hv
  obtain ⟨rfl, hsz, hP, hK, hD0⟩ := hv
  have hx := B.exec
  have hb := B.bytes
  have hr := B.returns
  have hts := atoms_spec (ws := wsX4_about) B.pre
  have hown : s.vm.findClass RX4 = some m.cls := findClass_of_methodNamed B.named
  have hlocks := B.notSynchronized
  subst hsz
  have hD := hD0.self (sz := s.heap.size)
  generalize hAe : va_A [(x, oRD tx nw tr kn me sl), (nw, oDrv nc S (lN (kL (S) 0 40))), (nc, aI yI 48 g), (kn, oKn pl ex), (ex, aI yI 1681 E)] s.heap.size = A at hD ⊢
  have hA : ∀ q : Nat, s.heap.size ≤ q → A q := fun q h => by rw [← hAe]; exact Or.inr h
  have hS : va_S A s.heap s.heap [] := va_S.rf
  have hP : va_P D vwCl [(x, oRD tx nw tr kn me sl), (nw, oDrv nc S (lN (kL (S) 0 40))), (nc, aI yI 48 g), (kn, oKn pl ex), (ex, aI yI 1681 E)] s.heap := hP
  have hinX0 : ∀ w ∈ wsX00, w ∈ wsX4_about := by decide +kernel
  have hinX4 : ∀ w ∈ wsX40, w ∈ wsX4_about := by decide +kernel
  have hf19 : (Cond.fieldLink RX4 19 "RiddleDrive" "now" "LRiddleDrive$Drive;").before _ s = true := hts _ (by decide +kernel)
  have hf29 : (Cond.fieldLink RX4 29 "RiddleDrive" "knowledge" "LRiddleDrive$Knowledge;").before _ s = true := hts _ (by decide +kernel)
  have hf91 : (Cond.fieldLink RX4 91 "RiddleDrive$Drive" "places" "I").before _ s = true := hts _ (by decide +kernel)
  have hf98 : (Cond.fieldLink RX4 98 "RiddleDrive$Drive" "width" "I").before _ s = true := hts _ (by decide +kernel)
  have hf101 : (Cond.fieldLink RX4 101 "RiddleDrive$Drive" "secrecy" "I").before _ s = true := hts _ (by decide +kernel)
  have hf104 : (Cond.fieldLink RX4 104 "RiddleDrive$Drive" "fee" "I").before _ s = true := hts _ (by decide +kernel)
  have hf107 : (Cond.fieldLink RX4 107 "RiddleDrive$Drive" "answers" "I").before _ s = true := hts _ (by decide +kernel)
  have hf110 : (Cond.fieldLink RX4 110 "RiddleDrive$Drive" "paid" "I").before _ s = true := hts _ (by decide +kernel)
  have hf113 : (Cond.fieldLink RX4 113 "RiddleDrive$Drive" "asked" "I").before _ s = true := hts _ (by decide +kernel)
  have hf116 : (Cond.fieldLink RX4 116 "RiddleDrive$Drive" "forgotten" "I").before _ s = true := hts _ (by decide +kernel)
  have hl := lv_entry ([.ref x, .int (iI w)]) (n := 2) (Nat.le_of_ble_eq_true rfl)
  rw [lg_entry_eq]
  generalize (lg_sl ([.ref x, .int (iI w)]) ++ List.replicate (2 - (lg_sl ([.ref x, .int (iI w)])).length) Slot.unset).toArray = ls at hl ⊢
  have hl : lv_has ls 2 [(0, .ref x), (1, .int (iI w))] := hl
  have hpl := hI.pl
  have hna := hI.na
  have hse := hI.se
  have hwi := hI.wi
  have hfe := hI.fe
  refine lv_iload_n hx hb dX4_about_0 rfl (lv_at hl 1 rfl) ?_
  have hsw : (iI w).toInt = w := iI_toInt (by omega)
  rcases (show w < 0 ∨ 9 < w ∨ w = 0 ∨ w = 1 ∨ w = 2 ∨ w = 3 ∨ w = 4 ∨ w = 5 ∨ w = 6 ∨ w = 7 ∨ w = 8 ∨ w = 9 by omega) with csw | csw | csw | csw | csw | csw | csw | csw | csw | csw | csw | csw
  · exact absurd csw (by omega)
  · exact absurd csw (by omega)
  · refine lv_tableIn (off := 55) (tgt := 56) hx hb dX4_about_1 (by rw [hsw]; omega) (by rw [hsw]; omega) (by rw [hsw, csw]; rfl) (by decide) ?_
    refine lv_aload_n hx hb dX4_about_56 rfl (lv_at hl 0 rfl) ?_
    refine va_get (D := D) (ci := 4) (v := .ref nw) (C := RX4) (T := TX4) (N := 6) hx hb hts hinX4 hown hK hP 0 rfl rfl 1 (by decide) hf19 (fun _ h9 => h9) rfl dX4_about_57 ?_
    refine va_get (D := D) (ci := 0) (v := .int (iI (S 0))) (C := RX0) (T := TX0) (N := 10) hx hb hts hinX0 hown hK hP 1 rfl rfl 0 (by decide) hf91 (fun _ h9 => h9) rfl dX4_about_60 ?_
    have hP9 : va_P D vwCl [(x, oRD tx nw tr kn me sl), (nw, oDrv nc S (lN (kL (S) 0 40))), (nc, aI yI 48 g), (kn, oKn pl ex), (ex, aI yI 1681 E)] _ := hP.sub [0, 1, 2, 3, 4] rfl
    exact W.iret hx hb hr (fun t ht hW => ⟨⟨iI (S 0), (pl, E), rfl, ⟨congrArg iI (show S 0 = abt S w by rw [csw]; rfl), trivial⟩, by show va_P D vwCl _ t.heap; rw [ht]; exact hP9⟩, hS.F ht⟩) hS.2.2 dX4_about_63
  · refine lv_tableIn (off := 63) (tgt := 64) hx hb dX4_about_1 (by rw [hsw]; omega) (by rw [hsw]; omega) (by rw [hsw, csw]; rfl) (by decide) ?_
    refine lv_aload_n hx hb dX4_about_64 rfl (lv_at hl 0 rfl) ?_
    refine va_get (D := D) (ci := 4) (v := .ref nw) (C := RX4) (T := TX4) (N := 6) hx hb hts hinX4 hown hK hP 0 rfl rfl 1 (by decide) hf19 (fun _ h9 => h9) rfl dX4_about_65 ?_
    refine iv_roV (As := []) (rest := []) (C := RX0) (n := 0) ⟨hx, hb, hml, hown, hts⟩ (c_X0_countKeys l D yI yC yD nw nc S g (by assumption)) (cwV 0 hts gX4_about_X0_countKeys rfl rfl rfl (by decide +kernel) ⟨Nat.le_of_ble_eq_true rfl, Nat.le_of_ble_eq_true rfl⟩) hK hP [1, 2] rfl 1 rfl rfl rfl hl.1 rfl (Nat.le_of_ble_eq_true rfl) dX4_about_68 ⟨Nat.zero_le _, Nat.zero_le _⟩ ?_
    have hP9 : va_P D vwCl [(x, oRD tx nw tr kn me sl), (nw, oDrv nc S (lN (kL (S) 0 40))), (nc, aI yI 48 g), (kn, oKn pl ex), (ex, aI yI 1681 E)] _ := hP.sub [0, 1, 2, 3, 4] rfl
    exact W.iret hx hb hr (fun t ht hW => ⟨⟨iI (keysIn S 0 (S 0 - 1)), (pl, E), rfl, ⟨congrArg iI (show keysIn S 0 (S 0 - 1) = abt S w by rw [csw]; rfl), trivial⟩, by show va_P D vwCl _ t.heap; rw [ht]; exact hP9⟩, hS.F ht⟩) hS.2.2 dX4_about_71
  · refine lv_tableIn (off := 71) (tgt := 72) hx hb dX4_about_1 (by rw [hsw]; omega) (by rw [hsw]; omega) (by rw [hsw, csw]; rfl) (by decide) ?_
    refine lv_aload_n hx hb dX4_about_72 rfl (lv_at hl 0 rfl) ?_
    refine va_get (D := D) (ci := 4) (v := .ref nw) (C := RX4) (T := TX4) (N := 6) hx hb hts hinX4 hown hK hP 0 rfl rfl 1 (by decide) hf19 (fun _ h9 => h9) rfl dX4_about_73 ?_
    refine va_get (D := D) (ci := 0) (v := .int (iI (S 1))) (C := RX0) (T := TX0) (N := 10) hx hb hts hinX0 hown hK hP 1 rfl rfl 1 (by decide) hf98 (fun _ h9 => h9) rfl dX4_about_76 ?_
    have hP9 : va_P D vwCl [(x, oRD tx nw tr kn me sl), (nw, oDrv nc S (lN (kL (S) 0 40))), (nc, aI yI 48 g), (kn, oKn pl ex), (ex, aI yI 1681 E)] _ := hP.sub [0, 1, 2, 3, 4] rfl
    exact W.iret hx hb hr (fun t ht hW => ⟨⟨iI (S 1), (pl, E), rfl, ⟨congrArg iI (show S 1 = abt S w by rw [csw]; rfl), trivial⟩, by show va_P D vwCl _ t.heap; rw [ht]; exact hP9⟩, hS.F ht⟩) hS.2.2 dX4_about_79
  · refine lv_tableIn (off := 79) (tgt := 80) hx hb dX4_about_1 (by rw [hsw]; omega) (by rw [hsw]; omega) (by rw [hsw, csw]; rfl) (by decide) ?_
    refine lv_aload_n hx hb dX4_about_80 rfl (lv_at hl 0 rfl) ?_
    refine va_get (D := D) (ci := 4) (v := .ref nw) (C := RX4) (T := TX4) (N := 6) hx hb hts hinX4 hown hK hP 0 rfl rfl 1 (by decide) hf19 (fun _ h9 => h9) rfl dX4_about_81 ?_
    refine va_get (D := D) (ci := 0) (v := .int (iI (S 2))) (C := RX0) (T := TX0) (N := 10) hx hb hts hinX0 hown hK hP 1 rfl rfl 2 (by decide) hf101 (fun _ h9 => h9) rfl dX4_about_84 ?_
    have hP9 : va_P D vwCl [(x, oRD tx nw tr kn me sl), (nw, oDrv nc S (lN (kL (S) 0 40))), (nc, aI yI 48 g), (kn, oKn pl ex), (ex, aI yI 1681 E)] _ := hP.sub [0, 1, 2, 3, 4] rfl
    exact W.iret hx hb hr (fun t ht hW => ⟨⟨iI (S 2), (pl, E), rfl, ⟨congrArg iI (show S 2 = abt S w by rw [csw]; rfl), trivial⟩, by show va_P D vwCl _ t.heap; rw [ht]; exact hP9⟩, hS.F ht⟩) hS.2.2 dX4_about_87
  · refine lv_tableIn (off := 87) (tgt := 88) hx hb dX4_about_1 (by rw [hsw]; omega) (by rw [hsw]; omega) (by rw [hsw, csw]; rfl) (by decide) ?_
    refine lv_aload_n hx hb dX4_about_88 rfl (lv_at hl 0 rfl) ?_
    refine va_get (D := D) (ci := 4) (v := .ref nw) (C := RX4) (T := TX4) (N := 6) hx hb hts hinX4 hown hK hP 0 rfl rfl 1 (by decide) hf19 (fun _ h9 => h9) rfl dX4_about_89 ?_
    refine va_get (D := D) (ci := 0) (v := .int (iI (S 3))) (C := RX0) (T := TX0) (N := 10) hx hb hts hinX0 hown hK hP 1 rfl rfl 3 (by decide) hf104 (fun _ h9 => h9) rfl dX4_about_92 ?_
    have hP9 : va_P D vwCl [(x, oRD tx nw tr kn me sl), (nw, oDrv nc S (lN (kL (S) 0 40))), (nc, aI yI 48 g), (kn, oKn pl ex), (ex, aI yI 1681 E)] _ := hP.sub [0, 1, 2, 3, 4] rfl
    exact W.iret hx hb hr (fun t ht hW => ⟨⟨iI (S 3), (pl, E), rfl, ⟨congrArg iI (show S 3 = abt S w by rw [csw]; rfl), trivial⟩, by show va_P D vwCl _ t.heap; rw [ht]; exact hP9⟩, hS.F ht⟩) hS.2.2 dX4_about_95
  · refine lv_tableIn (off := 95) (tgt := 96) hx hb dX4_about_1 (by rw [hsw]; omega) (by rw [hsw]; omega) (by rw [hsw, csw]; rfl) (by decide) ?_
    refine lv_aload_n hx hb dX4_about_96 rfl (lv_at hl 0 rfl) ?_
    refine va_get (D := D) (ci := 4) (v := .ref nw) (C := RX4) (T := TX4) (N := 6) hx hb hts hinX4 hown hK hP 0 rfl rfl 1 (by decide) hf19 (fun _ h9 => h9) rfl dX4_about_97 ?_
    refine va_get (D := D) (ci := 0) (v := .int (iI (S 4))) (C := RX0) (T := TX0) (N := 10) hx hb hts hinX0 hown hK hP 1 rfl rfl 4 (by decide) hf107 (fun _ h9 => h9) rfl dX4_about_100 ?_
    have hP9 : va_P D vwCl [(x, oRD tx nw tr kn me sl), (nw, oDrv nc S (lN (kL (S) 0 40))), (nc, aI yI 48 g), (kn, oKn pl ex), (ex, aI yI 1681 E)] _ := hP.sub [0, 1, 2, 3, 4] rfl
    exact W.iret hx hb hr (fun t ht hW => ⟨⟨iI (S 4), (pl, E), rfl, ⟨congrArg iI (show S 4 = abt S w by rw [csw]; rfl), trivial⟩, by show va_P D vwCl _ t.heap; rw [ht]; exact hP9⟩, hS.F ht⟩) hS.2.2 dX4_about_103
  · refine lv_tableIn (off := 103) (tgt := 104) hx hb dX4_about_1 (by rw [hsw]; omega) (by rw [hsw]; omega) (by rw [hsw, csw]; rfl) (by decide) ?_
    refine lv_aload_n hx hb dX4_about_104 rfl (lv_at hl 0 rfl) ?_
    refine va_get (D := D) (ci := 4) (v := .ref nw) (C := RX4) (T := TX4) (N := 6) hx hb hts hinX4 hown hK hP 0 rfl rfl 1 (by decide) hf19 (fun _ h9 => h9) rfl dX4_about_105 ?_
    refine va_get (D := D) (ci := 0) (v := .int (iI (S 5))) (C := RX0) (T := TX0) (N := 10) hx hb hts hinX0 hown hK hP 1 rfl rfl 5 (by decide) hf110 (fun _ h9 => h9) rfl dX4_about_108 ?_
    have hP9 : va_P D vwCl [(x, oRD tx nw tr kn me sl), (nw, oDrv nc S (lN (kL (S) 0 40))), (nc, aI yI 48 g), (kn, oKn pl ex), (ex, aI yI 1681 E)] _ := hP.sub [0, 1, 2, 3, 4] rfl
    exact W.iret hx hb hr (fun t ht hW => ⟨⟨iI (S 5), (pl, E), rfl, ⟨congrArg iI (show S 5 = abt S w by rw [csw]; rfl), trivial⟩, by show va_P D vwCl _ t.heap; rw [ht]; exact hP9⟩, hS.F ht⟩) hS.2.2 dX4_about_111
  · refine lv_tableIn (off := 111) (tgt := 112) hx hb dX4_about_1 (by rw [hsw]; omega) (by rw [hsw]; omega) (by rw [hsw, csw]; rfl) (by decide) ?_
    refine lv_aload_n hx hb dX4_about_112 rfl (lv_at hl 0 rfl) ?_
    refine va_get (D := D) (ci := 4) (v := .ref nw) (C := RX4) (T := TX4) (N := 6) hx hb hts hinX4 hown hK hP 0 rfl rfl 1 (by decide) hf19 (fun _ h9 => h9) rfl dX4_about_113 ?_
    refine va_get (D := D) (ci := 0) (v := .int (iI (S 6))) (C := RX0) (T := TX0) (N := 10) hx hb hts hinX0 hown hK hP 1 rfl rfl 6 (by decide) hf113 (fun _ h9 => h9) rfl dX4_about_116 ?_
    have hP9 : va_P D vwCl [(x, oRD tx nw tr kn me sl), (nw, oDrv nc S (lN (kL (S) 0 40))), (nc, aI yI 48 g), (kn, oKn pl ex), (ex, aI yI 1681 E)] _ := hP.sub [0, 1, 2, 3, 4] rfl
    exact W.iret hx hb hr (fun t ht hW => ⟨⟨iI (S 6), (pl, E), rfl, ⟨congrArg iI (show S 6 = abt S w by rw [csw]; rfl), trivial⟩, by show va_P D vwCl _ t.heap; rw [ht]; exact hP9⟩, hS.F ht⟩) hS.2.2 dX4_about_119
  · refine lv_tableIn (off := 119) (tgt := 120) hx hb dX4_about_1 (by rw [hsw]; omega) (by rw [hsw]; omega) (by rw [hsw, csw]; rfl) (by decide) ?_
    refine lv_aload_n hx hb dX4_about_120 rfl (lv_at hl 0 rfl) ?_
    refine va_get (D := D) (ci := 4) (v := .ref nw) (C := RX4) (T := TX4) (N := 6) hx hb hts hinX4 hown hK hP 0 rfl rfl 1 (by decide) hf19 (fun _ h9 => h9) rfl dX4_about_121 ?_
    refine va_get (D := D) (ci := 0) (v := .int (iI (S 7))) (C := RX0) (T := TX0) (N := 10) hx hb hts hinX0 hown hK hP 1 rfl rfl 7 (by decide) hf116 (fun _ h9 => h9) rfl dX4_about_124 ?_
    have hP9 : va_P D vwCl [(x, oRD tx nw tr kn me sl), (nw, oDrv nc S (lN (kL (S) 0 40))), (nc, aI yI 48 g), (kn, oKn pl ex), (ex, aI yI 1681 E)] _ := hP.sub [0, 1, 2, 3, 4] rfl
    exact W.iret hx hb hr (fun t ht hW => ⟨⟨iI (S 7), (pl, E), rfl, ⟨congrArg iI (show S 7 = abt S w by rw [csw]; rfl), trivial⟩, by show va_P D vwCl _ t.heap; rw [ht]; exact hP9⟩, hS.F ht⟩) hS.2.2 dX4_about_127
  · refine lv_tableIn (off := 127) (tgt := 128) hx hb dX4_about_1 (by rw [hsw]; omega) (by rw [hsw]; omega) (by rw [hsw, csw]; rfl) (by decide) ?_
    refine lv_aload_n hx hb dX4_about_128 rfl (lv_at hl 0 rfl) ?_
    refine va_get (D := D) (ci := 4) (v := .ref kn) (C := RX4) (T := TX4) (N := 6) hx hb hts hinX4 hown hK hP 0 rfl rfl 3 (by decide) hf29 (fun _ h9 => h9) rfl dX4_about_129 ?_
    refine lv_aload_n hx hb dX4_about_132 rfl (lv_at hl 0 rfl) ?_
    refine va_get (D := D) (ci := 4) (v := .ref nw) (C := RX4) (T := TX4) (N := 6) hx hb hts hinX4 hown hK hP 0 rfl rfl 1 (by decide) hf19 (fun _ h9 => h9) rfl dX4_about_133 ?_
    refine lv_iconst (v := iI (-1)) hx hb dX4_about_136 (by decide +kernel) ?_
    refine iv_rwVv (As := [.ref nw, .int (iI (-1))]) (rest := []) (C := RX1) (n := 2) ⟨hx, hb, hml, hown, hts⟩ (c_X1_learnFrom l D yI yC yD kn ex pl E nw nc S g (-1) (by assumption) (by assumption) (by omega) _) (cwV 2 hts gX4_about_X1_learnFrom rfl rfl rfl (by decide +kernel) ⟨Nat.le_of_ble_eq_true rfl, Nat.le_of_ble_eq_true rfl⟩) hK hP hD hS hA [3, 4, 1, 2] (by decide) rfl 3 rfl rfl rfl hl.1 rfl (Nat.le_of_ble_eq_true rfl) dX4_about_137 ⟨Nat.zero_le _, Nat.zero_le _⟩ (fun _ => rfl) (fun u137 H locs hw137 hP hD hS => ?_)
    obtain ⟨G9137, hu137⟩ : ∃ z, z = u137 := ⟨_, rfl⟩
    subst hu137
    have hE9_137 := hw137
    have hP : va_P D vwCl [(x, oRD tx nw tr kn me sl), (nw, oDrv nc S (lN (kL S 0 40))), (nc, aI yI 48 g), (kn, oKn (S 0) ex), (ex, aI yI 1681 G9137)] H := hP
    have hD : va_D A [(x, oRD tx nw tr kn me sl), (nw, oDrv nc S (lN (kL S 0 40))), (nc, aI yI 48 g), (kn, oKn (S 0) ex), (ex, aI yI 1681 G9137)] := hD
    refine lv_aload_n hx hb dX4_about_140 rfl (lv_at hl 0 rfl) ?_
    refine va_get (D := D) (ci := 4) (v := .ref kn) (C := RX4) (T := TX4) (N := 6) hx hb hts hinX4 hown hK hP 0 rfl rfl 3 (by decide) hf29 (fun _ h9 => h9) rfl dX4_about_141 ?_
    refine iv_roV (As := []) (rest := []) (C := RX1) (n := 0) ⟨hx, hb, hml, hown, hts⟩ (c_X1_countSure l D yI yC yD kn ex (S 0) G9137 (FB S (-1)) (by omega) (by assumption) (gb_FB hI _)) (cwV 0 hts gX4_about_X1_countSure rfl rfl rfl (by decide +kernel) ⟨Nat.le_of_ble_eq_true rfl, Nat.le_of_ble_eq_true rfl⟩) hK hP [3, 4] rfl 3 rfl rfl rfl hl.1 rfl (Nat.le_of_ble_eq_true rfl) dX4_about_144 ⟨Nat.zero_le _, Nat.zero_le _⟩ ?_
    have hP9 : va_P D vwCl [(x, oRD tx nw tr kn me sl), (nw, oDrv nc S (lN (kL (S) 0 40))), (nc, aI yI 48 g), (kn, oKn (S 0) ex), (ex, aI yI 1681 G9137)] _ := hP.sub [0, 1, 2, 3, 4] rfl
    exact W.iret hx hb hr (fun t ht hW => ⟨⟨iI (kCnt (FB S (-1)) (S 0).toNat), (S 0, G9137), rfl, ⟨congrArg iI (show kCnt (FB S (-1)) (S 0).toNat = abt S w by rw [csw, kCnt_known hI]; rfl), trivial⟩, by show va_P D vwCl _ t.heap; rw [ht]; exact hP9⟩, hS.F ht⟩) hS.2.2 dX4_about_147
set_option maxHeartbeats 4000000 in
set_option maxRecDepth 100000 in
theorem c_X4_has_ok (l : Launch) (D : va_G) (yI yC yD : ClassId) (x : Nat) (tx : Nat) (nw : Nat) (tr : Nat) (kn : Nat) (me : Nat) (sl : Nat) (nc : Nat) (S : Int → Int) (g : Int → Int) (i : Int) (hI : Inv S) (hi9 : inR i) (hpl9 : 0 ≤ i ∧ i < S 0) (sz : Nat) : Met l yX4_has wsX4_has ({ frames := 2, cells := 0, slots := 0, locals := 42 }) (rwP [.ref x, .int (iI i)] D (tyz yI yC yD) [(x, oRD tx nw tr kn me sl), (nw, oDrv nc S (lN (kL (S) 0 40))), (nc, aI yI 48 g)] sz) (va_Qi (fun (r : Int32) (_ : Unit) => r = iI (bI (S (8 + i) = 1)) ∧ True) (fun (_ : Unit) (t : State) => va_P D vwCl [(x, oRD tx nw tr kn me sl), (nw, oDrv nc S (lN (kL (S) 0 40))), (nc, aI yI 48 g)] t.heap) (va_A [(x, oRD tx nw tr kn me sl), (nw, oDrv nc S (lN (kL (S) 0 40))), (nc, aI yI 48 g)] sz)) 0 0 (va_A [(x, oRD tx nw tr kn me sl), (nw, oDrv nc S (lN (kL (S) 0 40))), (nc, aI yI 48 g)] sz) := by
  refine Met.ofW (cc := cX4_has) (maxL := 2) (ret := (some .boolean)) (by decide) rfl ?_
  intro p e s m args below meth c s₁ B hml hv
  obtain ⟨rfl, hsz, hP, hK, hD0⟩ := hv
  have hx := B.exec
  have hb := B.bytes
  have hr := B.returns
  have hts := atoms_spec (ws := wsX4_has) B.pre
  have hown : s.vm.findClass RX4 = some m.cls := findClass_of_methodNamed B.named
  have hlocks := B.notSynchronized
  subst hsz
  have hD := hD0.self (sz := s.heap.size)
  generalize hAe : va_A [(x, oRD tx nw tr kn me sl), (nw, oDrv nc S (lN (kL (S) 0 40))), (nc, aI yI 48 g)] s.heap.size = A at hD ⊢
  have hA : ∀ q : Nat, s.heap.size ≤ q → A q := fun q h => by rw [← hAe]; exact Or.inr h
  have hS : va_S A s.heap s.heap [] := va_S.rf
  have hP : va_P D vwCl [(x, oRD tx nw tr kn me sl), (nw, oDrv nc S (lN (kL (S) 0 40))), (nc, aI yI 48 g)] s.heap := hP
  have hinX4 : ∀ w ∈ wsX40, w ∈ wsX4_has := by decide +kernel
  have hf19 : (Cond.fieldLink RX4 19 "RiddleDrive" "now" "LRiddleDrive$Drive;").before _ s = true := hts _ (by decide +kernel)
  have hl := lv_entry ([.ref x, .int (iI i)]) (n := 2) (Nat.le_of_ble_eq_true rfl)
  rw [lg_entry_eq]
  generalize (lg_sl ([.ref x, .int (iI i)]) ++ List.replicate (2 - (lg_sl ([.ref x, .int (iI i)])).length) Slot.unset).toArray = ls at hl ⊢
  have hl : lv_has ls 2 [(0, .ref x), (1, .int (iI i))] := hl
  have hpl := hI.pl
  have hna := hI.na
  have hse := hI.se
  have hwi := hI.wi
  have hfe := hI.fe
  refine lv_aload_n hx hb dX4_has_0 rfl (lv_at hl 0 rfl) ?_
  refine lv_iload_n hx hb dX4_has_1 rfl (lv_at hl 1 rfl) ?_
  refine iv_rwVv (As := [.int (iI i)]) (rest := []) (C := RX4) (n := 1) ⟨hx, hb, hml, hown, hts⟩ (c_X4_checkPlace_ok l D yI yC yD x tx nw tr kn me sl nc S g i (by assumption) ((⟨by omega, by omega⟩)) (by omega) _) (cwV 1 hts gX4_has_X4_checkPlace rfl rfl rfl (by decide +kernel) ⟨Nat.le_of_ble_eq_true rfl, Nat.le_of_ble_eq_true rfl⟩) hK hP hD hS hA [0, 1, 2] (by decide) rfl 0 rfl rfl rfl hl.1 rfl (Nat.le_of_ble_eq_true rfl) dX4_has_2 ⟨Nat.zero_le _, Nat.zero_le _⟩ (fun _ => rfl) (fun u2 H locs hw2 hP hD hS => ?_)
  have hP : va_P D vwCl [(x, oRD tx nw tr kn me sl), (nw, oDrv nc S (lN (kL (S) 0 40))), (nc, aI yI 48 g)] H := hP
  have hD : va_D A [(x, oRD tx nw tr kn me sl), (nw, oDrv nc S (lN (kL (S) 0 40))), (nc, aI yI 48 g)] := hD
  refine lv_aload_n hx hb dX4_has_5 rfl (lv_at hl 0 rfl) ?_
  refine va_get (D := D) (ci := 4) (v := .ref nw) (C := RX4) (T := TX4) (N := 6) hx hb hts hinX4 hown hK hP 0 rfl rfl 1 (by decide) hf19 (fun _ h9 => h9) rfl dX4_has_6 ?_
  refine lv_iload_n hx hb dX4_has_9 rfl (lv_at hl 1 rfl) ?_
  refine iv_roV (As := [.int (iI i)]) (rest := []) (C := RX0) (n := 1) ⟨hx, hb, hml, hown, hts⟩ (c_X0_hasKey l D yI yC yD nw nc S g i (by assumption) (by omega)) (cwV 1 hts gX4_has_X0_hasKey rfl rfl rfl (by decide +kernel) ⟨Nat.le_of_ble_eq_true rfl, Nat.le_of_ble_eq_true rfl⟩) hK hP [1, 2] rfl 1 rfl rfl rfl hl.1 rfl (Nat.le_of_ble_eq_true rfl) dX4_has_10 ⟨Nat.zero_le _, Nat.zero_le _⟩ ?_
  have hP9 : va_P D vwCl [(x, oRD tx nw tr kn me sl), (nw, oDrv nc S (lN (kL (S) 0 40))), (nc, aI yI 48 g)] _ := hP.sub [0, 1, 2] rfl
  exact W.zret hx hb hr (narB _) (fun t ht hW => ⟨⟨iI (bI (S (8 + i) = 1)), (), rfl, ⟨rfl, trivial⟩, by show va_P D vwCl _ t.heap; rw [ht]; exact hP9⟩, hS.F ht⟩) hS.2.2 dX4_has_13
set_option maxHeartbeats 4000000 in
set_option maxRecDepth 100000 in
theorem c_X4_answer_ok (l : Launch) (D : va_G) (yI yC yD : ClassId) (x : Nat) (tx : Nat) (nw : Nat) (tr : Nat) (kn : Nat) (me : Nat) (sl : Nat) (nc : Nat) (S : Int → Int) (g : Int → Int) (i : Int) (w : Int) (hI : Inv S) (hR : Rc S g) (hi9 : inR i) (hw9 : inR w) (hpa9 : 0 ≤ i ∧ i < S 4) (hk9 : 0 ≤ w ∧ w ≤ 3) (sz : Nat) : Met l yX4_answer wsX4_answer ({ frames := 2, cells := 0, slots := 0, locals := 42 }) (rwP [.ref x, .int (iI i), .int (iI w)] D (tyz yI yC yD) [(x, oRD tx nw tr kn me sl), (nw, oDrv nc S (lN (kL (S) 0 40))), (nc, aI yI 48 g)] sz) (va_Qi (fun (r : Int32) (_ : Unit) => r = iI (an S i w) ∧ True) (fun (_ : Unit) (t : State) => va_P D vwCl [(x, oRD tx nw tr kn me sl), (nw, oDrv nc S (lN (kL (S) 0 40))), (nc, aI yI 48 g)] t.heap) (va_A [(x, oRD tx nw tr kn me sl), (nw, oDrv nc S (lN (kL (S) 0 40))), (nc, aI yI 48 g)] sz)) 0 0 (va_A [(x, oRD tx nw tr kn me sl), (nw, oDrv nc S (lN (kL (S) 0 40))), (nc, aI yI 48 g)] sz) := by
  refine Met.ofW (cc := cX4_answer) (maxL := 3) (ret := (some .int)) (by decide) rfl ?_
  intro p e s m args below meth c s₁ B hml hv
  obtain ⟨rfl, hsz, hP, hK, hD0⟩ := hv
  have hx := B.exec
  have hb := B.bytes
  have hr := B.returns
  have hts := atoms_spec (ws := wsX4_answer) B.pre
  have hown : s.vm.findClass RX4 = some m.cls := findClass_of_methodNamed B.named
  have hlocks := B.notSynchronized
  subst hsz
  have hD := hD0.self (sz := s.heap.size)
  generalize hAe : va_A [(x, oRD tx nw tr kn me sl), (nw, oDrv nc S (lN (kL (S) 0 40))), (nc, aI yI 48 g)] s.heap.size = A at hD ⊢
  have hA : ∀ q : Nat, s.heap.size ≤ q → A q := fun q h => by rw [← hAe]; exact Or.inr h
  have hS : va_S A s.heap s.heap [] := va_S.rf
  have hP : va_P D vwCl [(x, oRD tx nw tr kn me sl), (nw, oDrv nc S (lN (kL (S) 0 40))), (nc, aI yI 48 g)] s.heap := hP
  have hinX4 : ∀ w ∈ wsX40, w ∈ wsX4_answer := by decide +kernel
  have hf19 : (Cond.fieldLink RX4 19 "RiddleDrive" "now" "LRiddleDrive$Drive;").before _ s = true := hts _ (by decide +kernel)
  have hl := lv_entry ([.ref x, .int (iI i), .int (iI w)]) (n := 3) (Nat.le_of_ble_eq_true rfl)
  rw [lg_entry_eq]
  generalize (lg_sl ([.ref x, .int (iI i), .int (iI w)]) ++ List.replicate (3 - (lg_sl ([.ref x, .int (iI i), .int (iI w)])).length) Slot.unset).toArray = ls at hl ⊢
  have hl : lv_has ls 3 [(0, .ref x), (1, .int (iI i)), (2, .int (iI w))] := hl
  have hpl := hI.pl
  have hna := hI.na
  have hse := hI.se
  have hwi := hI.wi
  have hfe := hI.fe
  refine lv_aload_n hx hb dX4_answer_0 rfl (lv_at hl 0 rfl) ?_
  refine lv_iload_n hx hb dX4_answer_1 rfl (lv_at hl 1 rfl) ?_
  refine iv_rwVv (As := [.int (iI i)]) (rest := []) (C := RX4) (n := 1) ⟨hx, hb, hml, hown, hts⟩ (c_X4_checkAnswer_ok l D yI yC yD x tx nw tr kn me sl nc S g i (by assumption) ((⟨by omega, by omega⟩)) (by omega) _) (cwV 1 hts gX4_answer_X4_checkAnswer rfl rfl rfl (by decide +kernel) ⟨Nat.le_of_ble_eq_true rfl, Nat.le_of_ble_eq_true rfl⟩) hK hP hD hS hA [0, 1, 2] (by decide) rfl 0 rfl rfl rfl hl.1 rfl (Nat.le_of_ble_eq_true rfl) dX4_answer_2 ⟨Nat.zero_le _, Nat.zero_le _⟩ (fun _ => rfl) (fun u2 H locs hw2 hP hD hS => ?_)
  have hP : va_P D vwCl [(x, oRD tx nw tr kn me sl), (nw, oDrv nc S (lN (kL (S) 0 40))), (nc, aI yI 48 g)] H := hP
  have hD : va_D A [(x, oRD tx nw tr kn me sl), (nw, oDrv nc S (lN (kL (S) 0 40))), (nc, aI yI 48 g)] := hD
  refine lv_iload_n hx hb dX4_answer_5 rfl (lv_at hl 2 rfl) ?_
  refine iv_if_lt (a := w) (tgt := 14) hx hb (by omega) dX4_answer_6 (by decide) (fun c6 => ?_) (fun c6 => ?_)
  · exact absurd c6 (by omega)
  · refine lv_iload_n hx hb dX4_answer_9 rfl (lv_at hl 2 rfl) ?_
    refine lv_iconst (v := iI 4) hx hb dX4_answer_10 (by decide +kernel) ?_
    refine iv_icmp_lt (a := w) (b := 4) (tgt := 24) hx hb (by omega) (by omega) dX4_answer_11 (by decide) (fun c11 => ?_) (fun c11 => ?_)
    · refine lv_aload_n hx hb dX4_answer_24 rfl (lv_at hl 0 rfl) ?_
      refine va_get (D := D) (ci := 4) (v := .ref nw) (C := RX4) (T := TX4) (N := 6) hx hb hts hinX4 hown hK hP 0 rfl rfl 1 (by decide) hf19 (fun _ h9 => h9) rfl dX4_answer_25 ?_
      refine lv_iload_n hx hb dX4_answer_28 rfl (lv_at hl 1 rfl) ?_
      refine lv_iload_n hx hb dX4_answer_29 rfl (lv_at hl 2 rfl) ?_
      refine iv_roV (As := [.int (iI i), .int (iI w)]) (rest := []) (C := RX0) (n := 2) ⟨hx, hb, hml, hown, hts⟩ (c_X0_cell l D yI yC yD nw nc S g (lN (kL (S) 0 40)) i w (by omega) (by omega)) (cwV 2 hts gX4_answer_X0_cell rfl rfl rfl (by decide +kernel) ⟨Nat.le_of_ble_eq_true rfl, Nat.le_of_ble_eq_true rfl⟩) hK hP [1, 2] rfl 1 rfl rfl rfl hl.1 rfl (Nat.le_of_ble_eq_true rfl) dX4_answer_30 ⟨Nat.zero_le _, Nat.zero_le _⟩ ?_
      have hP9 : va_P D vwCl [(x, oRD tx nw tr kn me sl), (nw, oDrv nc S (lN (kL (S) 0 40))), (nc, aI yI 48 g)] _ := hP.sub [0, 1, 2] rfl
      exact W.iret hx hb hr (fun t ht hW => ⟨⟨iI (g (i * 4 + w)), (), rfl, ⟨congrArg iI (show g (i * 4 + w) = an S i w by exact hR i w (by omega) (by omega) (by omega) (by omega)), trivial⟩, by show va_P D vwCl _ t.heap; rw [ht]; exact hP9⟩, hS.F ht⟩) hS.2.2 dX4_answer_33
    · exact absurd c11 (by omega)
set_option maxHeartbeats 4000000 in
set_option maxRecDepth 100000 in
theorem c_X4_least_ok (l : Launch) (D : va_G) (yI yC yD : ClassId) (x : Nat) (tx : Nat) (nw : Nat) (tr : Nat) (kn : Nat) (me : Nat) (sl : Nat) (nc : Nat) (S : Int → Int) (g : Int → Int) (ex : Nat) (pl : Int) (E : Int → Int) (a : Int) (b : Int) (hI : Inv S) (hR : Rc S g) (hab9 : inR a ∧ inR b) (hab : 0 ≤ a ∧ a ≤ b ∧ b < S 0) (sz : Nat) : Met l yX4_least wsX4_least ({ frames := 4, cells := 0, slots := 0, locals := 99 }) (rwP [.ref x, .int (iI a), .int (iI b)] D (tyz yI yC yD) [(x, oRD tx nw tr kn me sl), (nw, oDrv nc S (lN (kL (S) 0 40))), (nc, aI yI 48 g), (kn, oKn pl ex), (ex, aI yI 1681 E)] sz) (va_Qi (fun (r : Int32) (u : Int × (Int → Int)) => match u with | (p9, E9) => r = iI (leastI (FB S (-1)) a b) ∧ True) (fun (u : Int × (Int → Int)) (t : State) => match u with | (p9, E9) => va_P D vwCl [(x, oRD tx nw tr kn me sl), (nw, oDrv nc S (lN (kL (S) 0 40))), (nc, aI yI 48 g), (kn, oKn p9 ex), (ex, aI yI 1681 E9)] t.heap) (va_A [(x, oRD tx nw tr kn me sl), (nw, oDrv nc S (lN (kL (S) 0 40))), (nc, aI yI 48 g), (kn, oKn pl ex), (ex, aI yI 1681 E)] sz)) 0 0 (va_A [(x, oRD tx nw tr kn me sl), (nw, oDrv nc S (lN (kL (S) 0 40))), (nc, aI yI 48 g), (kn, oKn pl ex), (ex, aI yI 1681 E)] sz) := by
  refine Met.ofW (cc := cX4_least) (maxL := 3) (ret := (some .int)) (by decide) rfl ?_
  intro p e s m args below meth c s₁ B hml hv
  obtain ⟨rfl, hsz, hP, hK, hD0⟩ := hv
  have hx := B.exec
  have hb := B.bytes
  have hr := B.returns
  have hts := atoms_spec (ws := wsX4_least) B.pre
  have hown : s.vm.findClass RX4 = some m.cls := findClass_of_methodNamed B.named
  have hlocks := B.notSynchronized
  subst hsz
  have hD := hD0.self (sz := s.heap.size)
  generalize hAe : va_A [(x, oRD tx nw tr kn me sl), (nw, oDrv nc S (lN (kL (S) 0 40))), (nc, aI yI 48 g), (kn, oKn pl ex), (ex, aI yI 1681 E)] s.heap.size = A at hD ⊢
  have hA : ∀ q : Nat, s.heap.size ≤ q → A q := fun q h => by rw [← hAe]; exact Or.inr h
  have hS : va_S A s.heap s.heap [] := va_S.rf
  have hP : va_P D vwCl [(x, oRD tx nw tr kn me sl), (nw, oDrv nc S (lN (kL (S) 0 40))), (nc, aI yI 48 g), (kn, oKn pl ex), (ex, aI yI 1681 E)] s.heap := hP
  have hinX4 : ∀ w ∈ wsX40, w ∈ wsX4_least := by decide +kernel
  have hf19 : (Cond.fieldLink RX4 19 "RiddleDrive" "now" "LRiddleDrive$Drive;").before _ s = true := hts _ (by decide +kernel)
  have hf29 : (Cond.fieldLink RX4 29 "RiddleDrive" "knowledge" "LRiddleDrive$Knowledge;").before _ s = true := hts _ (by decide +kernel)
  have hl := lv_entry ([.ref x, .int (iI a), .int (iI b)]) (n := 3) (Nat.le_of_ble_eq_true rfl)
  rw [lg_entry_eq]
  generalize (lg_sl ([.ref x, .int (iI a), .int (iI b)]) ++ List.replicate (3 - (lg_sl ([.ref x, .int (iI a), .int (iI b)])).length) Slot.unset).toArray = ls at hl ⊢
  have hl : lv_has ls 3 [(0, .ref x), (1, .int (iI a)), (2, .int (iI b))] := hl
  have hpl := hI.pl
  have hna := hI.na
  have hse := hI.se
  have hwi := hI.wi
  have hfe := hI.fe
  refine lv_aload_n hx hb dX4_least_0 rfl (lv_at hl 0 rfl) ?_
  refine lv_iload_n hx hb dX4_least_1 rfl (lv_at hl 1 rfl) ?_
  refine lv_iload_n hx hb dX4_least_2 rfl (lv_at hl 2 rfl) ?_
  refine iv_rwVv (As := [.int (iI a), .int (iI b)]) (rest := []) (C := RX4) (n := 2) ⟨hx, hb, hml, hown, hts⟩ (c_X4_checkRange_ok l D yI yC yD x tx nw tr kn me sl nc S g a b (by assumption) ((⟨⟨by omega, by omega⟩, ⟨by omega, by omega⟩⟩)) (by omega) _) (cwV 2 hts gX4_least_X4_checkRange rfl rfl rfl (by decide +kernel) ⟨Nat.le_of_ble_eq_true rfl, Nat.le_of_ble_eq_true rfl⟩) hK hP hD hS hA [0, 1, 2] (by decide) rfl 0 rfl rfl rfl hl.1 rfl (Nat.le_of_ble_eq_true rfl) dX4_least_3 ⟨Nat.zero_le _, Nat.zero_le _⟩ (fun _ => rfl) (fun u3 H locs hw3 hP hD hS => ?_)
  have hP : va_P D vwCl [(x, oRD tx nw tr kn me sl), (nw, oDrv nc S (lN (kL (S) 0 40))), (nc, aI yI 48 g), (kn, oKn pl ex), (ex, aI yI 1681 E)] H := hP
  have hD : va_D A [(x, oRD tx nw tr kn me sl), (nw, oDrv nc S (lN (kL (S) 0 40))), (nc, aI yI 48 g), (kn, oKn pl ex), (ex, aI yI 1681 E)] := hD
  refine lv_aload_n hx hb dX4_least_6 rfl (lv_at hl 0 rfl) ?_
  refine va_get (D := D) (ci := 4) (v := .ref kn) (C := RX4) (T := TX4) (N := 6) hx hb hts hinX4 hown hK hP 0 rfl rfl 3 (by decide) hf29 (fun _ h9 => h9) rfl dX4_least_7 ?_
  refine lv_aload_n hx hb dX4_least_10 rfl (lv_at hl 0 rfl) ?_
  refine va_get (D := D) (ci := 4) (v := .ref nw) (C := RX4) (T := TX4) (N := 6) hx hb hts hinX4 hown hK hP 0 rfl rfl 1 (by decide) hf19 (fun _ h9 => h9) rfl dX4_least_11 ?_
  refine lv_iconst (v := iI (-1)) hx hb dX4_least_14 (by decide +kernel) ?_
  refine iv_rwVv (As := [.ref nw, .int (iI (-1))]) (rest := []) (C := RX1) (n := 2) ⟨hx, hb, hml, hown, hts⟩ (c_X1_learnFrom l D yI yC yD kn ex pl E nw nc S g (-1) (by assumption) (by assumption) (by omega) _) (cwV 2 hts gX4_least_X1_learnFrom rfl rfl rfl (by decide +kernel) ⟨Nat.le_of_ble_eq_true rfl, Nat.le_of_ble_eq_true rfl⟩) hK hP hD hS hA [3, 4, 1, 2] (by decide) rfl 3 rfl rfl rfl hl.1 rfl (Nat.le_of_ble_eq_true rfl) dX4_least_15 ⟨Nat.zero_le _, Nat.zero_le _⟩ (fun _ => rfl) (fun u15 H locs hw15 hP hD hS => ?_)
  obtain ⟨G915, hu15⟩ : ∃ z, z = u15 := ⟨_, rfl⟩
  subst hu15
  have hE9_15 := hw15
  have hP : va_P D vwCl [(x, oRD tx nw tr kn me sl), (nw, oDrv nc S (lN (kL S 0 40))), (nc, aI yI 48 g), (kn, oKn (S 0) ex), (ex, aI yI 1681 G915)] H := hP
  have hD : va_D A [(x, oRD tx nw tr kn me sl), (nw, oDrv nc S (lN (kL S 0 40))), (nc, aI yI 48 g), (kn, oKn (S 0) ex), (ex, aI yI 1681 G915)] := hD
  refine lv_aload_n hx hb dX4_least_18 rfl (lv_at hl 0 rfl) ?_
  refine va_get (D := D) (ci := 4) (v := .ref kn) (C := RX4) (T := TX4) (N := 6) hx hb hts hinX4 hown hK hP 0 rfl rfl 3 (by decide) hf29 (fun _ h9 => h9) rfl dX4_least_19 ?_
  refine lv_iload_n hx hb dX4_least_22 rfl (lv_at hl 1 rfl) ?_
  refine lv_iload_n hx hb dX4_least_23 rfl (lv_at hl 2 rfl) ?_
  refine iv_roV (As := [.int (iI a), .int (iI b)]) (rest := []) (C := RX1) (n := 2) ⟨hx, hb, hml, hown, hts⟩ (c_X1_fewestKeys l D yI yC yD kn ex (S 0) G915 (FB S (-1)) a b (by omega) (by assumption) (by omega)) (cwV 2 hts gX4_least_X1_fewestKeys rfl rfl rfl (by decide +kernel) ⟨Nat.le_of_ble_eq_true rfl, Nat.le_of_ble_eq_true rfl⟩) hK hP [3, 4] rfl 3 rfl rfl rfl hl.1 rfl (Nat.le_of_ble_eq_true rfl) dX4_least_24 ⟨Nat.zero_le _, Nat.zero_le _⟩ ?_
  have hP9 : va_P D vwCl [(x, oRD tx nw tr kn me sl), (nw, oDrv nc S (lN (kL (S) 0 40))), (nc, aI yI 48 g), (kn, oKn (S 0) ex), (ex, aI yI 1681 G915)] _ := hP.sub [0, 1, 2, 3, 4] rfl
  exact W.iret hx hb hr (fun t ht hW => ⟨⟨iI (leastI (FB S (-1)) a b), (S 0, G915), rfl, ⟨rfl, trivial⟩, by show va_P D vwCl _ t.heap; rw [ht]; exact hP9⟩, hS.F ht⟩) hS.2.2 dX4_least_27
set_option maxHeartbeats 4000000 in
set_option maxRecDepth 100000 in
theorem c_X4_most_ok (l : Launch) (D : va_G) (yI yC yD : ClassId) (x : Nat) (tx : Nat) (nw : Nat) (tr : Nat) (kn : Nat) (me : Nat) (sl : Nat) (nc : Nat) (S : Int → Int) (g : Int → Int) (ex : Nat) (pl : Int) (E : Int → Int) (a : Int) (b : Int) (hI : Inv S) (hR : Rc S g) (hab9 : inR a ∧ inR b) (hab : 0 ≤ a ∧ a ≤ b ∧ b < S 0) (sz : Nat) : Met l yX4_most wsX4_most ({ frames := 4, cells := 0, slots := 0, locals := 99 }) (rwP [.ref x, .int (iI a), .int (iI b)] D (tyz yI yC yD) [(x, oRD tx nw tr kn me sl), (nw, oDrv nc S (lN (kL (S) 0 40))), (nc, aI yI 48 g), (kn, oKn pl ex), (ex, aI yI 1681 E)] sz) (va_Qi (fun (r : Int32) (u : Int × (Int → Int)) => match u with | (p9, E9) => r = iI (mostI (FB S (-1)) a b) ∧ True) (fun (u : Int × (Int → Int)) (t : State) => match u with | (p9, E9) => va_P D vwCl [(x, oRD tx nw tr kn me sl), (nw, oDrv nc S (lN (kL (S) 0 40))), (nc, aI yI 48 g), (kn, oKn p9 ex), (ex, aI yI 1681 E9)] t.heap) (va_A [(x, oRD tx nw tr kn me sl), (nw, oDrv nc S (lN (kL (S) 0 40))), (nc, aI yI 48 g), (kn, oKn pl ex), (ex, aI yI 1681 E)] sz)) 0 0 (va_A [(x, oRD tx nw tr kn me sl), (nw, oDrv nc S (lN (kL (S) 0 40))), (nc, aI yI 48 g), (kn, oKn pl ex), (ex, aI yI 1681 E)] sz) := by
  refine Met.ofW (cc := cX4_most) (maxL := 3) (ret := (some .int)) (by decide) rfl ?_
  intro p e s m args below meth c s₁ B hml hv
  obtain ⟨rfl, hsz, hP, hK, hD0⟩ := hv
  have hx := B.exec
  have hb := B.bytes
  have hr := B.returns
  have hts := atoms_spec (ws := wsX4_most) B.pre
  have hown : s.vm.findClass RX4 = some m.cls := findClass_of_methodNamed B.named
  have hlocks := B.notSynchronized
  subst hsz
  have hD := hD0.self (sz := s.heap.size)
  generalize hAe : va_A [(x, oRD tx nw tr kn me sl), (nw, oDrv nc S (lN (kL (S) 0 40))), (nc, aI yI 48 g), (kn, oKn pl ex), (ex, aI yI 1681 E)] s.heap.size = A at hD ⊢
  have hA : ∀ q : Nat, s.heap.size ≤ q → A q := fun q h => by rw [← hAe]; exact Or.inr h
  have hS : va_S A s.heap s.heap [] := va_S.rf
  have hP : va_P D vwCl [(x, oRD tx nw tr kn me sl), (nw, oDrv nc S (lN (kL (S) 0 40))), (nc, aI yI 48 g), (kn, oKn pl ex), (ex, aI yI 1681 E)] s.heap := hP
  have hinX4 : ∀ w ∈ wsX40, w ∈ wsX4_most := by decide +kernel
  have hf19 : (Cond.fieldLink RX4 19 "RiddleDrive" "now" "LRiddleDrive$Drive;").before _ s = true := hts _ (by decide +kernel)
  have hf29 : (Cond.fieldLink RX4 29 "RiddleDrive" "knowledge" "LRiddleDrive$Knowledge;").before _ s = true := hts _ (by decide +kernel)
  have hl := lv_entry ([.ref x, .int (iI a), .int (iI b)]) (n := 3) (Nat.le_of_ble_eq_true rfl)
  rw [lg_entry_eq]
  generalize (lg_sl ([.ref x, .int (iI a), .int (iI b)]) ++ List.replicate (3 - (lg_sl ([.ref x, .int (iI a), .int (iI b)])).length) Slot.unset).toArray = ls at hl ⊢
  have hl : lv_has ls 3 [(0, .ref x), (1, .int (iI a)), (2, .int (iI b))] := hl
  have hpl := hI.pl
  have hna := hI.na
  have hse := hI.se
  have hwi := hI.wi
  have hfe := hI.fe
  refine lv_aload_n hx hb dX4_most_0 rfl (lv_at hl 0 rfl) ?_
  refine lv_iload_n hx hb dX4_most_1 rfl (lv_at hl 1 rfl) ?_
  refine lv_iload_n hx hb dX4_most_2 rfl (lv_at hl 2 rfl) ?_
  refine iv_rwVv (As := [.int (iI a), .int (iI b)]) (rest := []) (C := RX4) (n := 2) ⟨hx, hb, hml, hown, hts⟩ (c_X4_checkRange_ok l D yI yC yD x tx nw tr kn me sl nc S g a b (by assumption) ((⟨⟨by omega, by omega⟩, ⟨by omega, by omega⟩⟩)) (by omega) _) (cwV 2 hts gX4_most_X4_checkRange rfl rfl rfl (by decide +kernel) ⟨Nat.le_of_ble_eq_true rfl, Nat.le_of_ble_eq_true rfl⟩) hK hP hD hS hA [0, 1, 2] (by decide) rfl 0 rfl rfl rfl hl.1 rfl (Nat.le_of_ble_eq_true rfl) dX4_most_3 ⟨Nat.zero_le _, Nat.zero_le _⟩ (fun _ => rfl) (fun u3 H locs hw3 hP hD hS => ?_)
  have hP : va_P D vwCl [(x, oRD tx nw tr kn me sl), (nw, oDrv nc S (lN (kL (S) 0 40))), (nc, aI yI 48 g), (kn, oKn pl ex), (ex, aI yI 1681 E)] H := hP
  have hD : va_D A [(x, oRD tx nw tr kn me sl), (nw, oDrv nc S (lN (kL (S) 0 40))), (nc, aI yI 48 g), (kn, oKn pl ex), (ex, aI yI 1681 E)] := hD
  refine lv_aload_n hx hb dX4_most_6 rfl (lv_at hl 0 rfl) ?_
  refine va_get (D := D) (ci := 4) (v := .ref kn) (C := RX4) (T := TX4) (N := 6) hx hb hts hinX4 hown hK hP 0 rfl rfl 3 (by decide) hf29 (fun _ h9 => h9) rfl dX4_most_7 ?_
  refine lv_aload_n hx hb dX4_most_10 rfl (lv_at hl 0 rfl) ?_
  refine va_get (D := D) (ci := 4) (v := .ref nw) (C := RX4) (T := TX4) (N := 6) hx hb hts hinX4 hown hK hP 0 rfl rfl 1 (by decide) hf19 (fun _ h9 => h9) rfl dX4_most_11 ?_
  refine lv_iconst (v := iI (-1)) hx hb dX4_most_14 (by decide +kernel) ?_
  refine iv_rwVv (As := [.ref nw, .int (iI (-1))]) (rest := []) (C := RX1) (n := 2) ⟨hx, hb, hml, hown, hts⟩ (c_X1_learnFrom l D yI yC yD kn ex pl E nw nc S g (-1) (by assumption) (by assumption) (by omega) _) (cwV 2 hts gX4_most_X1_learnFrom rfl rfl rfl (by decide +kernel) ⟨Nat.le_of_ble_eq_true rfl, Nat.le_of_ble_eq_true rfl⟩) hK hP hD hS hA [3, 4, 1, 2] (by decide) rfl 3 rfl rfl rfl hl.1 rfl (Nat.le_of_ble_eq_true rfl) dX4_most_15 ⟨Nat.zero_le _, Nat.zero_le _⟩ (fun _ => rfl) (fun u15 H locs hw15 hP hD hS => ?_)
  obtain ⟨G915, hu15⟩ : ∃ z, z = u15 := ⟨_, rfl⟩
  subst hu15
  have hE9_15 := hw15
  have hP : va_P D vwCl [(x, oRD tx nw tr kn me sl), (nw, oDrv nc S (lN (kL S 0 40))), (nc, aI yI 48 g), (kn, oKn (S 0) ex), (ex, aI yI 1681 G915)] H := hP
  have hD : va_D A [(x, oRD tx nw tr kn me sl), (nw, oDrv nc S (lN (kL S 0 40))), (nc, aI yI 48 g), (kn, oKn (S 0) ex), (ex, aI yI 1681 G915)] := hD
  refine lv_aload_n hx hb dX4_most_18 rfl (lv_at hl 0 rfl) ?_
  refine va_get (D := D) (ci := 4) (v := .ref kn) (C := RX4) (T := TX4) (N := 6) hx hb hts hinX4 hown hK hP 0 rfl rfl 3 (by decide) hf29 (fun _ h9 => h9) rfl dX4_most_19 ?_
  refine lv_iload_n hx hb dX4_most_22 rfl (lv_at hl 1 rfl) ?_
  refine lv_iload_n hx hb dX4_most_23 rfl (lv_at hl 2 rfl) ?_
  refine iv_roV (As := [.int (iI a), .int (iI b)]) (rest := []) (C := RX1) (n := 2) ⟨hx, hb, hml, hown, hts⟩ (c_X1_greatestKeys l D yI yC yD kn ex (S 0) G915 (FB S (-1)) a b (by omega) (by assumption) (by omega)) (cwV 2 hts gX4_most_X1_greatestKeys rfl rfl rfl (by decide +kernel) ⟨Nat.le_of_ble_eq_true rfl, Nat.le_of_ble_eq_true rfl⟩) hK hP [3, 4] rfl 3 rfl rfl rfl hl.1 rfl (Nat.le_of_ble_eq_true rfl) dX4_most_24 ⟨Nat.zero_le _, Nat.zero_le _⟩ ?_
  have hP9 : va_P D vwCl [(x, oRD tx nw tr kn me sl), (nw, oDrv nc S (lN (kL (S) 0 40))), (nc, aI yI 48 g), (kn, oKn (S 0) ex), (ex, aI yI 1681 G915)] _ := hP.sub [0, 1, 2, 3, 4] rfl
  exact W.iret hx hb hr (fun t ht hW => ⟨⟨iI (mostI (FB S (-1)) a b), (S 0, G915), rfl, ⟨rfl, trivial⟩, by show va_P D vwCl _ t.heap; rw [ht]; exact hP9⟩, hS.F ht⟩) hS.2.2 dX4_most_27
set_option maxHeartbeats 4000000 in
set_option maxRecDepth 100000 in
theorem c_X4_known_ok (l : Launch) (D : va_G) (yI yC yD : ClassId) (x : Nat) (tx : Nat) (nw : Nat) (tr : Nat) (kn : Nat) (me : Nat) (sl : Nat) (nc : Nat) (S : Int → Int) (g : Int → Int) (ex : Nat) (pl : Int) (E : Int → Int) (i : Int) (hI : Inv S) (hR : Rc S g) (hi9 : inR i) (hpl9 : 0 ≤ i ∧ i < S 0) (sz : Nat) : Met l yX4_known wsX4_known ({ frames := 4, cells := 0, slots := 0, locals := 99 }) (rwP [.ref x, .int (iI i)] D (tyz yI yC yD) [(x, oRD tx nw tr kn me sl), (nw, oDrv nc S (lN (kL (S) 0 40))), (nc, aI yI 48 g), (kn, oKn pl ex), (ex, aI yI 1681 E)] sz) (va_Qi (fun (r : Int32) (u : Int × (Int → Int)) => match u with | (p9, E9) => r = iI (knownOf (FB S (-1)) i) ∧ True) (fun (u : Int × (Int → Int)) (t : State) => match u with | (p9, E9) => va_P D vwCl [(x, oRD tx nw tr kn me sl), (nw, oDrv nc S (lN (kL (S) 0 40))), (nc, aI yI 48 g), (kn, oKn p9 ex), (ex, aI yI 1681 E9)] t.heap) (va_A [(x, oRD tx nw tr kn me sl), (nw, oDrv nc S (lN (kL (S) 0 40))), (nc, aI yI 48 g), (kn, oKn pl ex), (ex, aI yI 1681 E)] sz)) 0 0 (va_A [(x, oRD tx nw tr kn me sl), (nw, oDrv nc S (lN (kL (S) 0 40))), (nc, aI yI 48 g), (kn, oKn pl ex), (ex, aI yI 1681 E)] sz) := by
  refine Met.ofW (cc := cX4_known) (maxL := 2) (ret := (some .int)) (by decide) rfl ?_
  intro p e s m args below meth c s₁ B hml hv
  obtain ⟨rfl, hsz, hP, hK, hD0⟩ := hv
  have hx := B.exec
  have hb := B.bytes
  have hr := B.returns
  have hts := atoms_spec (ws := wsX4_known) B.pre
  have hown : s.vm.findClass RX4 = some m.cls := findClass_of_methodNamed B.named
  have hlocks := B.notSynchronized
  subst hsz
  have hD := hD0.self (sz := s.heap.size)
  generalize hAe : va_A [(x, oRD tx nw tr kn me sl), (nw, oDrv nc S (lN (kL (S) 0 40))), (nc, aI yI 48 g), (kn, oKn pl ex), (ex, aI yI 1681 E)] s.heap.size = A at hD ⊢
  have hA : ∀ q : Nat, s.heap.size ≤ q → A q := fun q h => by rw [← hAe]; exact Or.inr h
  have hS : va_S A s.heap s.heap [] := va_S.rf
  have hP : va_P D vwCl [(x, oRD tx nw tr kn me sl), (nw, oDrv nc S (lN (kL (S) 0 40))), (nc, aI yI 48 g), (kn, oKn pl ex), (ex, aI yI 1681 E)] s.heap := hP
  have hinX4 : ∀ w ∈ wsX40, w ∈ wsX4_known := by decide +kernel
  have hf19 : (Cond.fieldLink RX4 19 "RiddleDrive" "now" "LRiddleDrive$Drive;").before _ s = true := hts _ (by decide +kernel)
  have hf29 : (Cond.fieldLink RX4 29 "RiddleDrive" "knowledge" "LRiddleDrive$Knowledge;").before _ s = true := hts _ (by decide +kernel)
  have hl := lv_entry ([.ref x, .int (iI i)]) (n := 2) (Nat.le_of_ble_eq_true rfl)
  rw [lg_entry_eq]
  generalize (lg_sl ([.ref x, .int (iI i)]) ++ List.replicate (2 - (lg_sl ([.ref x, .int (iI i)])).length) Slot.unset).toArray = ls at hl ⊢
  have hl : lv_has ls 2 [(0, .ref x), (1, .int (iI i))] := hl
  have hpl := hI.pl
  have hna := hI.na
  have hse := hI.se
  have hwi := hI.wi
  have hfe := hI.fe
  refine lv_aload_n hx hb dX4_known_0 rfl (lv_at hl 0 rfl) ?_
  refine lv_iload_n hx hb dX4_known_1 rfl (lv_at hl 1 rfl) ?_
  refine iv_rwVv (As := [.int (iI i)]) (rest := []) (C := RX4) (n := 1) ⟨hx, hb, hml, hown, hts⟩ (c_X4_checkPlace_ok l D yI yC yD x tx nw tr kn me sl nc S g i (by assumption) ((⟨by omega, by omega⟩)) (by omega) _) (cwV 1 hts gX4_known_X4_checkPlace rfl rfl rfl (by decide +kernel) ⟨Nat.le_of_ble_eq_true rfl, Nat.le_of_ble_eq_true rfl⟩) hK hP hD hS hA [0, 1, 2] (by decide) rfl 0 rfl rfl rfl hl.1 rfl (Nat.le_of_ble_eq_true rfl) dX4_known_2 ⟨Nat.zero_le _, Nat.zero_le _⟩ (fun _ => rfl) (fun u2 H locs hw2 hP hD hS => ?_)
  have hP : va_P D vwCl [(x, oRD tx nw tr kn me sl), (nw, oDrv nc S (lN (kL (S) 0 40))), (nc, aI yI 48 g), (kn, oKn pl ex), (ex, aI yI 1681 E)] H := hP
  have hD : va_D A [(x, oRD tx nw tr kn me sl), (nw, oDrv nc S (lN (kL (S) 0 40))), (nc, aI yI 48 g), (kn, oKn pl ex), (ex, aI yI 1681 E)] := hD
  refine lv_aload_n hx hb dX4_known_5 rfl (lv_at hl 0 rfl) ?_
  refine va_get (D := D) (ci := 4) (v := .ref kn) (C := RX4) (T := TX4) (N := 6) hx hb hts hinX4 hown hK hP 0 rfl rfl 3 (by decide) hf29 (fun _ h9 => h9) rfl dX4_known_6 ?_
  refine lv_aload_n hx hb dX4_known_9 rfl (lv_at hl 0 rfl) ?_
  refine va_get (D := D) (ci := 4) (v := .ref nw) (C := RX4) (T := TX4) (N := 6) hx hb hts hinX4 hown hK hP 0 rfl rfl 1 (by decide) hf19 (fun _ h9 => h9) rfl dX4_known_10 ?_
  refine lv_iconst (v := iI (-1)) hx hb dX4_known_13 (by decide +kernel) ?_
  refine iv_rwVv (As := [.ref nw, .int (iI (-1))]) (rest := []) (C := RX1) (n := 2) ⟨hx, hb, hml, hown, hts⟩ (c_X1_learnFrom l D yI yC yD kn ex pl E nw nc S g (-1) (by assumption) (by assumption) (by omega) _) (cwV 2 hts gX4_known_X1_learnFrom rfl rfl rfl (by decide +kernel) ⟨Nat.le_of_ble_eq_true rfl, Nat.le_of_ble_eq_true rfl⟩) hK hP hD hS hA [3, 4, 1, 2] (by decide) rfl 3 rfl rfl rfl hl.1 rfl (Nat.le_of_ble_eq_true rfl) dX4_known_14 ⟨Nat.zero_le _, Nat.zero_le _⟩ (fun _ => rfl) (fun u14 H locs hw14 hP hD hS => ?_)
  obtain ⟨G914, hu14⟩ : ∃ z, z = u14 := ⟨_, rfl⟩
  subst hu14
  have hE9_14 := hw14
  have hP : va_P D vwCl [(x, oRD tx nw tr kn me sl), (nw, oDrv nc S (lN (kL S 0 40))), (nc, aI yI 48 g), (kn, oKn (S 0) ex), (ex, aI yI 1681 G914)] H := hP
  have hD : va_D A [(x, oRD tx nw tr kn me sl), (nw, oDrv nc S (lN (kL S 0 40))), (nc, aI yI 48 g), (kn, oKn (S 0) ex), (ex, aI yI 1681 G914)] := hD
  refine lv_aload_n hx hb dX4_known_17 rfl (lv_at hl 0 rfl) ?_
  refine va_get (D := D) (ci := 4) (v := .ref kn) (C := RX4) (T := TX4) (N := 6) hx hb hts hinX4 hown hK hP 0 rfl rfl 3 (by decide) hf29 (fun _ h9 => h9) rfl dX4_known_18 ?_
  refine lv_iload_n hx hb dX4_known_21 rfl (lv_at hl 1 rfl) ?_
  refine iv_roV (As := [.int (iI i)]) (rest := []) (C := RX1) (n := 1) ⟨hx, hb, hml, hown, hts⟩ (c_X1_sure l D yI yC yD kn ex (S 0) G914 (FB S (-1)) i (by omega) (by assumption) (gb_FB hI _) (by omega)) (cwV 1 hts gX4_known_X1_sure rfl rfl rfl (by decide +kernel) ⟨Nat.le_of_ble_eq_true rfl, Nat.le_of_ble_eq_true rfl⟩) hK hP [3, 4] rfl 3 rfl rfl rfl hl.1 rfl (Nat.le_of_ble_eq_true rfl) dX4_known_22 ⟨Nat.zero_le _, Nat.zero_le _⟩ ?_
  have hP9 : va_P D vwCl [(x, oRD tx nw tr kn me sl), (nw, oDrv nc S (lN (kL (S) 0 40))), (nc, aI yI 48 g), (kn, oKn (S 0) ex), (ex, aI yI 1681 G914)] _ := hP.sub [0, 1, 2, 3, 4] rfl
  exact W.iret hx hb hr (fun t ht hW => ⟨⟨iI (knownOf (FB S (-1)) i), (S 0, G914), rfl, ⟨rfl, trivial⟩, by show va_P D vwCl _ t.heap; rw [ht]; exact hP9⟩, hS.F ht⟩) hS.2.2 dX4_known_25
set_option maxHeartbeats 4000000 in
set_option maxRecDepth 100000 in
theorem c_X4_knownAt_ok (l : Launch) (D : va_G) (yI yC yD : ClassId) (x : Nat) (tx : Nat) (nw : Nat) (tr : Nat) (kn : Nat) (me : Nat) (sl : Nat) (nc : Nat) (S : Int → Int) (g : Int → Int) (ex : Nat) (pl : Int) (E : Int → Int) (i : Int) (hI : Inv S) (hR : Rc S g) (hi9 : inR i) (hpl9 : 0 ≤ i) (sz : Nat) : Met l yX4_knownAt wsX4_knownAt ({ frames := 4, cells := 0, slots := 0, locals := 99 }) (rwP [.ref x, .int (iI i)] D (tyz yI yC yD) [(x, oRD tx nw tr kn me sl), (nw, oDrv nc S (lN (kL (S) 0 40))), (nc, aI yI 48 g), (kn, oKn pl ex), (ex, aI yI 1681 E)] sz) (va_Qi (fun (r : Int32) (u : Int × (Int → Int)) => match u with | (p9, E9) => r = iI (kAt (FB S (-1)) i (S 0).toNat) ∧ True) (fun (u : Int × (Int → Int)) (t : State) => match u with | (p9, E9) => va_P D vwCl [(x, oRD tx nw tr kn me sl), (nw, oDrv nc S (lN (kL (S) 0 40))), (nc, aI yI 48 g), (kn, oKn p9 ex), (ex, aI yI 1681 E9)] t.heap) (va_A [(x, oRD tx nw tr kn me sl), (nw, oDrv nc S (lN (kL (S) 0 40))), (nc, aI yI 48 g), (kn, oKn pl ex), (ex, aI yI 1681 E)] sz)) 0 0 (va_A [(x, oRD tx nw tr kn me sl), (nw, oDrv nc S (lN (kL (S) 0 40))), (nc, aI yI 48 g), (kn, oKn pl ex), (ex, aI yI 1681 E)] sz) := by
  refine Met.ofW (cc := cX4_knownAt) (maxL := 2) (ret := (some .int)) (by decide) rfl ?_
  intro p e s m args below meth c s₁ B hml hv
  obtain ⟨rfl, hsz, hP, hK, hD0⟩ := hv
  have hx := B.exec
  have hb := B.bytes
  have hr := B.returns
  have hts := atoms_spec (ws := wsX4_knownAt) B.pre
  have hown : s.vm.findClass RX4 = some m.cls := findClass_of_methodNamed B.named
  have hlocks := B.notSynchronized
  subst hsz
  have hD := hD0.self (sz := s.heap.size)
  generalize hAe : va_A [(x, oRD tx nw tr kn me sl), (nw, oDrv nc S (lN (kL (S) 0 40))), (nc, aI yI 48 g), (kn, oKn pl ex), (ex, aI yI 1681 E)] s.heap.size = A at hD ⊢
  have hA : ∀ q : Nat, s.heap.size ≤ q → A q := fun q h => by rw [← hAe]; exact Or.inr h
  have hS : va_S A s.heap s.heap [] := va_S.rf
  have hP : va_P D vwCl [(x, oRD tx nw tr kn me sl), (nw, oDrv nc S (lN (kL (S) 0 40))), (nc, aI yI 48 g), (kn, oKn pl ex), (ex, aI yI 1681 E)] s.heap := hP
  have hinX4 : ∀ w ∈ wsX40, w ∈ wsX4_knownAt := by decide +kernel
  have hf19 : (Cond.fieldLink RX4 19 "RiddleDrive" "now" "LRiddleDrive$Drive;").before _ s = true := hts _ (by decide +kernel)
  have hf29 : (Cond.fieldLink RX4 29 "RiddleDrive" "knowledge" "LRiddleDrive$Knowledge;").before _ s = true := hts _ (by decide +kernel)
  have hl := lv_entry ([.ref x, .int (iI i)]) (n := 2) (Nat.le_of_ble_eq_true rfl)
  rw [lg_entry_eq]
  generalize (lg_sl ([.ref x, .int (iI i)]) ++ List.replicate (2 - (lg_sl ([.ref x, .int (iI i)])).length) Slot.unset).toArray = ls at hl ⊢
  have hl : lv_has ls 2 [(0, .ref x), (1, .int (iI i))] := hl
  have hpl := hI.pl
  have hna := hI.na
  have hse := hI.se
  have hwi := hI.wi
  have hfe := hI.fe
  refine lv_iload_n hx hb dX4_knownAt_0 rfl (lv_at hl 1 rfl) ?_
  refine iv_if_ge (a := i) (tgt := 14) hx hb (by omega) dX4_knownAt_1 (by decide) (fun c1 => ?_) (fun c1 => ?_)
  · refine lv_aload_n hx hb dX4_knownAt_14 rfl (lv_at hl 0 rfl) ?_
    refine va_get (D := D) (ci := 4) (v := .ref kn) (C := RX4) (T := TX4) (N := 6) hx hb hts hinX4 hown hK hP 0 rfl rfl 3 (by decide) hf29 (fun _ h9 => h9) rfl dX4_knownAt_15 ?_
    refine lv_aload_n hx hb dX4_knownAt_18 rfl (lv_at hl 0 rfl) ?_
    refine va_get (D := D) (ci := 4) (v := .ref nw) (C := RX4) (T := TX4) (N := 6) hx hb hts hinX4 hown hK hP 0 rfl rfl 1 (by decide) hf19 (fun _ h9 => h9) rfl dX4_knownAt_19 ?_
    refine lv_iconst (v := iI (-1)) hx hb dX4_knownAt_22 (by decide +kernel) ?_
    refine iv_rwVv (As := [.ref nw, .int (iI (-1))]) (rest := []) (C := RX1) (n := 2) ⟨hx, hb, hml, hown, hts⟩ (c_X1_learnFrom l D yI yC yD kn ex pl E nw nc S g (-1) (by assumption) (by assumption) (by omega) _) (cwV 2 hts gX4_knownAt_X1_learnFrom rfl rfl rfl (by decide +kernel) ⟨Nat.le_of_ble_eq_true rfl, Nat.le_of_ble_eq_true rfl⟩) hK hP hD hS hA [3, 4, 1, 2] (by decide) rfl 3 rfl rfl rfl hl.1 rfl (Nat.le_of_ble_eq_true rfl) dX4_knownAt_23 ⟨Nat.zero_le _, Nat.zero_le _⟩ (fun _ => rfl) (fun u23 H locs hw23 hP hD hS => ?_)
    obtain ⟨G923, hu23⟩ : ∃ z, z = u23 := ⟨_, rfl⟩
    subst hu23
    have hE9_23 := hw23
    have hP : va_P D vwCl [(x, oRD tx nw tr kn me sl), (nw, oDrv nc S (lN (kL S 0 40))), (nc, aI yI 48 g), (kn, oKn (S 0) ex), (ex, aI yI 1681 G923)] H := hP
    have hD : va_D A [(x, oRD tx nw tr kn me sl), (nw, oDrv nc S (lN (kL S 0 40))), (nc, aI yI 48 g), (kn, oKn (S 0) ex), (ex, aI yI 1681 G923)] := hD
    refine lv_aload_n hx hb dX4_knownAt_26 rfl (lv_at hl 0 rfl) ?_
    refine va_get (D := D) (ci := 4) (v := .ref kn) (C := RX4) (T := TX4) (N := 6) hx hb hts hinX4 hown hK hP 0 rfl rfl 3 (by decide) hf29 (fun _ h9 => h9) rfl dX4_knownAt_27 ?_
    refine lv_iload_n hx hb dX4_knownAt_30 rfl (lv_at hl 1 rfl) ?_
    refine iv_roV (As := [.int (iI i)]) (rest := []) (C := RX1) (n := 1) ⟨hx, hb, hml, hown, hts⟩ (c_X1_surePlace l D yI yC yD kn ex (S 0) G923 (FB S (-1)) i (by omega) (by assumption) (gb_FB hI _) (by omega)) (cwV 1 hts gX4_knownAt_X1_surePlace rfl rfl rfl (by decide +kernel) ⟨Nat.le_of_ble_eq_true rfl, Nat.le_of_ble_eq_true rfl⟩) hK hP [3, 4] rfl 3 rfl rfl rfl hl.1 rfl (Nat.le_of_ble_eq_true rfl) dX4_knownAt_31 ⟨Nat.zero_le _, Nat.zero_le _⟩ ?_
    have hP9 : va_P D vwCl [(x, oRD tx nw tr kn me sl), (nw, oDrv nc S (lN (kL (S) 0 40))), (nc, aI yI 48 g), (kn, oKn (S 0) ex), (ex, aI yI 1681 G923)] _ := hP.sub [0, 1, 2, 3, 4] rfl
    exact W.iret hx hb hr (fun t ht hW => ⟨⟨iI (kAt (FB S (-1)) i (S 0).toNat), (S 0, G923), rfl, ⟨rfl, trivial⟩, by show va_P D vwCl _ t.heap; rw [ht]; exact hP9⟩, hS.F ht⟩) hS.2.2 dX4_knownAt_34
  · exact absurd c1 (by omega)
set_option maxHeartbeats 4000000 in
set_option maxRecDepth 100000 in
theorem c_X4_costs_ok (l : Launch) (D : va_G) (yI yC yD : ClassId) (x : Nat) (tx : Nat) (nw : Nat) (tr : Nat) (kn : Nat) (me : Nat) (sl : Nat) (nc : Nat) (S : Int → Int) (g : Int → Int) (a : Int) (b : Int) (hI : Inv S) (hR : Rc S g) (hab9 : inR a ∧ inR b) (hab : 0 ≤ a ∧ a ≤ b ∧ b < S 0) (sz : Nat) : Met l yX4_costs wsX4_costs ({ frames := 3, cells := 0, slots := 0, locals := 68 }) (rwP [.ref x, .int (iI a), .int (iI b)] D (tyz yI yC yD) [(x, oRD tx nw tr kn me sl), (nw, oDrv nc S (lN (kL (S) 0 40))), (nc, aI yI 48 g)] sz) (va_Qi (fun (r : Int32) (_ : Unit) => r = iI (if S 1 ≤ b - a + 1 then costOf S a b else -1) ∧ True) (fun (_ : Unit) (t : State) => va_P D vwCl [(x, oRD tx nw tr kn me sl), (nw, oDrv nc S (lN (kL (S) 0 40))), (nc, aI yI 48 g)] t.heap) (va_A [(x, oRD tx nw tr kn me sl), (nw, oDrv nc S (lN (kL (S) 0 40))), (nc, aI yI 48 g)] sz)) 0 0 (va_A [(x, oRD tx nw tr kn me sl), (nw, oDrv nc S (lN (kL (S) 0 40))), (nc, aI yI 48 g)] sz) := by
  refine Met.ofW (cc := cX4_costs) (maxL := 3) (ret := (some .int)) (by decide) rfl ?_
  intro p e s m args below meth c s₁ B hml hv
  obtain ⟨rfl, hsz, hP, hK, hD0⟩ := hv
  have hx := B.exec
  have hb := B.bytes
  have hr := B.returns
  have hts := atoms_spec (ws := wsX4_costs) B.pre
  have hown : s.vm.findClass RX4 = some m.cls := findClass_of_methodNamed B.named
  have hlocks := B.notSynchronized
  subst hsz
  have hD := hD0.self (sz := s.heap.size)
  generalize hAe : va_A [(x, oRD tx nw tr kn me sl), (nw, oDrv nc S (lN (kL (S) 0 40))), (nc, aI yI 48 g)] s.heap.size = A at hD ⊢
  have hA : ∀ q : Nat, s.heap.size ≤ q → A q := fun q h => by rw [← hAe]; exact Or.inr h
  have hS : va_S A s.heap s.heap [] := va_S.rf
  have hP : va_P D vwCl [(x, oRD tx nw tr kn me sl), (nw, oDrv nc S (lN (kL (S) 0 40))), (nc, aI yI 48 g)] s.heap := hP
  have hinX4 : ∀ w ∈ wsX40, w ∈ wsX4_costs := by decide +kernel
  have hf19 : (Cond.fieldLink RX4 19 "RiddleDrive" "now" "LRiddleDrive$Drive;").before _ s = true := hts _ (by decide +kernel)
  have hl := lv_entry ([.ref x, .int (iI a), .int (iI b)]) (n := 3) (Nat.le_of_ble_eq_true rfl)
  rw [lg_entry_eq]
  generalize (lg_sl ([.ref x, .int (iI a), .int (iI b)]) ++ List.replicate (3 - (lg_sl ([.ref x, .int (iI a), .int (iI b)])).length) Slot.unset).toArray = ls at hl ⊢
  have hl : lv_has ls 3 [(0, .ref x), (1, .int (iI a)), (2, .int (iI b))] := hl
  have hpl := hI.pl
  have hna := hI.na
  have hse := hI.se
  have hwi := hI.wi
  have hfe := hI.fe
  refine lv_aload_n hx hb dX4_costs_0 rfl (lv_at hl 0 rfl) ?_
  refine lv_iload_n hx hb dX4_costs_1 rfl (lv_at hl 1 rfl) ?_
  refine lv_iload_n hx hb dX4_costs_2 rfl (lv_at hl 2 rfl) ?_
  refine iv_rwVv (As := [.int (iI a), .int (iI b)]) (rest := []) (C := RX4) (n := 2) ⟨hx, hb, hml, hown, hts⟩ (c_X4_checkRange_ok l D yI yC yD x tx nw tr kn me sl nc S g a b (by assumption) ((⟨⟨by omega, by omega⟩, ⟨by omega, by omega⟩⟩)) (by omega) _) (cwV 2 hts gX4_costs_X4_checkRange rfl rfl rfl (by decide +kernel) ⟨Nat.le_of_ble_eq_true rfl, Nat.le_of_ble_eq_true rfl⟩) hK hP hD hS hA [0, 1, 2] (by decide) rfl 0 rfl rfl rfl hl.1 rfl (Nat.le_of_ble_eq_true rfl) dX4_costs_3 ⟨Nat.zero_le _, Nat.zero_le _⟩ (fun _ => rfl) (fun u3 H locs hw3 hP hD hS => ?_)
  have hP : va_P D vwCl [(x, oRD tx nw tr kn me sl), (nw, oDrv nc S (lN (kL (S) 0 40))), (nc, aI yI 48 g)] H := hP
  have hD : va_D A [(x, oRD tx nw tr kn me sl), (nw, oDrv nc S (lN (kL (S) 0 40))), (nc, aI yI 48 g)] := hD
  refine lv_aload_n hx hb dX4_costs_6 rfl (lv_at hl 0 rfl) ?_
  refine va_get (D := D) (ci := 4) (v := .ref nw) (C := RX4) (T := TX4) (N := 6) hx hb hts hinX4 hown hK hP 0 rfl rfl 1 (by decide) hf19 (fun _ h9 => h9) rfl dX4_costs_7 ?_
  refine lv_iload_n hx hb dX4_costs_10 rfl (lv_at hl 1 rfl) ?_
  refine lv_iload_n hx hb dX4_costs_11 rfl (lv_at hl 2 rfl) ?_
  refine iv_roV (As := [.int (iI a), .int (iI b)]) (rest := []) (C := RX0) (n := 2) ⟨hx, hb, hml, hown, hts⟩ (c_X0_isNarrow l D yI yC yD nw nc S g (lN (kL (S) 0 40)) a b (by omega) (by omega)) (cwV 2 hts gX4_costs_X0_isNarrow rfl rfl rfl (by decide +kernel) ⟨Nat.le_of_ble_eq_true rfl, Nat.le_of_ble_eq_true rfl⟩) hK hP [1, 2] rfl 1 rfl rfl rfl hl.1 rfl (Nat.le_of_ble_eq_true rfl) dX4_costs_12 ⟨Nat.zero_le _, Nat.zero_le _⟩ ?_
  refine iv_ifb_eq (P := b - a + 1 < S 1) (tgt := 22) hx hb dX4_costs_15 (by decide) (fun c15 => ?_) (fun c15 => ?_)
  · refine lv_aload_n hx hb dX4_costs_22 rfl (lv_at hl 0 rfl) ?_
    refine va_get (D := D) (ci := 4) (v := .ref nw) (C := RX4) (T := TX4) (N := 6) hx hb hts hinX4 hown hK hP 0 rfl rfl 1 (by decide) hf19 (fun _ h9 => h9) rfl dX4_costs_23 ?_
    refine lv_iload_n hx hb dX4_costs_26 rfl (lv_at hl 1 rfl) ?_
    refine lv_iload_n hx hb dX4_costs_27 rfl (lv_at hl 2 rfl) ?_
    refine iv_roV (As := [.int (iI a), .int (iI b)]) (rest := []) (C := RX0) (n := 2) ⟨hx, hb, hml, hown, hts⟩ (c_X0_price l D yI yC yD nw nc S g a b (by assumption) (by assumption) (by omega)) (cwV 2 hts gX4_costs_X0_price rfl rfl rfl (by decide +kernel) ⟨Nat.le_of_ble_eq_true rfl, Nat.le_of_ble_eq_true rfl⟩) hK hP [1, 2] rfl 1 rfl rfl rfl hl.1 rfl (Nat.le_of_ble_eq_true rfl) dX4_costs_28 ⟨Nat.zero_le _, Nat.zero_le _⟩ ?_
    have hP9 : va_P D vwCl [(x, oRD tx nw tr kn me sl), (nw, oDrv nc S (lN (kL (S) 0 40))), (nc, aI yI 48 g)] _ := hP.sub [0, 1, 2] rfl
    exact W.iret hx hb hr (fun t ht hW => ⟨⟨iI (costOf S a b), (), rfl, ⟨congrArg iI (show costOf S a b = if S 1 ≤ b - a + 1 then costOf S a b else -1 by first | rw [if_pos (by omega)] | rw [if_neg (by omega)]), trivial⟩, by show va_P D vwCl _ t.heap; rw [ht]; exact hP9⟩, hS.F ht⟩) hS.2.2 dX4_costs_31
  · refine lv_iconst (v := iI (-1)) hx hb dX4_costs_18 (by decide +kernel) ?_
    refine lv_goto (tgt := 31) hx hb dX4_costs_19 (by decide) ?_
    have hP9 : va_P D vwCl [(x, oRD tx nw tr kn me sl), (nw, oDrv nc S (lN (kL (S) 0 40))), (nc, aI yI 48 g)] _ := hP.sub [0, 1, 2] rfl
    exact W.iret hx hb hr (fun t ht hW => ⟨⟨iI (-1), (), rfl, ⟨congrArg iI (show -1 = if S 1 ≤ b - a + 1 then costOf S a b else -1 by first | rw [if_pos (by omega)] | rw [if_neg (by omega)]), trivial⟩, by show va_P D vwCl _ t.heap; rw [ht]; exact hP9⟩, hS.F ht⟩) hS.2.2 dX4_costs_31
set_option maxHeartbeats 4000000 in
set_option maxRecDepth 100000 in
theorem c_X4_worst_ok (l : Launch) (D : va_G) (yI yC yD : ClassId) (x : Nat) (tx : Nat) (nw : Nat) (tr : Nat) (kn : Nat) (me : Nat) (sl : Nat) (nc : Nat) (S : Int → Int) (g : Int → Int) (ex : Nat) (pl : Int) (E : Int → Int) (a : Int) (b : Int) (hI : Inv S) (hR : Rc S g) (hab9 : inR a ∧ inR b) (hab : 0 ≤ a ∧ a ≤ b ∧ b < S 0) (sz : Nat) : Met l yX4_worst wsX4_worst ({ frames := 4, cells := 0, slots := 0, locals := 99 }) (rwP [.ref x, .int (iI a), .int (iI b)] D (tyz yI yC yD) [(x, oRD tx nw tr kn me sl), (nw, oDrv nc S (lN (kL (S) 0 40))), (nc, aI yI 48 g), (kn, oKn pl ex), (ex, aI yI 1681 E)] sz) (va_Qi (fun (r : Int32) (u : Int × (Int → Int)) => match u with | (p9, E9) => r = iI (if S 1 ≤ b - a + 1 then worstQ S a b else -1) ∧ True) (fun (u : Int × (Int → Int)) (t : State) => match u with | (p9, E9) => va_P D vwCl [(x, oRD tx nw tr kn me sl), (nw, oDrv nc S (lN (kL (S) 0 40))), (nc, aI yI 48 g), (kn, oKn p9 ex), (ex, aI yI 1681 E9)] t.heap) (va_A [(x, oRD tx nw tr kn me sl), (nw, oDrv nc S (lN (kL (S) 0 40))), (nc, aI yI 48 g), (kn, oKn pl ex), (ex, aI yI 1681 E)] sz)) 0 0 (va_A [(x, oRD tx nw tr kn me sl), (nw, oDrv nc S (lN (kL (S) 0 40))), (nc, aI yI 48 g), (kn, oKn pl ex), (ex, aI yI 1681 E)] sz) := by
  refine Met.ofW (cc := cX4_worst) (maxL := 7) (ret := (some .int)) (by decide) rfl ?_
  intro p e s m args below meth c s₁ B hml hv
  obtain ⟨rfl, hsz, hP, hK, hD0⟩ := hv
  have hx := B.exec
  have hb := B.bytes
  have hr := B.returns
  have hts := atoms_spec (ws := wsX4_worst) B.pre
  have hown : s.vm.findClass RX4 = some m.cls := findClass_of_methodNamed B.named
  have hlocks := B.notSynchronized
  subst hsz
  have hD := hD0.self (sz := s.heap.size)
  generalize hAe : va_A [(x, oRD tx nw tr kn me sl), (nw, oDrv nc S (lN (kL (S) 0 40))), (nc, aI yI 48 g), (kn, oKn pl ex), (ex, aI yI 1681 E)] s.heap.size = A at hD ⊢
  have hA : ∀ q : Nat, s.heap.size ≤ q → A q := fun q h => by rw [← hAe]; exact Or.inr h
  have hS : va_S A s.heap s.heap [] := va_S.rf
  have hP : va_P D vwCl [(x, oRD tx nw tr kn me sl), (nw, oDrv nc S (lN (kL (S) 0 40))), (nc, aI yI 48 g), (kn, oKn pl ex), (ex, aI yI 1681 E)] s.heap := hP
  have hinX0 : ∀ w ∈ wsX00, w ∈ wsX4_worst := by decide +kernel
  have hinX4 : ∀ w ∈ wsX40, w ∈ wsX4_worst := by decide +kernel
  have hf19 : (Cond.fieldLink RX4 19 "RiddleDrive" "now" "LRiddleDrive$Drive;").before _ s = true := hts _ (by decide +kernel)
  have hf29 : (Cond.fieldLink RX4 29 "RiddleDrive" "knowledge" "LRiddleDrive$Knowledge;").before _ s = true := hts _ (by decide +kernel)
  have hf91 : (Cond.fieldLink RX4 91 "RiddleDrive$Drive" "places" "I").before _ s = true := hts _ (by decide +kernel)
  have hf101 : (Cond.fieldLink RX4 101 "RiddleDrive$Drive" "secrecy" "I").before _ s = true := hts _ (by decide +kernel)
  have hl := lv_entry ([.ref x, .int (iI a), .int (iI b)]) (n := 7) (Nat.le_of_ble_eq_true rfl)
  rw [lg_entry_eq]
  generalize (lg_sl ([.ref x, .int (iI a), .int (iI b)]) ++ List.replicate (7 - (lg_sl ([.ref x, .int (iI a), .int (iI b)])).length) Slot.unset).toArray = ls at hl ⊢
  have hl : lv_has ls 7 [(0, .ref x), (1, .int (iI a)), (2, .int (iI b))] := hl
  have hpl := hI.pl
  have hna := hI.na
  have hse := hI.se
  have hwi := hI.wi
  have hfe := hI.fe
  refine lv_aload_n hx hb dX4_worst_0 rfl (lv_at hl 0 rfl) ?_
  refine lv_iload_n hx hb dX4_worst_1 rfl (lv_at hl 1 rfl) ?_
  refine lv_iload_n hx hb dX4_worst_2 rfl (lv_at hl 2 rfl) ?_
  refine iv_rwVv (As := [.int (iI a), .int (iI b)]) (rest := []) (C := RX4) (n := 2) ⟨hx, hb, hml, hown, hts⟩ (c_X4_checkRange_ok l D yI yC yD x tx nw tr kn me sl nc S g a b (by assumption) ((⟨⟨by omega, by omega⟩, ⟨by omega, by omega⟩⟩)) (by omega) _) (cwV 2 hts gX4_worst_X4_checkRange rfl rfl rfl (by decide +kernel) ⟨Nat.le_of_ble_eq_true rfl, Nat.le_of_ble_eq_true rfl⟩) hK hP hD hS hA [0, 1, 2] (by decide) rfl 0 rfl rfl rfl hl.1 rfl (Nat.le_of_ble_eq_true rfl) dX4_worst_3 ⟨Nat.zero_le _, Nat.zero_le _⟩ (fun _ => rfl) (fun u3 H locs hw3 hP hD hS => ?_)
  have hP : va_P D vwCl [(x, oRD tx nw tr kn me sl), (nw, oDrv nc S (lN (kL (S) 0 40))), (nc, aI yI 48 g), (kn, oKn pl ex), (ex, aI yI 1681 E)] H := hP
  have hD : va_D A [(x, oRD tx nw tr kn me sl), (nw, oDrv nc S (lN (kL (S) 0 40))), (nc, aI yI 48 g), (kn, oKn pl ex), (ex, aI yI 1681 E)] := hD
  have hmq := ml_r (wo := -1) (a := a) (b := b) hpl.2 (by omega)
  have hle := most_le hI (a := a) (b := b) (by omega)
  refine lv_aload_n hx hb dX4_worst_6 rfl (lv_at hl 0 rfl) ?_
  refine va_get (D := D) (ci := 4) (v := .ref nw) (C := RX4) (T := TX4) (N := 6) hx hb hts hinX4 hown hK hP 0 rfl rfl 1 (by decide) hf19 (fun _ h9 => h9) rfl dX4_worst_7 ?_
  refine lv_iload_n hx hb dX4_worst_10 rfl (lv_at hl 1 rfl) ?_
  refine lv_iload_n hx hb dX4_worst_11 rfl (lv_at hl 2 rfl) ?_
  refine iv_roV (As := [.int (iI a), .int (iI b)]) (rest := []) (C := RX0) (n := 2) ⟨hx, hb, hml, hown, hts⟩ (c_X0_isNarrow l D yI yC yD nw nc S g (lN (kL (S) 0 40)) a b (by omega) (by omega)) (cwV 2 hts gX4_worst_X0_isNarrow rfl rfl rfl (by decide +kernel) ⟨Nat.le_of_ble_eq_true rfl, Nat.le_of_ble_eq_true rfl⟩) hK hP [1, 2] rfl 1 rfl rfl rfl hl.1 rfl (Nat.le_of_ble_eq_true rfl) dX4_worst_12 ⟨Nat.zero_le _, Nat.zero_le _⟩ ?_
  refine iv_ifb_eq (P := b - a + 1 < S 1) (tgt := 20) hx hb dX4_worst_15 (by decide) (fun c15 => ?_) (fun c15 => ?_)
  · refine lv_aload_n hx hb dX4_worst_20 rfl (lv_at hl 0 rfl) ?_
    refine va_get (D := D) (ci := 4) (v := .ref kn) (C := RX4) (T := TX4) (N := 6) hx hb hts hinX4 hown hK hP 0 rfl rfl 3 (by decide) hf29 (fun _ h9 => h9) rfl dX4_worst_21 ?_
    refine lv_aload_n hx hb dX4_worst_24 rfl (lv_at hl 0 rfl) ?_
    refine va_get (D := D) (ci := 4) (v := .ref nw) (C := RX4) (T := TX4) (N := 6) hx hb hts hinX4 hown hK hP 0 rfl rfl 1 (by decide) hf19 (fun _ h9 => h9) rfl dX4_worst_25 ?_
    refine lv_iconst (v := iI (-1)) hx hb dX4_worst_28 (by decide +kernel) ?_
    refine iv_rwVv (As := [.ref nw, .int (iI (-1))]) (rest := []) (C := RX1) (n := 2) ⟨hx, hb, hml, hown, hts⟩ (c_X1_learnFrom l D yI yC yD kn ex pl E nw nc S g (-1) (by assumption) (by assumption) (by omega) _) (cwV 2 hts gX4_worst_X1_learnFrom rfl rfl rfl (by decide +kernel) ⟨Nat.le_of_ble_eq_true rfl, Nat.le_of_ble_eq_true rfl⟩) hK hP hD hS hA [3, 4, 1, 2] (by decide) rfl 3 rfl rfl rfl hl.1 rfl (Nat.le_of_ble_eq_true rfl) dX4_worst_29 ⟨Nat.zero_le _, Nat.zero_le _⟩ (fun _ => rfl) (fun u29 H locs hw29 hP hD hS => ?_)
    obtain ⟨G929, hu29⟩ : ∃ z, z = u29 := ⟨_, rfl⟩
    subst hu29
    have hE9_29 := hw29
    have hP : va_P D vwCl [(x, oRD tx nw tr kn me sl), (nw, oDrv nc S (lN (kL S 0 40))), (nc, aI yI 48 g), (kn, oKn (S 0) ex), (ex, aI yI 1681 G929)] H := hP
    have hD : va_D A [(x, oRD tx nw tr kn me sl), (nw, oDrv nc S (lN (kL S 0 40))), (nc, aI yI 48 g), (kn, oKn (S 0) ex), (ex, aI yI 1681 G929)] := hD
    refine lv_aload_n hx hb dX4_worst_32 rfl (lv_at hl 0 rfl) ?_
    refine va_get (D := D) (ci := 4) (v := .ref kn) (C := RX4) (T := TX4) (N := 6) hx hb hts hinX4 hown hK hP 0 rfl rfl 3 (by decide) hf29 (fun _ h9 => h9) rfl dX4_worst_33 ?_
    refine lv_iload_n hx hb dX4_worst_36 rfl (lv_at hl 1 rfl) ?_
    refine lv_iload_n hx hb dX4_worst_37 rfl (lv_at hl 2 rfl) ?_
    refine iv_roV (As := [.int (iI a), .int (iI b)]) (rest := []) (C := RX1) (n := 2) ⟨hx, hb, hml, hown, hts⟩ (c_X1_fewestKeys l D yI yC yD kn ex (S 0) G929 (FB S (-1)) a b (by omega) (by assumption) (by omega)) (cwV 2 hts gX4_worst_X1_fewestKeys rfl rfl rfl (by decide +kernel) ⟨Nat.le_of_ble_eq_true rfl, Nat.le_of_ble_eq_true rfl⟩) hK hP [3, 4] rfl 3 rfl rfl rfl hl.1 rfl (Nat.le_of_ble_eq_true rfl) dX4_worst_38 ⟨Nat.zero_le _, Nat.zero_le _⟩ ?_
    refine lv_istore_n (lv' := [(3, .int (iI (leastI (FB S (-1)) a b))), (0, .ref x), (1, .int (iI a)), (2, .int (iI b))]) hx hb dX4_worst_41 rfl hl (by decide) rfl (fun ls hl => ?_)
    refine lv_aload_n hx hb dX4_worst_42 rfl (lv_at hl 1 rfl) ?_
    refine va_get (D := D) (ci := 4) (v := .ref kn) (C := RX4) (T := TX4) (N := 6) hx hb hts hinX4 hown hK hP 0 rfl rfl 3 (by decide) hf29 (fun _ h9 => h9) rfl dX4_worst_43 ?_
    refine lv_iload_n hx hb dX4_worst_46 rfl (lv_at hl 2 rfl) ?_
    refine lv_iload_n hx hb dX4_worst_47 rfl (lv_at hl 3 rfl) ?_
    refine iv_roV (As := [.int (iI a), .int (iI b)]) (rest := []) (C := RX1) (n := 2) ⟨hx, hb, hml, hown, hts⟩ (c_X1_greatestKeys l D yI yC yD kn ex (S 0) G929 (FB S (-1)) a b (by omega) (by assumption) (by omega)) (cwV 2 hts gX4_worst_X1_greatestKeys rfl rfl rfl (by decide +kernel) ⟨Nat.le_of_ble_eq_true rfl, Nat.le_of_ble_eq_true rfl⟩) hK hP [3, 4] rfl 3 rfl rfl rfl hl.1 rfl (Nat.le_of_ble_eq_true rfl) dX4_worst_48 ⟨Nat.zero_le _, Nat.zero_le _⟩ ?_
    refine lv_istore (lv' := [(4, .int (iI (mostI (FB S (-1)) a b))), (3, .int (iI (leastI (FB S (-1)) a b))), (0, .ref x), (1, .int (iI a)), (2, .int (iI b))]) hx hb dX4_worst_51 hl (by decide) rfl (fun ls hl => ?_)
    refine lv_aload_n hx hb dX4_worst_53 rfl (lv_at hl 2 rfl) ?_
    refine va_get (D := D) (ci := 4) (v := .ref nw) (C := RX4) (T := TX4) (N := 6) hx hb hts hinX4 hown hK hP 0 rfl rfl 1 (by decide) hf19 (fun _ h9 => h9) rfl dX4_worst_54 ?_
    refine va_get (D := D) (ci := 0) (v := .int (iI (S 0))) (C := RX0) (T := TX0) (N := 10) hx hb hts hinX0 hown hK hP 1 rfl rfl 0 (by decide) hf91 (fun _ h9 => h9) rfl dX4_worst_57 ?_
    refine lv_istore (lv' := [(5, .int (iI (S 0))), (4, .int (iI (mostI (FB S (-1)) a b))), (3, .int (iI (leastI (FB S (-1)) a b))), (0, .ref x), (1, .int (iI a)), (2, .int (iI b))]) hx hb dX4_worst_60 hl (by decide) rfl (fun ls hl => ?_)
    refine lv_iload_n hx hb dX4_worst_62 rfl (lv_at hl 2 rfl) ?_
    refine lv_aload_n hx hb dX4_worst_63 rfl (lv_at hl 3 rfl) ?_
    refine va_get (D := D) (ci := 4) (v := .ref nw) (C := RX4) (T := TX4) (N := 6) hx hb hts hinX4 hown hK hP 0 rfl rfl 1 (by decide) hf19 (fun _ h9 => h9) rfl dX4_worst_64 ?_
    refine va_get (D := D) (ci := 0) (v := .int (iI (S 2))) (C := RX0) (T := TX0) (N := 10) hx hb hts hinX0 hown hK hP 1 rfl rfl 2 (by decide) hf101 (fun _ h9 => h9) rfl dX4_worst_67 ?_
    refine iv_icmp_ge (a := leastI (FB S (-1)) a b) (b := S 2) (tgt := 94) hx hb (by omega) (by omega) dX4_worst_70 (by decide) (fun c70 => ?_) (fun c70 => ?_)
    · refine lv_iload_n hx hb dX4_worst_94 rfl (lv_at hl 2 rfl) ?_
      refine lv_aload_n hx hb dX4_worst_95 rfl (lv_at hl 3 rfl) ?_
      refine va_get (D := D) (ci := 4) (v := .ref nw) (C := RX4) (T := TX4) (N := 6) hx hb hts hinX4 hown hK hP 0 rfl rfl 1 (by decide) hf19 (fun _ h9 => h9) rfl dX4_worst_96 ?_
      refine va_get (D := D) (ci := 0) (v := .int (iI (S 2))) (C := RX0) (T := TX0) (N := 10) hx hb hts hinX0 hown hK hP 1 rfl rfl 2 (by decide) hf101 (fun _ h9 => h9) rfl dX4_worst_99 ?_
      refine iv_max hx hb (hml.trans hl.1.symm) hown (hts (.methodLink RX4 211 Lib.Math.max.name) (by decide +kernel)) (hts (.static Lib.Math.max.name) (by decide +kernel)) (hts (.initialized "java/lang/Math") (by decide +kernel)) (hts (.code Lib.Math.max.name Lib.Math.max.code 2 (some .int)) (by decide +kernel)) (Nat.le_of_ble_eq_true rfl) (Nat.le_of_ble_eq_true rfl) (Nat.zero_le _) (Nat.zero_le _) (by omega) (by omega) dX4_worst_102 ?_
      refine lv_istore (lv' := [(6, .int (iI (max (leastI (FB S (-1)) a b) (S 2)))), (5, .int (iI (S 0))), (4, .int (iI (mostI (FB S (-1)) a b))), (3, .int (iI (leastI (FB S (-1)) a b))), (0, .ref x), (1, .int (iI a)), (2, .int (iI b))]) hx hb dX4_worst_105 hl (by decide) rfl (fun ls hl => ?_)
      refine iv_loop (I := fun (qq : Nat × Int × Int) H locs ls => match qq with | (n, x5, x6) => ((n : Int) ≤ mostI (FB S (-1)) a b + 1 - leastI (FB S (-1)) a b) ∧ (x6 = leastI (FB S (-1)) a b + n ∨ (mostI (FB S (-1)) a b < x6 ∧ (n : Int) = mostI (FB S (-1)) a b + 1 - leastI (FB S (-1)) a b)) ∧ (S 2 ≤ x6 ∧ x6 ≤ 100) ∧ (0 ≤ x5 ∧ x5 ≤ 40) ∧ (x5 = min (S 0) (wsN S (FB S (-1)) a b (leastI (FB S (-1)) a b) n)) ∧ va_P D vwCl [(x, oRD tx nw tr kn me sl), (nw, oDrv nc S (lN (kL S 0 40))), (nc, aI yI 48 g), (kn, oKn (S 0) ex), (ex, aI yI 1681 G929)] H ∧ va_D A [(x, oRD tx nw tr kn me sl), (nw, oDrv nc S (lN (kL S 0 40))), (nc, aI yI 48 g), (kn, oKn (S 0) ex), (ex, aI yI 1681 G929)] ∧ va_S A s.heap H locs ∧ lv_has ls 7 [(6, .int (iI x6)), (5, .int (iI x5)), (4, .int (iI (mostI (FB S (-1)) a b))), (3, .int (iI (leastI (FB S (-1)) a b))), (0, .ref x), (1, .int (iI a)), (2, .int (iI b))]) (μ := fun (qq : Nat × Int × Int) => match qq with | (n, x5, x6) => (mostI (FB S (-1)) a b + 1 - x6).toNat) ((min (max (leastI (FB S (-1)) a b) (S 2)) (mostI (FB S (-1)) a b + 1) - leastI (FB S (-1)) a b).toNat, S 0, max (leastI (FB S (-1)) a b) (S 2)) ?_ ?_
      · exact ⟨by omega, by omega, by omega, by omega, by first | exact ws_e1 hI hab (by omega) | exact ws_e2 hI (by omega), hP, hD, hS, lv_sub hl [0, 1, 2, 3, 4, 5, 6] rfl⟩
      · intro qq H locs ls hI ih107
        obtain ⟨n, x5, x6⟩ := qq
        obtain ⟨hn, h6, hs6, hx5, h5, hP, hD, hS, hl⟩ := hI
        refine lv_iload hx hb dX4_worst_107 (lv_at hl 0 rfl) ?_
        refine lv_iload hx hb dX4_worst_109 (lv_at hl 2 rfl) ?_
        refine iv_icmp_gt (a := x6) (b := mostI (FB S (-1)) a b) (tgt := 140) hx hb (by omega) (by omega) dX4_worst_111 (by decide) (fun c111 => ?_) (fun c111 => ?_)
        · refine lv_iload hx hb dX4_worst_140 (lv_at hl 1 rfl) ?_
          have hP9 : va_P D vwCl [(x, oRD tx nw tr kn me sl), (nw, oDrv nc S (lN (kL (S) 0 40))), (nc, aI yI 48 g), (kn, oKn (S 0) ex), (ex, aI yI 1681 G929)] _ := hP.sub [0, 1, 2, 3, 4] rfl
          exact W.iret hx hb hr (fun t ht hW => ⟨⟨iI x5, (S 0, G929), rfl, ⟨congrArg iI (show x5 = if S 1 ≤ b - a + 1 then worstQ S a b else -1 by rw [if_pos (by omega)]; exact ws_fin hI hab h5 (by omega)), trivial⟩, by show va_P D vwCl _ t.heap; rw [ht]; exact hP9⟩, hS.F ht⟩) hS.2.2 dX4_worst_142
        · refine lv_iload hx hb dX4_worst_114 (lv_at hl 1 rfl) ?_
          refine lv_aload_n hx hb dX4_worst_116 rfl (lv_at hl 4 rfl) ?_
          refine va_get (D := D) (ci := 4) (v := .ref kn) (C := RX4) (T := TX4) (N := 6) hx hb hts hinX4 hown hK hP 0 rfl rfl 3 (by decide) hf29 (fun _ h9 => h9) rfl dX4_worst_117 ?_
          refine lv_iload_n hx hb dX4_worst_120 rfl (lv_at hl 5 rfl) ?_
          refine lv_iload_n hx hb dX4_worst_121 rfl (lv_at hl 6 rfl) ?_
          refine lv_iload hx hb dX4_worst_122 (lv_at hl 0 rfl) ?_
          refine lv_iload hx hb dX4_worst_124 (lv_at hl 0 rfl) ?_
          refine iv_roV (As := [.int (iI a), .int (iI b), .int (iI x6), .int (iI x6)]) (rest := [.int (iI x5)]) (C := RX1) (n := 4) ⟨hx, hb, hml, hown, hts⟩ (c_X1_countSureBehind l D yI yC yD kn ex (S 0) G929 (FB S (-1)) a b x6 x6 (by omega) (by assumption) (gb_FB hI _) (by omega) (by omega)) (cwV 4 hts gX4_worst_X1_countSureBehind rfl rfl rfl (by decide +kernel) ⟨Nat.le_of_ble_eq_true rfl, Nat.le_of_ble_eq_true rfl⟩) hK hP [3, 4] rfl 3 rfl rfl rfl hl.1 rfl (Nat.le_of_ble_eq_true rfl) dX4_worst_126 ⟨Nat.zero_le _, Nat.zero_le _⟩ ?_
          have hcr := cbN_r (r := FB S (-1)) (a := a) (b := b) (few := x6) (many := x6) (S 0).toNat
          refine iv_min hx hb (hml.trans hl.1.symm) hown (hts (.methodLink RX4 216 Lib.Math.min.name) (by decide +kernel)) (hts (.static Lib.Math.min.name) (by decide +kernel)) (hts (.initialized "java/lang/Math") (by decide +kernel)) (hts (.code Lib.Math.min.name Lib.Math.min.code 2 (some .int)) (by decide +kernel)) (Nat.le_of_ble_eq_true rfl) (Nat.le_of_ble_eq_true rfl) (Nat.zero_le _) (Nat.zero_le _) (by omega) (by omega) dX4_worst_129 ?_
          refine lv_istore (lv' := [(5, .int (iI (min x5 (cbN (FB S (-1)) a b x6 x6 (S 0).toNat)))), (6, .int (iI x6)), (4, .int (iI (mostI (FB S (-1)) a b))), (3, .int (iI (leastI (FB S (-1)) a b))), (0, .ref x), (1, .int (iI a)), (2, .int (iI b))]) hx hb dX4_worst_132 hl (by decide) rfl (fun ls hl => ?_)
          refine iv_inc (lv' := [(6, .int (iI (x6 + 1))), (5, .int (iI (min x5 (cbN (FB S (-1)) a b x6 x6 (S 0).toNat)))), (4, .int (iI (mostI (FB S (-1)) a b))), (3, .int (iI (leastI (FB S (-1)) a b))), (0, .ref x), (1, .int (iI a)), (2, .int (iI b))]) hx hb dX4_worst_134 hl (k := 1) rfl (by decide) rfl (fun ls hl => ?_)
          refine lv_goto (tgt := 107) hx hb dX4_worst_137 (by decide) ?_
          refine ih107 (n + 1, min x5 (cbN (FB S (-1)) a b x6 x6 (S 0).toNat), x6 + 1) _ _ (by show ((mostI (FB S (-1)) a b + 1 - (x6 + 1)).toNat : Nat) < (mostI (FB S (-1)) a b + 1 - x6).toNat; omega) ?_
          exact ⟨by omega, by omega, by omega, by omega, ws_st hI hab h5 (by omega) (by omega), hP, hD, hS, lv_sub hl [0, 1, 2, 3, 4, 5, 6] rfl⟩
    · refine lv_aload_n hx hb dX4_worst_73 rfl (lv_at hl 3 rfl) ?_
      refine va_get (D := D) (ci := 4) (v := .ref kn) (C := RX4) (T := TX4) (N := 6) hx hb hts hinX4 hown hK hP 0 rfl rfl 3 (by decide) hf29 (fun _ h9 => h9) rfl dX4_worst_74 ?_
      refine lv_iload_n hx hb dX4_worst_77 rfl (lv_at hl 4 rfl) ?_
      refine lv_iload_n hx hb dX4_worst_78 rfl (lv_at hl 5 rfl) ?_
      refine lv_iconst (v := iI 0) hx hb dX4_worst_79 (by decide +kernel) ?_
      refine lv_aload_n hx hb dX4_worst_80 rfl (lv_at hl 3 rfl) ?_
      refine va_get (D := D) (ci := 4) (v := .ref nw) (C := RX4) (T := TX4) (N := 6) hx hb hts hinX4 hown hK hP 0 rfl rfl 1 (by decide) hf19 (fun _ h9 => h9) rfl dX4_worst_81 ?_
      refine va_get (D := D) (ci := 0) (v := .int (iI (S 2))) (C := RX0) (T := TX0) (N := 10) hx hb hts hinX0 hown hK hP 1 rfl rfl 2 (by decide) hf101 (fun _ h9 => h9) rfl dX4_worst_84 ?_
      refine lv_iconst (v := iI 1) hx hb dX4_worst_87 (by decide +kernel) ?_
      refine iv_sub hx hb dX4_worst_88 ?_
      refine iv_roV (As := [.int (iI a), .int (iI b), .int (iI 0), .int (iI (S 2 - 1))]) (rest := []) (C := RX1) (n := 4) ⟨hx, hb, hml, hown, hts⟩ (c_X1_countSureBehind l D yI yC yD kn ex (S 0) G929 (FB S (-1)) a b 0 (S 2 - 1) (by omega) (by assumption) (gb_FB hI _) (by omega) (by omega)) (cwV 4 hts gX4_worst_X1_countSureBehind rfl rfl rfl (by decide +kernel) ⟨Nat.le_of_ble_eq_true rfl, Nat.le_of_ble_eq_true rfl⟩) hK hP [3, 4] rfl 3 rfl rfl rfl hl.1 rfl (Nat.le_of_ble_eq_true rfl) dX4_worst_89 ⟨Nat.zero_le _, Nat.zero_le _⟩ ?_
      have hcr := cbN_r (r := FB S (-1)) (a := a) (b := b) (few := 0) (many := S 2 - 1) (S 0).toNat
      refine lv_istore (lv' := [(5, .int (iI (cbN (FB S (-1)) a b 0 (S 2 - 1) (S 0).toNat))), (4, .int (iI (mostI (FB S (-1)) a b))), (3, .int (iI (leastI (FB S (-1)) a b))), (0, .ref x), (1, .int (iI a)), (2, .int (iI b))]) hx hb dX4_worst_92 hl (by decide) rfl (fun ls hl => ?_)
      refine lv_iload_n hx hb dX4_worst_94 rfl (lv_at hl 2 rfl) ?_
      refine lv_aload_n hx hb dX4_worst_95 rfl (lv_at hl 3 rfl) ?_
      refine va_get (D := D) (ci := 4) (v := .ref nw) (C := RX4) (T := TX4) (N := 6) hx hb hts hinX4 hown hK hP 0 rfl rfl 1 (by decide) hf19 (fun _ h9 => h9) rfl dX4_worst_96 ?_
      refine va_get (D := D) (ci := 0) (v := .int (iI (S 2))) (C := RX0) (T := TX0) (N := 10) hx hb hts hinX0 hown hK hP 1 rfl rfl 2 (by decide) hf101 (fun _ h9 => h9) rfl dX4_worst_99 ?_
      refine iv_max hx hb (hml.trans hl.1.symm) hown (hts (.methodLink RX4 211 Lib.Math.max.name) (by decide +kernel)) (hts (.static Lib.Math.max.name) (by decide +kernel)) (hts (.initialized "java/lang/Math") (by decide +kernel)) (hts (.code Lib.Math.max.name Lib.Math.max.code 2 (some .int)) (by decide +kernel)) (Nat.le_of_ble_eq_true rfl) (Nat.le_of_ble_eq_true rfl) (Nat.zero_le _) (Nat.zero_le _) (by omega) (by omega) dX4_worst_102 ?_
      refine lv_istore (lv' := [(6, .int (iI (max (leastI (FB S (-1)) a b) (S 2)))), (5, .int (iI (cbN (FB S (-1)) a b 0 (S 2 - 1) (S 0).toNat))), (4, .int (iI (mostI (FB S (-1)) a b))), (3, .int (iI (leastI (FB S (-1)) a b))), (0, .ref x), (1, .int (iI a)), (2, .int (iI b))]) hx hb dX4_worst_105 hl (by decide) rfl (fun ls hl => ?_)
      refine iv_loop (I := fun (qq : Nat × Int × Int) H locs ls => match qq with | (n, x5, x6) => ((n : Int) ≤ mostI (FB S (-1)) a b + 1 - leastI (FB S (-1)) a b) ∧ (x6 = leastI (FB S (-1)) a b + n ∨ (mostI (FB S (-1)) a b < x6 ∧ (n : Int) = mostI (FB S (-1)) a b + 1 - leastI (FB S (-1)) a b)) ∧ (S 2 ≤ x6 ∧ x6 ≤ 100) ∧ (0 ≤ x5 ∧ x5 ≤ 40) ∧ (x5 = min (S 0) (wsN S (FB S (-1)) a b (leastI (FB S (-1)) a b) n)) ∧ va_P D vwCl [(x, oRD tx nw tr kn me sl), (nw, oDrv nc S (lN (kL S 0 40))), (nc, aI yI 48 g), (kn, oKn (S 0) ex), (ex, aI yI 1681 G929)] H ∧ va_D A [(x, oRD tx nw tr kn me sl), (nw, oDrv nc S (lN (kL S 0 40))), (nc, aI yI 48 g), (kn, oKn (S 0) ex), (ex, aI yI 1681 G929)] ∧ va_S A s.heap H locs ∧ lv_has ls 7 [(6, .int (iI x6)), (5, .int (iI x5)), (4, .int (iI (mostI (FB S (-1)) a b))), (3, .int (iI (leastI (FB S (-1)) a b))), (0, .ref x), (1, .int (iI a)), (2, .int (iI b))]) (μ := fun (qq : Nat × Int × Int) => match qq with | (n, x5, x6) => (mostI (FB S (-1)) a b + 1 - x6).toNat) ((min (max (leastI (FB S (-1)) a b) (S 2)) (mostI (FB S (-1)) a b + 1) - leastI (FB S (-1)) a b).toNat, cbN (FB S (-1)) a b 0 (S 2 - 1) (S 0).toNat, max (leastI (FB S (-1)) a b) (S 2)) ?_ ?_
      · exact ⟨by omega, by omega, by omega, by omega, by first | exact ws_e1 hI hab (by omega) | exact ws_e2 hI (by omega), hP, hD, hS, lv_sub hl [0, 1, 2, 3, 4, 5, 6] rfl⟩
      · intro qq H locs ls hI ih107
        obtain ⟨n, x5, x6⟩ := qq
        obtain ⟨hn, h6, hs6, hx5, h5, hP, hD, hS, hl⟩ := hI
        refine lv_iload hx hb dX4_worst_107 (lv_at hl 0 rfl) ?_
        refine lv_iload hx hb dX4_worst_109 (lv_at hl 2 rfl) ?_
        refine iv_icmp_gt (a := x6) (b := mostI (FB S (-1)) a b) (tgt := 140) hx hb (by omega) (by omega) dX4_worst_111 (by decide) (fun c111 => ?_) (fun c111 => ?_)
        · refine lv_iload hx hb dX4_worst_140 (lv_at hl 1 rfl) ?_
          have hP9 : va_P D vwCl [(x, oRD tx nw tr kn me sl), (nw, oDrv nc S (lN (kL (S) 0 40))), (nc, aI yI 48 g), (kn, oKn (S 0) ex), (ex, aI yI 1681 G929)] _ := hP.sub [0, 1, 2, 3, 4] rfl
          exact W.iret hx hb hr (fun t ht hW => ⟨⟨iI x5, (S 0, G929), rfl, ⟨congrArg iI (show x5 = if S 1 ≤ b - a + 1 then worstQ S a b else -1 by rw [if_pos (by omega)]; exact ws_fin hI hab h5 (by omega)), trivial⟩, by show va_P D vwCl _ t.heap; rw [ht]; exact hP9⟩, hS.F ht⟩) hS.2.2 dX4_worst_142
        · refine lv_iload hx hb dX4_worst_114 (lv_at hl 1 rfl) ?_
          refine lv_aload_n hx hb dX4_worst_116 rfl (lv_at hl 4 rfl) ?_
          refine va_get (D := D) (ci := 4) (v := .ref kn) (C := RX4) (T := TX4) (N := 6) hx hb hts hinX4 hown hK hP 0 rfl rfl 3 (by decide) hf29 (fun _ h9 => h9) rfl dX4_worst_117 ?_
          refine lv_iload_n hx hb dX4_worst_120 rfl (lv_at hl 5 rfl) ?_
          refine lv_iload_n hx hb dX4_worst_121 rfl (lv_at hl 6 rfl) ?_
          refine lv_iload hx hb dX4_worst_122 (lv_at hl 0 rfl) ?_
          refine lv_iload hx hb dX4_worst_124 (lv_at hl 0 rfl) ?_
          refine iv_roV (As := [.int (iI a), .int (iI b), .int (iI x6), .int (iI x6)]) (rest := [.int (iI x5)]) (C := RX1) (n := 4) ⟨hx, hb, hml, hown, hts⟩ (c_X1_countSureBehind l D yI yC yD kn ex (S 0) G929 (FB S (-1)) a b x6 x6 (by omega) (by assumption) (gb_FB hI _) (by omega) (by omega)) (cwV 4 hts gX4_worst_X1_countSureBehind rfl rfl rfl (by decide +kernel) ⟨Nat.le_of_ble_eq_true rfl, Nat.le_of_ble_eq_true rfl⟩) hK hP [3, 4] rfl 3 rfl rfl rfl hl.1 rfl (Nat.le_of_ble_eq_true rfl) dX4_worst_126 ⟨Nat.zero_le _, Nat.zero_le _⟩ ?_
          have hcr := cbN_r (r := FB S (-1)) (a := a) (b := b) (few := x6) (many := x6) (S 0).toNat
          refine iv_min hx hb (hml.trans hl.1.symm) hown (hts (.methodLink RX4 216 Lib.Math.min.name) (by decide +kernel)) (hts (.static Lib.Math.min.name) (by decide +kernel)) (hts (.initialized "java/lang/Math") (by decide +kernel)) (hts (.code Lib.Math.min.name Lib.Math.min.code 2 (some .int)) (by decide +kernel)) (Nat.le_of_ble_eq_true rfl) (Nat.le_of_ble_eq_true rfl) (Nat.zero_le _) (Nat.zero_le _) (by omega) (by omega) dX4_worst_129 ?_
          refine lv_istore (lv' := [(5, .int (iI (min x5 (cbN (FB S (-1)) a b x6 x6 (S 0).toNat)))), (6, .int (iI x6)), (4, .int (iI (mostI (FB S (-1)) a b))), (3, .int (iI (leastI (FB S (-1)) a b))), (0, .ref x), (1, .int (iI a)), (2, .int (iI b))]) hx hb dX4_worst_132 hl (by decide) rfl (fun ls hl => ?_)
          refine iv_inc (lv' := [(6, .int (iI (x6 + 1))), (5, .int (iI (min x5 (cbN (FB S (-1)) a b x6 x6 (S 0).toNat)))), (4, .int (iI (mostI (FB S (-1)) a b))), (3, .int (iI (leastI (FB S (-1)) a b))), (0, .ref x), (1, .int (iI a)), (2, .int (iI b))]) hx hb dX4_worst_134 hl (k := 1) rfl (by decide) rfl (fun ls hl => ?_)
          refine lv_goto (tgt := 107) hx hb dX4_worst_137 (by decide) ?_
          refine ih107 (n + 1, min x5 (cbN (FB S (-1)) a b x6 x6 (S 0).toNat), x6 + 1) _ _ (by show ((mostI (FB S (-1)) a b + 1 - (x6 + 1)).toNat : Nat) < (mostI (FB S (-1)) a b + 1 - x6).toNat; omega) ?_
          exact ⟨by omega, by omega, by omega, by omega, ws_st hI hab h5 (by omega) (by omega), hP, hD, hS, lv_sub hl [0, 1, 2, 3, 4, 5, 6] rfl⟩
  · refine lv_iconst (v := iI (-1)) hx hb dX4_worst_18 (by decide +kernel) ?_
    have hP9 : va_P D vwCl [(x, oRD tx nw tr kn me sl), (nw, oDrv nc S (lN (kL (S) 0 40))), (nc, aI yI 48 g), (kn, oKn pl ex), (ex, aI yI 1681 E)] _ := hP.sub [0, 1, 2, 3, 4] rfl
    exact W.iret hx hb hr (fun t ht hW => ⟨⟨iI (-1), (pl, E), rfl, ⟨congrArg iI (show -1 = if S 1 ≤ b - a + 1 then worstQ S a b else -1 by rw [if_neg (by omega)]), trivial⟩, by show va_P D vwCl _ t.heap; rw [ht]; exact hP9⟩, hS.F ht⟩) hS.2.2 dX4_worst_19
