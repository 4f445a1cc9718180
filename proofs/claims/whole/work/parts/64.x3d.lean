set_option maxHeartbeats 4000000 in
set_option maxRecDepth 100000 in
theorem c_X3_readCommand (l : Launch) (D : va_G) (yI yC yD : ClassId) (tx : Nat) (sg : Nat) (T : Int → Int) (tl : Int) (po : Int) (lo : Int) (d : Nat) (dc : Nat) (S : Int → Int) (g : Int → Int) (htl : 0 ≤ tl ∧ tl ≤ 100) (hrt : ∀ z, 0 ≤ z → z < tl → 0 ≤ T z ∧ T z < 65536) (hpo : 0 ≤ po ∧ po ≤ 700) (hpt : po < tl) (hI : Inv S) (hR : Rc S g) (sz : Nat) : Met l yX3_readCommand wsX3_readCommand ({ frames := 5, cells := 0, slots := 0, locals := 103 }) (rwP [.ref tx, .ref d] D (tyz yI yC yD) [(tx, oTx sg tl po lo), (sg, aC yC 100 T), (d, oDrv dc S (lN (kL (S) 0 40))), (dc, aI yI 48 g)] sz) (va_Qi (fun (r : Int32) (G9 : (Int → Int)) => r = iI (bI (wrongC T tl po (S 0) = -1)) ∧ Rc (rcS T tl po S) G9) (fun (G9 : (Int → Int)) (t : State) => va_P D vwCl [(tx, oTx sg tl (rcP T tl po (S 0)) (rcL T tl po S lo)), (sg, aC yC 100 T), (d, oDrv dc (rcS T tl po S) (lN (kL (rcS T tl po S) 0 40))), (dc, aI yI 48 G9)] t.heap) (va_A [(tx, oTx sg tl po lo), (sg, aC yC 100 T), (d, oDrv dc S (lN (kL (S) 0 40))), (dc, aI yI 48 g)] sz)) 0 0 (va_A [(tx, oTx sg tl po lo), (sg, aC yC 100 T), (d, oDrv dc S (lN (kL (S) 0 40))), (dc, aI yI 48 g)] sz) := by
  refine Met.ofW (cc := cX3_readCommand) (maxL := 2) (ret := (some .boolean)) (by decide) rfl ?_
  intro p e s m args below meth c s₁ B hml hv
  obtain ⟨rfl, hsz, hP, hK, hD0⟩ := hv
  have hx := B.exec
  have hb := B.bytes
  have hr := B.returns
  have hts := atoms_spec (ws := wsX3_readCommand) B.pre
  have hown : s.vm.findClass RX3 = some m.cls := findClass_of_methodNamed B.named
  have hlocks := B.notSynchronized
  subst hsz
  have hD := hD0.self (sz := s.heap.size)
  generalize hAe : va_A [(tx, oTx sg tl po lo), (sg, aC yC 100 T), (d, oDrv dc S (lN (kL (S) 0 40))), (dc, aI yI 48 g)] s.heap.size = A at hD ⊢
  have hA : ∀ q : Nat, s.heap.size ≤ q → A q := fun q h => by rw [← hAe]; exact Or.inr h
  have hS : va_S A s.heap s.heap [] := va_S.rf
  have hP : va_P D vwCl [(tx, oTx sg tl po lo), (sg, aC yC 100 T), (d, oDrv dc S (lN (kL (S) 0 40))), (dc, aI yI 48 g)] s.heap := hP
  have hl := lv_entry ([.ref tx, .ref d]) (n := 2) (Nat.le_of_ble_eq_true rfl)
  rw [lg_entry_eq]
  generalize (lg_sl ([.ref tx, .ref d]) ++ List.replicate (2 - (lg_sl ([.ref tx, .ref d])).length) Slot.unset).toArray = ls at hl ⊢
  have hl : lv_has ls 2 [(0, .ref tx), (1, .ref d)] := hl
  have hpl := hI.pl
  have hna := hI.na
  have hse := hI.se
  have hwi := hI.wi
  have hfe := hI.fe
  have hz := hrt po (by omega) hpt
  refine lv_aload_n hx hb dX3_readCommand_0 rfl (lv_at hl 0 rfl) ?_
  refine iv_roV (As := []) (rest := []) (C := RX3) (n := 0) ⟨hx, hb, hml, hown, hts⟩ (c_X3_sign l D yI yC yD tx sg T tl po lo (by omega) (by assumption) (by omega)) (cwV 0 hts gX3_readCommand_X3_sign rfl rfl rfl (by decide +kernel) ⟨Nat.le_of_ble_eq_true rfl, Nat.le_of_ble_eq_true rfl⟩) hK hP [0, 1] rfl 0 rfl rfl rfl hl.1 rfl (Nat.le_of_ble_eq_true rfl) dX3_readCommand_1 ⟨Nat.zero_le _, Nat.zero_le _⟩ ?_
  rw [show (sgn T tl po : Int) = T po from (if_pos hpt)]
  have hsw : (iI (T po)).toInt = T po := iI_toInt (by omega)
  rcases (show (T po ≠ 102 ∧ T po ≠ 107 ∧ T po ≠ 113 ∧ T po ≠ 115 ∧ T po ≠ 119) ∨ T po = 102 ∨ T po = 107 ∨ T po = 113 ∨ T po = 115 ∨ T po = 119 by omega) with csw | csw | csw | csw | csw | csw
  · refine lv_lookup (off := 93) (tgt := 97) hx hb dX3_readCommand_4 (by decide +kernel) (by rw [hsw]; show (if (102 : Int) = (T po) then 77 else (if (107 : Int) = (T po) then 52 else (if (113 : Int) = (T po) then 87 else (if (115 : Int) = (T po) then 68 else (if (119 : Int) = (T po) then 58 else 93))))) = 93; rw [if_neg (by omega), if_neg (by omega), if_neg (by omega), if_neg (by omega), if_neg (by omega)]) (by decide) ?_
    obtain ⟨r1, r2, r3, r4⟩ := rc_o (T := T) (n := tl) (p := po) (S := S) (l := lo) csw (by omega)
    refine lv_iconst (v := iI 0) hx hb dX3_readCommand_97 (by decide +kernel) ?_
    have hP9 : va_P D vwCl [(tx, oTx sg tl (rcP T tl po (S 0)) (rcL T tl po S lo)), (sg, aC yC 100 T), (d, oDrv dc (rcS T tl po S) (lN (kL (rcS T tl po S) 0 40))), (dc, aI yI 48 g)] _ := (hP.sub (ws' := [(tx, oTx sg tl po lo), (sg, aC yC 100 T), (d, oDrv dc S (lN (kL (S) 0 40))), (dc, aI yI 48 g)]) [0, 1, 2, 3] rfl).cv (by rw [r2, r3, r4])
    exact W.zret hx hb hr (by decide +kernel) (fun t ht hW => ⟨⟨iI 0, g, rfl, ⟨congrArg iI (show 0 = bI (wrongC T tl po (S 0) = -1) by exact (bI_f r1).symm), (by rw [r3]; exact hR)⟩, by show va_P D vwCl _ t.heap; rw [ht]; exact hP9⟩, hS.F ht⟩) hS.2.2 dX3_readCommand_98
  · refine lv_lookup (off := 77) (tgt := 81) hx hb dX3_readCommand_4 (by decide +kernel) (by rw [hsw]; show (if (102 : Int) = (T po) then 77 else (if (107 : Int) = (T po) then 52 else (if (113 : Int) = (T po) then 87 else (if (115 : Int) = (T po) then 68 else (if (119 : Int) = (T po) then 58 else 93))))) = 77; rw [if_pos (by omega)]) (by decide) ?_
    refine lv_aload_n hx hb dX3_readCommand_81 rfl (lv_at hl 0 rfl) ?_
    refine lv_aload_n hx hb dX3_readCommand_82 rfl (lv_at hl 1 rfl) ?_
    refine lv_iconst (v := iI 2) hx hb dX3_readCommand_83 (by decide +kernel) ?_
    refine lv_iconst (v := iI 0) hx hb dX3_readCommand_84 (by decide +kernel) ?_
    refine lv_bipush (v := iI 9) hx hb dX3_readCommand_85 (by decide +kernel) ?_
    refine iv_rwV (As := [.ref d, .int (iI 2), .int (iI 0), .int (iI 9)]) (rest := []) (C := RX3) (n := 4) ⟨hx, hb, hml, hown, hts⟩ (c_X3_readSetting l D yI yC yD tx sg T tl po lo d dc S g 2 0 9 (by omega) (by assumption) (by omega) (by assumption) (by assumption) (by omega) _) (cwV 4 hts gX3_readCommand_X3_readSetting rfl rfl rfl (by decide +kernel) ⟨Nat.le_of_ble_eq_true rfl, Nat.le_of_ble_eq_true rfl⟩) hK hP hD hS hA [0, 1, 2, 3] (by decide) rfl 0 rfl rfl rfl hl.1 rfl (Nat.le_of_ble_eq_true rfl) dX3_readCommand_87 ⟨Nat.zero_le _, Nat.zero_le _⟩ (fun _ => rfl) (fun r87 u87 H locs hw87 hP hD hS => ?_)
    obtain ⟨hr87, hR9_87⟩ := hw87
    subst hr87
    have hP : va_P D vwCl [(tx, oTx sg tl (rdP T tl (po + 1) 0 9) lo), (sg, aC yC 100 T), (d, oDrv dc (if 0 ≤ digit T tl (po + 1) ∧ digit T tl (po + 1) ≤ 9 then setg S 2 (digit T tl (po + 1)) else S) (lN (kL (if 0 ≤ digit T tl (po + 1) ∧ digit T tl (po + 1) ≤ 9 then setg S 2 (digit T tl (po + 1)) else S) 0 40))), (dc, aI yI 48 g)] H := hP
    have hD : va_D A [(tx, oTx sg tl (rdP T tl (po + 1) 0 9) lo), (sg, aC yC 100 T), (d, oDrv dc (if 0 ≤ digit T tl (po + 1) ∧ digit T tl (po + 1) ≤ 9 then setg S 2 (digit T tl (po + 1)) else S) (lN (kL (if 0 ≤ digit T tl (po + 1) ∧ digit T tl (po + 1) ≤ 9 then setg S 2 (digit T tl (po + 1)) else S) 0 40))), (dc, aI yI 48 g)] := hD
    obtain ⟨r1, r2, r3, r4⟩ := rc_g (T := T) (n := tl) (p := po) (S := S) (l := lo) (w := 2) (low := 0) (high := 9) (Or.inr <| Or.inr ⟨csw, rfl, rfl, rfl⟩) (by omega)
    have hP9 : va_P D vwCl [(tx, oTx sg tl (rcP T tl po (S 0)) (rcL T tl po S lo)), (sg, aC yC 100 T), (d, oDrv dc (rcS T tl po S) (lN (kL (rcS T tl po S) 0 40))), (dc, aI yI 48 g)] _ := (hP.sub (ws' := [(tx, oTx sg tl (rdP T tl (po + 1) 0 9) lo), (sg, aC yC 100 T), (d, oDrv dc (if 0 ≤ digit T tl (po + 1) ∧ digit T tl (po + 1) ≤ 9 then setg S 2 (digit T tl (po + 1)) else S) (lN (kL (if 0 ≤ digit T tl (po + 1) ∧ digit T tl (po + 1) ≤ 9 then setg S 2 (digit T tl (po + 1)) else S) 0 40))), (dc, aI yI 48 g)]) [0, 1, 2, 3] rfl).cv (by rw [r2, r3, r4])
    exact W.zret hx hb hr (narB _) (fun t ht hW => ⟨⟨iI (bI (0 ≤ digit T tl (po + 1) ∧ digit T tl (po + 1) ≤ 9)), g, rfl, ⟨congrArg iI (show bI (0 ≤ digit T tl (po + 1) ∧ digit T tl (po + 1) ≤ 9) = bI (wrongC T tl po (S 0) = -1) by exact bI_c r1.symm), (by rw [r3]; exact hR9_87)⟩, by show va_P D vwCl _ t.heap; rw [ht]; exact hP9⟩, hS.F ht⟩) hS.2.2 dX3_readCommand_90
  · refine lv_lookup (off := 52) (tgt := 56) hx hb dX3_readCommand_4 (by decide +kernel) (by rw [hsw]; show (if (102 : Int) = (T po) then 77 else (if (107 : Int) = (T po) then 52 else (if (113 : Int) = (T po) then 87 else (if (115 : Int) = (T po) then 68 else (if (119 : Int) = (T po) then 58 else 93))))) = 52; rw [if_neg (by omega), if_pos (by omega)]) (by decide) ?_
    refine lv_aload_n hx hb dX3_readCommand_56 rfl (lv_at hl 0 rfl) ?_
    refine lv_aload_n hx hb dX3_readCommand_57 rfl (lv_at hl 1 rfl) ?_
    refine iv_rwV (As := [.ref d]) (rest := []) (C := RX3) (n := 1) ⟨hx, hb, hml, hown, hts⟩ (c_X3_readKey l D yI yC yD tx sg T tl po lo d dc S g (by omega) (by assumption) (by omega) (by assumption) (by assumption) _) (cwV 1 hts gX3_readCommand_X3_readKey rfl rfl rfl (by decide +kernel) ⟨Nat.le_of_ble_eq_true rfl, Nat.le_of_ble_eq_true rfl⟩) hK hP hD hS hA [0, 1, 2, 3] (by decide) rfl 0 rfl rfl rfl hl.1 rfl (Nat.le_of_ble_eq_true rfl) dX3_readCommand_58 ⟨Nat.zero_le _, Nat.zero_le _⟩ (fun _ => rfl) (fun r58 u58 H locs hw58 hP hD hS => ?_)
    obtain ⟨G958, hu58⟩ : ∃ z, z = u58 := ⟨_, rfl⟩
    subst hu58
    obtain ⟨hr58, hR9_58⟩ := hw58
    subst hr58
    have hP : va_P D vwCl [(tx, oTx sg tl (nmP T tl (po + 1) 0 (S 0 - 1)) lo), (sg, aC yC 100 T), (d, oDrv dc (if wrongIn T tl (po + 1) 0 (S 0 - 1) = -1 then wr S (numb T tl (po + 1)) 1 else S) (lN (kL (if wrongIn T tl (po + 1) 0 (S 0 - 1) = -1 then wr S (numb T tl (po + 1)) 1 else S) 0 40))), (dc, aI yI 48 G958)] H := hP
    have hD : va_D A [(tx, oTx sg tl (nmP T tl (po + 1) 0 (S 0 - 1)) lo), (sg, aC yC 100 T), (d, oDrv dc (if wrongIn T tl (po + 1) 0 (S 0 - 1) = -1 then wr S (numb T tl (po + 1)) 1 else S) (lN (kL (if wrongIn T tl (po + 1) 0 (S 0 - 1) = -1 then wr S (numb T tl (po + 1)) 1 else S) 0 40))), (dc, aI yI 48 G958)] := hD
    obtain ⟨r1, r2, r3, r4⟩ := rc_k (T := T) (n := tl) (p := po) (S := S) (l := lo) csw (by omega)
    have hP9 : va_P D vwCl [(tx, oTx sg tl (rcP T tl po (S 0)) (rcL T tl po S lo)), (sg, aC yC 100 T), (d, oDrv dc (rcS T tl po S) (lN (kL (rcS T tl po S) 0 40))), (dc, aI yI 48 G958)] _ := (hP.sub (ws' := [(tx, oTx sg tl (nmP T tl (po + 1) 0 (S 0 - 1)) lo), (sg, aC yC 100 T), (d, oDrv dc (if wrongIn T tl (po + 1) 0 (S 0 - 1) = -1 then wr S (numb T tl (po + 1)) 1 else S) (lN (kL (if wrongIn T tl (po + 1) 0 (S 0 - 1) = -1 then wr S (numb T tl (po + 1)) 1 else S) 0 40))), (dc, aI yI 48 G958)]) [0, 1, 2, 3] rfl).cv (by rw [r2, r3, r4])
    exact W.zret hx hb hr (narB _) (fun t ht hW => ⟨⟨iI (bI (wrongIn T tl (po + 1) 0 (S 0 - 1) = -1)), G958, rfl, ⟨congrArg iI (show bI (wrongIn T tl (po + 1) 0 (S 0 - 1) = -1) = bI (wrongC T tl po (S 0) = -1) by exact bI_c (by rw [r1])), (by rw [r3]; exact hR9_58)⟩, by show va_P D vwCl _ t.heap; rw [ht]; exact hP9⟩, hS.F ht⟩) hS.2.2 dX3_readCommand_61
  · refine lv_lookup (off := 87) (tgt := 91) hx hb dX3_readCommand_4 (by decide +kernel) (by rw [hsw]; show (if (102 : Int) = (T po) then 77 else (if (107 : Int) = (T po) then 52 else (if (113 : Int) = (T po) then 87 else (if (115 : Int) = (T po) then 68 else (if (119 : Int) = (T po) then 58 else 93))))) = 87; rw [if_neg (by omega), if_neg (by omega), if_pos (by omega)]) (by decide) ?_
    refine lv_aload_n hx hb dX3_readCommand_91 rfl (lv_at hl 0 rfl) ?_
    refine lv_aload_n hx hb dX3_readCommand_92 rfl (lv_at hl 1 rfl) ?_
    refine iv_rwV (As := [.ref d]) (rest := []) (C := RX3) (n := 1) ⟨hx, hb, hml, hown, hts⟩ (c_X3_readQuestion l D yI yC yD tx sg T tl po lo d dc S g (by omega) (by assumption) (by omega) (by assumption) (by assumption) _) (cwV 1 hts gX3_readCommand_X3_readQuestion rfl rfl rfl (by decide +kernel) ⟨Nat.le_of_ble_eq_true rfl, Nat.le_of_ble_eq_true rfl⟩) hK hP hD hS hA [0, 1, 2, 3] (by decide) rfl 0 rfl rfl rfl hl.1 rfl (Nat.le_of_ble_eq_true rfl) dX3_readCommand_93 ⟨Nat.zero_le _, Nat.zero_le _⟩ (fun _ => rfl) (fun r93 u93 H locs hw93 hP hD hS => ?_)
    obtain ⟨G993, hu93⟩ : ∃ z, z = u93 := ⟨_, rfl⟩
    subst hu93
    obtain ⟨hr93, hR9_93⟩ := hw93
    subst hr93
    have hP : va_P D vwCl [(tx, oTx sg tl (qP T tl po (S 0)) (qL T tl po S lo)), (sg, aC yC 100 T), (d, oDrv dc (qS T tl po S) (lN (kL (qS T tl po S) 0 40))), (dc, aI yI 48 G993)] H := hP
    have hD : va_D A [(tx, oTx sg tl (qP T tl po (S 0)) (qL T tl po S lo)), (sg, aC yC 100 T), (d, oDrv dc (qS T tl po S) (lN (kL (qS T tl po S) 0 40))), (dc, aI yI 48 G993)] := hD
    obtain ⟨r1, r2, r3, r4⟩ := rc_q (T := T) (n := tl) (p := po) (S := S) (l := lo) csw
    have hP9 : va_P D vwCl [(tx, oTx sg tl (rcP T tl po (S 0)) (rcL T tl po S lo)), (sg, aC yC 100 T), (d, oDrv dc (rcS T tl po S) (lN (kL (rcS T tl po S) 0 40))), (dc, aI yI 48 G993)] _ := (hP.sub (ws' := [(tx, oTx sg tl (qP T tl po (S 0)) (qL T tl po S lo)), (sg, aC yC 100 T), (d, oDrv dc (qS T tl po S) (lN (kL (qS T tl po S) 0 40))), (dc, aI yI 48 G993)]) [0, 1, 2, 3] rfl).cv (by rw [r2, r3, r4])
    exact W.zret hx hb hr (narB _) (fun t ht hW => ⟨⟨iI (bI (wrQ T tl po (S 0) = -1)), G993, rfl, ⟨congrArg iI (show bI (wrQ T tl po (S 0) = -1) = bI (wrongC T tl po (S 0) = -1) by exact bI_c (by rw [r1])), (by rw [r3]; exact hR9_93)⟩, by show va_P D vwCl _ t.heap; rw [ht]; exact hP9⟩, hS.F ht⟩) hS.2.2 dX3_readCommand_96
  · refine lv_lookup (off := 68) (tgt := 72) hx hb dX3_readCommand_4 (by decide +kernel) (by rw [hsw]; show (if (102 : Int) = (T po) then 77 else (if (107 : Int) = (T po) then 52 else (if (113 : Int) = (T po) then 87 else (if (115 : Int) = (T po) then 68 else (if (119 : Int) = (T po) then 58 else 93))))) = 68; rw [if_neg (by omega), if_neg (by omega), if_neg (by omega), if_pos (by omega)]) (by decide) ?_
    refine lv_aload_n hx hb dX3_readCommand_72 rfl (lv_at hl 0 rfl) ?_
    refine lv_aload_n hx hb dX3_readCommand_73 rfl (lv_at hl 1 rfl) ?_
    refine lv_iconst (v := iI 1) hx hb dX3_readCommand_74 (by decide +kernel) ?_
    refine lv_iconst (v := iI 0) hx hb dX3_readCommand_75 (by decide +kernel) ?_
    refine lv_iconst (v := iI 4) hx hb dX3_readCommand_76 (by decide +kernel) ?_
    refine iv_rwV (As := [.ref d, .int (iI 1), .int (iI 0), .int (iI 4)]) (rest := []) (C := RX3) (n := 4) ⟨hx, hb, hml, hown, hts⟩ (c_X3_readSetting l D yI yC yD tx sg T tl po lo d dc S g 1 0 4 (by omega) (by assumption) (by omega) (by assumption) (by assumption) (by omega) _) (cwV 4 hts gX3_readCommand_X3_readSetting rfl rfl rfl (by decide +kernel) ⟨Nat.le_of_ble_eq_true rfl, Nat.le_of_ble_eq_true rfl⟩) hK hP hD hS hA [0, 1, 2, 3] (by decide) rfl 0 rfl rfl rfl hl.1 rfl (Nat.le_of_ble_eq_true rfl) dX3_readCommand_77 ⟨Nat.zero_le _, Nat.zero_le _⟩ (fun _ => rfl) (fun r77 u77 H locs hw77 hP hD hS => ?_)
    obtain ⟨hr77, hR9_77⟩ := hw77
    subst hr77
    have hP : va_P D vwCl [(tx, oTx sg tl (rdP T tl (po + 1) 0 4) lo), (sg, aC yC 100 T), (d, oDrv dc (if 0 ≤ digit T tl (po + 1) ∧ digit T tl (po + 1) ≤ 4 then setg S 1 (digit T tl (po + 1)) else S) (lN (kL (if 0 ≤ digit T tl (po + 1) ∧ digit T tl (po + 1) ≤ 4 then setg S 1 (digit T tl (po + 1)) else S) 0 40))), (dc, aI yI 48 g)] H := hP
    have hD : va_D A [(tx, oTx sg tl (rdP T tl (po + 1) 0 4) lo), (sg, aC yC 100 T), (d, oDrv dc (if 0 ≤ digit T tl (po + 1) ∧ digit T tl (po + 1) ≤ 4 then setg S 1 (digit T tl (po + 1)) else S) (lN (kL (if 0 ≤ digit T tl (po + 1) ∧ digit T tl (po + 1) ≤ 4 then setg S 1 (digit T tl (po + 1)) else S) 0 40))), (dc, aI yI 48 g)] := hD
    obtain ⟨r1, r2, r3, r4⟩ := rc_g (T := T) (n := tl) (p := po) (S := S) (l := lo) (w := 1) (low := 0) (high := 4) (Or.inr <| Or.inl ⟨csw, rfl, rfl, rfl⟩) (by omega)
    have hP9 : va_P D vwCl [(tx, oTx sg tl (rcP T tl po (S 0)) (rcL T tl po S lo)), (sg, aC yC 100 T), (d, oDrv dc (rcS T tl po S) (lN (kL (rcS T tl po S) 0 40))), (dc, aI yI 48 g)] _ := (hP.sub (ws' := [(tx, oTx sg tl (rdP T tl (po + 1) 0 4) lo), (sg, aC yC 100 T), (d, oDrv dc (if 0 ≤ digit T tl (po + 1) ∧ digit T tl (po + 1) ≤ 4 then setg S 1 (digit T tl (po + 1)) else S) (lN (kL (if 0 ≤ digit T tl (po + 1) ∧ digit T tl (po + 1) ≤ 4 then setg S 1 (digit T tl (po + 1)) else S) 0 40))), (dc, aI yI 48 g)]) [0, 1, 2, 3] rfl).cv (by rw [r2, r3, r4])
    exact W.zret hx hb hr (narB _) (fun t ht hW => ⟨⟨iI (bI (0 ≤ digit T tl (po + 1) ∧ digit T tl (po + 1) ≤ 4)), g, rfl, ⟨congrArg iI (show bI (0 ≤ digit T tl (po + 1) ∧ digit T tl (po + 1) ≤ 4) = bI (wrongC T tl po (S 0) = -1) by exact bI_c r1.symm), (by rw [r3]; exact hR9_77)⟩, by show va_P D vwCl _ t.heap; rw [ht]; exact hP9⟩, hS.F ht⟩) hS.2.2 dX3_readCommand_80
  · refine lv_lookup (off := 58) (tgt := 62) hx hb dX3_readCommand_4 (by decide +kernel) (by rw [hsw]; show (if (102 : Int) = (T po) then 77 else (if (107 : Int) = (T po) then 52 else (if (113 : Int) = (T po) then 87 else (if (115 : Int) = (T po) then 68 else (if (119 : Int) = (T po) then 58 else 93))))) = 58; rw [if_neg (by omega), if_neg (by omega), if_neg (by omega), if_neg (by omega), if_pos (by omega)]) (by decide) ?_
    refine lv_aload_n hx hb dX3_readCommand_62 rfl (lv_at hl 0 rfl) ?_
    refine lv_aload_n hx hb dX3_readCommand_63 rfl (lv_at hl 1 rfl) ?_
    refine lv_iconst (v := iI 0) hx hb dX3_readCommand_64 (by decide +kernel) ?_
    refine lv_iconst (v := iI 1) hx hb dX3_readCommand_65 (by decide +kernel) ?_
    refine lv_bipush (v := iI 8) hx hb dX3_readCommand_66 (by decide +kernel) ?_
    refine iv_rwV (As := [.ref d, .int (iI 0), .int (iI 1), .int (iI 8)]) (rest := []) (C := RX3) (n := 4) ⟨hx, hb, hml, hown, hts⟩ (c_X3_readSetting l D yI yC yD tx sg T tl po lo d dc S g 0 1 8 (by omega) (by assumption) (by omega) (by assumption) (by assumption) (by omega) _) (cwV 4 hts gX3_readCommand_X3_readSetting rfl rfl rfl (by decide +kernel) ⟨Nat.le_of_ble_eq_true rfl, Nat.le_of_ble_eq_true rfl⟩) hK hP hD hS hA [0, 1, 2, 3] (by decide) rfl 0 rfl rfl rfl hl.1 rfl (Nat.le_of_ble_eq_true rfl) dX3_readCommand_68 ⟨Nat.zero_le _, Nat.zero_le _⟩ (fun _ => rfl) (fun r68 u68 H locs hw68 hP hD hS => ?_)
    obtain ⟨hr68, hR9_68⟩ := hw68
    subst hr68
    have hP : va_P D vwCl [(tx, oTx sg tl (rdP T tl (po + 1) 1 8) lo), (sg, aC yC 100 T), (d, oDrv dc (if 1 ≤ digit T tl (po + 1) ∧ digit T tl (po + 1) ≤ 8 then setg S 0 (digit T tl (po + 1)) else S) (lN (kL (if 1 ≤ digit T tl (po + 1) ∧ digit T tl (po + 1) ≤ 8 then setg S 0 (digit T tl (po + 1)) else S) 0 40))), (dc, aI yI 48 g)] H := hP
    have hD : va_D A [(tx, oTx sg tl (rdP T tl (po + 1) 1 8) lo), (sg, aC yC 100 T), (d, oDrv dc (if 1 ≤ digit T tl (po + 1) ∧ digit T tl (po + 1) ≤ 8 then setg S 0 (digit T tl (po + 1)) else S) (lN (kL (if 1 ≤ digit T tl (po + 1) ∧ digit T tl (po + 1) ≤ 8 then setg S 0 (digit T tl (po + 1)) else S) 0 40))), (dc, aI yI 48 g)] := hD
    obtain ⟨r1, r2, r3, r4⟩ := rc_g (T := T) (n := tl) (p := po) (S := S) (l := lo) (w := 0) (low := 1) (high := 8) (Or.inl ⟨csw, rfl, rfl, rfl⟩) (by omega)
    have hP9 : va_P D vwCl [(tx, oTx sg tl (rcP T tl po (S 0)) (rcL T tl po S lo)), (sg, aC yC 100 T), (d, oDrv dc (rcS T tl po S) (lN (kL (rcS T tl po S) 0 40))), (dc, aI yI 48 g)] _ := (hP.sub (ws' := [(tx, oTx sg tl (rdP T tl (po + 1) 1 8) lo), (sg, aC yC 100 T), (d, oDrv dc (if 1 ≤ digit T tl (po + 1) ∧ digit T tl (po + 1) ≤ 8 then setg S 0 (digit T tl (po + 1)) else S) (lN (kL (if 1 ≤ digit T tl (po + 1) ∧ digit T tl (po + 1) ≤ 8 then setg S 0 (digit T tl (po + 1)) else S) 0 40))), (dc, aI yI 48 g)]) [0, 1, 2, 3] rfl).cv (by rw [r2, r3, r4])
    exact W.zret hx hb hr (narB _) (fun t ht hW => ⟨⟨iI (bI (1 ≤ digit T tl (po + 1) ∧ digit T tl (po + 1) ≤ 8)), g, rfl, ⟨congrArg iI (show bI (1 ≤ digit T tl (po + 1) ∧ digit T tl (po + 1) ≤ 8) = bI (wrongC T tl po (S 0) = -1) by exact bI_c r1.symm), (by rw [r3]; exact hR9_68)⟩, by show va_P D vwCl _ t.heap; rw [ht]; exact hP9⟩, hS.F ht⟩) hS.2.2 dX3_readCommand_71
