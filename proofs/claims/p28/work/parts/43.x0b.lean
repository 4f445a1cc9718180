set_option maxHeartbeats 4000000 in
set_option maxRecDepth 100000 in
theorem c_X0_hasKey (l : Launch) (D : va_G) (yI yC yD : ClassId) (d : Nat) (dc : Nat) (S : Int → Int) (g : Int → Int) (i : Int) (hI : Inv S) (hi : 0 ≤ i ∧ i < 40) : Met l yX0_hasKey wsX0_hasKey ({ frames := 0, cells := 0, slots := 0, locals := 0 }) (roP [.ref d, .int (iI i)] D (tyz yI yC yD) [(d, oDrv dc S (lN (kL S 0 40))), (dc, aI yI 48 g)]) (QcRead (iI (bI (S (8 + i) = 1)))) 0 0 (fun _ => False) := by
  refine Met.ofW (cc := cX0_hasKey) (maxL := 2) (ret := (some .boolean)) (by decide) rfl ?_
  intro p e s m args below meth c s₁ B hml hv
  obtain ⟨rfl, hP, hK⟩ := hv
  have hx := B.exec
  have hb := B.bytes
  have hr := B.returns
  have hts := atoms_spec (ws := wsX0_hasKey) B.pre
  have hown : s.vm.findClass RX0 = some m.cls := findClass_of_methodNamed B.named
  have hlocks := B.notSynchronized
  have hP : va_P D vwCl [(d, oDrv dc S (lN (kL S 0 40))), (dc, aI yI 48 g)] s.heap := hP
  have hinX0 : ∀ w ∈ wsX00, w ∈ wsX0_hasKey := by decide +kernel
  have hf40 : (Cond.fieldLink RX0 40 "RiddleDrive$Drive" "keys" "J").before _ s = true := hts _ (by decide +kernel)
  have hl := lv_entry ([.ref d, .int (iI i)]) (n := 2) (Nat.le_of_ble_eq_true rfl)
  rw [lg_entry_eq]
  generalize (lg_sl ([.ref d, .int (iI i)]) ++ List.replicate (2 - (lg_sl ([.ref d, .int (iI i)])).length) Slot.unset).toArray = ls at hl ⊢
  have hl : lv_has ls 2 [(0, .ref d), (1, .int (iI i))] := hl
  have hkk : ∀ j : Int, 0 ≤ j → j < 40 → 0 ≤ S (8 + j) ∧ S (8 + j) ≤ 1 := fun j h0 h1 => hI.key h0 h1
  have hkb := kL_lt (S := S) 40 0 (fun j h0 h1 => hkk j h0 (by omega))
  have hki := hkk i (by omega) (by omega)
  have hbt := kL_bit (S := S) (n := 40) (a := 0) (j := i.toNat) (by omega) (fun j h0 h1 => hkk j h0 (by omega))
  rw [show (0 : Int) + (i.toNat : Int) = i by omega] at hbt
  have hc := cmpI_s (((kL S 0 40 / 2 ^ i.toNat % 2 : Nat) : Int)) 1
  refine lv_aload_n hx hb dX0_hasKey_0 rfl (lv_at hl 0 rfl) ?_
  refine va_get (D := D) (ci := 0) (v := .long (lN (kL S 0 40))) (C := RX0) (T := TX0) (N := 10) hx hb hts hinX0 hown hK hP 0 rfl rfl 8 (by decide) hf40 (fun _ h9 => h9) rfl dX0_hasKey_1 ?_
  refine lv_iload_n hx hb dX0_hasKey_4 rfl (lv_at hl 1 rfl) ?_
  refine lv_lushr (v := ((lN (kL S 0 40)).toUInt64 >>> ((iI i).toInt64.toUInt64 &&& Int64.toUInt64 63)).toInt64) hx hb dX0_hasKey_5 rfl ?_
  rw [show (((lN (kL S 0 40)).toUInt64 >>> ((iI i).toInt64.toUInt64 &&& Int64.toUInt64 63)).toInt64 : Int64) = lN (kL S 0 40 / 2 ^ i.toNat) from (ushr_z (by omega) (by omega))]
  refine lv_lconst (v := 1) hx hb dX0_hasKey_6 (by decide +kernel) ?_
  refine lv_land hx hb dX0_hasKey_7 ?_
  rw [show ((lN (kL S 0 40 / 2 ^ i.toNat)) &&& 1 : Int64) = lN (kL S 0 40 / 2 ^ i.toNat % 2) from (wb_a1 (Nat.lt_of_le_of_lt (Nat.div_le_self _ _) (by omega)))]
  refine lv_lconst (v := 1) hx hb dX0_hasKey_8 (by decide +kernel) ?_
  refine iv_lcmp (z := cmpI ((kL S 0 40 / 2 ^ i.toNat % 2 : Nat) : Int) 1) hx hb (lN_cmp1 (by omega)) dX0_hasKey_9 ?_
  refine iv_if_ne (a := cmpI ((kL S 0 40 / 2 ^ i.toNat % 2 : Nat) : Int) 1) (tgt := 17) hx hb (by omega) dX0_hasKey_10 (by decide) (fun c10 => ?_) (fun c10 => ?_)
  · refine lv_iconst (v := iI 0) hx hb dX0_hasKey_17 (by decide +kernel) ?_
    exact W.zret hx hb hr (by decide +kernel) (fun t ht hW => ⟨congrArg (fun z => Outcome.returned (some (Value.int (iI z)))) (show 0 = bI (S (8 + i) = 1) by first | exact (bI_t (by omega)).symm | exact (bI_f (by omega)).symm), ht⟩) (fun q h => by cases h) dX0_hasKey_18
  · refine lv_iconst (v := iI 1) hx hb dX0_hasKey_13 (by decide +kernel) ?_
    refine lv_goto (tgt := 18) hx hb dX0_hasKey_14 (by decide) ?_
    exact W.zret hx hb hr (by decide +kernel) (fun t ht hW => ⟨congrArg (fun z => Outcome.returned (some (Value.int (iI z)))) (show 1 = bI (S (8 + i) = 1) by first | exact (bI_t (by omega)).symm | exact (bI_f (by omega)).symm), ht⟩) (fun q h => by cases h) dX0_hasKey_18
set_option maxHeartbeats 4000000 in
set_option maxRecDepth 100000 in
theorem c_X0_countKeys (l : Launch) (D : va_G) (yI yC yD : ClassId) (d : Nat) (dc : Nat) (S : Int → Int) (g : Int → Int) (hI : Inv S) : Met l yX0_countKeys wsX0_countKeys ({ frames := 1, cells := 0, slots := 0, locals := 21 }) (roP [.ref d] D (tyz yI yC yD) [(d, oDrv dc S (lN (kL S 0 40))), (dc, aI yI 48 g)]) (QcRead (iI (keysIn S 0 (S 0 - 1)))) 0 0 (fun _ => False) := by
  refine Met.ofW (cc := cX0_countKeys) (maxL := 1) (ret := (some .int)) (by decide) rfl ?_
  intro p e s m args below meth c s₁ B hml hv
  obtain ⟨rfl, hP, hK⟩ := hv
  have hx := B.exec
  have hb := B.bytes
  have hr := B.returns
  have hts := atoms_spec (ws := wsX0_countKeys) B.pre
  have hown : s.vm.findClass RX0 = some m.cls := findClass_of_methodNamed B.named
  have hlocks := B.notSynchronized
  have hP : va_P D vwCl [(d, oDrv dc S (lN (kL S 0 40))), (dc, aI yI 48 g)] s.heap := hP
  have hinX0 : ∀ w ∈ wsX00, w ∈ wsX0_countKeys := by decide +kernel
  have hf40 : (Cond.fieldLink RX0 40 "RiddleDrive$Drive" "keys" "J").before _ s = true := hts _ (by decide +kernel)
  have hl := lv_entry ([.ref d]) (n := 1) (Nat.le_of_ble_eq_true rfl)
  rw [lg_entry_eq]
  generalize (lg_sl ([.ref d]) ++ List.replicate (1 - (lg_sl ([.ref d])).length) Slot.unset).toArray = ls at hl ⊢
  have hl : lv_has ls 1 [(0, .ref d)] := hl
  have hpl := hI.pl
  have hna := hI.na
  have hse := hI.se
  have hwi := hI.wi
  have hfe := hI.fe
  have hkk : ∀ j : Int, 0 ≤ j → j < 40 → 0 ≤ S (8 + j) ∧ S (8 + j) ≤ 1 := fun j h0 h1 => hI.key h0 h1
  have hkb := kL_lt (S := S) 40 0 (fun j h0 h1 => hkk j h0 (by omega))
  refine lv_aload_n hx hb dX0_countKeys_0 rfl (lv_at hl 0 rfl) ?_
  refine va_get (D := D) (ci := 0) (v := .long (lN (kL S 0 40))) (C := RX0) (T := TX0) (N := 10) hx hb hts hinX0 hown hK hP 0 rfl rfl 8 (by decide) hf40 (fun _ h9 => h9) rfl dX0_countKeys_1 ?_
  refine iv_roS (As := [.long (lN (kL S 0 40))]) (rest := []) (n := 1) ⟨hx, hb, hml, hown, hts⟩ (c_J13_bitCount_95d88 l D yI yC yD (kL S 0 40) (by omega)) (va_cwS 1 hts gX0_countKeys_J13_bitCount_95d88 rfl rfl rfl (by decide +kernel) ⟨Nat.le_of_ble_eq_true rfl, Nat.le_of_ble_eq_true rfl⟩) hK hP [] rfl rfl hl.1 rfl (Nat.le_of_ble_eq_true rfl) dX0_countKeys_4 ⟨Nat.zero_le _, Nat.zero_le _⟩ ?_
  exact W.iret hx hb hr (fun t ht hW => ⟨congrArg (fun z => Outcome.returned (some (Value.int (iI z)))) (show ((popc 64 (kL S 0 40) : Nat) : Int) = keysIn S 0 (S 0 - 1) by exact keys_all hI), ht⟩) (fun q h => by cases h) dX0_countKeys_7
set_option maxHeartbeats 4000000 in
set_option maxRecDepth 100000 in
theorem c_X0_tell (l : Launch) (D : va_G) (yI yC yD : ClassId) (d : Nat) (dc : Nat) (S : Int → Int) (g : Int → Int) (a : Int) (b : Int) (hI : Inv S) (hab : 0 ≤ a ∧ a ≤ b ∧ b < 40) : Met l yX0_tell wsX0_tell ({ frames := 1, cells := 0, slots := 0, locals := 21 }) (roP [.ref d, .int (iI a), .int (iI b)] D (tyz yI yC yD) [(d, oDrv dc S (lN (kL S 0 40))), (dc, aI yI 48 g)]) (QcRead (iI (told S a b))) 0 0 (fun _ => False) := by
  refine Met.ofW (cc := cX0_tell) (maxL := 6) (ret := (some .int)) (by decide) rfl ?_
  intro p e s m args below meth c s₁ B hml hv
  obtain ⟨rfl, hP, hK⟩ := hv
  have hx := B.exec
  have hb := B.bytes
  have hr := B.returns
  have hts := atoms_spec (ws := wsX0_tell) B.pre
  have hown : s.vm.findClass RX0 = some m.cls := findClass_of_methodNamed B.named
  have hlocks := B.notSynchronized
  have hP : va_P D vwCl [(d, oDrv dc S (lN (kL S 0 40))), (dc, aI yI 48 g)] s.heap := hP
  have hinX0 : ∀ w ∈ wsX00, w ∈ wsX0_tell := by decide +kernel
  have hf22 : (Cond.fieldLink RX0 22 "RiddleDrive$Drive" "secrecy" "I").before _ s = true := hts _ (by decide +kernel)
  have hf40 : (Cond.fieldLink RX0 40 "RiddleDrive$Drive" "keys" "J").before _ s = true := hts _ (by decide +kernel)
  have hl := lv_entry ([.ref d, .int (iI a), .int (iI b)]) (n := 6) (Nat.le_of_ble_eq_true rfl)
  rw [lg_entry_eq]
  generalize (lg_sl ([.ref d, .int (iI a), .int (iI b)]) ++ List.replicate (6 - (lg_sl ([.ref d, .int (iI a), .int (iI b)])).length) Slot.unset).toArray = ls at hl ⊢
  have hl : lv_has ls 6 [(0, .ref d), (1, .int (iI a)), (2, .int (iI b))] := hl
  have hpl := hI.pl
  have hna := hI.na
  have hse := hI.se
  have hwi := hI.wi
  have hfe := hI.fe
  have hkk : ∀ j : Int, 0 ≤ j → j < 40 → 0 ≤ S (8 + j) ∧ S (8 + j) ≤ 1 := fun j h0 h1 => hI.key h0 h1
  have hkb := kL_lt (S := S) 40 0 (fun j h0 h1 => hkk j h0 (by omega))
  have hki := keysIn_r hI (a := a) (b := b) (by omega) (by omega) (by omega)
  refine lv_lconst (v := 1) hx hb dX0_tell_0 (by decide +kernel) ?_
  refine lv_iload_n hx hb dX0_tell_1 rfl (lv_at hl 2 rfl) ?_
  refine lv_iload_n hx hb dX0_tell_2 rfl (lv_at hl 1 rfl) ?_
  refine iv_sub hx hb dX0_tell_3 ?_
  refine lv_iconst (v := iI 1) hx hb dX0_tell_4 (by decide +kernel) ?_
  refine iv_add hx hb dX0_tell_5 ?_
  refine lv_lshl (v := 1 <<< ((iI (b - a + 1)).toInt64 &&& 63)) hx hb dX0_tell_6 rfl ?_
  rw [show (1 <<< ((iI (b - a + 1)).toInt64 &&& 63) : Int64) = lN (1 * 2 ^ (b - a + 1).toNat) from (shl_z 1 (by omega))]
  refine lv_lconst (v := 1) hx hb dX0_tell_7 (by decide +kernel) ?_
  refine lv_lsub hx hb dX0_tell_8 ?_
  rw [show ((lN (1 * 2 ^ (b - a + 1).toNat)) - 1 : Int64) = lN (2 ^ (b - a + 1).toNat - 1) from (rng_e)]
  refine lv_lstore_n (lv' := [(3, .long (lN (2 ^ (b - a + 1).toNat - 1))), (0, .ref d), (1, .int (iI a)), (2, .int (iI b))]) hx hb dX0_tell_9 rfl hl (by decide) rfl (fun ls hl => ?_)
  refine lv_aload_n hx hb dX0_tell_10 rfl (lv_at hl 1 rfl) ?_
  refine va_get (D := D) (ci := 0) (v := .long (lN (kL S 0 40))) (C := RX0) (T := TX0) (N := 10) hx hb hts hinX0 hown hK hP 0 rfl rfl 8 (by decide) hf40 (fun _ h9 => h9) rfl dX0_tell_11 ?_
  refine lv_iload_n hx hb dX0_tell_14 rfl (lv_at hl 2 rfl) ?_
  refine lv_lushr (v := ((lN (kL S 0 40)).toUInt64 >>> ((iI a).toInt64.toUInt64 &&& Int64.toUInt64 63)).toInt64) hx hb dX0_tell_15 rfl ?_
  rw [show (((lN (kL S 0 40)).toUInt64 >>> ((iI a).toInt64.toUInt64 &&& Int64.toUInt64 63)).toInt64 : Int64) = lN (kL S 0 40 / 2 ^ a.toNat) from (ushr_z (by omega) (by omega))]
  refine lv_lload_n hx hb dX0_tell_16 rfl (lv_at hl 0 rfl) ?_
  refine lv_land hx hb dX0_tell_17 ?_
  rw [show ((lN (kL S 0 40 / 2 ^ a.toNat)) &&& (lN (2 ^ (b - a + 1).toNat - 1)) : Int64) = lN (kL S 0 40 / 2 ^ a.toNat % 2 ^ (b - a + 1).toNat) from (wb_mask (Nat.lt_of_le_of_lt (Nat.div_le_self _ _) (by omega)) (by omega))]
  refine iv_roS (As := [.long (lN (kL S 0 40 / 2 ^ a.toNat % 2 ^ (b - a + 1).toNat))]) (rest := []) (n := 1) ⟨hx, hb, hml, hown, hts⟩ (c_J13_bitCount_95d88 l D yI yC yD (kL S 0 40 / 2 ^ a.toNat % 2 ^ (b - a + 1).toNat) (Nat.lt_of_le_of_lt (Nat.mod_le _ _) (Nat.lt_of_le_of_lt (Nat.div_le_self _ _) (by omega)))) (va_cwS 1 hts gX0_tell_J13_bitCount_95d88 rfl rfl rfl (by decide +kernel) ⟨Nat.le_of_ble_eq_true rfl, Nat.le_of_ble_eq_true rfl⟩) hK hP [] rfl rfl hl.1 rfl (Nat.le_of_ble_eq_true rfl) dX0_tell_18 ⟨Nat.zero_le _, Nat.zero_le _⟩ ?_
  rw [show (((popc 64 (kL S 0 40 / 2 ^ a.toNat % 2 ^ (b - a + 1).toNat) : Nat) : Int) : Int) = keysIn S a b from (keys_in hI hab)]
  refine lv_istore (lv' := [(5, .int (iI (keysIn S a b))), (3, .long (lN (2 ^ (b - a + 1).toNat - 1))), (0, .ref d), (1, .int (iI a)), (2, .int (iI b))]) hx hb dX0_tell_21 hl (by decide) rfl (fun ls hl => ?_)
  refine lv_iload hx hb dX0_tell_23 (lv_at hl 0 rfl) ?_
  refine lv_aload_n hx hb dX0_tell_25 rfl (lv_at hl 2 rfl) ?_
  refine va_get (D := D) (ci := 0) (v := .int (iI (S 2))) (C := RX0) (T := TX0) (N := 10) hx hb hts hinX0 hown hK hP 0 rfl rfl 2 (by decide) hf22 (fun _ h9 => h9) rfl dX0_tell_26 ?_
  refine iv_icmp_ge (a := keysIn S a b) (b := S 2) (tgt := 37) hx hb (by omega) (by omega) dX0_tell_29 (by decide) (fun c29 => ?_) (fun c29 => ?_)
  · refine lv_iload hx hb dX0_tell_37 (lv_at hl 0 rfl) ?_
    exact W.iret hx hb hr (fun t ht hW => ⟨congrArg (fun z => Outcome.returned (some (Value.int (iI z)))) (show keysIn S a b = told S a b by unfold told; first | rw [if_pos (by omega)] | rw [if_neg (by omega)]), ht⟩) (fun q h => by cases h) dX0_tell_39
  · refine lv_bipush (v := iI (-2)) hx hb dX0_tell_32 (by decide +kernel) ?_
    refine lv_goto (tgt := 39) hx hb dX0_tell_34 (by decide) ?_
    exact W.iret hx hb hr (fun t ht hW => ⟨congrArg (fun z => Outcome.returned (some (Value.int (iI z)))) (show -2 = told S a b by unfold told; first | rw [if_pos (by omega)] | rw [if_neg (by omega)]), ht⟩) (fun q h => by cases h) dX0_tell_39
set_option maxHeartbeats 4000000 in
set_option maxRecDepth 100000 in
theorem c_X0_fewestTold (l : Launch) (D : va_G) (yI yC yD : ClassId) (d : Nat) (dc : Nat) (S : Int → Int) (g : Int → Int) (i : Int) (hI : Inv S) (hR : Rc S g) (hi : 0 ≤ i ∧ i < S 4) : Met l yX0_fewestTold wsX0_fewestTold ({ frames := 1, cells := 0, slots := 0, locals := 23 }) (roP [.ref d, .int (iI i)] D (tyz yI yC yD) [(d, oDrv dc S (lN (kL S 0 40))), (dc, aI yI 48 g)]) (QcRead (iI (if an S i 2 = -2 then 0 else an S i 2))) 0 0 (fun _ => False) := by
  refine Met.ofW (cc := cX0_fewestTold) (maxL := 3) (ret := (some .int)) (by decide) rfl ?_
  intro p e s m args below meth c s₁ B hml hv
  obtain ⟨rfl, hP, hK⟩ := hv
  have hx := B.exec
  have hb := B.bytes
  have hr := B.returns
  have hts := atoms_spec (ws := wsX0_fewestTold) B.pre
  have hown : s.vm.findClass RX0 = some m.cls := findClass_of_methodNamed B.named
  have hlocks := B.notSynchronized
  have hP : va_P D vwCl [(d, oDrv dc S (lN (kL S 0 40))), (dc, aI yI 48 g)] s.heap := hP
  have hl := lv_entry ([.ref d, .int (iI i)]) (n := 3) (Nat.le_of_ble_eq_true rfl)
  rw [lg_entry_eq]
  generalize (lg_sl ([.ref d, .int (iI i)]) ++ List.replicate (3 - (lg_sl ([.ref d, .int (iI i)])).length) Slot.unset).toArray = ls at hl ⊢
  have hl : lv_has ls 3 [(0, .ref d), (1, .int (iI i))] := hl
  have hpl := hI.pl
  have hna := hI.na
  have hse := hI.se
  have hwi := hI.wi
  have hfe := hI.fe
  have hga := hR i 2 (by omega) (by omega) (by omega) (by omega)
  have haw := ans_w hI (n := i) (by omega) (by omega)
  refine lv_aload_n hx hb dX0_fewestTold_0 rfl (lv_at hl 0 rfl) ?_
  refine lv_iload_n hx hb dX0_fewestTold_1 rfl (lv_at hl 1 rfl) ?_
  refine lv_iconst (v := iI 2) hx hb dX0_fewestTold_2 (by decide +kernel) ?_
  refine iv_roV (As := [.int (iI i), .int (iI 2)]) (rest := []) (C := RX0) (n := 2) ⟨hx, hb, hml, hown, hts⟩ (c_X0_cell l D yI yC yD d dc S g (lN (kL S 0 40)) i 2 (by omega) (by omega)) (cwV 2 hts gX0_fewestTold_X0_cell rfl rfl rfl (by decide +kernel) ⟨Nat.le_of_ble_eq_true rfl, Nat.le_of_ble_eq_true rfl⟩) hK hP [0, 1] rfl 0 rfl rfl rfl hl.1 rfl (Nat.le_of_ble_eq_true rfl) dX0_fewestTold_3 ⟨Nat.zero_le _, Nat.zero_le _⟩ ?_
  rw [show (g (i * 4 + 2) : Int) = an S i 2 from (hga)]
  refine lv_istore_n (lv' := [(2, .int (iI (an S i 2))), (0, .ref d), (1, .int (iI i))]) hx hb dX0_fewestTold_6 rfl hl (by decide) rfl (fun ls hl => ?_)
  refine lv_iload_n hx hb dX0_fewestTold_7 rfl (lv_at hl 0 rfl) ?_
  refine lv_bipush (v := iI (-2)) hx hb dX0_fewestTold_8 (by decide +kernel) ?_
  refine iv_icmp_ne (a := an S i 2) (b := -2) (tgt := 17) hx hb (by omega) (by omega) dX0_fewestTold_10 (by decide) (fun c10 => ?_) (fun c10 => ?_)
  · refine lv_iload_n hx hb dX0_fewestTold_17 rfl (lv_at hl 0 rfl) ?_
    exact W.iret hx hb hr (fun t ht hW => ⟨congrArg (fun z => Outcome.returned (some (Value.int (iI z)))) (show an S i 2 = if an S i 2 = -2 then 0 else an S i 2 by first | rw [if_pos (by omega)] | rw [if_neg (by omega)]), ht⟩) (fun q h => by cases h) dX0_fewestTold_18
  · refine lv_iconst (v := iI 0) hx hb dX0_fewestTold_13 (by decide +kernel) ?_
    refine lv_goto (tgt := 18) hx hb dX0_fewestTold_14 (by decide) ?_
    exact W.iret hx hb hr (fun t ht hW => ⟨congrArg (fun z => Outcome.returned (some (Value.int (iI z)))) (show 0 = if an S i 2 = -2 then 0 else an S i 2 by first | rw [if_pos (by omega)] | rw [if_neg (by omega)]), ht⟩) (fun q h => by cases h) dX0_fewestTold_18
set_option maxHeartbeats 4000000 in
set_option maxRecDepth 100000 in
theorem c_X0_greatestTold (l : Launch) (D : va_G) (yI yC yD : ClassId) (d : Nat) (dc : Nat) (S : Int → Int) (g : Int → Int) (i : Int) (hI : Inv S) (hR : Rc S g) (hi : 0 ≤ i ∧ i < S 4) : Met l yX0_greatestTold wsX0_greatestTold ({ frames := 1, cells := 0, slots := 0, locals := 23 }) (roP [.ref d, .int (iI i)] D (tyz yI yC yD) [(d, oDrv dc S (lN (kL S 0 40))), (dc, aI yI 48 g)]) (QcRead (iI (if an S i 2 = -2 then S 2 - 1 else an S i 2))) 0 0 (fun _ => False) := by
  refine Met.ofW (cc := cX0_greatestTold) (maxL := 3) (ret := (some .int)) (by decide) rfl ?_
  intro p e s m args below meth c s₁ B hml hv
  obtain ⟨rfl, hP, hK⟩ := hv
  have hx := B.exec
  have hb := B.bytes
  have hr := B.returns
  have hts := atoms_spec (ws := wsX0_greatestTold) B.pre
  have hown : s.vm.findClass RX0 = some m.cls := findClass_of_methodNamed B.named
  have hlocks := B.notSynchronized
  have hP : va_P D vwCl [(d, oDrv dc S (lN (kL S 0 40))), (dc, aI yI 48 g)] s.heap := hP
  have hinX0 : ∀ w ∈ wsX00, w ∈ wsX0_greatestTold := by decide +kernel
  have hf22 : (Cond.fieldLink RX0 22 "RiddleDrive$Drive" "secrecy" "I").before _ s = true := hts _ (by decide +kernel)
  have hl := lv_entry ([.ref d, .int (iI i)]) (n := 3) (Nat.le_of_ble_eq_true rfl)
  rw [lg_entry_eq]
  generalize (lg_sl ([.ref d, .int (iI i)]) ++ List.replicate (3 - (lg_sl ([.ref d, .int (iI i)])).length) Slot.unset).toArray = ls at hl ⊢
  have hl : lv_has ls 3 [(0, .ref d), (1, .int (iI i))] := hl
  have hpl := hI.pl
  have hna := hI.na
  have hse := hI.se
  have hwi := hI.wi
  have hfe := hI.fe
  have hga := hR i 2 (by omega) (by omega) (by omega) (by omega)
  have haw := ans_w hI (n := i) (by omega) (by omega)
  refine lv_aload_n hx hb dX0_greatestTold_0 rfl (lv_at hl 0 rfl) ?_
  refine lv_iload_n hx hb dX0_greatestTold_1 rfl (lv_at hl 1 rfl) ?_
  refine lv_iconst (v := iI 2) hx hb dX0_greatestTold_2 (by decide +kernel) ?_
  refine iv_roV (As := [.int (iI i), .int (iI 2)]) (rest := []) (C := RX0) (n := 2) ⟨hx, hb, hml, hown, hts⟩ (c_X0_cell l D yI yC yD d dc S g (lN (kL S 0 40)) i 2 (by omega) (by omega)) (cwV 2 hts gX0_greatestTold_X0_cell rfl rfl rfl (by decide +kernel) ⟨Nat.le_of_ble_eq_true rfl, Nat.le_of_ble_eq_true rfl⟩) hK hP [0, 1] rfl 0 rfl rfl rfl hl.1 rfl (Nat.le_of_ble_eq_true rfl) dX0_greatestTold_3 ⟨Nat.zero_le _, Nat.zero_le _⟩ ?_
  rw [show (g (i * 4 + 2) : Int) = an S i 2 from (hga)]
  refine lv_istore_n (lv' := [(2, .int (iI (an S i 2))), (0, .ref d), (1, .int (iI i))]) hx hb dX0_greatestTold_6 rfl hl (by decide) rfl (fun ls hl => ?_)
  refine lv_iload_n hx hb dX0_greatestTold_7 rfl (lv_at hl 0 rfl) ?_
  refine lv_bipush (v := iI (-2)) hx hb dX0_greatestTold_8 (by decide +kernel) ?_
  refine iv_icmp_ne (a := an S i 2) (b := -2) (tgt := 22) hx hb (by omega) (by omega) dX0_greatestTold_10 (by decide) (fun c10 => ?_) (fun c10 => ?_)
  · refine lv_iload_n hx hb dX0_greatestTold_22 rfl (lv_at hl 0 rfl) ?_
    exact W.iret hx hb hr (fun t ht hW => ⟨congrArg (fun z => Outcome.returned (some (Value.int (iI z)))) (show an S i 2 = if an S i 2 = -2 then S 2 - 1 else an S i 2 by first | rw [if_pos (by omega)] | rw [if_neg (by omega)]), ht⟩) (fun q h => by cases h) dX0_greatestTold_23
  · refine lv_aload_n hx hb dX0_greatestTold_13 rfl (lv_at hl 1 rfl) ?_
    refine va_get (D := D) (ci := 0) (v := .int (iI (S 2))) (C := RX0) (T := TX0) (N := 10) hx hb hts hinX0 hown hK hP 0 rfl rfl 2 (by decide) hf22 (fun _ h9 => h9) rfl dX0_greatestTold_14 ?_
    refine lv_iconst (v := iI 1) hx hb dX0_greatestTold_17 (by decide +kernel) ?_
    refine iv_sub hx hb dX0_greatestTold_18 ?_
    refine lv_goto (tgt := 23) hx hb dX0_greatestTold_19 (by decide) ?_
    exact W.iret hx hb hr (fun t ht hW => ⟨congrArg (fun z => Outcome.returned (some (Value.int (iI z)))) (show S 2 - 1 = if an S i 2 = -2 then S 2 - 1 else an S i 2 by first | rw [if_pos (by omega)] | rw [if_neg (by omega)]), ht⟩) (fun q h => by cases h) dX0_greatestTold_23
set_option maxHeartbeats 4000000 in
set_option maxRecDepth 100000 in
theorem c_X0_answerAbout (l : Launch) (D : va_G) (yI yC yD : ClassId) (d : Nat) (dc : Nat) (S : Int → Int) (g : Int → Int) (a : Int) (b : Int) (hI : Inv S) (hR : Rc S g) (hab : inR a ∧ inR b) : Met l yX0_answerAbout wsX0_answerAbout ({ frames := 1, cells := 0, slots := 0, locals := 23 }) (roP [.ref d, .int (iI a), .int (iI b)] D (tyz yI yC yD) [(d, oDrv dc S (lN (kL S 0 40))), (dc, aI yI 48 g)]) (QcRead (iI (aboutI S a b))) 0 0 (fun _ => False) := by
  refine Met.ofW (cc := cX0_answerAbout) (maxL := 4) (ret := (some .int)) (by decide) rfl ?_
  intro p e s m args below meth c s₁ B hml hv
  obtain ⟨rfl, hP, hK⟩ := hv
  have hx := B.exec
  have hb := B.bytes
  have hr := B.returns
  have hts := atoms_spec (ws := wsX0_answerAbout) B.pre
  have hown : s.vm.findClass RX0 = some m.cls := findClass_of_methodNamed B.named
  have hlocks := B.notSynchronized
  have hP : va_P D vwCl [(d, oDrv dc S (lN (kL S 0 40))), (dc, aI yI 48 g)] s.heap := hP
  have hinX0 : ∀ w ∈ wsX00, w ∈ wsX0_answerAbout := by decide +kernel
  have hf28 : (Cond.fieldLink RX0 28 "RiddleDrive$Drive" "answers" "I").before _ s = true := hts _ (by decide +kernel)
  have hl := lv_entry ([.ref d, .int (iI a), .int (iI b)]) (n := 4) (Nat.le_of_ble_eq_true rfl)
  rw [lg_entry_eq]
  generalize (lg_sl ([.ref d, .int (iI a), .int (iI b)]) ++ List.replicate (4 - (lg_sl ([.ref d, .int (iI a), .int (iI b)])).length) Slot.unset).toArray = ls at hl ⊢
  have hl : lv_has ls 4 [(0, .ref d), (1, .int (iI a)), (2, .int (iI b))] := hl
  have hpl := hI.pl
  have hna := hI.na
  have hse := hI.se
  have hwi := hI.wi
  have hfe := hI.fe
  refine lv_iconst (v := iI 0) hx hb dX0_answerAbout_0 (by decide +kernel) ?_
  refine lv_istore_n (lv' := [(3, .int (iI 0)), (0, .ref d), (1, .int (iI a)), (2, .int (iI b))]) hx hb dX0_answerAbout_1 rfl hl (by decide) rfl (fun ls hl => ?_)
  refine iv_loopR (I := fun (qq : Nat × Int) ls => match qq with | (k, x3) => ((k : Int) ≤ S 4) ∧ (x3 = k) ∧ (∀ i : Int, 0 ≤ i → i < k → ¬ (an S i 0 = a ∧ an S i 1 = b)) ∧ lv_has ls 4 [(3, .int (iI x3)), (0, .ref d), (1, .int (iI a)), (2, .int (iI b))]) (μ := fun (qq : Nat × Int) => match qq with | (k, x3) => (S 4).toNat - k) (0, 0) ?_ ?_
  · exact ⟨by omega, by omega, fun i h0 h1 => by omega, lv_sub hl [0, 1, 2, 3] rfl⟩
  · intro qq ls hI ih2
    obtain ⟨k, x3⟩ := qq
    obtain ⟨hk, h3, hno, hl⟩ := hI
    refine lv_iload_n hx hb dX0_answerAbout_2 rfl (lv_at hl 0 rfl) ?_
    refine lv_aload_n hx hb dX0_answerAbout_3 rfl (lv_at hl 1 rfl) ?_
    refine va_get (D := D) (ci := 0) (v := .int (iI (S 4))) (C := RX0) (T := TX0) (N := 10) hx hb hts hinX0 hown hK hP 0 rfl rfl 4 (by decide) hf28 (fun _ h9 => h9) rfl dX0_answerAbout_4 ?_
    refine iv_icmp_ge (a := x3) (b := S 4) (tgt := 38) hx hb (by omega) (by omega) dX0_answerAbout_7 (by decide) (fun c7 => ?_) (fun c7 => ?_)
    · refine lv_iconst (v := iI (-1)) hx hb dX0_answerAbout_38 (by decide +kernel) ?_
      exact W.iret hx hb hr (fun t ht hW => ⟨congrArg (fun z => Outcome.returned (some (Value.int (iI z)))) (show -1 = aboutI S a b by exact (about_no (by omega) (fun i h0 h1 => hno i h0 (by omega))).symm), ht⟩) (fun q h => by cases h) dX0_answerAbout_39
    · have hg0 := hR x3 0 (by omega) (by omega) (by omega) (by omega)
      have hg1 := hR x3 1 (by omega) (by omega) (by omega) (by omega)
      have hax := hI.anr x3 (by omega) (by omega)
      refine lv_aload_n hx hb dX0_answerAbout_10 rfl (lv_at hl 1 rfl) ?_
      refine lv_iload_n hx hb dX0_answerAbout_11 rfl (lv_at hl 0 rfl) ?_
      refine lv_iconst (v := iI 0) hx hb dX0_answerAbout_12 (by decide +kernel) ?_
      refine iv_roV (As := [.int (iI x3), .int (iI 0)]) (rest := []) (C := RX0) (n := 2) ⟨hx, hb, hml, hown, hts⟩ (c_X0_cell l D yI yC yD d dc S g (lN (kL S 0 40)) x3 0 (by omega) (by omega)) (cwV 2 hts gX0_answerAbout_X0_cell rfl rfl rfl (by decide +kernel) ⟨Nat.le_of_ble_eq_true rfl, Nat.le_of_ble_eq_true rfl⟩) hK hP [0, 1] rfl 0 rfl rfl rfl hl.1 rfl (Nat.le_of_ble_eq_true rfl) dX0_answerAbout_13 ⟨Nat.zero_le _, Nat.zero_le _⟩ ?_
      rw [show (g (x3 * 4 + 0) : Int) = an S x3 0 from (hg0)]
      refine lv_iload_n hx hb dX0_answerAbout_16 rfl (lv_at hl 2 rfl) ?_
      refine iv_icmp_ne (a := an S x3 0) (b := a) (tgt := 32) hx hb (by omega) (by omega) dX0_answerAbout_17 (by decide) (fun c17 => ?_) (fun c17 => ?_)
      · refine iv_inc (lv' := [(3, .int (iI (x3 + 1))), (0, .ref d), (1, .int (iI a)), (2, .int (iI b))]) hx hb dX0_answerAbout_32 hl (k := 0) rfl (by decide) rfl (fun ls hl => ?_)
        refine lv_goto (tgt := 2) hx hb dX0_answerAbout_35 (by decide) ?_
        refine ih2 (k + 1, x3 + 1) (by show ((S 4).toNat - (k + 1) : Nat) < (S 4).toNat - k; omega) ?_
        exact ⟨by omega, by omega, fun i h0 h1 => (if e : i = x3 then (by rw [e]; omega) else hno i h0 (by omega)), lv_sub hl [0, 1, 2, 3] rfl⟩
      · refine lv_aload_n hx hb dX0_answerAbout_20 rfl (lv_at hl 1 rfl) ?_
        refine lv_iload_n hx hb dX0_answerAbout_21 rfl (lv_at hl 0 rfl) ?_
        refine lv_iconst (v := iI 1) hx hb dX0_answerAbout_22 (by decide +kernel) ?_
        refine iv_roV (As := [.int (iI x3), .int (iI 1)]) (rest := []) (C := RX0) (n := 2) ⟨hx, hb, hml, hown, hts⟩ (c_X0_cell l D yI yC yD d dc S g (lN (kL S 0 40)) x3 1 (by omega) (by omega)) (cwV 2 hts gX0_answerAbout_X0_cell rfl rfl rfl (by decide +kernel) ⟨Nat.le_of_ble_eq_true rfl, Nat.le_of_ble_eq_true rfl⟩) hK hP [0, 1] rfl 0 rfl rfl rfl hl.1 rfl (Nat.le_of_ble_eq_true rfl) dX0_answerAbout_23 ⟨Nat.zero_le _, Nat.zero_le _⟩ ?_
        rw [show (g (x3 * 4 + 1) : Int) = an S x3 1 from (hg1)]
        refine lv_iload_n hx hb dX0_answerAbout_26 rfl (lv_at hl 3 rfl) ?_
        refine iv_icmp_ne (a := an S x3 1) (b := b) (tgt := 32) hx hb (by omega) (by omega) dX0_answerAbout_27 (by decide) (fun c27 => ?_) (fun c27 => ?_)
        · refine iv_inc (lv' := [(3, .int (iI (x3 + 1))), (0, .ref d), (1, .int (iI a)), (2, .int (iI b))]) hx hb dX0_answerAbout_32 hl (k := 0) rfl (by decide) rfl (fun ls hl => ?_)
          refine lv_goto (tgt := 2) hx hb dX0_answerAbout_35 (by decide) ?_
          refine ih2 (k + 1, x3 + 1) (by show ((S 4).toNat - (k + 1) : Nat) < (S 4).toNat - k; omega) ?_
          exact ⟨by omega, by omega, fun i h0 h1 => (if e : i = x3 then (by rw [e]; omega) else hno i h0 (by omega)), lv_sub hl [0, 1, 2, 3] rfl⟩
        · refine lv_iload_n hx hb dX0_answerAbout_30 rfl (lv_at hl 0 rfl) ?_
          exact W.iret hx hb hr (fun t ht hW => ⟨congrArg (fun z => Outcome.returned (some (Value.int (iI z)))) (show x3 = aboutI S a b by exact (about_is hI (by omega) (by omega) (by assumption) (by assumption)).symm), ht⟩) (fun q h => by cases h) dX0_answerAbout_31
set_option maxHeartbeats 4000000 in
set_option maxRecDepth 100000 in
theorem c_X0_price (l : Launch) (D : va_G) (yI yC yD : ClassId) (d : Nat) (dc : Nat) (S : Int → Int) (g : Int → Int) (a : Int) (b : Int) (hI : Inv S) (hR : Rc S g) (hab : 0 ≤ a ∧ a ≤ b ∧ b < 40) : Met l yX0_price wsX0_price ({ frames := 2, cells := 0, slots := 0, locals := 46 }) (roP [.ref d, .int (iI a), .int (iI b)] D (tyz yI yC yD) [(d, oDrv dc S (lN (kL S 0 40))), (dc, aI yI 48 g)]) (QcRead (iI (costOf S a b))) 0 0 (fun _ => False) := by
  refine Met.ofW (cc := cX0_price) (maxL := 3) (ret := (some .int)) (by decide) rfl ?_
  intro p e s m args below meth c s₁ B hml hv
  obtain ⟨rfl, hP, hK⟩ := hv
  have hx := B.exec
  have hb := B.bytes
  have hr := B.returns
  have hts := atoms_spec (ws := wsX0_price) B.pre
  have hown : s.vm.findClass RX0 = some m.cls := findClass_of_methodNamed B.named
  have hlocks := B.notSynchronized
  have hP : va_P D vwCl [(d, oDrv dc S (lN (kL S 0 40))), (dc, aI yI 48 g)] s.heap := hP
  have hl := lv_entry ([.ref d, .int (iI a), .int (iI b)]) (n := 3) (Nat.le_of_ble_eq_true rfl)
  rw [lg_entry_eq]
  generalize (lg_sl ([.ref d, .int (iI a), .int (iI b)]) ++ List.replicate (3 - (lg_sl ([.ref d, .int (iI a), .int (iI b)])).length) Slot.unset).toArray = ls at hl ⊢
  have hl : lv_has ls 3 [(0, .ref d), (1, .int (iI a)), (2, .int (iI b))] := hl
  have hpl := hI.pl
  have hna := hI.na
  have hse := hI.se
  have hwi := hI.wi
  have hfe := hI.fe
  have hai := aboutI_b (S := S) (a := a) (b := b) (by omega)
  refine lv_aload_n hx hb dX0_price_0 rfl (lv_at hl 0 rfl) ?_
  refine lv_iload_n hx hb dX0_price_1 rfl (lv_at hl 1 rfl) ?_
  refine lv_iload_n hx hb dX0_price_2 rfl (lv_at hl 2 rfl) ?_
  refine iv_roV (As := [.int (iI a), .int (iI b)]) (rest := []) (C := RX0) (n := 2) ⟨hx, hb, hml, hown, hts⟩ (c_X0_answerAbout l D yI yC yD d dc S g a b (by assumption) (by assumption) (by constructor <;> constructor <;> omega)) (cwV 2 hts gX0_price_X0_answerAbout rfl rfl rfl (by decide +kernel) ⟨Nat.le_of_ble_eq_true rfl, Nat.le_of_ble_eq_true rfl⟩) hK hP [0, 1] rfl 0 rfl rfl rfl hl.1 rfl (Nat.le_of_ble_eq_true rfl) dX0_price_3 ⟨Nat.zero_le _, Nat.zero_le _⟩ ?_
  refine lv_iconst (v := iI (-1)) hx hb dX0_price_6 (by decide +kernel) ?_
  refine iv_icmp_ne (a := aboutI S a b) (b := -1) (tgt := 19) hx hb (by omega) (by omega) dX0_price_7 (by decide) (fun c7 => ?_) (fun c7 => ?_)
  · refine lv_iconst (v := iI 0) hx hb dX0_price_19 (by decide +kernel) ?_
    exact W.iret hx hb hr (fun t ht hW => ⟨congrArg (fun z => Outcome.returned (some (Value.int (iI z)))) (show 0 = costOf S a b by unfold costOf; first | rw [if_pos (by omega)] | rw [if_neg (by omega)]), ht⟩) (fun q h => by cases h) dX0_price_20
  · refine lv_aload_n hx hb dX0_price_10 rfl (lv_at hl 0 rfl) ?_
    refine lv_iload_n hx hb dX0_price_11 rfl (lv_at hl 1 rfl) ?_
    refine lv_iload_n hx hb dX0_price_12 rfl (lv_at hl 2 rfl) ?_
    refine iv_roV (As := [.int (iI a), .int (iI b)]) (rest := []) (C := RX0) (n := 2) ⟨hx, hb, hml, hown, hts⟩ (c_X0_fullPrice l D yI yC yD d dc S g (lN (kL S 0 40)) a b (by omega) (by omega)) (cwV 2 hts gX0_price_X0_fullPrice rfl rfl rfl (by decide +kernel) ⟨Nat.le_of_ble_eq_true rfl, Nat.le_of_ble_eq_true rfl⟩) hK hP [0, 1] rfl 0 rfl rfl rfl hl.1 rfl (Nat.le_of_ble_eq_true rfl) dX0_price_13 ⟨Nat.zero_le _, Nat.zero_le _⟩ ?_
    refine lv_goto (tgt := 20) hx hb dX0_price_16 (by decide) ?_
    exact W.iret hx hb hr (fun t ht hW => ⟨congrArg (fun z => Outcome.returned (some (Value.int (iI z)))) (show S 3 + (b - a + 1) / 4 = costOf S a b by unfold costOf; first | rw [if_pos (by omega)] | rw [if_neg (by omega)]), ht⟩) (fun q h => by cases h) dX0_price_20
