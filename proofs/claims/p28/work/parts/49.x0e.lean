set_option maxHeartbeats 4000000 in
set_option maxRecDepth 100000 in
theorem c_X0_putKey (l : Launch) (D : va_G) (yI yC yD : ClassId) (d : Nat) (dc : Nat) (S : Int → Int) (g : Int → Int) (i : Int) (v : Int) (hI : Inv S) (hR : Rc S g) (hi : 0 ≤ i ∧ i < S 0) (hv : 0 ≤ v ∧ v ≤ 1) (sz : Nat) : Met l yX0_putKey wsX0_putKey ({ frames := 2, cells := 0, slots := 0, locals := 35 }) (rwP [.ref d, .int (iI i), .int (iI v)] D (tyz yI yC yD) [(d, oDrv dc S (lN (kL S 0 40))), (dc, aI yI 48 g)] sz) (va_Qi (fun (r : Int32) (G9 : (Int → Int)) => r = iI (S 4 - wr S i v 4) ∧ Rc (wr S i v) G9) (fun (G9 : (Int → Int)) (t : State) => va_P D vwCl [(d, oDrv dc (wr S i v) (lN (kL (wr S i v) 0 40))), (dc, aI yI 48 G9)] t.heap) (va_A [(d, oDrv dc S (lN (kL S 0 40))), (dc, aI yI 48 g)] sz)) 0 0 (va_A [(d, oDrv dc S (lN (kL S 0 40))), (dc, aI yI 48 g)] sz) := by
  refine Met.ofW (cc := cX0_putKey) (maxL := 5) (ret := (some .int)) (by decide) rfl ?_
  intro p e s m args below meth c s₁ B hml hv
  obtain ⟨rfl, hsz, hP, hK, hD0⟩ := hv
  have hx := B.exec
  have hb := B.bytes
  have hr := B.returns
  have hts := atoms_spec (ws := wsX0_putKey) B.pre
  have hown : s.vm.findClass RX0 = some m.cls := findClass_of_methodNamed B.named
  have hlocks := B.notSynchronized
  subst hsz
  have hD := hD0.self (sz := s.heap.size)
  generalize hAe : va_A [(d, oDrv dc S (lN (kL S 0 40))), (dc, aI yI 48 g)] s.heap.size = A at hD ⊢
  have hA : ∀ q : Nat, s.heap.size ≤ q → A q := fun q h => by rw [← hAe]; exact Or.inr h
  have hS : va_S A s.heap s.heap [] := va_S.rf
  have hP : va_P D vwCl [(d, oDrv dc S (lN (kL S 0 40))), (dc, aI yI 48 g)] s.heap := hP
  have hinX0 : ∀ w ∈ wsX00, w ∈ wsX0_putKey := by decide +kernel
  have hf28 : (Cond.fieldLink RX0 28 "RiddleDrive$Drive" "answers" "I").before _ s = true := hts _ (by decide +kernel)
  have hf40 : (Cond.fieldLink RX0 40 "RiddleDrive$Drive" "keys" "J").before _ s = true := hts _ (by decide +kernel)
  have hl := lv_entry ([.ref d, .int (iI i), .int (iI v)]) (n := 5) (Nat.le_of_ble_eq_true rfl)
  rw [lg_entry_eq]
  generalize (lg_sl ([.ref d, .int (iI i), .int (iI v)]) ++ List.replicate (5 - (lg_sl ([.ref d, .int (iI i), .int (iI v)])).length) Slot.unset).toArray = ls at hl ⊢
  have hl : lv_has ls 5 [(0, .ref d), (1, .int (iI i)), (2, .int (iI v))] := hl
  have hpl := hI.pl
  have hna := hI.na
  have hse := hI.se
  have hwi := hI.wi
  have hfe := hI.fe
  have hkk : ∀ j : Int, 0 ≤ j → j < 40 → 0 ≤ S (8 + j) ∧ S (8 + j) ≤ 1 := fun j h0 h1 => hI.key h0 h1
  have hkb := kL_lt (S := S) 40 0 (fun j h0 h1 => hkk j h0 (by omega))
  have hki := hkk i (by omega) (by omega)
  have hbi := bI_k hki
  refine lv_aload_n hx hb dX0_putKey_0 rfl (lv_at hl 0 rfl) ?_
  refine lv_iload_n hx hb dX0_putKey_1 rfl (lv_at hl 1 rfl) ?_
  refine iv_roV (As := [.int (iI i)]) (rest := []) (C := RX0) (n := 1) ⟨hx, hb, hml, hown, hts⟩ (c_X0_hasKey l D yI yC yD d dc S g i (by assumption) (by omega)) (cwV 1 hts gX0_putKey_X0_hasKey rfl rfl rfl (by decide +kernel) ⟨Nat.le_of_ble_eq_true rfl, Nat.le_of_ble_eq_true rfl⟩) hK hP [0, 1] rfl 0 rfl rfl rfl hl.1 rfl (Nat.le_of_ble_eq_true rfl) dX0_putKey_2 ⟨Nat.zero_le _, Nat.zero_le _⟩ ?_
  refine lv_iload_n hx hb dX0_putKey_5 rfl (lv_at hl 2 rfl) ?_
  refine iv_icmp_ne (a := bI (S (8 + i) = 1)) (b := v) (tgt := 11) hx hb (by omega) (by omega) dX0_putKey_6 (by decide) (fun c6 => ?_) (fun c6 => ?_)
  · refine lv_aload_n hx hb dX0_putKey_11 rfl (lv_at hl 0 rfl) ?_
    refine lv_dup hx hb dX0_putKey_12 rfl ?_
    refine va_get (D := D) (ci := 0) (v := .long (lN (kL S 0 40))) (C := RX0) (T := TX0) (N := 10) hx hb hts hinX0 hown hK hP 0 rfl rfl 8 (by decide) hf40 (fun _ h9 => h9) rfl dX0_putKey_13 ?_
    refine lv_lconst (v := 1) hx hb dX0_putKey_16 (by decide +kernel) ?_
    refine lv_iload_n hx hb dX0_putKey_17 rfl (lv_at hl 1 rfl) ?_
    refine lv_lshl (v := 1 <<< ((iI i).toInt64 &&& 63)) hx hb dX0_putKey_18 rfl ?_
    rw [show (1 <<< ((iI i).toInt64 &&& 63) : Int64) = lN (1 * 2 ^ i.toNat) from (shl_z 1 (by omega))]
    refine lv_lxor hx hb dX0_putKey_19 ?_
    rw [show ((lN (kL S 0 40)) ^^^ (lN (1 * 2 ^ i.toNat)) : Int64) = lN (kL (up S (8 + i) v) 0 40) from (key_x hkk (by omega) (by omega))]
    refine va_put (D := D) (ci := 0) (v := .long (lN (kL (up S (8 + i) v) 0 40))) (ty := .long) (C := RX0) (T := TX0) (N := 10) hx hb hts hinX0 tyX0 tyX0_ok nmX0 hown hK hP hD hS 0 rfl rfl 8 (by decide) hf40 (fun _ h9 => h9) rfl (by decide +kernel) rfl rfl (Nat.le_of_ble_eq_true rfl) dX0_putKey_20 (fun H locs hP hD hS => ?_)
    have hP : va_P D vwCl [(d, oDrv dc S (lN (kL (up S (8 + i) v) 0 40))), (dc, aI yI 48 g)] H := hP
    have hD : va_D A [(d, oDrv dc S (lN (kL (up S (8 + i) v) 0 40))), (dc, aI yI 48 g)] := hD
    have hod : oDrv dc S (lN (kL (up S (8 + i) v) 0 40)) = oDrv dc (up S (8 + i) v) (lN (kL (up S (8 + i) v) 0 40)) := oDrv_e (fun z h0 h1 => (up_n (by omega)).symm) (rfl)
    rw [hod] at hP hD
    have hP : va_P D vwCl [(d, oDrv dc (up S (8 + i) v) (lN (kL (up S (8 + i) v) 0 40))), (dc, aI yI 48 g)] H := hP
    have hD : va_D A [(d, oDrv dc (up S (8 + i) v) (lN (kL (up S (8 + i) v) 0 40))), (dc, aI yI 48 g)] := hD
    refine lv_aload_n hx hb dX0_putKey_23 rfl (lv_at hl 0 rfl) ?_
    refine va_get (D := D) (ci := 0) (v := .int (iI ((up S (8 + i) v) 4))) (C := RX0) (T := TX0) (N := 10) hx hb hts hinX0 hown hK hP 0 rfl rfl 4 (by decide) hf28 (fun _ h9 => h9) rfl dX0_putKey_24 ?_
    refine lv_istore_n (lv' := [(3, .int (iI ((up S (8 + i) v) 4))), (0, .ref d), (1, .int (iI i)), (2, .int (iI v))]) hx hb dX0_putKey_27 rfl hl (by decide) rfl (fun ls hl => ?_)
    refine lv_iload_n hx hb dX0_putKey_28 rfl (lv_at hl 0 rfl) ?_
    refine lv_iconst (v := iI 1) hx hb dX0_putKey_29 (by decide +kernel) ?_
    refine iv_sub hx hb dX0_putKey_30 ?_
    refine lv_istore (lv' := [(4, .int (iI ((up S (8 + i) v) 4 - 1))), (3, .int (iI ((up S (8 + i) v) 4))), (0, .ref d), (1, .int (iI i)), (2, .int (iI v))]) hx hb dX0_putKey_31 hl (by decide) rfl (fun ls hl => ?_)
    refine iv_loop (I := fun (qq : Nat × Int × (Int → Int) × (Int → Int)) H locs ls => match qq with | (n, x4, G, gg) => ((n : Int) ≤ G 4 ∧ G 4 ≤ 12) ∧ (x4 = (n : Int) - 1) ∧ (wloop i n G = wloop i (S 4).toNat (up S (8 + i) v)) ∧ (∀ k : Int, 0 ≤ k → k < n → an G k 0 = an S k 0 ∧ an G k 1 = an S k 1) ∧ (Rc G gg) ∧ ((n : Int) ≤ S 4) ∧ va_P D vwCl [(d, oDrv dc G (lN (kL (G) 0 40))), (dc, aI yI 48 gg)] H ∧ va_D A [(d, oDrv dc G (lN (kL (G) 0 40))), (dc, aI yI 48 gg)] ∧ va_S A s.heap H locs ∧ lv_has ls 5 [(4, .int (iI x4)), (3, .int (iI ((up S (8 + i) v) 4))), (0, .ref d), (1, .int (iI i)), (2, .int (iI v))]) (μ := fun (qq : Nat × Int × (Int → Int) × (Int → Int)) => match qq with | (n, x4, G, gg) => n) ((S 4).toNat, (up S (8 + i) v) 4 - 1, up S (8 + i) v, g) ?_ ?_
    · exact ⟨by rw [up_n (by omega)]; omega, by rw [up_n (by omega)]; omega, rfl, fun k h5 h6 => ⟨an_up0 (by omega), an_up0 (by omega)⟩, rc_up hR (by omega), by omega, hP, hD, hS, lv_sub hl [0, 1, 2, 3, 4] rfl⟩
    · intro qq H locs ls hI ih33
      obtain ⟨n, x4, G, gg⟩ := qq
      obtain ⟨hn, h4, hw, hg, hR2, hn2, hP, hD, hS, hl⟩ := hI
      refine lv_iload hx hb dX0_putKey_33 (lv_at hl 0 rfl) ?_
      refine iv_if_lt (a := x4) (tgt := 72) hx hb (by omega) dX0_putKey_35 (by decide) (fun c35 => ?_) (fun c35 => ?_)
      · refine lv_iload_n hx hb dX0_putKey_72 rfl (lv_at hl 1 rfl) ?_
        refine lv_aload_n hx hb dX0_putKey_73 rfl (lv_at hl 2 rfl) ?_
        refine va_get (D := D) (ci := 0) (v := .int (iI (G 4))) (C := RX0) (T := TX0) (N := 10) hx hb hts hinX0 hown hK hP 0 rfl rfl 4 (by decide) hf28 (fun _ h9 => h9) rfl dX0_putKey_74 ?_
        refine iv_sub hx hb dX0_putKey_77 ?_
        have hP9 : va_P D vwCl [(d, oDrv dc (wr S i v) (lN (kL (wr S i v) 0 40))), (dc, aI yI 48 gg)] _ := (hP.sub (ws' := [(d, oDrv dc G (lN (kL (G) 0 40))), (dc, aI yI 48 gg)]) [0, 1] rfl).cv (by rw [wr_eq (by omega) hw (by omega)])
        exact W.iret hx hb hr (fun t ht hW => ⟨⟨iI ((up S (8 + i) v) 4 - (G 4)), gg, rfl, ⟨congrArg iI (show (up S (8 + i) v) 4 - (G 4) = S 4 - wr S i v 4 by rw [wr_eq (by omega) hw (by omega), up_n (by omega)]), (by rw [wr_eq (by omega) hw (by omega)]; exact hR2)⟩, by show va_P D vwCl _ t.heap; rw [ht]; exact hP9⟩, hS.F ht⟩) hS.2.2 dX0_putKey_78
      · have hgx := hg x4 (by omega) (by omega)
        have hax := hI.anr x4 (by omega) (by omega)
        have hg0 := hR2 x4 0 (by omega) (by omega) (by omega) (by omega)
        have hg1 := hR2 x4 1 (by omega) (by omega) (by omega) (by omega)
        refine lv_aload_n hx hb dX0_putKey_38 rfl (lv_at hl 2 rfl) ?_
        refine lv_iload hx hb dX0_putKey_39 (lv_at hl 0 rfl) ?_
        refine lv_iconst (v := iI 0) hx hb dX0_putKey_41 (by decide +kernel) ?_
        refine iv_roV (As := [.int (iI x4), .int (iI 0)]) (rest := []) (C := RX0) (n := 2) ⟨hx, hb, hml, hown, hts⟩ (c_X0_cell l D yI yC yD d dc G gg (lN (kL (G) 0 40)) x4 0 (by omega) (by omega)) (cwV 2 hts gX0_putKey_X0_cell rfl rfl rfl (by decide +kernel) ⟨Nat.le_of_ble_eq_true rfl, Nat.le_of_ble_eq_true rfl⟩) hK hP [0, 1] rfl 0 rfl rfl rfl hl.1 rfl (Nat.le_of_ble_eq_true rfl) dX0_putKey_42 ⟨Nat.zero_le _, Nat.zero_le _⟩ ?_
        rw [show (gg (x4 * 4 + 0) : Int) = an G x4 0 from (hg0)]
        refine lv_iload_n hx hb dX0_putKey_45 rfl (lv_at hl 3 rfl) ?_
        refine iv_icmp_gt (a := an G x4 0) (b := i) (tgt := 66) hx hb (by rw [hgx.1]; exact hax.1) (by omega) dX0_putKey_46 (by decide) (fun c46 => ?_) (fun c46 => ?_)
        · refine iv_inc (lv' := [(4, .int (iI (x4 + (-1)))), (3, .int (iI ((up S (8 + i) v) 4))), (0, .ref d), (1, .int (iI i)), (2, .int (iI v))]) hx hb dX0_putKey_66 hl (k := 0) rfl (by decide) rfl (fun ls hl => ?_)
          refine lv_goto (tgt := 33) hx hb dX0_putKey_69 (by decide) ?_
          refine ih33 (n - 1, x4 + (-1), G, gg) _ _ (by show (n - 1 : Nat) < n; omega) ?_
          exact ⟨by first | omega | (have e4 : forget1 G x4 4 = G 4 - 1 := rfl; rw [e4]; omega), by omega, by rw [← hw, show n = (n - 1) + 1 by omega, show n - 1 + 1 - 1 = n - 1 by omega]; show _ = wloop i (n - 1) (if _ then _ else _); rw [show ((n - 1 : Nat) : Int) = x4 by omega]; first | rw [if_pos (by omega)] | rw [if_neg (by omega)], fun k h5 h6 => by first | exact hg k h5 (by omega) | (rw [an_forget (by omega) (by omega), an_forget (by omega) (by omega)]; exact hg k h5 (by omega)), by assumption, by omega, hP, hD, hS, lv_sub hl [0, 1, 2, 3, 4] rfl⟩
        · refine lv_iload_n hx hb dX0_putKey_49 rfl (lv_at hl 3 rfl) ?_
          refine lv_aload_n hx hb dX0_putKey_50 rfl (lv_at hl 2 rfl) ?_
          refine lv_iload hx hb dX0_putKey_51 (lv_at hl 0 rfl) ?_
          refine lv_iconst (v := iI 1) hx hb dX0_putKey_53 (by decide +kernel) ?_
          refine iv_roV (As := [.int (iI x4), .int (iI 1)]) (rest := [.int (iI i)]) (C := RX0) (n := 2) ⟨hx, hb, hml, hown, hts⟩ (c_X0_cell l D yI yC yD d dc G gg (lN (kL (G) 0 40)) x4 1 (by omega) (by omega)) (cwV 2 hts gX0_putKey_X0_cell rfl rfl rfl (by decide +kernel) ⟨Nat.le_of_ble_eq_true rfl, Nat.le_of_ble_eq_true rfl⟩) hK hP [0, 1] rfl 0 rfl rfl rfl hl.1 rfl (Nat.le_of_ble_eq_true rfl) dX0_putKey_54 ⟨Nat.zero_le _, Nat.zero_le _⟩ ?_
          rw [show (gg (x4 * 4 + 1) : Int) = an G x4 1 from (hg1)]
          refine iv_icmp_gt (a := i) (b := an G x4 1) (tgt := 66) hx hb (by omega) (by rw [hgx.2]; exact hax.2) dX0_putKey_57 (by decide) (fun c57 => ?_) (fun c57 => ?_)
          · refine iv_inc (lv' := [(4, .int (iI (x4 + (-1)))), (3, .int (iI ((up S (8 + i) v) 4))), (0, .ref d), (1, .int (iI i)), (2, .int (iI v))]) hx hb dX0_putKey_66 hl (k := 0) rfl (by decide) rfl (fun ls hl => ?_)
            refine lv_goto (tgt := 33) hx hb dX0_putKey_69 (by decide) ?_
            refine ih33 (n - 1, x4 + (-1), G, gg) _ _ (by show (n - 1 : Nat) < n; omega) ?_
            exact ⟨by first | omega | (have e4 : forget1 G x4 4 = G 4 - 1 := rfl; rw [e4]; omega), by omega, by rw [← hw, show n = (n - 1) + 1 by omega, show n - 1 + 1 - 1 = n - 1 by omega]; show _ = wloop i (n - 1) (if _ then _ else _); rw [show ((n - 1 : Nat) : Int) = x4 by omega]; first | rw [if_pos (by omega)] | rw [if_neg (by omega)], fun k h5 h6 => by first | exact hg k h5 (by omega) | (rw [an_forget (by omega) (by omega), an_forget (by omega) (by omega)]; exact hg k h5 (by omega)), by assumption, by omega, hP, hD, hS, lv_sub hl [0, 1, 2, 3, 4] rfl⟩
          · refine lv_aload_n hx hb dX0_putKey_60 rfl (lv_at hl 2 rfl) ?_
            refine lv_iload hx hb dX0_putKey_61 (lv_at hl 0 rfl) ?_
            refine iv_rwVv (As := [.int (iI x4)]) (rest := []) (C := RX0) (n := 1) ⟨hx, hb, hml, hown, hts⟩ (c_X0_drop l D yI yC yD d dc G gg x4 (by omega) (by assumption) (by omega) _) (cwV 1 hts gX0_putKey_X0_drop rfl rfl rfl (by decide +kernel) ⟨Nat.le_of_ble_eq_true rfl, Nat.le_of_ble_eq_true rfl⟩) hK hP hD hS hA [0, 1] (by decide) rfl 0 rfl rfl rfl hl.1 rfl (Nat.le_of_ble_eq_true rfl) dX0_putKey_63 ⟨Nat.zero_le _, Nat.zero_le _⟩ (fun _ => rfl) (fun u63 H locs hw63 hP hD hS => ?_)
            obtain ⟨G963, hu63⟩ : ∃ z, z = u63 := ⟨_, rfl⟩
            subst hu63
            have hR2_63 := hw63
            have hP : va_P D vwCl [(d, oDrv dc (forget1 G x4) (lN (kL (forget1 G x4) 0 40))), (dc, aI yI 48 G963)] H := hP
            have hD : va_D A [(d, oDrv dc (forget1 G x4) (lN (kL (forget1 G x4) 0 40))), (dc, aI yI 48 G963)] := hD
            refine iv_inc (lv' := [(4, .int (iI (x4 + (-1)))), (3, .int (iI ((up S (8 + i) v) 4))), (0, .ref d), (1, .int (iI i)), (2, .int (iI v))]) hx hb dX0_putKey_66 hl (k := 0) rfl (by decide) rfl (fun ls hl => ?_)
            refine lv_goto (tgt := 33) hx hb dX0_putKey_69 (by decide) ?_
            refine ih33 (n - 1, x4 + (-1), forget1 G x4, G963) _ _ (by show (n - 1 : Nat) < n; omega) ?_
            exact ⟨by first | omega | (have e4 : forget1 G x4 4 = G 4 - 1 := rfl; rw [e4]; omega), by omega, by rw [← hw, show n = (n - 1) + 1 by omega, show n - 1 + 1 - 1 = n - 1 by omega]; show _ = wloop i (n - 1) (if _ then _ else _); rw [show ((n - 1 : Nat) : Int) = x4 by omega]; first | rw [if_pos (by omega)] | rw [if_neg (by omega)], fun k h5 h6 => by first | exact hg k h5 (by omega) | (rw [an_forget (by omega) (by omega), an_forget (by omega) (by omega)]; exact hg k h5 (by omega)), by assumption, by omega, hP, hD, hS, lv_sub hl [0, 1, 2, 3, 4] rfl⟩
  · refine lv_iconst (v := iI 0) hx hb dX0_putKey_9 (by decide +kernel) ?_
    have hP9 : va_P D vwCl [(d, oDrv dc (wr S i v) (lN (kL (wr S i v) 0 40))), (dc, aI yI 48 g)] _ := (hP.sub (ws' := [(d, oDrv dc S (lN (kL S 0 40))), (dc, aI yI 48 g)]) [0, 1] rfl).cv (by rw [wr_self (by omega)])
    exact W.iret hx hb hr (fun t ht hW => ⟨⟨iI 0, g, rfl, ⟨congrArg iI (show 0 = S 4 - wr S i v 4 by rw [wr_self (by omega)]; omega), (by rw [wr_self (by omega)]; exact hR)⟩, by show va_P D vwCl _ t.heap; rw [ht]; exact hP9⟩, hS.F ht⟩) hS.2.2 dX0_putKey_10
