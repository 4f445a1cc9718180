set_option maxHeartbeats 4000000 in
set_option maxRecDepth 100000 in
theorem c_X5_worst (l : Launch) (D : va_G) (yI yC yD : ClassId) (mo : Nat) (th : Int) (re : Int) (tl : Int) (a1 : Nat) (a2 : Nat) (a3 : Nat) (a4 : Nat) (a5 : Nat) (a6 : Nat) (a7 : Nat) (a8 : Nat) (S : Int → Int) (Bd : Int → Int) (B2 : Int → Int) (a : Int) (b : Int) (hI : Inv S) (hab : inR a ∧ inR b) (sz : Nat) : Met l yX5_worst wsX5_worst ({ frames := 3, cells := 0, slots := 0, locals := 74 }) (rwP [.ref mo, .int (iI a), .int (iI b)] D (tyz yI yC yD) [(mo, oMo th a1 a2 a3 re a4 a5 a6 tl a7 a8), (a1, aI yI 96 S), (a7, aI yI 1681 Bd), (a8, aI yI 1681 B2)] sz) (va_Qi (fun (r : Int32) (u : (Int → Int) × (Int → Int)) => match u with | (G9, G8) => r = iI (if whyR S a b = 0 then (if S 1 ≤ b - a + 1 then worstQ S a b else -1) else 0) ∧ True) (fun (u : (Int → Int) × (Int → Int)) (t : State) => match u with | (G9, G8) => va_P D vwCl [(mo, oMo (whyR S a b) a1 a2 a3 re a4 a5 a6 tl a7 a8), (a1, aI yI 96 S), (a7, aI yI 1681 G9), (a8, aI yI 1681 G8)] t.heap) (va_A [(mo, oMo th a1 a2 a3 re a4 a5 a6 tl a7 a8), (a1, aI yI 96 S), (a7, aI yI 1681 Bd), (a8, aI yI 1681 B2)] sz)) 0 0 (va_A [(mo, oMo th a1 a2 a3 re a4 a5 a6 tl a7 a8), (a1, aI yI 96 S), (a7, aI yI 1681 Bd), (a8, aI yI 1681 B2)] sz) := by
  refine Met.ofW (cc := cX5_worst) (maxL := 8) (ret := (some .int)) (by decide) rfl ?_
  intro p e s m args below meth c s₁ B hml hv
  obtain ⟨rfl, hsz, hP, hK, hD0⟩ := hv
  have hx := B.exec
  have hb := B.bytes
  have hr := B.returns
  have hts := atoms_spec (ws := wsX5_worst) B.pre
  have hown : s.vm.findClass RX5 = some m.cls := findClass_of_methodNamed B.named
  have hlocks := B.notSynchronized
  subst hsz
  have hD := hD0.self (sz := s.heap.size)
  generalize hAe : va_A [(mo, oMo th a1 a2 a3 re a4 a5 a6 tl a7 a8), (a1, aI yI 96 S), (a7, aI yI 1681 Bd), (a8, aI yI 1681 B2)] s.heap.size = A at hD ⊢
  have hA : ∀ q : Nat, s.heap.size ≤ q → A q := fun q h => by rw [← hAe]; exact Or.inr h
  have hS : va_S A s.heap s.heap [] := va_S.rf
  have hP : va_P D vwCl [(mo, oMo th a1 a2 a3 re a4 a5 a6 tl a7 a8), (a1, aI yI 96 S), (a7, aI yI 1681 Bd), (a8, aI yI 1681 B2)] s.heap := hP
  have hinX5 : ∀ w ∈ wsX50, w ∈ wsX5_worst := by decide +kernel
  have hf7 : (Cond.fieldLink RX5 7 "RiddleDriveModel" "state" "[I").before _ s = true := hts _ (by decide +kernel)
  have hf28 : (Cond.fieldLink RX5 28 "RiddleDriveModel" "bounds" "[I").before _ s = true := hts _ (by decide +kernel)
  have hf38 : (Cond.fieldLink RX5 38 "RiddleDriveModel" "thrown" "I").before _ s = true := hts _ (by decide +kernel)
  have hl := lv_entry ([.ref mo, .int (iI a), .int (iI b)]) (n := 8) (Nat.le_of_ble_eq_true rfl)
  rw [lg_entry_eq]
  generalize (lg_sl ([.ref mo, .int (iI a), .int (iI b)]) ++ List.replicate (8 - (lg_sl ([.ref mo, .int (iI a), .int (iI b)])).length) Slot.unset).toArray = ls at hl ⊢
  have hl : lv_has ls 8 [(0, .ref mo), (1, .int (iI a)), (2, .int (iI b))] := hl
  have hpl := hI.pl
  have hna := hI.na
  have hse := hI.se
  have hwi := hI.wi
  have hwr := whyR_r (S := S) (a := a) (b := b)
  have hb1 := gb_FB hI (-1)
  refine lv_aload_n hx hb dX5_worst_0 rfl (lv_at hl 0 rfl) ?_
  refine lv_aload_n hx hb dX5_worst_1 rfl (lv_at hl 0 rfl) ?_
  refine lv_iload_n hx hb dX5_worst_2 rfl (lv_at hl 1 rfl) ?_
  refine lv_iload_n hx hb dX5_worst_3 rfl (lv_at hl 2 rfl) ?_
  refine iv_roV (As := [.int (iI a), .int (iI b)]) (rest := [.ref mo]) (C := RX5) (n := 2) ⟨hx, hb, hml, hown, hts⟩ (c_X5_whyNoRange l D yI yC yD mo th re tl a1 a2 a3 a4 a5 a6 a7 a8 S a b (by omega) (by omega)) (cwV 2 hts gX5_worst_X5_whyNoRange rfl rfl rfl (by decide +kernel) ⟨Nat.le_of_ble_eq_true rfl, Nat.le_of_ble_eq_true rfl⟩) hK hP [0, 1] rfl 0 rfl rfl rfl hl.1 rfl (Nat.le_of_ble_eq_true rfl) dX5_worst_4 ⟨Nat.zero_le _, Nat.zero_le _⟩ ?_
  refine va_put (D := D) (ci := 5) (v := .int (iI (whyR S a b))) (ty := .int) (C := RX5) (T := TX5) (N := 11) hx hb hts hinX5 tyX5 tyX5_ok nmX5 hown hK hP hD hS 0 rfl rfl 0 (by decide) hf38 (fun _ h9 => h9) rfl (by decide +kernel) rfl rfl (Nat.le_of_ble_eq_true rfl) dX5_worst_7 (fun H locs hP hD hS => ?_)
  have hP : va_P D vwCl [(mo, oMo (whyR S a b) a1 a2 a3 re a4 a5 a6 tl a7 a8), (a1, aI yI 96 S), (a7, aI yI 1681 Bd), (a8, aI yI 1681 B2)] H := hP
  have hD : va_D A [(mo, oMo (whyR S a b) a1 a2 a3 re a4 a5 a6 tl a7 a8), (a1, aI yI 96 S), (a7, aI yI 1681 Bd), (a8, aI yI 1681 B2)] := hD
  refine lv_aload_n hx hb dX5_worst_10 rfl (lv_at hl 0 rfl) ?_
  refine va_get (D := D) (ci := 5) (v := .int (iI (whyR S a b))) (C := RX5) (T := TX5) (N := 11) hx hb hts hinX5 hown hK hP 0 rfl rfl 0 (by decide) hf38 (fun _ h9 => h9) rfl dX5_worst_11 ?_
  refine iv_if_gt (a := whyR S a b) (tgt := 26) hx hb (by omega) dX5_worst_14 (by decide) (fun c14 => ?_) (fun c14 => ?_)
  · refine lv_aload_n hx hb dX5_worst_26 rfl (lv_at hl 0 rfl) ?_
    refine va_get (D := D) (ci := 5) (v := .int (iI (whyR S a b))) (C := RX5) (T := TX5) (N := 11) hx hb hts hinX5 hown hK hP 0 rfl rfl 0 (by decide) hf38 (fun _ h9 => h9) rfl dX5_worst_27 ?_
    refine iv_if_le (a := whyR S a b) (tgt := 37) hx hb (by omega) dX5_worst_30 (by decide) (fun c30 => ?_) (fun c30 => ?_)
    · refine lv_iconst (v := iI (-1)) hx hb dX5_worst_37 (by decide +kernel) ?_
      have hP9 : va_P D vwCl [(mo, oMo (whyR S a b) a1 a2 a3 re a4 a5 a6 tl a7 a8), (a1, aI yI 96 S), (a7, aI yI 1681 Bd), (a8, aI yI 1681 B2)] _ := hP.sub [0, 1, 2, 3] rfl
      exact W.iret hx hb hr (fun t ht hW => ⟨⟨iI (-1), (Bd, B2), rfl, ⟨congrArg iI (show -1 = (if whyR S a b = 0 then (if S 1 ≤ b - a + 1 then worstQ S a b else -1) else 0) by first | (exfalso; omega) | (rw [if_neg (by omega)]; done) | (rw [if_pos (by omega), if_neg (by omega)]; done) | (rw [if_pos (by omega), if_pos (by omega), h5]; unfold worstQ; congr 1; omega)), trivial⟩, by show va_P D vwCl _ t.heap; rw [ht]; exact hP9⟩, hS.F ht⟩) hS.2.2 dX5_worst_38
    · refine lv_iconst (v := iI 0) hx hb dX5_worst_33 (by decide +kernel) ?_
      refine lv_goto (tgt := 38) hx hb dX5_worst_34 (by decide) ?_
      have hP9 : va_P D vwCl [(mo, oMo (whyR S a b) a1 a2 a3 re a4 a5 a6 tl a7 a8), (a1, aI yI 96 S), (a7, aI yI 1681 Bd), (a8, aI yI 1681 B2)] _ := hP.sub [0, 1, 2, 3] rfl
      exact W.iret hx hb hr (fun t ht hW => ⟨⟨iI 0, (Bd, B2), rfl, ⟨congrArg iI (show 0 = (if whyR S a b = 0 then (if S 1 ≤ b - a + 1 then worstQ S a b else -1) else 0) by first | (exfalso; omega) | (rw [if_neg (by omega)]; done) | (rw [if_pos (by omega), if_neg (by omega)]; done) | (rw [if_pos (by omega), if_pos (by omega), h5]; unfold worstQ; congr 1; omega)), trivial⟩, by show va_P D vwCl _ t.heap; rw [ht]; exact hP9⟩, hS.F ht⟩) hS.2.2 dX5_worst_38
  · have hrr := whyR_0.mp (show whyR S a b = 0 by omega)
    refine lv_aload_n hx hb dX5_worst_17 rfl (lv_at hl 0 rfl) ?_
    refine lv_iload_n hx hb dX5_worst_18 rfl (lv_at hl 1 rfl) ?_
    refine lv_iload_n hx hb dX5_worst_19 rfl (lv_at hl 2 rfl) ?_
    refine iv_roV (As := [.int (iI a), .int (iI b)]) (rest := []) (C := RX5) (n := 2) ⟨hx, hb, hml, hown, hts⟩ (c_X5_isWide l D yI yC yD mo (whyR S a b) re tl a1 a2 a3 a4 a5 a6 a7 a8 S a b (by omega) (by omega)) (cwV 2 hts gX5_worst_X5_isWide rfl rfl rfl (by decide +kernel) ⟨Nat.le_of_ble_eq_true rfl, Nat.le_of_ble_eq_true rfl⟩) hK hP [0, 1] rfl 0 rfl rfl rfl hl.1 rfl (Nat.le_of_ble_eq_true rfl) dX5_worst_20 ⟨Nat.zero_le _, Nat.zero_le _⟩ ?_
    refine iv_ifb_ne (P := S 1 ≤ b - a + 1) (tgt := 39) hx hb dX5_worst_23 (by decide) (fun c23 => ?_) (fun c23 => ?_)
    · refine lv_aload_n hx hb dX5_worst_39 rfl (lv_at hl 0 rfl) ?_
      refine lv_iconst (v := iI (-1)) hx hb dX5_worst_40 (by decide +kernel) ?_
      refine iv_rwVv (As := [.int (iI (-1))]) (rest := []) (C := RX5) (n := 1) ⟨hx, hb, hml, hown, hts⟩ (c_X5_findBounds l D yI yC yD mo (whyR S a b) re tl a1 a2 a3 a4 a5 a6 a7 a8 S Bd (-1) (by assumption) (by omega) _) (cwV 1 hts gX5_worst_X5_findBounds rfl rfl rfl (by decide +kernel) ⟨Nat.le_of_ble_eq_true rfl, Nat.le_of_ble_eq_true rfl⟩) hK hP hD hS hA [0, 1, 2] (by decide) rfl 0 rfl rfl rfl hl.1 rfl (Nat.le_of_ble_eq_true rfl) dX5_worst_41 ⟨Nat.zero_le _, Nat.zero_le _⟩ (fun _ => rfl) (fun u41 H locs hw41 hP hD hS => ?_)
      have hP : va_P D vwCl [(mo, oMo (whyR S a b) a1 a2 a3 re a4 a5 a6 tl a7 a8), (a1, aI yI 96 S), (a7, aI yI 1681 (FB S (-1))), (a8, aI yI 1681 B2)] H := hP
      have hD : va_D A [(mo, oMo (whyR S a b) a1 a2 a3 re a4 a5 a6 tl a7 a8), (a1, aI yI 96 S), (a7, aI yI 1681 (FB S (-1))), (a8, aI yI 1681 B2)] := hD
      refine lv_aload_n hx hb dX5_worst_44 rfl (lv_at hl 0 rfl) ?_
      refine va_get (D := D) (ci := 5) (v := .ref a7) (C := RX5) (T := TX5) (N := 11) hx hb hts hinX5 hown hK hP 0 rfl rfl 9 (by decide) hf28 (fun _ h9 => h9) rfl dX5_worst_45 ?_
      refine lv_iload_n hx hb dX5_worst_48 rfl (lv_at hl 1 rfl) ?_
      refine lv_iload_n hx hb dX5_worst_49 rfl (lv_at hl 2 rfl) ?_
      refine iv_roS (As := [.ref a7, .int (iI a), .int (iI b)]) (rest := []) (n := 3) ⟨hx, hb, hml, hown, hts⟩ (c_X5_leastIn l D yI yC yD a7 (FB S (-1)) a b (by omega)) (va_cwS 3 hts gX5_worst_X5_leastIn rfl rfl rfl (by decide +kernel) ⟨Nat.le_of_ble_eq_true rfl, Nat.le_of_ble_eq_true rfl⟩) hK hP [2] rfl rfl hl.1 rfl (Nat.le_of_ble_eq_true rfl) dX5_worst_50 ⟨Nat.zero_le _, Nat.zero_le _⟩ ?_
      refine lv_istore_n (lv' := [(3, .int (iI (leastI (FB S (-1)) a b))), (0, .ref mo), (1, .int (iI a)), (2, .int (iI b))]) hx hb dX5_worst_53 rfl hl (by decide) rfl (fun ls hl => ?_)
      refine lv_aload_n hx hb dX5_worst_54 rfl (lv_at hl 1 rfl) ?_
      refine va_get (D := D) (ci := 5) (v := .ref a7) (C := RX5) (T := TX5) (N := 11) hx hb hts hinX5 hown hK hP 0 rfl rfl 9 (by decide) hf28 (fun _ h9 => h9) rfl dX5_worst_55 ?_
      refine lv_iload_n hx hb dX5_worst_58 rfl (lv_at hl 2 rfl) ?_
      refine lv_iload_n hx hb dX5_worst_59 rfl (lv_at hl 3 rfl) ?_
      have b1 := pot_lo hI (pot_FB hI (-1)) (z := 41 * a + b + 1) (by omega) (by omega)
      have b2 := pot_lo hI (pot_FB hI (-1)) (z := 41 * (b + 1) + a) (by omega) (by omega)
      have b3 : leastI (FB S (-1)) a b = -FB S (-1) (41 * (b + 1) + a) := rfl
      have b4 : mostI (FB S (-1)) a b = FB S (-1) (41 * a + b + 1) := rfl
      have b5 := most_le hI (a := a) (b := b) (by omega)
      have b6 := ml_r (S := S) (wo := -1) (a := a) (b := b) (by omega) (by omega)
      refine iv_roS (As := [.ref a7, .int (iI a), .int (iI b)]) (rest := []) (n := 3) ⟨hx, hb, hml, hown, hts⟩ (c_X5_mostIn l D yI yC yD a7 (FB S (-1)) a b (by omega)) (va_cwS 3 hts gX5_worst_X5_mostIn rfl rfl rfl (by decide +kernel) ⟨Nat.le_of_ble_eq_true rfl, Nat.le_of_ble_eq_true rfl⟩) hK hP [2] rfl rfl hl.1 rfl (Nat.le_of_ble_eq_true rfl) dX5_worst_60 ⟨Nat.zero_le _, Nat.zero_le _⟩ ?_
      refine lv_istore (lv' := [(4, .int (iI (mostI (FB S (-1)) a b))), (3, .int (iI (leastI (FB S (-1)) a b))), (0, .ref mo), (1, .int (iI a)), (2, .int (iI b))]) hx hb dX5_worst_63 hl (by decide) rfl (fun ls hl => ?_)
      refine lv_bipush (v := iI 40) hx hb dX5_worst_65 (by decide +kernel) ?_
      refine lv_istore (lv' := [(5, .int (iI 40)), (4, .int (iI (mostI (FB S (-1)) a b))), (3, .int (iI (leastI (FB S (-1)) a b))), (0, .ref mo), (1, .int (iI a)), (2, .int (iI b))]) hx hb dX5_worst_67 hl (by decide) rfl (fun ls hl => ?_)
      refine lv_iload_n hx hb dX5_worst_69 rfl (lv_at hl 2 rfl) ?_
      refine lv_istore (lv' := [(6, .int (iI (leastI (FB S (-1)) a b))), (5, .int (iI 40)), (4, .int (iI (mostI (FB S (-1)) a b))), (3, .int (iI (leastI (FB S (-1)) a b))), (0, .ref mo), (1, .int (iI a)), (2, .int (iI b))]) hx hb dX5_worst_70 hl (by decide) rfl (fun ls hl => ?_)
      refine iv_loop (I := fun (qq : Nat × Int × Int × (Int → Int)) H locs ls => match qq with | (n, x5, x6, G) => ((n : Int) ≤ mostI (FB S (-1)) a b + 1 - leastI (FB S (-1)) a b) ∧ (x6 = leastI (FB S (-1)) a b + n) ∧ (x5 = wsN S (FB S (-1)) a b (leastI (FB S (-1)) a b) n) ∧ (0 ≤ x5 ∧ x5 ≤ 40) ∧ va_P D vwCl [(mo, oMo (whyR S a b) a1 a2 a3 re a4 a5 a6 tl a7 a8), (a1, aI yI 96 S), (a7, aI yI 1681 (FB S (-1))), (a8, aI yI 1681 G)] H ∧ va_D A [(mo, oMo (whyR S a b) a1 a2 a3 re a4 a5 a6 tl a7 a8), (a1, aI yI 96 S), (a7, aI yI 1681 (FB S (-1))), (a8, aI yI 1681 G)] ∧ va_S A s.heap H locs ∧ lv_has ls 8 [(6, .int (iI x6)), (5, .int (iI x5)), (4, .int (iI (mostI (FB S (-1)) a b))), (3, .int (iI (leastI (FB S (-1)) a b))), (0, .ref mo), (1, .int (iI a)), (2, .int (iI b))]) (μ := fun (qq : Nat × Int × Int × (Int → Int)) => match qq with | (n, x5, x6, G) => (mostI (FB S (-1)) a b + 1 - leastI (FB S (-1)) a b).toNat - n) (0, 40, leastI (FB S (-1)) a b, B2) ?_ ?_
      · exact ⟨by omega, by omega, rfl, by omega, hP, hD, hS, lv_sub hl [0, 1, 2, 3, 4, 5, 6] rfl⟩
      · intro qq H locs ls hI ih72
        obtain ⟨n, x5, x6, G⟩ := qq
        obtain ⟨hn, h6, h5, hx5, hP, hD, hS, hl⟩ := hI
        refine lv_iload hx hb dX5_worst_72 (lv_at hl 0 rfl) ?_
        refine lv_iload hx hb dX5_worst_74 (lv_at hl 2 rfl) ?_
        refine iv_icmp_gt (a := x6) (b := mostI (FB S (-1)) a b) (tgt := 127) hx hb (by omega) (by omega) dX5_worst_76 (by decide) (fun c76 => ?_) (fun c76 => ?_)
        · refine lv_iload hx hb dX5_worst_127 (lv_at hl 1 rfl) ?_
          have hP9 : va_P D vwCl [(mo, oMo (whyR S a b) a1 a2 a3 re a4 a5 a6 tl a7 a8), (a1, aI yI 96 S), (a7, aI yI 1681 (FB S (-1))), (a8, aI yI 1681 G)] _ := hP.sub [0, 1, 2, 3] rfl
          exact W.iret hx hb hr (fun t ht hW => ⟨⟨iI x5, (FB S (-1), G), rfl, ⟨congrArg iI (show x5 = (if whyR S a b = 0 then (if S 1 ≤ b - a + 1 then worstQ S a b else -1) else 0) by first | (exfalso; omega) | (rw [if_neg (by omega)]; done) | (rw [if_pos (by omega), if_neg (by omega)]; done) | (rw [if_pos (by omega), if_pos (by omega), h5]; unfold worstQ; congr 1; omega)), trivial⟩, by show va_P D vwCl _ t.heap; rw [ht]; exact hP9⟩, hS.F ht⟩) hS.2.2 dX5_worst_129
        · refine lv_aload_n hx hb dX5_worst_79 rfl (lv_at hl 4 rfl) ?_
          refine lv_iload_n hx hb dX5_worst_80 rfl (lv_at hl 5 rfl) ?_
          refine lv_iload_n hx hb dX5_worst_81 rfl (lv_at hl 6 rfl) ?_
          refine lv_iload hx hb dX5_worst_82 (lv_at hl 0 rfl) ?_
          refine lv_aload_n hx hb dX5_worst_84 rfl (lv_at hl 4 rfl) ?_
          refine va_get (D := D) (ci := 5) (v := .ref a1) (C := RX5) (T := TX5) (N := 11) hx hb hts hinX5 hown hK hP 0 rfl rfl 1 (by decide) hf7 (fun _ h9 => h9) rfl dX5_worst_85 ?_
          refine lv_iconst (v := iI 2) hx hb dX5_worst_88 (by decide +kernel) ?_
          refine iv_ald hx hb hK hP 1 0 rfl rfl (z := 2) (by omega) (by omega) (by omega) dX5_worst_89 ?_
          refine iv_icmp_ge (a := x6) (b := S 2) (tgt := 98) hx hb (by omega) (by omega) dX5_worst_90 (by decide) (fun c90 => ?_) (fun c90 => ?_)
          · refine lv_iload hx hb dX5_worst_98 (lv_at hl 0 rfl) ?_
            refine iv_rwV (As := [.int (iI a), .int (iI b), .int (iI x6)]) (rest := []) (C := RX5) (n := 3) ⟨hx, hb, hml, hown, hts⟩ (c_X5_knownWith l D yI yC yD mo (whyR S a b) re tl a1 a2 a3 a4 a5 a6 a7 a8 S (FB S (-1)) G a b x6 (by omega) (by omega) (by assumption) (by omega) (by have z := ws_h5 hI (a := a) (b := b) (k := x6) (by omega); first | (rw [if_pos (show x6 < S 2 by omega)] at z; exact z) | (rw [if_neg (show ¬ x6 < S 2 by omega)] at z; exact z)) (by have z := ws_h6 hI (a := a) (b := b) (k := x6) (by omega) (by omega) (by omega) (by omega); first | (rw [if_pos (show x6 < S 2 by omega)] at z; exact z) | (rw [if_neg (show ¬ x6 < S 2 by omega)] at z; exact z)) (by have z := ws_gb hI (a := a) (b := b) (k := x6) (by omega) (by omega); first | (rw [if_pos (show x6 < S 2 by omega)] at z; exact z) | (rw [if_neg (show ¬ x6 < S 2 by omega)] at z; exact z)) _) (cwV 3 hts gX5_worst_X5_knownWith rfl rfl rfl (by decide +kernel) ⟨Nat.le_of_ble_eq_true rfl, Nat.le_of_ble_eq_true rfl⟩) hK hP hD hS hA [0, 1, 2, 3] (by decide) rfl 0 rfl rfl rfl hl.1 rfl (Nat.le_of_ble_eq_true rfl) dX5_worst_100 ⟨Nat.zero_le _, Nat.zero_le _⟩ (fun _ => rfl) (fun r100 u100 H locs hw100 hP hD hS => ?_)
            obtain ⟨G9100, hu100⟩ : ∃ z, z = u100 := ⟨_, rfl⟩
            subst hu100
            obtain ⟨hr100, -⟩ := hw100
            subst hr100
            have hP : va_P D vwCl [(mo, oMo (whyR S a b) a1 a2 a3 re a4 a5 a6 tl a7 a8), (a1, aI yI 96 S), (a7, aI yI 1681 (FB S (-1))), (a8, aI yI 1681 G9100)] H := hP
            have hD : va_D A [(mo, oMo (whyR S a b) a1 a2 a3 re a4 a5 a6 tl a7 a8), (a1, aI yI 96 S), (a7, aI yI 1681 (FB S (-1))), (a8, aI yI 1681 G9100)] := hD
            have hkr : 0 ≤ knownIn (bndA (FB S (-1)) a b x6 (S 2)) (S 0) ∧ knownIn (bndA (FB S (-1)) a b x6 (S 2)) (S 0) ≤ S 0 := knownIn_r (by omega)
            refine lv_istore (lv' := [(7, .int (iI (knownIn (bndA (FB S (-1)) a b x6 (S 2)) (S 0)))), (6, .int (iI x6)), (5, .int (iI x5)), (4, .int (iI (mostI (FB S (-1)) a b))), (3, .int (iI (leastI (FB S (-1)) a b))), (0, .ref mo), (1, .int (iI a)), (2, .int (iI b))]) hx hb dX5_worst_103 hl (by decide) rfl (fun ls hl => ?_)
            refine lv_iload hx hb dX5_worst_105 (lv_at hl 0 rfl) ?_
            refine lv_iload hx hb dX5_worst_107 (lv_at hl 2 rfl) ?_
            refine iv_icmp_ge (a := knownIn (bndA (FB S (-1)) a b x6 (S 2)) (S 0)) (b := x5) (tgt := 117) hx hb (by omega) (by omega) dX5_worst_109 (by decide) (fun c109 => ?_) (fun c109 => ?_)
            · refine lv_iload hx hb dX5_worst_117 (lv_at hl 2 rfl) ?_
              refine lv_istore (lv' := [(5, .int (iI x5)), (7, .int (iI (knownIn (bndA (FB S (-1)) a b x6 (S 2)) (S 0)))), (6, .int (iI x6)), (4, .int (iI (mostI (FB S (-1)) a b))), (3, .int (iI (leastI (FB S (-1)) a b))), (0, .ref mo), (1, .int (iI a)), (2, .int (iI b))]) hx hb dX5_worst_119 hl (by decide) rfl (fun ls hl => ?_)
              refine iv_inc (lv' := [(6, .int (iI (x6 + 1))), (5, .int (iI x5)), (7, .int (iI (knownIn (bndA (FB S (-1)) a b x6 (S 2)) (S 0)))), (4, .int (iI (mostI (FB S (-1)) a b))), (3, .int (iI (leastI (FB S (-1)) a b))), (0, .ref mo), (1, .int (iI a)), (2, .int (iI b))]) hx hb dX5_worst_121 hl (k := 2) rfl (by decide) rfl (fun ls hl => ?_)
              refine lv_goto (tgt := 72) hx hb dX5_worst_124 (by decide) ?_
              refine ih72 (n + 1, x5, x6 + 1, G9100) _ _ (by show ((mostI (FB S (-1)) a b + 1 - leastI (FB S (-1)) a b).toNat - (n + 1) : Nat) < (mostI (FB S (-1)) a b + 1 - leastI (FB S (-1)) a b).toNat - n; omega) ?_
              exact ⟨by omega, by omega, by (first | (exfalso; omega; done) | skip); try (subst h6; subst h5; show _ = if _ then _ else _; unfold wsK; (first | rw [if_pos (show leastI (FB S (-1)) a b + n < S 2 by omega)] | rw [if_neg (show ¬ leastI (FB S (-1)) a b + n < S 2 by omega)]); (first | rw [if_pos (by assumption)] | rw [if_neg (by omega)])), by omega, hP, hD, hS, lv_sub hl [0, 1, 3, 4, 5, 6, 7] rfl⟩
            · refine lv_iload hx hb dX5_worst_112 (lv_at hl 0 rfl) ?_
              refine lv_goto (tgt := 119) hx hb dX5_worst_114 (by decide) ?_
              refine lv_istore (lv' := [(5, .int (iI (knownIn (bndA (FB S (-1)) a b x6 (S 2)) (S 0)))), (7, .int (iI (knownIn (bndA (FB S (-1)) a b x6 (S 2)) (S 0)))), (6, .int (iI x6)), (4, .int (iI (mostI (FB S (-1)) a b))), (3, .int (iI (leastI (FB S (-1)) a b))), (0, .ref mo), (1, .int (iI a)), (2, .int (iI b))]) hx hb dX5_worst_119 hl (by decide) rfl (fun ls hl => ?_)
              refine iv_inc (lv' := [(6, .int (iI (x6 + 1))), (5, .int (iI (knownIn (bndA (FB S (-1)) a b x6 (S 2)) (S 0)))), (7, .int (iI (knownIn (bndA (FB S (-1)) a b x6 (S 2)) (S 0)))), (4, .int (iI (mostI (FB S (-1)) a b))), (3, .int (iI (leastI (FB S (-1)) a b))), (0, .ref mo), (1, .int (iI a)), (2, .int (iI b))]) hx hb dX5_worst_121 hl (k := 2) rfl (by decide) rfl (fun ls hl => ?_)
              refine lv_goto (tgt := 72) hx hb dX5_worst_124 (by decide) ?_
              refine ih72 (n + 1, knownIn (bndA (FB S (-1)) a b x6 (S 2)) (S 0), x6 + 1, G9100) _ _ (by show ((mostI (FB S (-1)) a b + 1 - leastI (FB S (-1)) a b).toNat - (n + 1) : Nat) < (mostI (FB S (-1)) a b + 1 - leastI (FB S (-1)) a b).toNat - n; omega) ?_
              exact ⟨by omega, by omega, by (first | (exfalso; omega; done) | skip); try (subst h6; subst h5; show _ = if _ then _ else _; unfold wsK; (first | rw [if_pos (show leastI (FB S (-1)) a b + n < S 2 by omega)] | rw [if_neg (show ¬ leastI (FB S (-1)) a b + n < S 2 by omega)]); (first | rw [if_pos (by assumption)] | rw [if_neg (by omega)])), by omega, hP, hD, hS, lv_sub hl [0, 1, 3, 4, 5, 6, 7] rfl⟩
          · refine lv_bipush (v := iI (-2)) hx hb dX5_worst_93 (by decide +kernel) ?_
            refine lv_goto (tgt := 100) hx hb dX5_worst_95 (by decide) ?_
            refine iv_rwV (As := [.int (iI a), .int (iI b), .int (iI (-2))]) (rest := []) (C := RX5) (n := 3) ⟨hx, hb, hml, hown, hts⟩ (c_X5_knownWith l D yI yC yD mo (whyR S a b) re tl a1 a2 a3 a4 a5 a6 a7 a8 S (FB S (-1)) G a b (-2) (by omega) (by omega) (by assumption) (by omega) (by have z := ws_h5 hI (a := a) (b := b) (k := x6) (by omega); first | (rw [if_pos (show x6 < S 2 by omega)] at z; exact z) | (rw [if_neg (show ¬ x6 < S 2 by omega)] at z; exact z)) (by have z := ws_h6 hI (a := a) (b := b) (k := x6) (by omega) (by omega) (by omega) (by omega); first | (rw [if_pos (show x6 < S 2 by omega)] at z; exact z) | (rw [if_neg (show ¬ x6 < S 2 by omega)] at z; exact z)) (by have z := ws_gb hI (a := a) (b := b) (k := x6) (by omega) (by omega); first | (rw [if_pos (show x6 < S 2 by omega)] at z; exact z) | (rw [if_neg (show ¬ x6 < S 2 by omega)] at z; exact z)) _) (cwV 3 hts gX5_worst_X5_knownWith rfl rfl rfl (by decide +kernel) ⟨Nat.le_of_ble_eq_true rfl, Nat.le_of_ble_eq_true rfl⟩) hK hP hD hS hA [0, 1, 2, 3] (by decide) rfl 0 rfl rfl rfl hl.1 rfl (Nat.le_of_ble_eq_true rfl) dX5_worst_100 ⟨Nat.zero_le _, Nat.zero_le _⟩ (fun _ => rfl) (fun r100 u100 H locs hw100 hP hD hS => ?_)
            obtain ⟨G9100, hu100⟩ : ∃ z, z = u100 := ⟨_, rfl⟩
            subst hu100
            obtain ⟨hr100, -⟩ := hw100
            subst hr100
            have hP : va_P D vwCl [(mo, oMo (whyR S a b) a1 a2 a3 re a4 a5 a6 tl a7 a8), (a1, aI yI 96 S), (a7, aI yI 1681 (FB S (-1))), (a8, aI yI 1681 G9100)] H := hP
            have hD : va_D A [(mo, oMo (whyR S a b) a1 a2 a3 re a4 a5 a6 tl a7 a8), (a1, aI yI 96 S), (a7, aI yI 1681 (FB S (-1))), (a8, aI yI 1681 G9100)] := hD
            have hkr : 0 ≤ knownIn (bndA (FB S (-1)) a b (-2) (S 2)) (S 0) ∧ knownIn (bndA (FB S (-1)) a b (-2) (S 2)) (S 0) ≤ S 0 := knownIn_r (by omega)
            refine lv_istore (lv' := [(7, .int (iI (knownIn (bndA (FB S (-1)) a b (-2) (S 2)) (S 0)))), (6, .int (iI x6)), (5, .int (iI x5)), (4, .int (iI (mostI (FB S (-1)) a b))), (3, .int (iI (leastI (FB S (-1)) a b))), (0, .ref mo), (1, .int (iI a)), (2, .int (iI b))]) hx hb dX5_worst_103 hl (by decide) rfl (fun ls hl => ?_)
            refine lv_iload hx hb dX5_worst_105 (lv_at hl 0 rfl) ?_
            refine lv_iload hx hb dX5_worst_107 (lv_at hl 2 rfl) ?_
            refine iv_icmp_ge (a := knownIn (bndA (FB S (-1)) a b (-2) (S 2)) (S 0)) (b := x5) (tgt := 117) hx hb (by omega) (by omega) dX5_worst_109 (by decide) (fun c109 => ?_) (fun c109 => ?_)
            · refine lv_iload hx hb dX5_worst_117 (lv_at hl 2 rfl) ?_
              refine lv_istore (lv' := [(5, .int (iI x5)), (7, .int (iI (knownIn (bndA (FB S (-1)) a b (-2) (S 2)) (S 0)))), (6, .int (iI x6)), (4, .int (iI (mostI (FB S (-1)) a b))), (3, .int (iI (leastI (FB S (-1)) a b))), (0, .ref mo), (1, .int (iI a)), (2, .int (iI b))]) hx hb dX5_worst_119 hl (by decide) rfl (fun ls hl => ?_)
              refine iv_inc (lv' := [(6, .int (iI (x6 + 1))), (5, .int (iI x5)), (7, .int (iI (knownIn (bndA (FB S (-1)) a b (-2) (S 2)) (S 0)))), (4, .int (iI (mostI (FB S (-1)) a b))), (3, .int (iI (leastI (FB S (-1)) a b))), (0, .ref mo), (1, .int (iI a)), (2, .int (iI b))]) hx hb dX5_worst_121 hl (k := 2) rfl (by decide) rfl (fun ls hl => ?_)
              refine lv_goto (tgt := 72) hx hb dX5_worst_124 (by decide) ?_
              refine ih72 (n + 1, x5, x6 + 1, G9100) _ _ (by show ((mostI (FB S (-1)) a b + 1 - leastI (FB S (-1)) a b).toNat - (n + 1) : Nat) < (mostI (FB S (-1)) a b + 1 - leastI (FB S (-1)) a b).toNat - n; omega) ?_
              exact ⟨by omega, by omega, by (first | (exfalso; omega; done) | skip); try (subst h6; subst h5; show _ = if _ then _ else _; unfold wsK; (first | rw [if_pos (show leastI (FB S (-1)) a b + n < S 2 by omega)] | rw [if_neg (show ¬ leastI (FB S (-1)) a b + n < S 2 by omega)]); (first | rw [if_pos (by assumption)] | rw [if_neg (by omega)])), by omega, hP, hD, hS, lv_sub hl [0, 1, 3, 4, 5, 6, 7] rfl⟩
            · refine lv_iload hx hb dX5_worst_112 (lv_at hl 0 rfl) ?_
              refine lv_goto (tgt := 119) hx hb dX5_worst_114 (by decide) ?_
              refine lv_istore (lv' := [(5, .int (iI (knownIn (bndA (FB S (-1)) a b (-2) (S 2)) (S 0)))), (7, .int (iI (knownIn (bndA (FB S (-1)) a b (-2) (S 2)) (S 0)))), (6, .int (iI x6)), (4, .int (iI (mostI (FB S (-1)) a b))), (3, .int (iI (leastI (FB S (-1)) a b))), (0, .ref mo), (1, .int (iI a)), (2, .int (iI b))]) hx hb dX5_worst_119 hl (by decide) rfl (fun ls hl => ?_)
              refine iv_inc (lv' := [(6, .int (iI (x6 + 1))), (5, .int (iI (knownIn (bndA (FB S (-1)) a b (-2) (S 2)) (S 0)))), (7, .int (iI (knownIn (bndA (FB S (-1)) a b (-2) (S 2)) (S 0)))), (4, .int (iI (mostI (FB S (-1)) a b))), (3, .int (iI (leastI (FB S (-1)) a b))), (0, .ref mo), (1, .int (iI a)), (2, .int (iI b))]) hx hb dX5_worst_121 hl (k := 2) rfl (by decide) rfl (fun ls hl => ?_)
              refine lv_goto (tgt := 72) hx hb dX5_worst_124 (by decide) ?_
              refine ih72 (n + 1, knownIn (bndA (FB S (-1)) a b (-2) (S 2)) (S 0), x6 + 1, G9100) _ _ (by show ((mostI (FB S (-1)) a b + 1 - leastI (FB S (-1)) a b).toNat - (n + 1) : Nat) < (mostI (FB S (-1)) a b + 1 - leastI (FB S (-1)) a b).toNat - n; omega) ?_
              exact ⟨by omega, by omega, by (first | (exfalso; omega; done) | skip); try (subst h6; subst h5; show _ = if _ then _ else _; unfold wsK; (first | rw [if_pos (show leastI (FB S (-1)) a b + n < S 2 by omega)] | rw [if_neg (show ¬ leastI (FB S (-1)) a b + n < S 2 by omega)]); (first | rw [if_pos (by assumption)] | rw [if_neg (by omega)])), by omega, hP, hD, hS, lv_sub hl [0, 1, 3, 4, 5, 6, 7] rfl⟩
    · refine lv_aload_n hx hb dX5_worst_26 rfl (lv_at hl 0 rfl) ?_
      refine va_get (D := D) (ci := 5) (v := .int (iI (whyR S a b))) (C := RX5) (T := TX5) (N := 11) hx hb hts hinX5 hown hK hP 0 rfl rfl 0 (by decide) hf38 (fun _ h9 => h9) rfl dX5_worst_27 ?_
      refine iv_if_le (a := whyR S a b) (tgt := 37) hx hb (by omega) dX5_worst_30 (by decide) (fun c30 => ?_) (fun c30 => ?_)
      · refine lv_iconst (v := iI (-1)) hx hb dX5_worst_37 (by decide +kernel) ?_
        have hP9 : va_P D vwCl [(mo, oMo (whyR S a b) a1 a2 a3 re a4 a5 a6 tl a7 a8), (a1, aI yI 96 S), (a7, aI yI 1681 Bd), (a8, aI yI 1681 B2)] _ := hP.sub [0, 1, 2, 3] rfl
        exact W.iret hx hb hr (fun t ht hW => ⟨⟨iI (-1), (Bd, B2), rfl, ⟨congrArg iI (show -1 = (if whyR S a b = 0 then (if S 1 ≤ b - a + 1 then worstQ S a b else -1) else 0) by first | (exfalso; omega) | (rw [if_neg (by omega)]; done) | (rw [if_pos (by omega), if_neg (by omega)]; done) | (rw [if_pos (by omega), if_pos (by omega), h5]; unfold worstQ; congr 1; omega)), trivial⟩, by show va_P D vwCl _ t.heap; rw [ht]; exact hP9⟩, hS.F ht⟩) hS.2.2 dX5_worst_38
      · refine lv_iconst (v := iI 0) hx hb dX5_worst_33 (by decide +kernel) ?_
        refine lv_goto (tgt := 38) hx hb dX5_worst_34 (by decide) ?_
        have hP9 : va_P D vwCl [(mo, oMo (whyR S a b) a1 a2 a3 re a4 a5 a6 tl a7 a8), (a1, aI yI 96 S), (a7, aI yI 1681 Bd), (a8, aI yI 1681 B2)] _ := hP.sub [0, 1, 2, 3] rfl
        exact W.iret hx hb hr (fun t ht hW => ⟨⟨iI 0, (Bd, B2), rfl, ⟨congrArg iI (show 0 = (if whyR S a b = 0 then (if S 1 ≤ b - a + 1 then worstQ S a b else -1) else 0) by first | (exfalso; omega) | (rw [if_neg (by omega)]; done) | (rw [if_pos (by omega), if_neg (by omega)]; done) | (rw [if_pos (by omega), if_pos (by omega), h5]; unfold worstQ; congr 1; omega)), trivial⟩, by show va_P D vwCl _ t.heap; rw [ht]; exact hP9⟩, hS.F ht⟩) hS.2.2 dX5_worst_38
set_option maxHeartbeats 4000000 in
set_option maxRecDepth 100000 in
theorem c_X5_save (l : Launch) (D : va_G) (yI yC yD : ClassId) (mo : Nat) (th : Int) (re : Int) (tl : Int) (a1 : Nat) (a2 : Nat) (a3 : Nat) (a4 : Nat) (a5 : Nat) (a6 : Nat) (a7 : Nat) (a8 : Nat) (S : Int → Int) (Sl : Int → Int) (Sv : Int → Int) (q : Int) (hI : Inv S) (hq9 : inR q) (sz : Nat) : Met l yX5_save wsX5_save ({ frames := 1, cells := 0, slots := 0, locals := 24 }) (rwP [.ref mo, .int (iI q)] D (tyz yI yC yD) [(mo, oMo th a1 a2 a3 re a4 a5 a6 tl a7 a8), (a1, aI yI 96 S), (a4, aI yI 192 Sl), (a5, aI yI 2 Sv)] sz) (va_Qi (fun (r : Int32) (_ : Unit) => r = iI (if 0 ≤ q ∧ q < 2 then S 4 else 0) ∧ True) (fun (_ : Unit) (t : State) => va_P D vwCl [(mo, oMo (bI (¬ (0 ≤ q ∧ q < 2))) a1 a2 a3 re a4 a5 a6 tl a7 a8), (a1, aI yI 96 S), (a4, aI yI 192 (if 0 ≤ q ∧ q < 2 then cpy S Sl 0 (96 * q) else Sl)), (a5, aI yI 2 (if 0 ≤ q ∧ q < 2 then up Sv q 1 else Sv))] t.heap) (va_A [(mo, oMo th a1 a2 a3 re a4 a5 a6 tl a7 a8), (a1, aI yI 96 S), (a4, aI yI 192 Sl), (a5, aI yI 2 Sv)] sz)) 0 0 (va_A [(mo, oMo th a1 a2 a3 re a4 a5 a6 tl a7 a8), (a1, aI yI 96 S), (a4, aI yI 192 Sl), (a5, aI yI 2 Sv)] sz) := by
  refine Met.ofW (cc := cX5_save) (maxL := 2) (ret := (some .int)) (by decide) rfl ?_
  intro p e s m args below meth c s₁ B hml hv
  obtain ⟨rfl, hsz, hP, hK, hD0⟩ := hv
  have hx := B.exec
  have hb := B.bytes
  have hr := B.returns
  have hts := atoms_spec (ws := wsX5_save) B.pre
  have hown : s.vm.findClass RX5 = some m.cls := findClass_of_methodNamed B.named
  have hlocks := B.notSynchronized
  subst hsz
  have hD := hD0.self (sz := s.heap.size)
  generalize hAe : va_A [(mo, oMo th a1 a2 a3 re a4 a5 a6 tl a7 a8), (a1, aI yI 96 S), (a4, aI yI 192 Sl), (a5, aI yI 2 Sv)] s.heap.size = A at hD ⊢
  have hA : ∀ q : Nat, s.heap.size ≤ q → A q := fun q h => by rw [← hAe]; exact Or.inr h
  have hS : va_S A s.heap s.heap [] := va_S.rf
  have hP : va_P D vwCl [(mo, oMo th a1 a2 a3 re a4 a5 a6 tl a7 a8), (a1, aI yI 96 S), (a4, aI yI 192 Sl), (a5, aI yI 2 Sv)] s.heap := hP
  have hinX5 : ∀ w ∈ wsX50, w ∈ wsX5_save := by decide +kernel
  have hf7 : (Cond.fieldLink RX5 7 "RiddleDriveModel" "state" "[I").before _ s = true := hts _ (by decide +kernel)
  have hf19 : (Cond.fieldLink RX5 19 "RiddleDriveModel" "slots" "[I").before _ s = true := hts _ (by decide +kernel)
  have hf22 : (Cond.fieldLink RX5 22 "RiddleDriveModel" "isSaved" "[I").before _ s = true := hts _ (by decide +kernel)
  have hf38 : (Cond.fieldLink RX5 38 "RiddleDriveModel" "thrown" "I").before _ s = true := hts _ (by decide +kernel)
  have hl := lv_entry ([.ref mo, .int (iI q)]) (n := 2) (Nat.le_of_ble_eq_true rfl)
  rw [lg_entry_eq]
  generalize (lg_sl ([.ref mo, .int (iI q)]) ++ List.replicate (2 - (lg_sl ([.ref mo, .int (iI q)])).length) Slot.unset).toArray = ls at hl ⊢
  have hl : lv_has ls 2 [(0, .ref mo), (1, .int (iI q))] := hl
  have hpl := hI.pl
  have hna := hI.na
  have hse := hI.se
  have hwi := hI.wi
  refine lv_aload_n hx hb dX5_save_0 rfl (lv_at hl 0 rfl) ?_
  refine lv_iload_n hx hb dX5_save_1 rfl (lv_at hl 1 rfl) ?_
  refine iv_roS (As := [.int (iI q)]) (rest := [.ref mo]) (n := 1) ⟨hx, hb, hml, hown, hts⟩ (c_X5_isSlot l D yI yC yD q (by omega)) (va_cwS 1 hts gX5_save_X5_isSlot rfl rfl rfl (by decide +kernel) ⟨Nat.le_of_ble_eq_true rfl, Nat.le_of_ble_eq_true rfl⟩) hK hP [] rfl rfl hl.1 rfl (Nat.le_of_ble_eq_true rfl) dX5_save_2 ⟨Nat.zero_le _, Nat.zero_le _⟩ ?_
  refine iv_ifb_eq (P := 0 ≤ q ∧ q < 2) (tgt := 12) hx hb dX5_save_5 (by decide) (fun c5 => ?_) (fun c5 => ?_)
  · refine lv_iconst (v := iI 1) hx hb dX5_save_12 (by decide +kernel) ?_
    refine va_put (D := D) (ci := 5) (v := .int (iI 1)) (ty := .int) (C := RX5) (T := TX5) (N := 11) hx hb hts hinX5 tyX5 tyX5_ok nmX5 hown hK hP hD hS 0 rfl rfl 0 (by decide) hf38 (fun _ h9 => h9) rfl (by decide +kernel) rfl rfl (Nat.le_of_ble_eq_true rfl) dX5_save_13 (fun H locs hP hD hS => ?_)
    have hP : va_P D vwCl [(mo, oMo 1 a1 a2 a3 re a4 a5 a6 tl a7 a8), (a1, aI yI 96 S), (a4, aI yI 192 Sl), (a5, aI yI 2 Sv)] H := hP
    have hD : va_D A [(mo, oMo 1 a1 a2 a3 re a4 a5 a6 tl a7 a8), (a1, aI yI 96 S), (a4, aI yI 192 Sl), (a5, aI yI 2 Sv)] := hD
    refine lv_aload_n hx hb dX5_save_16 rfl (lv_at hl 0 rfl) ?_
    refine va_get (D := D) (ci := 5) (v := .int (iI 1)) (C := RX5) (T := TX5) (N := 11) hx hb hts hinX5 hown hK hP 0 rfl rfl 0 (by decide) hf38 (fun _ h9 => h9) rfl dX5_save_17 ?_
    refine iv_if_le (a := 1) (tgt := 25) hx hb (by omega) dX5_save_20 (by decide) (fun c20 => ?_) (fun c20 => ?_)
    · exact absurd c20 (by omega)
    · refine lv_iconst (v := iI 0) hx hb dX5_save_23 (by decide +kernel) ?_
      have hq : ¬ (0 ≤ q ∧ q < 2) := by omega
      have hP9 : va_P D vwCl [(mo, oMo (bI (¬ (0 ≤ q ∧ q < 2))) a1 a2 a3 re a4 a5 a6 tl a7 a8), (a1, aI yI 96 S), (a4, aI yI 192 (if 0 ≤ q ∧ q < 2 then cpy S Sl 0 (96 * q) else Sl)), (a5, aI yI 2 (if 0 ≤ q ∧ q < 2 then up Sv q 1 else Sv))] _ := (hP.sub (ws' := [(mo, oMo 1 a1 a2 a3 re a4 a5 a6 tl a7 a8), (a1, aI yI 96 S), (a4, aI yI 192 Sl), (a5, aI yI 2 Sv)]) [0, 1, 2, 3] rfl).cv (by simp only [if_neg hq, bI_t hq])
      exact W.iret hx hb hr (fun t ht hW => ⟨⟨iI 0, (), rfl, ⟨congrArg iI (show 0 = if 0 ≤ q ∧ q < 2 then S 4 else 0 by rw [if_neg hq]), trivial⟩, by show va_P D vwCl _ t.heap; rw [ht]; exact hP9⟩, hS.F ht⟩) hS.2.2 dX5_save_24
  · refine lv_iconst (v := iI 0) hx hb dX5_save_8 (by decide +kernel) ?_
    refine lv_goto (tgt := 13) hx hb dX5_save_9 (by decide) ?_
    refine va_put (D := D) (ci := 5) (v := .int (iI 0)) (ty := .int) (C := RX5) (T := TX5) (N := 11) hx hb hts hinX5 tyX5 tyX5_ok nmX5 hown hK hP hD hS 0 rfl rfl 0 (by decide) hf38 (fun _ h9 => h9) rfl (by decide +kernel) rfl rfl (Nat.le_of_ble_eq_true rfl) dX5_save_13 (fun H locs hP hD hS => ?_)
    have hP : va_P D vwCl [(mo, oMo 0 a1 a2 a3 re a4 a5 a6 tl a7 a8), (a1, aI yI 96 S), (a4, aI yI 192 Sl), (a5, aI yI 2 Sv)] H := hP
    have hD : va_D A [(mo, oMo 0 a1 a2 a3 re a4 a5 a6 tl a7 a8), (a1, aI yI 96 S), (a4, aI yI 192 Sl), (a5, aI yI 2 Sv)] := hD
    refine lv_aload_n hx hb dX5_save_16 rfl (lv_at hl 0 rfl) ?_
    refine va_get (D := D) (ci := 5) (v := .int (iI 0)) (C := RX5) (T := TX5) (N := 11) hx hb hts hinX5 hown hK hP 0 rfl rfl 0 (by decide) hf38 (fun _ h9 => h9) rfl dX5_save_17 ?_
    refine iv_if_le (a := 0) (tgt := 25) hx hb (by omega) dX5_save_20 (by decide) (fun c20 => ?_) (fun c20 => ?_)
    · refine lv_aload_n hx hb dX5_save_25 rfl (lv_at hl 0 rfl) ?_
      refine va_get (D := D) (ci := 5) (v := .ref a1) (C := RX5) (T := TX5) (N := 11) hx hb hts hinX5 hown hK hP 0 rfl rfl 1 (by decide) hf7 (fun _ h9 => h9) rfl dX5_save_26 ?_
      refine lv_iconst (v := iI 0) hx hb dX5_save_29 (by decide +kernel) ?_
      refine lv_aload_n hx hb dX5_save_30 rfl (lv_at hl 0 rfl) ?_
      refine va_get (D := D) (ci := 5) (v := .ref a4) (C := RX5) (T := TX5) (N := 11) hx hb hts hinX5 hown hK hP 0 rfl rfl 5 (by decide) hf19 (fun _ h9 => h9) rfl dX5_save_31 ?_
      refine lv_bipush (v := iI 96) hx hb dX5_save_34 (by decide +kernel) ?_
      refine lv_iload_n hx hb dX5_save_36 rfl (lv_at hl 1 rfl) ?_
      refine iv_mul hx hb dX5_save_37 ?_
      refine iv_rwSv (As := [.ref a1, .int (iI 0), .ref a4, .int (iI (96 * q))]) (rest := []) (n := 4) ⟨hx, hb, hml, hown, hts⟩ (c_X5_copy l D yI yC yD a1 a4 96 192 S Sl 0 (96 * q) (by omega) (by omega) (by omega) _) (va_cwS 4 hts gX5_save_X5_copy rfl rfl rfl (by decide +kernel) ⟨Nat.le_of_ble_eq_true rfl, Nat.le_of_ble_eq_true rfl⟩) hK hP hD hS hA [1, 2] (by decide) rfl rfl hl.1 rfl (Nat.le_of_ble_eq_true rfl) dX5_save_38 ⟨Nat.zero_le _, Nat.zero_le _⟩ (fun _ => rfl) (fun u38 H locs hw38 hP hD hS => ?_)
      have hP : va_P D vwCl [(mo, oMo 0 a1 a2 a3 re a4 a5 a6 tl a7 a8), (a1, aI yI 96 S), (a4, aI yI 192 (cpy S Sl 0 (96 * q))), (a5, aI yI 2 Sv)] H := hP
      have hD : va_D A [(mo, oMo 0 a1 a2 a3 re a4 a5 a6 tl a7 a8), (a1, aI yI 96 S), (a4, aI yI 192 (cpy S Sl 0 (96 * q))), (a5, aI yI 2 Sv)] := hD
      refine lv_aload_n hx hb dX5_save_41 rfl (lv_at hl 0 rfl) ?_
      refine va_get (D := D) (ci := 5) (v := .ref a5) (C := RX5) (T := TX5) (N := 11) hx hb hts hinX5 hown hK hP 0 rfl rfl 6 (by decide) hf22 (fun _ h9 => h9) rfl dX5_save_42 ?_
      refine lv_iload_n hx hb dX5_save_45 rfl (lv_at hl 1 rfl) ?_
      refine lv_iconst (v := iI 1) hx hb dX5_save_46 (by decide +kernel) ?_
      refine iv_ast hx hb hK hP hD hS 3 0 rfl rfl (z := q) (v := 1) (by omega) (by omega) (by omega) dX5_save_47 (fun H locs hP hD hS => ?_)
      have hP : va_P D vwCl [(mo, oMo 0 a1 a2 a3 re a4 a5 a6 tl a7 a8), (a1, aI yI 96 S), (a4, aI yI 192 (cpy S Sl 0 (96 * q))), (a5, aI yI 2 (up Sv q 1))] H := hP
      have hD : va_D A [(mo, oMo 0 a1 a2 a3 re a4 a5 a6 tl a7 a8), (a1, aI yI 96 S), (a4, aI yI 192 (cpy S Sl 0 (96 * q))), (a5, aI yI 2 (up Sv q 1))] := hD
      refine lv_aload_n hx hb dX5_save_48 rfl (lv_at hl 0 rfl) ?_
      refine va_get (D := D) (ci := 5) (v := .ref a1) (C := RX5) (T := TX5) (N := 11) hx hb hts hinX5 hown hK hP 0 rfl rfl 1 (by decide) hf7 (fun _ h9 => h9) rfl dX5_save_49 ?_
      refine lv_iconst (v := iI 4) hx hb dX5_save_52 (by decide +kernel) ?_
      refine iv_ald hx hb hK hP 1 0 rfl rfl (z := 4) (by omega) (by omega) (by omega) dX5_save_53 ?_
      have hq : 0 ≤ q ∧ q < 2 := by omega
      have hP9 : va_P D vwCl [(mo, oMo (bI (¬ (0 ≤ q ∧ q < 2))) a1 a2 a3 re a4 a5 a6 tl a7 a8), (a1, aI yI 96 S), (a4, aI yI 192 (if 0 ≤ q ∧ q < 2 then cpy S Sl 0 (96 * q) else Sl)), (a5, aI yI 2 (if 0 ≤ q ∧ q < 2 then up Sv q 1 else Sv))] _ := (hP.sub (ws' := [(mo, oMo 0 a1 a2 a3 re a4 a5 a6 tl a7 a8), (a1, aI yI 96 S), (a4, aI yI 192 (cpy S Sl 0 (96 * q))), (a5, aI yI 2 (up Sv q 1))]) [0, 1, 2, 3] rfl).cv (by simp only [if_pos hq, bI_f (not_not_intro hq)])
      exact W.iret hx hb hr (fun t ht hW => ⟨⟨iI (S 4), (), rfl, ⟨congrArg iI (show S 4 = if 0 ≤ q ∧ q < 2 then S 4 else 0 by rw [if_pos hq]), trivial⟩, by show va_P D vwCl _ t.heap; rw [ht]; exact hP9⟩, hS.F ht⟩) hS.2.2 dX5_save_54
    · exact absurd c20 (by omega)
set_option maxHeartbeats 4000000 in
set_option maxRecDepth 100000 in
theorem c_X5_restore (l : Launch) (D : va_G) (yI yC yD : ClassId) (mo : Nat) (th : Int) (re : Int) (tl : Int) (a1 : Nat) (a2 : Nat) (a3 : Nat) (a4 : Nat) (a5 : Nat) (a6 : Nat) (a7 : Nat) (a8 : Nat) (S : Int → Int) (Sl : Int → Int) (Sv : Int → Int) (q : Int) (hq9 : inR q) (hsv : ∀ z, 0 ≤ z → z < 2 → 0 ≤ Sv z ∧ Sv z ≤ 1) (sz : Nat) : Met l yX5_restore wsX5_restore ({ frames := 1, cells := 0, slots := 0, locals := 24 }) (rwP [.ref mo, .int (iI q)] D (tyz yI yC yD) [(mo, oMo th a1 a2 a3 re a4 a5 a6 tl a7 a8), (a1, aI yI 96 S), (a4, aI yI 192 Sl), (a5, aI yI 2 Sv)] sz) (va_Qi (fun (r : Int32) (_ : Unit) => r = iI (if whyS Sv q = 0 then hst Sl q 4 else 0) ∧ True) (fun (_ : Unit) (t : State) => va_P D vwCl [(mo, oMo (whyS Sv q) a1 a2 a3 (if whyS Sv q = 0 then 0 else re) a4 a5 a6 tl a7 a8), (a1, aI yI 96 (if whyS Sv q = 0 then hst Sl q else S)), (a4, aI yI 192 Sl), (a5, aI yI 2 Sv)] t.heap) (va_A [(mo, oMo th a1 a2 a3 re a4 a5 a6 tl a7 a8), (a1, aI yI 96 S), (a4, aI yI 192 Sl), (a5, aI yI 2 Sv)] sz)) 0 0 (va_A [(mo, oMo th a1 a2 a3 re a4 a5 a6 tl a7 a8), (a1, aI yI 96 S), (a4, aI yI 192 Sl), (a5, aI yI 2 Sv)] sz) := by
  refine Met.ofW (cc := cX5_restore) (maxL := 2) (ret := (some .int)) (by decide) rfl ?_
  intro p e s m args below meth c s₁ B hml hv
  obtain ⟨rfl, hsz, hP, hK, hD0⟩ := hv
  have hx := B.exec
  have hb := B.bytes
  have hr := B.returns
  have hts := atoms_spec (ws := wsX5_restore) B.pre
  have hown : s.vm.findClass RX5 = some m.cls := findClass_of_methodNamed B.named
  have hlocks := B.notSynchronized
  subst hsz
  have hD := hD0.self (sz := s.heap.size)
  generalize hAe : va_A [(mo, oMo th a1 a2 a3 re a4 a5 a6 tl a7 a8), (a1, aI yI 96 S), (a4, aI yI 192 Sl), (a5, aI yI 2 Sv)] s.heap.size = A at hD ⊢
  have hA : ∀ q : Nat, s.heap.size ≤ q → A q := fun q h => by rw [← hAe]; exact Or.inr h
  have hS : va_S A s.heap s.heap [] := va_S.rf
  have hP : va_P D vwCl [(mo, oMo th a1 a2 a3 re a4 a5 a6 tl a7 a8), (a1, aI yI 96 S), (a4, aI yI 192 Sl), (a5, aI yI 2 Sv)] s.heap := hP
  have hinX5 : ∀ w ∈ wsX50, w ∈ wsX5_restore := by decide +kernel
  have hf7 : (Cond.fieldLink RX5 7 "RiddleDriveModel" "state" "[I").before _ s = true := hts _ (by decide +kernel)
  have hf19 : (Cond.fieldLink RX5 19 "RiddleDriveModel" "slots" "[I").before _ s = true := hts _ (by decide +kernel)
  have hf22 : (Cond.fieldLink RX5 22 "RiddleDriveModel" "isSaved" "[I").before _ s = true := hts _ (by decide +kernel)
  have hf38 : (Cond.fieldLink RX5 38 "RiddleDriveModel" "thrown" "I").before _ s = true := hts _ (by decide +kernel)
  have hf105 : (Cond.fieldLink RX5 105 "RiddleDriveModel" "remembered" "I").before _ s = true := hts _ (by decide +kernel)
  have hl := lv_entry ([.ref mo, .int (iI q)]) (n := 2) (Nat.le_of_ble_eq_true rfl)
  rw [lg_entry_eq]
  generalize (lg_sl ([.ref mo, .int (iI q)]) ++ List.replicate (2 - (lg_sl ([.ref mo, .int (iI q)])).length) Slot.unset).toArray = ls at hl ⊢
  have hl : lv_has ls 2 [(0, .ref mo), (1, .int (iI q))] := hl
  refine lv_aload_n hx hb dX5_restore_0 rfl (lv_at hl 0 rfl) ?_
  refine lv_iload_n hx hb dX5_restore_1 rfl (lv_at hl 1 rfl) ?_
  refine iv_roS (As := [.int (iI q)]) (rest := [.ref mo]) (n := 1) ⟨hx, hb, hml, hown, hts⟩ (c_X5_isSlot l D yI yC yD q (by omega)) (va_cwS 1 hts gX5_restore_X5_isSlot rfl rfl rfl (by decide +kernel) ⟨Nat.le_of_ble_eq_true rfl, Nat.le_of_ble_eq_true rfl⟩) hK hP [] rfl rfl hl.1 rfl (Nat.le_of_ble_eq_true rfl) dX5_restore_2 ⟨Nat.zero_le _, Nat.zero_le _⟩ ?_
  refine iv_ifb_ne (P := 0 ≤ q ∧ q < 2) (tgt := 12) hx hb dX5_restore_5 (by decide) (fun c5 => ?_) (fun c5 => ?_)
  · have hsq := hsv q (by omega) (by omega)
    refine lv_aload_n hx hb dX5_restore_12 rfl (lv_at hl 0 rfl) ?_
    refine va_get (D := D) (ci := 5) (v := .ref a5) (C := RX5) (T := TX5) (N := 11) hx hb hts hinX5 hown hK hP 0 rfl rfl 6 (by decide) hf22 (fun _ h9 => h9) rfl dX5_restore_13 ?_
    refine lv_iload_n hx hb dX5_restore_16 rfl (lv_at hl 1 rfl) ?_
    refine iv_ald hx hb hK hP 3 0 rfl rfl (z := q) (by omega) (by omega) (by omega) dX5_restore_17 ?_
    refine lv_iconst (v := iI 1) hx hb dX5_restore_18 (by decide +kernel) ?_
    refine iv_icmp_ne (a := Sv q) (b := 1) (tgt := 26) hx hb (by omega) (by omega) dX5_restore_19 (by decide) (fun c19 => ?_) (fun c19 => ?_)
    · refine lv_iconst (v := iI 2) hx hb dX5_restore_26 (by decide +kernel) ?_
      refine va_put (D := D) (ci := 5) (v := .int (iI 2)) (ty := .int) (C := RX5) (T := TX5) (N := 11) hx hb hts hinX5 tyX5 tyX5_ok nmX5 hown hK hP hD hS 0 rfl rfl 0 (by decide) hf38 (fun _ h9 => h9) rfl (by decide +kernel) rfl rfl (Nat.le_of_ble_eq_true rfl) dX5_restore_27 (fun H locs hP hD hS => ?_)
      have hP : va_P D vwCl [(mo, oMo 2 a1 a2 a3 re a4 a5 a6 tl a7 a8), (a1, aI yI 96 S), (a4, aI yI 192 Sl), (a5, aI yI 2 Sv)] H := hP
      have hD : va_D A [(mo, oMo 2 a1 a2 a3 re a4 a5 a6 tl a7 a8), (a1, aI yI 96 S), (a4, aI yI 192 Sl), (a5, aI yI 2 Sv)] := hD
      refine lv_aload_n hx hb dX5_restore_30 rfl (lv_at hl 0 rfl) ?_
      refine va_get (D := D) (ci := 5) (v := .int (iI 2)) (C := RX5) (T := TX5) (N := 11) hx hb hts hinX5 hown hK hP 0 rfl rfl 0 (by decide) hf38 (fun _ h9 => h9) rfl dX5_restore_31 ?_
      refine iv_if_le (a := 2) (tgt := 39) hx hb (by omega) dX5_restore_34 (by decide) (fun c34 => ?_) (fun c34 => ?_)
      · exact absurd c34 (by omega)
      · refine lv_iconst (v := iI 0) hx hb dX5_restore_37 (by decide +kernel) ?_
        have hth : whyS Sv q = 2 := by unfold whyS; (repeat (first | rw [if_pos (by omega)] | rw [if_neg (by omega)]))
        have hq : ¬ (whyS Sv q = 0) := by omega
        have hP9 : va_P D vwCl [(mo, oMo (whyS Sv q) a1 a2 a3 (if whyS Sv q = 0 then 0 else re) a4 a5 a6 tl a7 a8), (a1, aI yI 96 (if whyS Sv q = 0 then hst Sl q else S)), (a4, aI yI 192 Sl), (a5, aI yI 2 Sv)] _ := (hP.sub (ws' := [(mo, oMo 2 a1 a2 a3 re a4 a5 a6 tl a7 a8), (a1, aI yI 96 S), (a4, aI yI 192 Sl), (a5, aI yI 2 Sv)]) [0, 1, 2, 3] rfl).cv (by (try simp only [if_neg hq]); (try simp only [hth]))
        exact W.iret hx hb hr (fun t ht hW => ⟨⟨iI 0, (), rfl, ⟨congrArg iI (show 0 = if whyS Sv q = 0 then hst Sl q 4 else 0 by rw [if_neg hq]), trivial⟩, by show va_P D vwCl _ t.heap; rw [ht]; exact hP9⟩, hS.F ht⟩) hS.2.2 dX5_restore_38
    · refine lv_iconst (v := iI 0) hx hb dX5_restore_22 (by decide +kernel) ?_
      refine lv_goto (tgt := 27) hx hb dX5_restore_23 (by decide) ?_
      refine va_put (D := D) (ci := 5) (v := .int (iI 0)) (ty := .int) (C := RX5) (T := TX5) (N := 11) hx hb hts hinX5 tyX5 tyX5_ok nmX5 hown hK hP hD hS 0 rfl rfl 0 (by decide) hf38 (fun _ h9 => h9) rfl (by decide +kernel) rfl rfl (Nat.le_of_ble_eq_true rfl) dX5_restore_27 (fun H locs hP hD hS => ?_)
      have hP : va_P D vwCl [(mo, oMo 0 a1 a2 a3 re a4 a5 a6 tl a7 a8), (a1, aI yI 96 S), (a4, aI yI 192 Sl), (a5, aI yI 2 Sv)] H := hP
      have hD : va_D A [(mo, oMo 0 a1 a2 a3 re a4 a5 a6 tl a7 a8), (a1, aI yI 96 S), (a4, aI yI 192 Sl), (a5, aI yI 2 Sv)] := hD
      refine lv_aload_n hx hb dX5_restore_30 rfl (lv_at hl 0 rfl) ?_
      refine va_get (D := D) (ci := 5) (v := .int (iI 0)) (C := RX5) (T := TX5) (N := 11) hx hb hts hinX5 hown hK hP 0 rfl rfl 0 (by decide) hf38 (fun _ h9 => h9) rfl dX5_restore_31 ?_
      refine iv_if_le (a := 0) (tgt := 39) hx hb (by omega) dX5_restore_34 (by decide) (fun c34 => ?_) (fun c34 => ?_)
      · refine lv_aload_n hx hb dX5_restore_39 rfl (lv_at hl 0 rfl) ?_
        refine va_get (D := D) (ci := 5) (v := .ref a4) (C := RX5) (T := TX5) (N := 11) hx hb hts hinX5 hown hK hP 0 rfl rfl 5 (by decide) hf19 (fun _ h9 => h9) rfl dX5_restore_40 ?_
        refine lv_bipush (v := iI 96) hx hb dX5_restore_43 (by decide +kernel) ?_
        refine lv_iload_n hx hb dX5_restore_45 rfl (lv_at hl 1 rfl) ?_
        refine iv_mul hx hb dX5_restore_46 ?_
        refine lv_aload_n hx hb dX5_restore_47 rfl (lv_at hl 0 rfl) ?_
        refine va_get (D := D) (ci := 5) (v := .ref a1) (C := RX5) (T := TX5) (N := 11) hx hb hts hinX5 hown hK hP 0 rfl rfl 1 (by decide) hf7 (fun _ h9 => h9) rfl dX5_restore_48 ?_
        refine lv_iconst (v := iI 0) hx hb dX5_restore_51 (by decide +kernel) ?_
        refine iv_rwSv (As := [.ref a4, .int (iI (96 * q)), .ref a1, .int (iI 0)]) (rest := []) (n := 4) ⟨hx, hb, hml, hown, hts⟩ (c_X5_copy l D yI yC yD a4 a1 192 96 Sl S (96 * q) 0 (by omega) (by omega) (by omega) _) (va_cwS 4 hts gX5_restore_X5_copy rfl rfl rfl (by decide +kernel) ⟨Nat.le_of_ble_eq_true rfl, Nat.le_of_ble_eq_true rfl⟩) hK hP hD hS hA [2, 1] (by decide) rfl rfl hl.1 rfl (Nat.le_of_ble_eq_true rfl) dX5_restore_52 ⟨Nat.zero_le _, Nat.zero_le _⟩ (fun _ => rfl) (fun u52 H locs hw52 hP hD hS => ?_)
        have hP : va_P D vwCl [(mo, oMo 0 a1 a2 a3 re a4 a5 a6 tl a7 a8), (a1, aI yI 96 (cpy Sl S (96 * q) 0)), (a4, aI yI 192 Sl), (a5, aI yI 2 Sv)] H := hP
        have hD : va_D A [(mo, oMo 0 a1 a2 a3 re a4 a5 a6 tl a7 a8), (a1, aI yI 96 (cpy Sl S (96 * q) 0)), (a4, aI yI 192 Sl), (a5, aI yI 2 Sv)] := hD
        have hP := va_P.arr hP 1 (g := hst Sl q) rfl (fun z h1 h2 => cpy_hst2 h1 h2)
        have hD : va_D A [(mo, oMo 0 a1 a2 a3 re a4 a5 a6 tl a7 a8), (a1, aI yI 96 (hst Sl q)), (a4, aI yI 192 Sl), (a5, aI yI 2 Sv)] := hD.set (p := 1) rfl
        have hP : va_P D vwCl [(mo, oMo 0 a1 a2 a3 re a4 a5 a6 tl a7 a8), (a1, aI yI 96 (hst Sl q)), (a4, aI yI 192 Sl), (a5, aI yI 2 Sv)] H := hP
        refine lv_aload_n hx hb dX5_restore_55 rfl (lv_at hl 0 rfl) ?_
        refine lv_iconst (v := iI 0) hx hb dX5_restore_56 (by decide +kernel) ?_
        refine va_put (D := D) (ci := 5) (v := .int (iI 0)) (ty := .int) (C := RX5) (T := TX5) (N := 11) hx hb hts hinX5 tyX5 tyX5_ok nmX5 hown hK hP hD hS 0 rfl rfl 4 (by decide) hf105 (fun _ h9 => h9) rfl (by decide +kernel) rfl rfl (Nat.le_of_ble_eq_true rfl) dX5_restore_57 (fun H locs hP hD hS => ?_)
        have hP : va_P D vwCl [(mo, oMo 0 a1 a2 a3 0 a4 a5 a6 tl a7 a8), (a1, aI yI 96 (hst Sl q)), (a4, aI yI 192 Sl), (a5, aI yI 2 Sv)] H := hP
        have hD : va_D A [(mo, oMo 0 a1 a2 a3 0 a4 a5 a6 tl a7 a8), (a1, aI yI 96 (hst Sl q)), (a4, aI yI 192 Sl), (a5, aI yI 2 Sv)] := hD
        refine lv_aload_n hx hb dX5_restore_60 rfl (lv_at hl 0 rfl) ?_
        refine va_get (D := D) (ci := 5) (v := .ref a1) (C := RX5) (T := TX5) (N := 11) hx hb hts hinX5 hown hK hP 0 rfl rfl 1 (by decide) hf7 (fun _ h9 => h9) rfl dX5_restore_61 ?_
        refine lv_iconst (v := iI 4) hx hb dX5_restore_64 (by decide +kernel) ?_
        refine iv_ald hx hb hK hP 1 0 rfl rfl (z := 4) (by omega) (by omega) (by omega) dX5_restore_65 ?_
        have hth : whyS Sv q = 0 := by unfold whyS; (repeat (first | rw [if_pos (by omega)] | rw [if_neg (by omega)]))
        have hq : whyS Sv q = 0 := by omega
        have hP9 : va_P D vwCl [(mo, oMo (whyS Sv q) a1 a2 a3 (if whyS Sv q = 0 then 0 else re) a4 a5 a6 tl a7 a8), (a1, aI yI 96 (if whyS Sv q = 0 then hst Sl q else S)), (a4, aI yI 192 Sl), (a5, aI yI 2 Sv)] _ := (hP.sub (ws' := [(mo, oMo 0 a1 a2 a3 0 a4 a5 a6 tl a7 a8), (a1, aI yI 96 (hst Sl q)), (a4, aI yI 192 Sl), (a5, aI yI 2 Sv)]) [0, 1, 2, 3] rfl).cv (by (try simp only [if_pos hq]); (try simp only [hth]))
        exact W.iret hx hb hr (fun t ht hW => ⟨⟨iI ((hst Sl q) 4), (), rfl, ⟨congrArg iI (show (hst Sl q) 4 = if whyS Sv q = 0 then hst Sl q 4 else 0 by rw [if_pos hq]), trivial⟩, by show va_P D vwCl _ t.heap; rw [ht]; exact hP9⟩, hS.F ht⟩) hS.2.2 dX5_restore_66
      · exact absurd c34 (by omega)
  · refine lv_iconst (v := iI 1) hx hb dX5_restore_8 (by decide +kernel) ?_
    refine lv_goto (tgt := 27) hx hb dX5_restore_9 (by decide) ?_
    refine va_put (D := D) (ci := 5) (v := .int (iI 1)) (ty := .int) (C := RX5) (T := TX5) (N := 11) hx hb hts hinX5 tyX5 tyX5_ok nmX5 hown hK hP hD hS 0 rfl rfl 0 (by decide) hf38 (fun _ h9 => h9) rfl (by decide +kernel) rfl rfl (Nat.le_of_ble_eq_true rfl) dX5_restore_27 (fun H locs hP hD hS => ?_)
    have hP : va_P D vwCl [(mo, oMo 1 a1 a2 a3 re a4 a5 a6 tl a7 a8), (a1, aI yI 96 S), (a4, aI yI 192 Sl), (a5, aI yI 2 Sv)] H := hP
    have hD : va_D A [(mo, oMo 1 a1 a2 a3 re a4 a5 a6 tl a7 a8), (a1, aI yI 96 S), (a4, aI yI 192 Sl), (a5, aI yI 2 Sv)] := hD
    refine lv_aload_n hx hb dX5_restore_30 rfl (lv_at hl 0 rfl) ?_
    refine va_get (D := D) (ci := 5) (v := .int (iI 1)) (C := RX5) (T := TX5) (N := 11) hx hb hts hinX5 hown hK hP 0 rfl rfl 0 (by decide) hf38 (fun _ h9 => h9) rfl dX5_restore_31 ?_
    refine iv_if_le (a := 1) (tgt := 39) hx hb (by omega) dX5_restore_34 (by decide) (fun c34 => ?_) (fun c34 => ?_)
    · exact absurd c34 (by omega)
    · refine lv_iconst (v := iI 0) hx hb dX5_restore_37 (by decide +kernel) ?_
      have hth : whyS Sv q = 1 := by unfold whyS; (repeat (first | rw [if_pos (by omega)] | rw [if_neg (by omega)]))
      have hq : ¬ (whyS Sv q = 0) := by omega
      have hP9 : va_P D vwCl [(mo, oMo (whyS Sv q) a1 a2 a3 (if whyS Sv q = 0 then 0 else re) a4 a5 a6 tl a7 a8), (a1, aI yI 96 (if whyS Sv q = 0 then hst Sl q else S)), (a4, aI yI 192 Sl), (a5, aI yI 2 Sv)] _ := (hP.sub (ws' := [(mo, oMo 1 a1 a2 a3 re a4 a5 a6 tl a7 a8), (a1, aI yI 96 S), (a4, aI yI 192 Sl), (a5, aI yI 2 Sv)]) [0, 1, 2, 3] rfl).cv (by (try simp only [if_neg hq]); (try simp only [hth]))
      exact W.iret hx hb hr (fun t ht hW => ⟨⟨iI 0, (), rfl, ⟨congrArg iI (show 0 = if whyS Sv q = 0 then hst Sl q 4 else 0 by rw [if_neg hq]), trivial⟩, by show va_P D vwCl _ t.heap; rw [ht]; exact hP9⟩, hS.F ht⟩) hS.2.2 dX5_restore_38
