set_option maxHeartbeats 4000000 in
set_option maxRecDepth 100000 in
theorem c_X1_learnNothing (l : Launch) (D : va_G) (yI yC yD : ClassId) (kn : Nat) (ex : Nat) (pl : Int) (E : Int → Int) (hp : 0 ≤ pl ∧ pl ≤ 40) (sz : Nat) : Met l yX1_learnNothing wsX1_learnNothing ({ frames := 1, cells := 0, slots := 0, locals := 24 }) (rwP [.ref kn] D (tyz yI yC yD) [(kn, oKn pl ex), (ex, aI yI 1681 E)] sz) (va_Qv (fun (G9 : (Int → Int)) => Ek G9 (b0 pl) pl) (fun (G9 : (Int → Int)) (t : State) => va_P D vwCl [(kn, oKn pl ex), (ex, aI yI 1681 G9)] t.heap) (va_A [(kn, oKn pl ex), (ex, aI yI 1681 E)] sz)) 0 0 (va_A [(kn, oKn pl ex), (ex, aI yI 1681 E)] sz) := by
  refine Met.ofW (cc := cX1_learnNothing) (maxL := 3) (ret := none) (by decide) rfl ?_
  intro p e s m args below meth c s₁ B hml hv
  obtain ⟨rfl, hsz, hP, hK, hD0⟩ := hv
  have hx := B.exec
  have hb := B.bytes
  have hr := B.returns
  have hts := atoms_spec (ws := wsX1_learnNothing) B.pre
  have hown : s.vm.findClass RX1 = some m.cls := findClass_of_methodNamed B.named
  have hlocks := B.notSynchronized
  subst hsz
  have hD := hD0.self (sz := s.heap.size)
  generalize hAe : va_A [(kn, oKn pl ex), (ex, aI yI 1681 E)] s.heap.size = A at hD ⊢
  have hA : ∀ q : Nat, s.heap.size ≤ q → A q := fun q h => by rw [← hAe]; exact Or.inr h
  have hS : va_S A s.heap s.heap [] := va_S.rf
  have hP : va_P D vwCl [(kn, oKn pl ex), (ex, aI yI 1681 E)] s.heap := hP
  have hinX1 : ∀ w ∈ wsX10, w ∈ wsX1_learnNothing := by decide +kernel
  have hf21 : (Cond.fieldLink RX1 21 "RiddleDrive$Knowledge" "places" "I").before _ s = true := hts _ (by decide +kernel)
  have hl := lv_entry ([.ref kn]) (n := 3) (Nat.le_of_ble_eq_true rfl)
  rw [lg_entry_eq]
  generalize (lg_sl ([.ref kn]) ++ List.replicate (3 - (lg_sl ([.ref kn])).length) Slot.unset).toArray = ls at hl ⊢
  have hl : lv_has ls 3 [(0, .ref kn)] := hl
  refine lv_iconst (v := iI 0) hx hb dX1_learnNothing_0 (by decide +kernel) ?_
  refine lv_istore_n (lv' := [(1, .int (iI 0)), (0, .ref kn)]) hx hb dX1_learnNothing_1 rfl hl (by decide) rfl (fun ls hl => ?_)
  refine iv_loop (I := fun (qq : Nat × Int × (Int → Int)) H locs ls => match qq with | (n, x1, G) => ((n : Int) ≤ pl + 1) ∧ (x1 = n) ∧ (∀ u w : Int, 0 ≤ u → u < x1 → 0 ≤ w → w ≤ pl → G (u * 41 + w) = b0 pl (41 * u + w)) ∧ va_P D vwCl [(kn, oKn pl ex), (ex, aI yI 1681 G)] H ∧ va_D A [(kn, oKn pl ex), (ex, aI yI 1681 G)] ∧ va_S A s.heap H locs ∧ lv_has ls 3 [(1, .int (iI x1)), (0, .ref kn)]) (μ := fun (qq : Nat × Int × (Int → Int)) => match qq with | (n, x1, G) => (pl + 1).toNat - n) (0, 0, E) ?_ ?_
  · exact ⟨by omega, by omega, fun u w q0 q1 q2 q3 => by omega, hP, hD, hS, lv_sub hl [0, 1] rfl⟩
  · intro qq H locs ls hI ih2
    obtain ⟨n, x1, G⟩ := qq
    obtain ⟨hn, h1, hAA, hP, hD, hS, hl⟩ := hI
    refine lv_iload_n hx hb dX1_learnNothing_2 rfl (lv_at hl 0 rfl) ?_
    refine lv_aload_n hx hb dX1_learnNothing_3 rfl (lv_at hl 1 rfl) ?_
    refine va_get (D := D) (ci := 1) (v := .int (iI pl)) (C := RX1) (T := TX1) (N := 2) hx hb hts hinX1 hown hK hP 0 rfl rfl 0 (by decide) hf21 (fun _ h9 => h9) rfl dX1_learnNothing_4 ?_
    refine iv_icmp_gt (a := x1) (b := pl) (tgt := 45) hx hb (by omega) (by omega) dX1_learnNothing_7 (by decide) (fun c7 => ?_) (fun c7 => ?_)
    · have hP9 : va_P D vwCl [(kn, oKn pl ex), (ex, aI yI 1681 G)] _ := hP.sub [0, 1] rfl
      exact W.vret hx hb hr (fun t ht hW => ⟨⟨G, rfl, (by exact fun u w q0 q1 q2 q3 => hAA u w q0 (by omega) q2 q3), by show va_P D vwCl _ t.heap; rw [ht]; exact hP9⟩, hS.F ht⟩) hS.2.2 dX1_learnNothing_45
    · refine lv_iconst (v := iI 0) hx hb dX1_learnNothing_10 (by decide +kernel) ?_
      refine lv_istore_n (lv' := [(2, .int (iI 0)), (1, .int (iI x1)), (0, .ref kn)]) hx hb dX1_learnNothing_11 rfl hl (by decide) rfl (fun ls hl => ?_)
      refine iv_loop (I := fun (qq : Nat × Int × (Int → Int)) H locs ls => match qq with | (k, x2, G2) => ((k : Int) ≤ pl + 1) ∧ (x2 = k) ∧ (∀ u w : Int, 0 ≤ u → 0 ≤ w → w ≤ pl → (u < x1 ∨ (u = x1 ∧ w < x2)) → G2 (u * 41 + w) = b0 pl (41 * u + w)) ∧ va_P D vwCl [(kn, oKn pl ex), (ex, aI yI 1681 G2)] H ∧ va_D A [(kn, oKn pl ex), (ex, aI yI 1681 G2)] ∧ va_S A s.heap H locs ∧ lv_has ls 3 [(2, .int (iI x2)), (1, .int (iI x1)), (0, .ref kn)]) (μ := fun (qq : Nat × Int × (Int → Int)) => match qq with | (k, x2, G2) => (pl + 1).toNat - k) (0, 0, G) ?_ ?_
      · exact ⟨by omega, by omega, fun u w q0 q1 q2 q3 => hAA u w q0 (by omega) q1 q2, hP, hD, hS, lv_sub hl [0, 1, 2] rfl⟩
      · intro qq H locs ls hI ih12
        obtain ⟨k, x2, G2⟩ := qq
        obtain ⟨hk, h2, hB, hP, hD, hS, hl⟩ := hI
        refine lv_iload_n hx hb dX1_learnNothing_12 rfl (lv_at hl 0 rfl) ?_
        refine lv_aload_n hx hb dX1_learnNothing_13 rfl (lv_at hl 2 rfl) ?_
        refine va_get (D := D) (ci := 1) (v := .int (iI pl)) (C := RX1) (T := TX1) (N := 2) hx hb hts hinX1 hown hK hP 0 rfl rfl 0 (by decide) hf21 (fun _ h9 => h9) rfl dX1_learnNothing_14 ?_
        refine iv_icmp_gt (a := x2) (b := pl) (tgt := 39) hx hb (by omega) (by omega) dX1_learnNothing_17 (by decide) (fun c17 => ?_) (fun c17 => ?_)
        · refine iv_inc (lv' := [(1, .int (iI (x1 + 1))), (2, .int (iI x2)), (0, .ref kn)]) hx hb dX1_learnNothing_39 hl (k := 1) rfl (by decide) rfl (fun ls hl => ?_)
          refine lv_goto (tgt := 2) hx hb dX1_learnNothing_42 (by decide) ?_
          refine ih2 (n + 1, x1 + 1, G2) _ _ (by show ((pl + 1).toNat - (n + 1) : Nat) < (pl + 1).toNat - n; omega) ?_
          exact ⟨by omega, by omega, fun u w q0 q1 q2 q3 => hB u w q0 q2 q3 (by omega), hP, hD, hS, lv_sub hl [0, 2] rfl⟩
        · refine lv_aload_n hx hb dX1_learnNothing_20 rfl (lv_at hl 2 rfl) ?_
          refine lv_iload_n hx hb dX1_learnNothing_21 rfl (lv_at hl 1 rfl) ?_
          refine lv_iload_n hx hb dX1_learnNothing_22 rfl (lv_at hl 0 rfl) ?_
          refine lv_iconst (v := iI 0) hx hb dX1_learnNothing_23 (by decide +kernel) ?_
          refine lv_iload_n hx hb dX1_learnNothing_24 rfl (lv_at hl 0 rfl) ?_
          refine lv_iload_n hx hb dX1_learnNothing_25 rfl (lv_at hl 1 rfl) ?_
          refine iv_sub hx hb dX1_learnNothing_26 ?_
          refine iv_max hx hb (hml.trans hl.1.symm) hown (hts (.methodLink RX1 43 Lib.Math.max.name) (by decide +kernel)) (hts (.static Lib.Math.max.name) (by decide +kernel)) (hts (.initialized "java/lang/Math") (by decide +kernel)) (hts (.code Lib.Math.max.name Lib.Math.max.code 2 (some .int)) (by decide +kernel)) (Nat.le_of_ble_eq_true rfl) (Nat.le_of_ble_eq_true rfl) (Nat.zero_le _) (Nat.zero_le _) (by omega) (by omega) dX1_learnNothing_27 ?_
          refine iv_rwVv (As := [.int (iI x1), .int (iI x2), .int (iI (max 0 (x2 - x1)))]) (rest := []) (C := RX1) (n := 3) ⟨hx, hb, hml, hown, hts⟩ (c_X1_putExcess l D yI yC yD kn ex pl G2 x1 x2 (max 0 (x2 - x1)) (by omega) _) (cwV 3 hts gX1_learnNothing_X1_putExcess rfl rfl rfl (by decide +kernel) ⟨Nat.le_of_ble_eq_true rfl, Nat.le_of_ble_eq_true rfl⟩) hK hP hD hS hA [0, 1] (by decide) rfl 0 rfl rfl rfl hl.1 rfl (Nat.le_of_ble_eq_true rfl) dX1_learnNothing_30 ⟨Nat.zero_le _, Nat.zero_le _⟩ (fun _ => rfl) (fun u30 H locs hw30 hP hD hS => ?_)
          have hP : va_P D vwCl [(kn, oKn pl ex), (ex, aI yI 1681 (up G2 (x1 * 41 + x2) (max 0 (x2 - x1))))] H := hP
          have hD : va_D A [(kn, oKn pl ex), (ex, aI yI 1681 (up G2 (x1 * 41 + x2) (max 0 (x2 - x1))))] := hD
          refine iv_inc (lv' := [(2, .int (iI (x2 + 1))), (1, .int (iI x1)), (0, .ref kn)]) hx hb dX1_learnNothing_33 hl (k := 0) rfl (by decide) rfl (fun ls hl => ?_)
          refine lv_goto (tgt := 12) hx hb dX1_learnNothing_36 (by decide) ?_
          refine ih12 (k + 1, x2 + 1, up G2 (x1 * 41 + x2) (max 0 (x2 - x1))) _ _ (by show ((pl + 1).toNat - (k + 1) : Nat) < (pl + 1).toNat - k; omega) ?_
          exact ⟨by omega, by omega, fun u w q0 q1 q2 q3 => (if e : u = x1 ∧ w = x2 then (by rw [e.1, e.2, up_s, b0_at (by omega) (by omega), if_neg (by omega)]; split <;> omega) else (by rw [up_n (by omega)]; exact hB u w q0 q1 q2 (by omega))), hP, hD, hS, lv_sub hl [0, 1, 2] rfl⟩
