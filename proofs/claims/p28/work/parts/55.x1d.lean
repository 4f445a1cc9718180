set_option maxHeartbeats 4000000 in
set_option maxRecDepth 100000 in
theorem c_X1_shorten (l : Launch) (D : va_G) (yI yC yD : ClassId) (kn : Nat) (ex : Nat) (pl : Int) (E : Int → Int) (r : Int → Int) (x : Int) (via : Int) (way : Int) (hp : 0 ≤ pl ∧ pl ≤ 40) (hE : Ek E r pl) (hG : GB r) (hw9 : 0 ≤ x ∧ x ≤ pl ∧ 0 ≤ via ∧ via ≤ pl ∧ x ≠ via ∧ -5000 ≤ way ∧ way ≤ 5000) (sz : Nat) : Met l yX1_shorten wsX1_shorten ({ frames := 1, cells := 0, slots := 0, locals := 24 }) (rwP [.ref kn, .int (iI x), .int (iI via), .int (iI way)] D (tyz yI yC yD) [(kn, oKn pl ex), (ex, aI yI 1681 E)] sz) (va_Qv (fun (G9 : (Int → Int)) => Ek G9 (rowS r x via way) pl) (fun (G9 : (Int → Int)) (t : State) => va_P D vwCl [(kn, oKn pl ex), (ex, aI yI 1681 G9)] t.heap) (va_A [(kn, oKn pl ex), (ex, aI yI 1681 E)] sz)) 0 0 (va_A [(kn, oKn pl ex), (ex, aI yI 1681 E)] sz) := by
  refine Met.ofW (cc := cX1_shorten) (maxL := 6) (ret := none) (by decide) rfl ?_
  intro p e s m args below meth c s₁ B hml hv
  obtain ⟨rfl, hsz, hP, hK, hD0⟩ := hv
  have hx := B.exec
  have hb := B.bytes
  have hr := B.returns
  have hts := atoms_spec (ws := wsX1_shorten) B.pre
  have hown : s.vm.findClass RX1 = some m.cls := findClass_of_methodNamed B.named
  have hlocks := B.notSynchronized
  subst hsz
  have hD := hD0.self (sz := s.heap.size)
  generalize hAe : va_A [(kn, oKn pl ex), (ex, aI yI 1681 E)] s.heap.size = A at hD ⊢
  have hA : ∀ q : Nat, s.heap.size ≤ q → A q := fun q h => by rw [← hAe]; exact Or.inr h
  have hS : va_S A s.heap s.heap [] := va_S.rf
  have hP : va_P D vwCl [(kn, oKn pl ex), (ex, aI yI 1681 E)] s.heap := hP
  have hinX1 : ∀ w ∈ wsX10, w ∈ wsX1_shorten := by decide +kernel
  have hf21 : (Cond.fieldLink RX1 21 "RiddleDrive$Knowledge" "places" "I").before _ s = true := hts _ (by decide +kernel)
  have hl := lv_entry ([.ref kn, .int (iI x), .int (iI via), .int (iI way)]) (n := 6) (Nat.le_of_ble_eq_true rfl)
  rw [lg_entry_eq]
  generalize (lg_sl ([.ref kn, .int (iI x), .int (iI via), .int (iI way)]) ++ List.replicate (6 - (lg_sl ([.ref kn, .int (iI x), .int (iI via), .int (iI way)])).length) Slot.unset).toArray = ls at hl ⊢
  have hl : lv_has ls 6 [(0, .ref kn), (1, .int (iI x)), (2, .int (iI via)), (3, .int (iI way))] := hl
  refine lv_iconst (v := iI 0) hx hb dX1_shorten_0 (by decide +kernel) ?_
  refine lv_istore (lv' := [(4, .int (iI 0)), (0, .ref kn), (1, .int (iI x)), (2, .int (iI via)), (3, .int (iI way))]) hx hb dX1_shorten_1 hl (by decide) rfl (fun ls hl => ?_)
  refine iv_loop (I := fun (qq : Nat × Int × (Int → Int)) H locs ls => match qq with | (n, x4, G) => ((n : Int) ≤ pl + 1) ∧ (x4 = n) ∧ (∀ u w : Int, 0 ≤ u → u ≤ pl → 0 ≤ w → w ≤ pl → G (u * 41 + w) = if u = x ∧ w < x4 then min (r (41 * u + w)) (way + r (41 * via + w)) else r (41 * u + w)) ∧ va_P D vwCl [(kn, oKn pl ex), (ex, aI yI 1681 G)] H ∧ va_D A [(kn, oKn pl ex), (ex, aI yI 1681 G)] ∧ va_S A s.heap H locs ∧ lv_has ls 6 [(4, .int (iI x4)), (0, .ref kn), (1, .int (iI x)), (2, .int (iI via)), (3, .int (iI way))]) (μ := fun (qq : Nat × Int × (Int → Int)) => match qq with | (n, x4, G) => (pl + 1).toNat - n) (0, 0, E) ?_ ?_
  · exact ⟨by omega, by omega, fun u w q0 q1 q2 q3 => by rw [if_neg (by omega)]; exact hE u w q0 q1 q2 q3, hP, hD, hS, lv_sub hl [0, 1, 2, 3, 4] rfl⟩
  · intro qq H locs ls hI ih3
    obtain ⟨n, x4, G⟩ := qq
    obtain ⟨hn, h4, hAA, hP, hD, hS, hl⟩ := hI
    refine lv_iload hx hb dX1_shorten_3 (lv_at hl 0 rfl) ?_
    refine lv_aload_n hx hb dX1_shorten_5 rfl (lv_at hl 1 rfl) ?_
    refine va_get (D := D) (ci := 1) (v := .int (iI pl)) (C := RX1) (T := TX1) (N := 2) hx hb hts hinX1 hown hK hP 0 rfl rfl 0 (by decide) hf21 (fun _ h9 => h9) rfl dX1_shorten_6 ?_
    refine iv_icmp_gt (a := x4) (b := pl) (tgt := 50) hx hb (by omega) (by omega) dX1_shorten_9 (by decide) (fun c9 => ?_) (fun c9 => ?_)
    · have hP9 : va_P D vwCl [(kn, oKn pl ex), (ex, aI yI 1681 G)] _ := hP.sub [0, 1] rfl
      exact W.vret hx hb hr (fun t ht hW => ⟨⟨G, rfl, (by exact fun u w q0 q1 q2 q3 => by rw [rowS_at (by omega), hAA u w q0 q1 q2 q3]; split <;> split <;> omega), by show va_P D vwCl _ t.heap; rw [ht]; exact hP9⟩, hS.F ht⟩) hS.2.2 dX1_shorten_50
    · have g1 := hAA via x4 (by omega) (by omega) (by omega) (by omega)
      rw [if_neg (by omega)] at g1
      have g2 := hAA x x4 (by omega) (by omega) (by omega) (by omega)
      rw [if_neg (by omega)] at g2
      have r1 := hG (41 * via + x4) (by omega) (by omega)
      have r2 := hG (41 * x + x4) (by omega) (by omega)
      refine lv_iload_n hx hb dX1_shorten_12 rfl (lv_at hl 4 rfl) ?_
      refine lv_aload_n hx hb dX1_shorten_13 rfl (lv_at hl 1 rfl) ?_
      refine lv_iload_n hx hb dX1_shorten_14 rfl (lv_at hl 3 rfl) ?_
      refine lv_iload hx hb dX1_shorten_15 (lv_at hl 0 rfl) ?_
      refine iv_roV (As := [.int (iI via), .int (iI x4)]) (rest := [.int (iI way)]) (C := RX1) (n := 2) ⟨hx, hb, hml, hown, hts⟩ (c_X1_excessOf l D yI yC yD kn ex pl G via x4 (by omega)) (cwV 2 hts gX1_shorten_X1_excessOf rfl rfl rfl (by decide +kernel) ⟨Nat.le_of_ble_eq_true rfl, Nat.le_of_ble_eq_true rfl⟩) hK hP [0, 1] rfl 0 rfl rfl rfl hl.1 rfl (Nat.le_of_ble_eq_true rfl) dX1_shorten_17 ⟨Nat.zero_le _, Nat.zero_le _⟩ ?_
      refine iv_add hx hb dX1_shorten_20 ?_
      refine lv_istore (lv' := [(5, .int (iI (way + (G (via * 41 + x4))))), (4, .int (iI x4)), (0, .ref kn), (1, .int (iI x)), (2, .int (iI via)), (3, .int (iI way))]) hx hb dX1_shorten_21 hl (by decide) rfl (fun ls hl => ?_)
      refine lv_iload hx hb dX1_shorten_23 (lv_at hl 0 rfl) ?_
      refine lv_aload_n hx hb dX1_shorten_25 rfl (lv_at hl 2 rfl) ?_
      refine lv_iload_n hx hb dX1_shorten_26 rfl (lv_at hl 3 rfl) ?_
      refine lv_iload hx hb dX1_shorten_27 (lv_at hl 1 rfl) ?_
      refine iv_roV (As := [.int (iI x), .int (iI x4)]) (rest := [.int (iI (way + (G (via * 41 + x4))))]) (C := RX1) (n := 2) ⟨hx, hb, hml, hown, hts⟩ (c_X1_excessOf l D yI yC yD kn ex pl G x x4 (by omega)) (cwV 2 hts gX1_shorten_X1_excessOf rfl rfl rfl (by decide +kernel) ⟨Nat.le_of_ble_eq_true rfl, Nat.le_of_ble_eq_true rfl⟩) hK hP [0, 1] rfl 0 rfl rfl rfl hl.1 rfl (Nat.le_of_ble_eq_true rfl) dX1_shorten_29 ⟨Nat.zero_le _, Nat.zero_le _⟩ ?_
      refine iv_icmp_ge (a := way + (G (via * 41 + x4))) (b := G (x * 41 + x4)) (tgt := 44) hx hb (by omega) (by omega) dX1_shorten_32 (by decide) (fun c32 => ?_) (fun c32 => ?_)
      · refine iv_inc (lv' := [(4, .int (iI (x4 + 1))), (5, .int (iI (way + (G (via * 41 + x4))))), (0, .ref kn), (1, .int (iI x)), (2, .int (iI via)), (3, .int (iI way))]) hx hb dX1_shorten_44 hl (k := 1) rfl (by decide) rfl (fun ls hl => ?_)
        refine lv_goto (tgt := 3) hx hb dX1_shorten_47 (by decide) ?_
        refine ih3 (n + 1, x4 + 1, G) _ _ (by show ((pl + 1).toNat - (n + 1) : Nat) < (pl + 1).toNat - n; omega) ?_
        exact ⟨by omega, by omega, fun u w q0 q1 q2 q3 => by have z1 := hAA u w q0 q1 q2 q3; first | (by_cases e : u = x ∧ w = x4 <;> first | (rw [e.1, e.2, up_s, if_pos (by omega)]; omega) | (rw [up_n (by omega), z1]; split <;> split <;> omega)) | (by_cases e : u = x ∧ w = x4 <;> first | (rw [e.1, e.2, if_pos (by omega)]; omega) | (rw [z1]; split <;> split <;> omega)), hP, hD, hS, lv_sub hl [0, 2, 3, 4, 5] rfl⟩
      · refine lv_aload_n hx hb dX1_shorten_35 rfl (lv_at hl 2 rfl) ?_
        refine lv_iload_n hx hb dX1_shorten_36 rfl (lv_at hl 3 rfl) ?_
        refine lv_iload hx hb dX1_shorten_37 (lv_at hl 1 rfl) ?_
        refine lv_iload hx hb dX1_shorten_39 (lv_at hl 0 rfl) ?_
        refine iv_rwVv (As := [.int (iI x), .int (iI x4), .int (iI (way + (G (via * 41 + x4))))]) (rest := []) (C := RX1) (n := 3) ⟨hx, hb, hml, hown, hts⟩ (c_X1_putExcess l D yI yC yD kn ex pl G x x4 (way + (G (via * 41 + x4))) (by omega) _) (cwV 3 hts gX1_shorten_X1_putExcess rfl rfl rfl (by decide +kernel) ⟨Nat.le_of_ble_eq_true rfl, Nat.le_of_ble_eq_true rfl⟩) hK hP hD hS hA [0, 1] (by decide) rfl 0 rfl rfl rfl hl.1 rfl (Nat.le_of_ble_eq_true rfl) dX1_shorten_41 ⟨Nat.zero_le _, Nat.zero_le _⟩ (fun _ => rfl) (fun u41 H locs hw41 hP hD hS => ?_)
        have hP : va_P D vwCl [(kn, oKn pl ex), (ex, aI yI 1681 (up G (x * 41 + x4) (way + (G (via * 41 + x4)))))] H := hP
        have hD : va_D A [(kn, oKn pl ex), (ex, aI yI 1681 (up G (x * 41 + x4) (way + (G (via * 41 + x4)))))] := hD
        refine iv_inc (lv' := [(4, .int (iI (x4 + 1))), (5, .int (iI (way + (G (via * 41 + x4))))), (0, .ref kn), (1, .int (iI x)), (2, .int (iI via)), (3, .int (iI way))]) hx hb dX1_shorten_44 hl (k := 1) rfl (by decide) rfl (fun ls hl => ?_)
        refine lv_goto (tgt := 3) hx hb dX1_shorten_47 (by decide) ?_
        refine ih3 (n + 1, x4 + 1, up G (x * 41 + x4) (way + (G (via * 41 + x4)))) _ _ (by show ((pl + 1).toNat - (n + 1) : Nat) < (pl + 1).toNat - n; omega) ?_
        exact ⟨by omega, by omega, fun u w q0 q1 q2 q3 => by have z1 := hAA u w q0 q1 q2 q3; first | (by_cases e : u = x ∧ w = x4 <;> first | (rw [e.1, e.2, up_s, if_pos (by omega)]; omega) | (rw [up_n (by omega), z1]; split <;> split <;> omega)) | (by_cases e : u = x ∧ w = x4 <;> first | (rw [e.1, e.2, if_pos (by omega)]; omega) | (rw [z1]; split <;> split <;> omega)), hP, hD, hS, lv_sub hl [0, 2, 3, 4, 5] rfl⟩
