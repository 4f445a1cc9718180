set_option maxHeartbeats 4000000 in
set_option maxRecDepth 100000 in
theorem c_X1_bound (l : Launch) (D : va_G) (yI yC yD : ClassId) (kn : Nat) (ex : Nat) (pl : Int) (E : Int → Int) (r : Int → Int) (f : Int) (tt : Int) (wt : Int) (hp : 0 ≤ pl ∧ pl ≤ 40) (hE : Ek E r pl) (hG : GB r) (hb9 : 0 ≤ f ∧ f ≤ pl ∧ 0 ≤ tt ∧ tt ≤ pl ∧ -1000 ≤ wt ∧ wt ≤ 1000 ∧ 0 ≤ wt + r (41 * tt + f)) (hT : Tri r pl) (hG2 : GB (bnd r f tt wt)) (sz : Nat) : Met l yX1_bound wsX1_bound ({ frames := 2, cells := 0, slots := 0, locals := 49 }) (rwP [.ref kn, .int (iI f), .int (iI tt), .int (iI wt)] D (tyz yI yC yD) [(kn, oKn pl ex), (ex, aI yI 1681 E)] sz) (va_Qv (fun (G9 : (Int → Int)) => Ek G9 (bnd r f tt wt) pl) (fun (G9 : (Int → Int)) (t : State) => va_P D vwCl [(kn, oKn pl ex), (ex, aI yI 1681 G9)] t.heap) (va_A [(kn, oKn pl ex), (ex, aI yI 1681 E)] sz)) 0 0 (va_A [(kn, oKn pl ex), (ex, aI yI 1681 E)] sz) := by
  refine Met.ofW (cc := cX1_bound) (maxL := 6) (ret := none) (by decide) rfl ?_
  intro p e s m args below meth c s₁ B hml hv
  obtain ⟨rfl, hsz, hP, hK, hD0⟩ := hv
  have hx := B.exec
  have hb := B.bytes
  have hr := B.returns
  have hts := atoms_spec (ws := wsX1_bound) B.pre
  have hown : s.vm.findClass RX1 = some m.cls := findClass_of_methodNamed B.named
  have hlocks := B.notSynchronized
  subst hsz
  have hD := hD0.self (sz := s.heap.size)
  generalize hAe : va_A [(kn, oKn pl ex), (ex, aI yI 1681 E)] s.heap.size = A at hD ⊢
  have hA : ∀ q : Nat, s.heap.size ≤ q → A q := fun q h => by rw [← hAe]; exact Or.inr h
  have hS : va_S A s.heap s.heap [] := va_S.rf
  have hP : va_P D vwCl [(kn, oKn pl ex), (ex, aI yI 1681 E)] s.heap := hP
  have hinX1 : ∀ w ∈ wsX10, w ∈ wsX1_bound := by decide +kernel
  have hf21 : (Cond.fieldLink RX1 21 "RiddleDrive$Knowledge" "places" "I").before _ s = true := hts _ (by decide +kernel)
  have hl := lv_entry ([.ref kn, .int (iI f), .int (iI tt), .int (iI wt)]) (n := 6) (Nat.le_of_ble_eq_true rfl)
  rw [lg_entry_eq]
  generalize (lg_sl ([.ref kn, .int (iI f), .int (iI tt), .int (iI wt)]) ++ List.replicate (6 - (lg_sl ([.ref kn, .int (iI f), .int (iI tt), .int (iI wt)])).length) Slot.unset).toArray = ls at hl ⊢
  have hl : lv_has ls 6 [(0, .ref kn), (1, .int (iI f)), (2, .int (iI tt)), (3, .int (iI wt))] := hl
  refine lv_iconst (v := iI 0) hx hb dX1_bound_0 (by decide +kernel) ?_
  refine lv_istore (lv' := [(4, .int (iI 0)), (0, .ref kn), (1, .int (iI f)), (2, .int (iI tt)), (3, .int (iI wt))]) hx hb dX1_bound_1 hl (by decide) rfl (fun ls hl => ?_)
  refine iv_loop (I := fun (qq : Nat × Int × (Int → Int)) H locs ls => match qq with | (n, x4, G) => ((n : Int) ≤ pl + 1) ∧ (x4 = n) ∧ (Ek G (mixR r f tt wt x4) pl) ∧ va_P D vwCl [(kn, oKn pl ex), (ex, aI yI 1681 G)] H ∧ va_D A [(kn, oKn pl ex), (ex, aI yI 1681 G)] ∧ va_S A s.heap H locs ∧ lv_has ls 6 [(4, .int (iI x4)), (0, .ref kn), (1, .int (iI f)), (2, .int (iI tt)), (3, .int (iI wt))]) (μ := fun (qq : Nat × Int × (Int → Int)) => match qq with | (n, x4, G) => (pl + 1).toNat - n) (0, 0, E) ?_ ?_
  · exact ⟨by omega, by omega, fun u w q0 q1 q2 q3 => by rw [mixR_at (by omega), if_neg (by omega)]; exact hE u w q0 q1 q2 q3, hP, hD, hS, lv_sub hl [0, 1, 2, 3, 4] rfl⟩
  · intro qq H locs ls hI ih3
    obtain ⟨n, x4, G⟩ := qq
    obtain ⟨hn, h4, hAA, hP, hD, hS, hl⟩ := hI
    refine lv_iload hx hb dX1_bound_3 (lv_at hl 0 rfl) ?_
    refine lv_aload_n hx hb dX1_bound_5 rfl (lv_at hl 1 rfl) ?_
    refine va_get (D := D) (ci := 1) (v := .int (iI pl)) (C := RX1) (T := TX1) (N := 2) hx hb hts hinX1 hown hK hP 0 rfl rfl 0 (by decide) hf21 (fun _ h9 => h9) rfl dX1_bound_6 ?_
    refine iv_icmp_gt (a := x4) (b := pl) (tgt := 50) hx hb (by omega) (by omega) dX1_bound_9 (by decide) (fun c9 => ?_) (fun c9 => ?_)
    · have hP9 : va_P D vwCl [(kn, oKn pl ex), (ex, aI yI 1681 G)] _ := hP.sub [0, 1] rfl
      exact W.vret hx hb hr (fun t ht hW => ⟨⟨G, rfl, (by exact fun u w q0 q1 q2 q3 => by rw [hAA u w q0 q1 q2 q3, mixR_at (by omega), if_pos (by omega)]), by show va_P D vwCl _ t.heap; rw [ht]; exact hP9⟩, hS.F ht⟩) hS.2.2 dX1_bound_50
    · have g1 := hAA x4 f (by omega) (by omega) (by omega) (by omega)
      rw [mixR_at (by omega), if_neg (by omega)] at g1
      have g2 := hAA x4 tt (by omega) (by omega) (by omega) (by omega)
      rw [mixR_at (by omega), if_neg (by omega)] at g2
      have r1 := hG (41 * x4 + f) (by omega) (by omega)
      have r2 := hG (41 * x4 + tt) (by omega) (by omega)
      have t1 := hT.2 tt (by omega) (by omega)
      have hGm : GB (mixR r f tt wt x4) := gb_mix hG hG2
      have hne : x4 ≠ tt ∨ (r (41 * x4 + f) = r (41 * tt + f) ∧ r (41 * x4 + tt) = 0) := (if e : x4 = tt then Or.inr (by rw [e]; exact ⟨rfl, t1⟩) else Or.inl e)
      refine lv_aload_n hx hb dX1_bound_12 rfl (lv_at hl 1 rfl) ?_
      refine lv_iload hx hb dX1_bound_13 (lv_at hl 0 rfl) ?_
      refine lv_iload_n hx hb dX1_bound_15 rfl (lv_at hl 2 rfl) ?_
      refine iv_roV (As := [.int (iI x4), .int (iI f)]) (rest := []) (C := RX1) (n := 2) ⟨hx, hb, hml, hown, hts⟩ (c_X1_excessOf l D yI yC yD kn ex pl G x4 f (by omega)) (cwV 2 hts gX1_bound_X1_excessOf rfl rfl rfl (by decide +kernel) ⟨Nat.le_of_ble_eq_true rfl, Nat.le_of_ble_eq_true rfl⟩) hK hP [0, 1] rfl 0 rfl rfl rfl hl.1 rfl (Nat.le_of_ble_eq_true rfl) dX1_bound_16 ⟨Nat.zero_le _, Nat.zero_le _⟩ ?_
      refine lv_iload_n hx hb dX1_bound_19 rfl (lv_at hl 4 rfl) ?_
      refine iv_add hx hb dX1_bound_20 ?_
      refine lv_istore (lv' := [(5, .int (iI (G (x4 * 41 + f) + wt))), (4, .int (iI x4)), (0, .ref kn), (1, .int (iI f)), (2, .int (iI tt)), (3, .int (iI wt))]) hx hb dX1_bound_21 hl (by decide) rfl (fun ls hl => ?_)
      refine lv_iload hx hb dX1_bound_23 (lv_at hl 0 rfl) ?_
      refine lv_aload_n hx hb dX1_bound_25 rfl (lv_at hl 2 rfl) ?_
      refine lv_iload hx hb dX1_bound_26 (lv_at hl 1 rfl) ?_
      refine lv_iload_n hx hb dX1_bound_28 rfl (lv_at hl 4 rfl) ?_
      refine iv_roV (As := [.int (iI x4), .int (iI tt)]) (rest := [.int (iI (G (x4 * 41 + f) + wt))]) (C := RX1) (n := 2) ⟨hx, hb, hml, hown, hts⟩ (c_X1_excessOf l D yI yC yD kn ex pl G x4 tt (by omega)) (cwV 2 hts gX1_bound_X1_excessOf rfl rfl rfl (by decide +kernel) ⟨Nat.le_of_ble_eq_true rfl, Nat.le_of_ble_eq_true rfl⟩) hK hP [0, 1] rfl 0 rfl rfl rfl hl.1 rfl (Nat.le_of_ble_eq_true rfl) dX1_bound_29 ⟨Nat.zero_le _, Nat.zero_le _⟩ ?_
      refine iv_icmp_ge (a := G (x4 * 41 + f) + wt) (b := G (x4 * 41 + tt)) (tgt := 44) hx hb (by omega) (by omega) dX1_bound_32 (by decide) (fun c32 => ?_) (fun c32 => ?_)
      · refine iv_inc (lv' := [(4, .int (iI (x4 + 1))), (5, .int (iI (G (x4 * 41 + f) + wt))), (0, .ref kn), (1, .int (iI f)), (2, .int (iI tt)), (3, .int (iI wt))]) hx hb dX1_bound_44 hl (k := 1) rfl (by decide) rfl (fun ls hl => ?_)
        refine lv_goto (tgt := 3) hx hb dX1_bound_47 (by decide) ?_
        refine ih3 (n + 1, x4 + 1, G) _ _ (by show ((pl + 1).toNat - (n + 1) : Nat) < (pl + 1).toNat - n; omega) ?_
        exact ⟨by omega, by omega, by first | (refine ek_mixS (by omega) (by omega) ?_ (mix_t (by omega) (by omega) (by omega) hT (by omega)) (by assumption); omega) | exact ek_mixN (by omega) (by omega) hT hAA, hP, hD, hS, lv_sub hl [0, 2, 3, 4, 5] rfl⟩
      · refine lv_aload_n hx hb dX1_bound_35 rfl (lv_at hl 2 rfl) ?_
        refine lv_iload hx hb dX1_bound_36 (lv_at hl 1 rfl) ?_
        refine lv_iload_n hx hb dX1_bound_38 rfl (lv_at hl 4 rfl) ?_
        refine lv_iload hx hb dX1_bound_39 (lv_at hl 0 rfl) ?_
        refine iv_rwVv (As := [.int (iI x4), .int (iI tt), .int (iI (G (x4 * 41 + f) + wt))]) (rest := []) (C := RX1) (n := 3) ⟨hx, hb, hml, hown, hts⟩ (c_X1_shorten l D yI yC yD kn ex pl G (mixR r f tt wt x4) x4 tt (G (x4 * 41 + f) + wt) (by omega) (by assumption) (by assumption) (by omega) _) (cwV 3 hts gX1_bound_X1_shorten rfl rfl rfl (by decide +kernel) ⟨Nat.le_of_ble_eq_true rfl, Nat.le_of_ble_eq_true rfl⟩) hK hP hD hS hA [0, 1] (by decide) rfl 0 rfl rfl rfl hl.1 rfl (Nat.le_of_ble_eq_true rfl) dX1_bound_41 ⟨Nat.zero_le _, Nat.zero_le _⟩ (fun _ => rfl) (fun u41 H locs hw41 hP hD hS => ?_)
        obtain ⟨G941, hu41⟩ : ∃ z, z = u41 := ⟨_, rfl⟩
        subst hu41
        have hE9_41 := hw41
        have hP : va_P D vwCl [(kn, oKn pl ex), (ex, aI yI 1681 G941)] H := hP
        have hD : va_D A [(kn, oKn pl ex), (ex, aI yI 1681 G941)] := hD
        refine iv_inc (lv' := [(4, .int (iI (x4 + 1))), (5, .int (iI (G (x4 * 41 + f) + wt))), (0, .ref kn), (1, .int (iI f)), (2, .int (iI tt)), (3, .int (iI wt))]) hx hb dX1_bound_44 hl (k := 1) rfl (by decide) rfl (fun ls hl => ?_)
        refine lv_goto (tgt := 3) hx hb dX1_bound_47 (by decide) ?_
        refine ih3 (n + 1, x4 + 1, G941) _ _ (by show ((pl + 1).toNat - (n + 1) : Nat) < (pl + 1).toNat - n; omega) ?_
        exact ⟨by omega, by omega, by first | (refine ek_mixS (by omega) (by omega) ?_ (mix_t (by omega) (by omega) (by omega) hT (by omega)) (by assumption); omega) | exact ek_mixN (by omega) (by omega) hT hAA, hP, hD, hS, lv_sub hl [0, 2, 3, 4, 5] rfl⟩
