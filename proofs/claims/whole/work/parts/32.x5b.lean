set_option maxHeartbeats 4000000 in
set_option maxRecDepth 100000 in
theorem c_X5_bind (l : Launch) (D : va_G) (yI yC yD : ClassId) (ro : Nat) (r : Int → Int) (f : Int) (tt : Int) (w : Int) (h1 : 0 ≤ f ∧ f < 41) (h2 : 0 ≤ tt ∧ tt < 41) (h3 : GB r) (h4 : -1000 ≤ w ∧ w ≤ 1000) (h5 : 0 ≤ w + r (41 * tt + f)) (sz : Nat) : Met l yX5_bind wsX5_bind ({ frames := 0, cells := 0, slots := 0, locals := 0 }) (rwP [.ref ro, .int (iI f), .int (iI tt), .int (iI w)] D (tyz yI yC yD) [(ro, aI yI 1681 r)] sz) (va_Qv (fun (_ : Unit) => True) (fun (_ : Unit) (t : State) => va_P D vwCl [(ro, aI yI 1681 (bnd r f tt w))] t.heap) (va_A [(ro, aI yI 1681 r)] sz)) 0 0 (va_A [(ro, aI yI 1681 r)] sz) := by
  refine Met.ofW (cc := cX5_bind) (maxL := 7) (ret := none) (by decide) rfl ?_
  intro p e s m args below meth c s₁ B hml hv
  obtain ⟨rfl, hsz, hP, hK, hD0⟩ := hv
  have hx := B.exec
  have hb := B.bytes
  have hr := B.returns
  have hts := atoms_spec (ws := wsX5_bind) B.pre
  have hown : s.vm.findClass RX5 = some m.cls := findClass_of_methodNamed B.named
  have hlocks := B.notSynchronized
  subst hsz
  have hD := hD0.self (sz := s.heap.size)
  generalize hAe : va_A [(ro, aI yI 1681 r)] s.heap.size = A at hD ⊢
  have hA : ∀ q : Nat, s.heap.size ≤ q → A q := fun q h => by rw [← hAe]; exact Or.inr h
  have hS : va_S A s.heap s.heap [] := va_S.rf
  have hP : va_P D vwCl [(ro, aI yI 1681 r)] s.heap := hP
  have hl := lv_entry ([.ref ro, .int (iI f), .int (iI tt), .int (iI w)]) (n := 7) (Nat.le_of_ble_eq_true rfl)
  rw [lg_entry_eq]
  generalize (lg_sl ([.ref ro, .int (iI f), .int (iI tt), .int (iI w)]) ++ List.replicate (7 - (lg_sl ([.ref ro, .int (iI f), .int (iI tt), .int (iI w)])).length) Slot.unset).toArray = ls at hl ⊢
  have hl : lv_has ls 7 [(0, .ref ro), (1, .int (iI f)), (2, .int (iI tt)), (3, .int (iI w))] := hl
  refine lv_iconst (v := iI 0) hx hb dX5_bind_0 (by decide +kernel) ?_
  refine lv_istore (lv' := [(4, .int (iI 0)), (0, .ref ro), (1, .int (iI f)), (2, .int (iI tt)), (3, .int (iI w))]) hx hb dX5_bind_1 hl (by decide) rfl (fun ls hl => ?_)
  refine iv_loop (I := fun (qq : Nat × Int × (Int → Int)) H locs ls => match qq with | (i, x4, G) => (i ≤ 41) ∧ (x4 = i) ∧ (G = mixP (bnd r f tt w) r (41 * i)) ∧ va_P D vwCl [(ro, aI yI 1681 G)] H ∧ va_D A [(ro, aI yI 1681 G)] ∧ va_S A s.heap H locs ∧ lv_has ls 7 [(4, .int (iI x4)), (0, .ref ro), (1, .int (iI f)), (2, .int (iI tt)), (3, .int (iI w))]) (μ := fun (qq : Nat × Int × (Int → Int)) => match qq with | (i, x4, G) => 41 - i) (0, 0, r) ?_ ?_
  · exact ⟨by omega, by omega, mix_0, hP, hD, hS, lv_sub hl [0, 1, 2, 3, 4] rfl⟩
  · intro qq H locs ls hI ih3
    obtain ⟨i, x4, G⟩ := qq
    obtain ⟨hi, h6, hG, hP, hD, hS, hl⟩ := hI
    refine lv_iload hx hb dX5_bind_3 (lv_at hl 0 rfl) ?_
    refine lv_bipush (v := iI 41) hx hb dX5_bind_5 (by decide +kernel) ?_
    refine iv_icmp_ge (a := x4) (b := 41) (tgt := 95) hx hb (by omega) (by omega) dX5_bind_7 (by decide) (fun c7 => ?_) (fun c7 => ?_)
    · have hP9 : va_P D vwCl [(ro, aI yI 1681 (bnd r f tt w))] _ := (hP.sub (ws' := [(ro, aI yI 1681 G)]) [0] rfl).cv (by have e : i = 41 := (by omega); subst e; rw [hG]; exact congrArg (fun z => [(ro, aI yI 1681 z)]) mix_all)
      exact W.vret hx hb hr (fun t ht hW => ⟨⟨(), rfl, trivial, by show va_P D vwCl _ t.heap; rw [ht]; exact hP9⟩, hS.F ht⟩) hS.2.2 dX5_bind_95
    · refine lv_iconst (v := iI 0) hx hb dX5_bind_10 (by decide +kernel) ?_
      refine lv_istore (lv' := [(5, .int (iI 0)), (4, .int (iI x4)), (0, .ref ro), (1, .int (iI f)), (2, .int (iI tt)), (3, .int (iI w))]) hx hb dX5_bind_11 hl (by decide) rfl (fun ls hl => ?_)
      refine iv_loop (I := fun (qq : Nat × Int × (Int → Int)) H locs ls => match qq with | (j, x5, G2) => (j ≤ 41) ∧ (x5 = j) ∧ (G2 = mixP (bnd r f tt w) r (41 * x4 + x5)) ∧ va_P D vwCl [(ro, aI yI 1681 G2)] H ∧ va_D A [(ro, aI yI 1681 G2)] ∧ va_S A s.heap H locs ∧ lv_has ls 7 [(5, .int (iI x5)), (4, .int (iI x4)), (0, .ref ro), (1, .int (iI f)), (2, .int (iI tt)), (3, .int (iI w))]) (μ := fun (qq : Nat × Int × (Int → Int)) => match qq with | (j, x5, G2) => 41 - j) (0, 0, G) ?_ ?_
      · exact ⟨by omega, by omega, hG.trans (congrArg (mixP _ _) (by omega)), hP, hD, hS, lv_sub hl [0, 1, 2, 3, 4, 5] rfl⟩
      · intro qq H locs ls hI ih13
        obtain ⟨j, x5, G2⟩ := qq
        obtain ⟨hj, h7, hG2, hP, hD, hS, hl⟩ := hI
        refine lv_iload hx hb dX5_bind_13 (lv_at hl 0 rfl) ?_
        refine lv_bipush (v := iI 41) hx hb dX5_bind_15 (by decide +kernel) ?_
        refine iv_icmp_ge (a := x5) (b := 41) (tgt := 89) hx hb (by omega) (by omega) dX5_bind_17 (by decide) (fun c17 => ?_) (fun c17 => ?_)
        · refine iv_inc (lv' := [(4, .int (iI (x4 + 1))), (5, .int (iI x5)), (0, .ref ro), (1, .int (iI f)), (2, .int (iI tt)), (3, .int (iI w))]) hx hb dX5_bind_89 hl (k := 1) rfl (by decide) rfl (fun ls hl => ?_)
          refine lv_goto (tgt := 3) hx hb dX5_bind_92 (by decide) ?_
          refine ih3 (i + 1, x4 + 1, G2) _ _ (by show (41 - (i + 1) : Nat) < 41 - i; omega) ?_
          exact ⟨by omega, by omega, hG2.trans (congrArg (mixP _ _) (by omega)), hP, hD, hS, lv_sub hl [0, 2, 3, 4, 5] rfl⟩
        · have e1 : G2 (41 * x4 + f) = r (41 * x4 + f) := by rw [hG2]; exact mix_eq (bnd_f (by omega) h1 h5)
          have e2 : G2 (41 * tt + x5) = r (41 * tt + x5) := by rw [hG2]; exact mix_eq (bnd_t h2 (by omega) h5)
          have e3 : G2 (41 * x4 + x5) = r (41 * x4 + x5) := by rw [hG2]; exact mix_ge (by omega)
          have b1 := h3 (41 * x4 + f) (by omega) (by omega)
          have b2 := h3 (41 * tt + x5) (by omega) (by omega)
          have b3 := h3 (41 * x4 + x5) (by omega) (by omega)
          refine lv_aload_n hx hb dX5_bind_20 rfl (lv_at hl 2 rfl) ?_
          refine lv_bipush (v := iI 41) hx hb dX5_bind_21 (by decide +kernel) ?_
          refine lv_iload hx hb dX5_bind_23 (lv_at hl 1 rfl) ?_
          refine iv_mul hx hb dX5_bind_25 ?_
          refine lv_iload_n hx hb dX5_bind_26 rfl (lv_at hl 3 rfl) ?_
          refine iv_add hx hb dX5_bind_27 ?_
          refine iv_ald hx hb hK hP 0 0 rfl rfl (z := 41 * x4 + f) (by omega) (by omega) (by omega) dX5_bind_28 ?_
          refine lv_iload_n hx hb dX5_bind_29 rfl (lv_at hl 5 rfl) ?_
          refine iv_add hx hb dX5_bind_30 ?_
          refine lv_aload_n hx hb dX5_bind_31 rfl (lv_at hl 2 rfl) ?_
          refine lv_bipush (v := iI 41) hx hb dX5_bind_32 (by decide +kernel) ?_
          refine lv_iload_n hx hb dX5_bind_34 rfl (lv_at hl 4 rfl) ?_
          refine iv_mul hx hb dX5_bind_35 ?_
          refine lv_iload hx hb dX5_bind_36 (lv_at hl 0 rfl) ?_
          refine iv_add hx hb dX5_bind_38 ?_
          refine iv_ald hx hb hK hP 0 0 rfl rfl (z := 41 * tt + x5) (by omega) (by omega) (by omega) dX5_bind_39 ?_
          refine iv_add hx hb dX5_bind_40 ?_
          refine lv_istore (lv' := [(6, .int (iI (G2 (41 * x4 + f) + w + (G2 (41 * tt + x5))))), (5, .int (iI x5)), (4, .int (iI x4)), (0, .ref ro), (1, .int (iI f)), (2, .int (iI tt)), (3, .int (iI w))]) hx hb dX5_bind_41 hl (by decide) rfl (fun ls hl => ?_)
          refine lv_aload_n hx hb dX5_bind_43 rfl (lv_at hl 3 rfl) ?_
          refine lv_bipush (v := iI 41) hx hb dX5_bind_44 (by decide +kernel) ?_
          refine lv_iload hx hb dX5_bind_46 (lv_at hl 2 rfl) ?_
          refine iv_mul hx hb dX5_bind_48 ?_
          refine lv_iload hx hb dX5_bind_49 (lv_at hl 1 rfl) ?_
          refine iv_add hx hb dX5_bind_51 ?_
          refine lv_iload hx hb dX5_bind_52 (lv_at hl 0 rfl) ?_
          refine lv_aload_n hx hb dX5_bind_54 rfl (lv_at hl 3 rfl) ?_
          refine lv_bipush (v := iI 41) hx hb dX5_bind_55 (by decide +kernel) ?_
          refine lv_iload hx hb dX5_bind_57 (lv_at hl 2 rfl) ?_
          refine iv_mul hx hb dX5_bind_59 ?_
          refine lv_iload hx hb dX5_bind_60 (lv_at hl 1 rfl) ?_
          refine iv_add hx hb dX5_bind_62 ?_
          refine iv_ald hx hb hK hP 0 0 rfl rfl (z := 41 * x4 + x5) (by omega) (by omega) (by omega) dX5_bind_63 ?_
          refine iv_icmp_ge (a := G2 (41 * x4 + f) + w + (G2 (41 * tt + x5))) (b := G2 (41 * x4 + x5)) (tgt := 72) hx hb (by omega) (by omega) dX5_bind_64 (by decide) (fun c64 => ?_) (fun c64 => ?_)
          · refine lv_aload_n hx hb dX5_bind_72 rfl (lv_at hl 3 rfl) ?_
            refine lv_bipush (v := iI 41) hx hb dX5_bind_73 (by decide +kernel) ?_
            refine lv_iload hx hb dX5_bind_75 (lv_at hl 2 rfl) ?_
            refine iv_mul hx hb dX5_bind_77 ?_
            refine lv_iload hx hb dX5_bind_78 (lv_at hl 1 rfl) ?_
            refine iv_add hx hb dX5_bind_80 ?_
            refine iv_ald hx hb hK hP 0 0 rfl rfl (z := 41 * x4 + x5) (by omega) (by omega) (by omega) dX5_bind_81 ?_
            refine iv_ast hx hb hK hP hD hS 0 0 rfl rfl (z := 41 * x4 + x5) (v := G2 (41 * x4 + x5)) (by omega) (by omega) (by omega) dX5_bind_82 (fun H locs hP hD hS => ?_)
            have hP : va_P D vwCl [(ro, aI yI 1681 (up G2 (41 * x4 + x5) (G2 (41 * x4 + x5))))] H := hP
            have hD : va_D A [(ro, aI yI 1681 (up G2 (41 * x4 + x5) (G2 (41 * x4 + x5))))] := hD
            refine iv_inc (lv' := [(5, .int (iI (x5 + 1))), (6, .int (iI (G2 (41 * x4 + f) + w + (G2 (41 * tt + x5))))), (4, .int (iI x4)), (0, .ref ro), (1, .int (iI f)), (2, .int (iI tt)), (3, .int (iI w))]) hx hb dX5_bind_83 hl (k := 1) rfl (by decide) rfl (fun ls hl => ?_)
            refine lv_goto (tgt := 13) hx hb dX5_bind_86 (by decide) ?_
            refine ih13 (j + 1, x5 + 1, up G2 (41 * x4 + x5) (G2 (41 * x4 + x5))) _ _ (by show (41 - (j + 1) : Nat) < 41 - j; omega) ?_
            exact ⟨by omega, by omega, mix_s2 hG2 (by rw [bnd_at (by omega) (by omega)]; omega) (by omega), hP, hD, hS, lv_sub hl [0, 2, 3, 4, 5, 6] rfl⟩
          · refine lv_iload hx hb dX5_bind_67 (lv_at hl 0 rfl) ?_
            refine lv_goto (tgt := 82) hx hb dX5_bind_69 (by decide) ?_
            refine iv_ast hx hb hK hP hD hS 0 0 rfl rfl (z := 41 * x4 + x5) (v := G2 (41 * x4 + f) + w + (G2 (41 * tt + x5))) (by omega) (by omega) (by omega) dX5_bind_82 (fun H locs hP hD hS => ?_)
            have hP : va_P D vwCl [(ro, aI yI 1681 (up G2 (41 * x4 + x5) (G2 (41 * x4 + f) + w + (G2 (41 * tt + x5)))))] H := hP
            have hD : va_D A [(ro, aI yI 1681 (up G2 (41 * x4 + x5) (G2 (41 * x4 + f) + w + (G2 (41 * tt + x5)))))] := hD
            refine iv_inc (lv' := [(5, .int (iI (x5 + 1))), (6, .int (iI (G2 (41 * x4 + f) + w + (G2 (41 * tt + x5))))), (4, .int (iI x4)), (0, .ref ro), (1, .int (iI f)), (2, .int (iI tt)), (3, .int (iI w))]) hx hb dX5_bind_83 hl (k := 1) rfl (by decide) rfl (fun ls hl => ?_)
            refine lv_goto (tgt := 13) hx hb dX5_bind_86 (by decide) ?_
            refine ih13 (j + 1, x5 + 1, up G2 (41 * x4 + x5) (G2 (41 * x4 + f) + w + (G2 (41 * tt + x5)))) _ _ (by show (41 - (j + 1) : Nat) < 41 - j; omega) ?_
            exact ⟨by omega, by omega, mix_s2 hG2 (by rw [bnd_at (by omega) (by omega)]; omega) (by omega), hP, hD, hS, lv_sub hl [0, 2, 3, 4, 5, 6] rfl⟩
set_option maxHeartbeats 4000000 in
set_option maxRecDepth 100000 in
theorem c_X5_bindAnswer (l : Launch) (D : va_G) (yI yC yD : ClassId) (ro : Nat) (r : Int → Int) (a : Int) (b : Int) (ke : Int) (se : Int) (h1 : 0 ≤ a ∧ a ≤ b ∧ b < 40) (h3 : GB r) (h4 : -2 ≤ ke ∧ ke ≤ 41 ∧ -10 ≤ se ∧ se ≤ 41) (h5 : 0 ≤ (if ke = -2 then se - 1 else ke) + r (41 * (b + 1) + a)) (h6 : ke ≠ -2 → GB (bnd r a (b + 1) ke) ∧ 0 ≤ -ke + bnd r a (b + 1) ke (41 * a + (b + 1))) (sz : Nat) : Met l yX5_bindAnswer wsX5_bindAnswer ({ frames := 1, cells := 0, slots := 0, locals := 26 }) (rwP [.ref ro, .int (iI a), .int (iI b), .int (iI ke), .int (iI se)] D (tyz yI yC yD) [(ro, aI yI 1681 r)] sz) (va_Qv (fun (_ : Unit) => True) (fun (_ : Unit) (t : State) => va_P D vwCl [(ro, aI yI 1681 (bndA r a b ke se))] t.heap) (va_A [(ro, aI yI 1681 r)] sz)) 0 0 (va_A [(ro, aI yI 1681 r)] sz) := by
  refine Met.ofW (cc := cX5_bindAnswer) (maxL := 5) (ret := none) (by decide) rfl ?_
  intro p e s m args below meth c s₁ B hml hv
  obtain ⟨rfl, hsz, hP, hK, hD0⟩ := hv
  have hx := B.exec
  have hb := B.bytes
  have hr := B.returns
  have hts := atoms_spec (ws := wsX5_bindAnswer) B.pre
  have hown : s.vm.findClass RX5 = some m.cls := findClass_of_methodNamed B.named
  have hlocks := B.notSynchronized
  subst hsz
  have hD := hD0.self (sz := s.heap.size)
  generalize hAe : va_A [(ro, aI yI 1681 r)] s.heap.size = A at hD ⊢
  have hA : ∀ q : Nat, s.heap.size ≤ q → A q := fun q h => by rw [← hAe]; exact Or.inr h
  have hS : va_S A s.heap s.heap [] := va_S.rf
  have hP : va_P D vwCl [(ro, aI yI 1681 r)] s.heap := hP
  have hl := lv_entry ([.ref ro, .int (iI a), .int (iI b), .int (iI ke), .int (iI se)]) (n := 5) (Nat.le_of_ble_eq_true rfl)
  rw [lg_entry_eq]
  generalize (lg_sl ([.ref ro, .int (iI a), .int (iI b), .int (iI ke), .int (iI se)]) ++ List.replicate (5 - (lg_sl ([.ref ro, .int (iI a), .int (iI b), .int (iI ke), .int (iI se)])).length) Slot.unset).toArray = ls at hl ⊢
  have hl : lv_has ls 5 [(0, .ref ro), (1, .int (iI a)), (2, .int (iI b)), (3, .int (iI ke)), (4, .int (iI se))] := hl
  refine lv_aload_n hx hb dX5_bindAnswer_0 rfl (lv_at hl 0 rfl) ?_
  refine lv_iload_n hx hb dX5_bindAnswer_1 rfl (lv_at hl 1 rfl) ?_
  refine lv_iload_n hx hb dX5_bindAnswer_2 rfl (lv_at hl 2 rfl) ?_
  refine lv_iconst (v := iI 1) hx hb dX5_bindAnswer_3 (by decide +kernel) ?_
  refine iv_add hx hb dX5_bindAnswer_4 ?_
  refine lv_iload_n hx hb dX5_bindAnswer_5 rfl (lv_at hl 3 rfl) ?_
  refine lv_bipush (v := iI (-2)) hx hb dX5_bindAnswer_6 (by decide +kernel) ?_
  refine iv_icmp_ne (a := ke) (b := -2) (tgt := 18) hx hb (by omega) (by omega) dX5_bindAnswer_8 (by decide) (fun c8 => ?_) (fun c8 => ?_)
  · refine lv_iload_n hx hb dX5_bindAnswer_18 rfl (lv_at hl 3 rfl) ?_
    refine iv_rwSv (As := [.ref ro, .int (iI a), .int (iI (b + 1)), .int (iI ke)]) (rest := []) (n := 4) ⟨hx, hb, hml, hown, hts⟩ (c_X5_bind l D yI yC yD ro r a (b + 1) ke (by omega) (by omega) (by assumption) (by omega) (by first | (rw [if_pos c8] at h5; exact h5) | (rw [if_neg c8] at h5; exact h5)) _) (va_cwS 4 hts gX5_bindAnswer_X5_bind rfl rfl rfl (by decide +kernel) ⟨Nat.le_of_ble_eq_true rfl, Nat.le_of_ble_eq_true rfl⟩) hK hP hD hS hA [0] (by decide) rfl rfl hl.1 rfl (Nat.le_of_ble_eq_true rfl) dX5_bindAnswer_19 ⟨Nat.zero_le _, Nat.zero_le _⟩ (fun _ => rfl) (fun u19 H locs hw19 hP hD hS => ?_)
    have hP : va_P D vwCl [(ro, aI yI 1681 (bnd r a (b + 1) ke))] H := hP
    have hD : va_D A [(ro, aI yI 1681 (bnd r a (b + 1) ke))] := hD
    refine lv_iload_n hx hb dX5_bindAnswer_22 rfl (lv_at hl 3 rfl) ?_
    refine lv_bipush (v := iI (-2)) hx hb dX5_bindAnswer_23 (by decide +kernel) ?_
    refine iv_icmp_eq (a := ke) (b := -2) (tgt := 38) hx hb (by omega) (by omega) dX5_bindAnswer_25 (by decide) (fun c25 => ?_) (fun c25 => ?_)
    · exact absurd c25 (by omega)
    · refine lv_aload_n hx hb dX5_bindAnswer_28 rfl (lv_at hl 0 rfl) ?_
      refine lv_iload_n hx hb dX5_bindAnswer_29 rfl (lv_at hl 2 rfl) ?_
      refine lv_iconst (v := iI 1) hx hb dX5_bindAnswer_30 (by decide +kernel) ?_
      refine iv_add hx hb dX5_bindAnswer_31 ?_
      refine lv_iload_n hx hb dX5_bindAnswer_32 rfl (lv_at hl 1 rfl) ?_
      refine lv_iload_n hx hb dX5_bindAnswer_33 rfl (lv_at hl 3 rfl) ?_
      refine iv_neg hx hb dX5_bindAnswer_34 ?_
      refine iv_rwSv (As := [.ref ro, .int (iI (b + 1)), .int (iI a), .int (iI (-ke))]) (rest := []) (n := 4) ⟨hx, hb, hml, hown, hts⟩ (c_X5_bind l D yI yC yD ro (bnd r a (b + 1) ke) (b + 1) a (-ke) (by omega) (by omega) ((h6 c8).1) (by omega) ((h6 c8).2) _) (va_cwS 4 hts gX5_bindAnswer_X5_bind rfl rfl rfl (by decide +kernel) ⟨Nat.le_of_ble_eq_true rfl, Nat.le_of_ble_eq_true rfl⟩) hK hP hD hS hA [0] (by decide) rfl rfl hl.1 rfl (Nat.le_of_ble_eq_true rfl) dX5_bindAnswer_35 ⟨Nat.zero_le _, Nat.zero_le _⟩ (fun _ => rfl) (fun u35 H locs hw35 hP hD hS => ?_)
      have hP : va_P D vwCl [(ro, aI yI 1681 (bnd (bnd r a (b + 1) ke) (b + 1) a (-ke)))] H := hP
      have hD : va_D A [(ro, aI yI 1681 (bnd (bnd r a (b + 1) ke) (b + 1) a (-ke)))] := hD
      have hP9 : va_P D vwCl [(ro, aI yI 1681 (bndA r a b ke se))] _ := (hP.sub (ws' := [(ro, aI yI 1681 (bnd (bnd r a (b + 1) ke) (b + 1) a (-ke)))]) [0] rfl).cv (by unfold bndA; first | rw [if_pos (by assumption)] | rw [if_neg (by assumption)])
      exact W.vret hx hb hr (fun t ht hW => ⟨⟨(), rfl, trivial, by show va_P D vwCl _ t.heap; rw [ht]; exact hP9⟩, hS.F ht⟩) hS.2.2 dX5_bindAnswer_38
  · refine lv_iload hx hb dX5_bindAnswer_11 (lv_at hl 4 rfl) ?_
    refine lv_iconst (v := iI 1) hx hb dX5_bindAnswer_13 (by decide +kernel) ?_
    refine iv_sub hx hb dX5_bindAnswer_14 ?_
    refine lv_goto (tgt := 19) hx hb dX5_bindAnswer_15 (by decide) ?_
    refine iv_rwSv (As := [.ref ro, .int (iI a), .int (iI (b + 1)), .int (iI (se - 1))]) (rest := []) (n := 4) ⟨hx, hb, hml, hown, hts⟩ (c_X5_bind l D yI yC yD ro r a (b + 1) (se - 1) (by omega) (by omega) (by assumption) (by omega) (by first | (rw [if_pos c8] at h5; exact h5) | (rw [if_neg c8] at h5; exact h5)) _) (va_cwS 4 hts gX5_bindAnswer_X5_bind rfl rfl rfl (by decide +kernel) ⟨Nat.le_of_ble_eq_true rfl, Nat.le_of_ble_eq_true rfl⟩) hK hP hD hS hA [0] (by decide) rfl rfl hl.1 rfl (Nat.le_of_ble_eq_true rfl) dX5_bindAnswer_19 ⟨Nat.zero_le _, Nat.zero_le _⟩ (fun _ => rfl) (fun u19 H locs hw19 hP hD hS => ?_)
    have hP : va_P D vwCl [(ro, aI yI 1681 (bnd r a (b + 1) (se - 1)))] H := hP
    have hD : va_D A [(ro, aI yI 1681 (bnd r a (b + 1) (se - 1)))] := hD
    refine lv_iload_n hx hb dX5_bindAnswer_22 rfl (lv_at hl 3 rfl) ?_
    refine lv_bipush (v := iI (-2)) hx hb dX5_bindAnswer_23 (by decide +kernel) ?_
    refine iv_icmp_eq (a := ke) (b := -2) (tgt := 38) hx hb (by omega) (by omega) dX5_bindAnswer_25 (by decide) (fun c25 => ?_) (fun c25 => ?_)
    · have hP9 : va_P D vwCl [(ro, aI yI 1681 (bndA r a b ke se))] _ := (hP.sub (ws' := [(ro, aI yI 1681 (bnd r a (b + 1) (se - 1)))]) [0] rfl).cv (by unfold bndA; first | rw [if_pos (by assumption)] | rw [if_neg (by assumption)])
      exact W.vret hx hb hr (fun t ht hW => ⟨⟨(), rfl, trivial, by show va_P D vwCl _ t.heap; rw [ht]; exact hP9⟩, hS.F ht⟩) hS.2.2 dX5_bindAnswer_38
    · exact absurd c25 (by omega)
set_option maxHeartbeats 4000000 in
set_option maxRecDepth 100000 in
theorem c_X5_mostIn (l : Launch) (D : va_G) (yI yC yD : ClassId) (ro : Nat) (r : Int → Int) (a : Int) (b : Int) (h1 : 0 ≤ a ∧ a ≤ 40 ∧ 0 ≤ b ∧ b < 40) : Met l yX5_mostIn wsX5_mostIn ({ frames := 0, cells := 0, slots := 0, locals := 0 }) (roP [.ref ro, .int (iI a), .int (iI b)] D (tyz yI yC yD) [(ro, aI yI 1681 r)]) (QcRead (iI (mostI r a b))) 0 0 (fun _ => False) := by
  refine Met.ofW (cc := cX5_mostIn) (maxL := 3) (ret := (some .int)) (by decide) rfl ?_
  intro p e s m args below meth c s₁ B hml hv
  obtain ⟨rfl, hP, hK⟩ := hv
  have hx := B.exec
  have hb := B.bytes
  have hr := B.returns
  have hts := atoms_spec (ws := wsX5_mostIn) B.pre
  have hown : s.vm.findClass RX5 = some m.cls := findClass_of_methodNamed B.named
  have hlocks := B.notSynchronized
  have hP : va_P D vwCl [(ro, aI yI 1681 r)] s.heap := hP
  have hl := lv_entry ([.ref ro, .int (iI a), .int (iI b)]) (n := 3) (Nat.le_of_ble_eq_true rfl)
  rw [lg_entry_eq]
  generalize (lg_sl ([.ref ro, .int (iI a), .int (iI b)]) ++ List.replicate (3 - (lg_sl ([.ref ro, .int (iI a), .int (iI b)])).length) Slot.unset).toArray = ls at hl ⊢
  have hl : lv_has ls 3 [(0, .ref ro), (1, .int (iI a)), (2, .int (iI b))] := hl
  refine lv_aload_n hx hb dX5_mostIn_0 rfl (lv_at hl 0 rfl) ?_
  refine lv_bipush (v := iI 41) hx hb dX5_mostIn_1 (by decide +kernel) ?_
  refine lv_iload_n hx hb dX5_mostIn_3 rfl (lv_at hl 1 rfl) ?_
  refine iv_mul hx hb dX5_mostIn_4 ?_
  refine lv_iload_n hx hb dX5_mostIn_5 rfl (lv_at hl 2 rfl) ?_
  refine iv_add hx hb dX5_mostIn_6 ?_
  refine lv_iconst (v := iI 1) hx hb dX5_mostIn_7 (by decide +kernel) ?_
  refine iv_add hx hb dX5_mostIn_8 ?_
  refine iv_ald hx hb hK hP 0 0 rfl rfl (z := 41 * a + b + 1) (by omega) (by omega) (by omega) dX5_mostIn_9 ?_
  exact W.iret hx hb hr (fun t ht hW => ⟨congrArg (fun z => Outcome.returned (some (Value.int (iI z)))) (show r (41 * a + b + 1) = mostI r a b by rfl), ht⟩) (fun q h => by cases h) dX5_mostIn_10
set_option maxHeartbeats 4000000 in
set_option maxRecDepth 100000 in
theorem c_X5_leastIn (l : Launch) (D : va_G) (yI yC yD : ClassId) (ro : Nat) (r : Int → Int) (a : Int) (b : Int) (h1 : 0 ≤ a ∧ a ≤ 40 ∧ 0 ≤ b ∧ b < 40) : Met l yX5_leastIn wsX5_leastIn ({ frames := 0, cells := 0, slots := 0, locals := 0 }) (roP [.ref ro, .int (iI a), .int (iI b)] D (tyz yI yC yD) [(ro, aI yI 1681 r)]) (QcRead (iI (leastI r a b))) 0 0 (fun _ => False) := by
  refine Met.ofW (cc := cX5_leastIn) (maxL := 3) (ret := (some .int)) (by decide) rfl ?_
  intro p e s m args below meth c s₁ B hml hv
  obtain ⟨rfl, hP, hK⟩ := hv
  have hx := B.exec
  have hb := B.bytes
  have hr := B.returns
  have hts := atoms_spec (ws := wsX5_leastIn) B.pre
  have hown : s.vm.findClass RX5 = some m.cls := findClass_of_methodNamed B.named
  have hlocks := B.notSynchronized
  have hP : va_P D vwCl [(ro, aI yI 1681 r)] s.heap := hP
  have hl := lv_entry ([.ref ro, .int (iI a), .int (iI b)]) (n := 3) (Nat.le_of_ble_eq_true rfl)
  rw [lg_entry_eq]
  generalize (lg_sl ([.ref ro, .int (iI a), .int (iI b)]) ++ List.replicate (3 - (lg_sl ([.ref ro, .int (iI a), .int (iI b)])).length) Slot.unset).toArray = ls at hl ⊢
  have hl : lv_has ls 3 [(0, .ref ro), (1, .int (iI a)), (2, .int (iI b))] := hl
  refine lv_aload_n hx hb dX5_leastIn_0 rfl (lv_at hl 0 rfl) ?_
  refine lv_bipush (v := iI 41) hx hb dX5_leastIn_1 (by decide +kernel) ?_
  refine lv_iload_n hx hb dX5_leastIn_3 rfl (lv_at hl 2 rfl) ?_
  refine lv_iconst (v := iI 1) hx hb dX5_leastIn_4 (by decide +kernel) ?_
  refine iv_add hx hb dX5_leastIn_5 ?_
  refine iv_mul hx hb dX5_leastIn_6 ?_
  refine lv_iload_n hx hb dX5_leastIn_7 rfl (lv_at hl 1 rfl) ?_
  refine iv_add hx hb dX5_leastIn_8 ?_
  refine iv_ald hx hb hK hP 0 0 rfl rfl (z := 41 * (b + 1) + a) (by omega) (by omega) (by omega) dX5_leastIn_9 ?_
  refine iv_neg hx hb dX5_leastIn_10 ?_
  exact W.iret hx hb hr (fun t ht hW => ⟨congrArg (fun z => Outcome.returned (some (Value.int (iI z)))) (show -(r (41 * (b + 1) + a)) = leastI r a b by rfl), ht⟩) (fun q h => by cases h) dX5_leastIn_11
set_option maxHeartbeats 4000000 in
set_option maxRecDepth 100000 in
theorem c_X5_knownIn (l : Launch) (D : va_G) (yI yC yD : ClassId) (mo : Nat) (th : Int) (re : Int) (tl : Int) (a1 : Nat) (a2 : Nat) (a3 : Nat) (a4 : Nat) (a5 : Nat) (a6 : Nat) (a7 : Nat) (a8 : Nat) (S : Int → Int) (ro : Nat) (r : Int → Int) (h1 : 0 ≤ S 0 ∧ S 0 ≤ 40) (h3 : GB r) : Met l yX5_knownIn wsX5_knownIn ({ frames := 1, cells := 0, slots := 0, locals := 22 }) (roP [.ref mo, .ref ro] D (tyz yI yC yD) [(mo, oMo th a1 a2 a3 re a4 a5 a6 tl a7 a8), (a1, aI yI 96 S), (ro, aI yI 1681 r)]) (QcRead (iI (knownIn r (S 0)))) 0 0 (fun _ => False) := by
  refine Met.ofW (cc := cX5_knownIn) (maxL := 4) (ret := (some .int)) (by decide) rfl ?_
  intro p e s m args below meth c s₁ B hml hv
  obtain ⟨rfl, hP, hK⟩ := hv
  have hx := B.exec
  have hb := B.bytes
  have hr := B.returns
  have hts := atoms_spec (ws := wsX5_knownIn) B.pre
  have hown : s.vm.findClass RX5 = some m.cls := findClass_of_methodNamed B.named
  have hlocks := B.notSynchronized
  have hP : va_P D vwCl [(mo, oMo th a1 a2 a3 re a4 a5 a6 tl a7 a8), (a1, aI yI 96 S), (ro, aI yI 1681 r)] s.heap := hP
  have hinX5 : ∀ w ∈ wsX50, w ∈ wsX5_knownIn := by decide +kernel
  have hf7 : (Cond.fieldLink RX5 7 "RiddleDriveModel" "state" "[I").before _ s = true := hts _ (by decide +kernel)
  have hl := lv_entry ([.ref mo, .ref ro]) (n := 4) (Nat.le_of_ble_eq_true rfl)
  rw [lg_entry_eq]
  generalize (lg_sl ([.ref mo, .ref ro]) ++ List.replicate (4 - (lg_sl ([.ref mo, .ref ro])).length) Slot.unset).toArray = ls at hl ⊢
  have hl : lv_has ls 4 [(0, .ref mo), (1, .ref ro)] := hl
  refine lv_iconst (v := iI 0) hx hb dX5_knownIn_0 (by decide +kernel) ?_
  refine lv_istore_n (lv' := [(2, .int (iI 0)), (0, .ref mo), (1, .ref ro)]) hx hb dX5_knownIn_1 rfl hl (by decide) rfl (fun ls hl => ?_)
  refine lv_iconst (v := iI 0) hx hb dX5_knownIn_2 (by decide +kernel) ?_
  refine lv_istore_n (lv' := [(3, .int (iI 0)), (2, .int (iI 0)), (0, .ref mo), (1, .ref ro)]) hx hb dX5_knownIn_3 rfl hl (by decide) rfl (fun ls hl => ?_)
  refine iv_loopR (I := fun (qq : Nat × Int × Int) ls => match qq with | (i, x2, x3) => ((i : Int) ≤ S 0) ∧ (x3 = i) ∧ (x2 = knownC r i) ∧ lv_has ls 4 [(3, .int (iI x3)), (2, .int (iI x2)), (0, .ref mo), (1, .ref ro)]) (μ := fun (qq : Nat × Int × Int) => match qq with | (i, x2, x3) => (S 0).toNat - i) (0, 0, 0) ?_ ?_
  · exact ⟨by omega, by omega, rfl, lv_sub hl [0, 1, 2, 3] rfl⟩
  · intro qq ls hI ih4
    obtain ⟨i, x2, x3⟩ := qq
    obtain ⟨hi, h5, h6, hl⟩ := hI
    refine lv_iload_n hx hb dX5_knownIn_4 rfl (lv_at hl 0 rfl) ?_
    refine lv_aload_n hx hb dX5_knownIn_5 rfl (lv_at hl 2 rfl) ?_
    refine va_get (D := D) (ci := 5) (v := .ref a1) (C := RX5) (T := TX5) (N := 11) hx hb hts hinX5 hown hK hP 0 rfl rfl 1 (by decide) hf7 (fun _ h9 => h9) rfl dX5_knownIn_6 ?_
    refine lv_iconst (v := iI 0) hx hb dX5_knownIn_9 (by decide +kernel) ?_
    refine iv_ald hx hb hK hP 1 0 rfl rfl (z := 0) (by omega) (by omega) (by omega) dX5_knownIn_10 ?_
    refine iv_icmp_ge (a := x3) (b := S 0) (tgt := 43) hx hb (by omega) (by omega) dX5_knownIn_11 (by decide) (fun c11 => ?_) (fun c11 => ?_)
    · refine lv_iload_n hx hb dX5_knownIn_43 rfl (lv_at hl 1 rfl) ?_
      exact W.iret hx hb hr (fun t ht hW => ⟨congrArg (fun z => Outcome.returned (some (Value.int (iI z)))) (show x2 = knownIn r (S 0) by rw [h6]; unfold knownIn; congr 1; omega), ht⟩) (fun q h => by cases h) dX5_knownIn_44
    · have b1 := mostI_r h3 (a := x3) (b := x3) (by omega)
      have b2 := leastI_r h3 (a := x3) (b := x3) (by omega)
      refine lv_iload_n hx hb dX5_knownIn_14 rfl (lv_at hl 1 rfl) ?_
      refine lv_aload_n hx hb dX5_knownIn_15 rfl (lv_at hl 3 rfl) ?_
      refine lv_iload_n hx hb dX5_knownIn_16 rfl (lv_at hl 0 rfl) ?_
      refine lv_iload_n hx hb dX5_knownIn_17 rfl (lv_at hl 0 rfl) ?_
      refine iv_roS (As := [.ref ro, .int (iI x3), .int (iI x3)]) (rest := [.int (iI x2)]) (n := 3) ⟨hx, hb, hml, hown, hts⟩ (c_X5_mostIn l D yI yC yD ro r x3 x3 (by omega)) (va_cwS 3 hts gX5_knownIn_X5_mostIn rfl rfl rfl (by decide +kernel) ⟨Nat.le_of_ble_eq_true rfl, Nat.le_of_ble_eq_true rfl⟩) hK hP [2] rfl rfl hl.1 rfl (Nat.le_of_ble_eq_true rfl) dX5_knownIn_18 ⟨Nat.zero_le _, Nat.zero_le _⟩ ?_
      refine lv_aload_n hx hb dX5_knownIn_21 rfl (lv_at hl 3 rfl) ?_
      refine lv_iload_n hx hb dX5_knownIn_22 rfl (lv_at hl 0 rfl) ?_
      refine lv_iload_n hx hb dX5_knownIn_23 rfl (lv_at hl 0 rfl) ?_
      refine iv_roS (As := [.ref ro, .int (iI x3), .int (iI x3)]) (rest := [.int (iI (mostI r x3 x3)), .int (iI x2)]) (n := 3) ⟨hx, hb, hml, hown, hts⟩ (c_X5_leastIn l D yI yC yD ro r x3 x3 (by omega)) (va_cwS 3 hts gX5_knownIn_X5_leastIn rfl rfl rfl (by decide +kernel) ⟨Nat.le_of_ble_eq_true rfl, Nat.le_of_ble_eq_true rfl⟩) hK hP [2] rfl rfl hl.1 rfl (Nat.le_of_ble_eq_true rfl) dX5_knownIn_24 ⟨Nat.zero_le _, Nat.zero_le _⟩ ?_
      refine iv_icmp_ne (a := mostI r x3 x3) (b := leastI r x3 x3) (tgt := 34) hx hb (by omega) (by omega) dX5_knownIn_27 (by decide) (fun c27 => ?_) (fun c27 => ?_)
      · refine lv_iconst (v := iI 0) hx hb dX5_knownIn_34 (by decide +kernel) ?_
        refine iv_add hx hb dX5_knownIn_35 ?_
        refine lv_istore_n (lv' := [(2, .int (iI (x2 + 0))), (3, .int (iI x3)), (0, .ref mo), (1, .ref ro)]) hx hb dX5_knownIn_36 rfl hl (by decide) rfl (fun ls hl => ?_)
        refine iv_inc (lv' := [(3, .int (iI (x3 + 1))), (2, .int (iI (x2 + 0))), (0, .ref mo), (1, .ref ro)]) hx hb dX5_knownIn_37 hl (k := 1) rfl (by decide) rfl (fun ls hl => ?_)
        refine lv_goto (tgt := 4) hx hb dX5_knownIn_40 (by decide) ?_
        refine ih4 (i + 1, x2 + 0, x3 + 1) (by show ((S 0).toNat - (i + 1) : Nat) < (S 0).toNat - i; omega) ?_
        exact ⟨by omega, by omega, by subst h5; rw [h6]; show _ = _ + (if _ then _ else _); split <;> omega, lv_sub hl [0, 1, 2, 3] rfl⟩
      · refine lv_iconst (v := iI 1) hx hb dX5_knownIn_30 (by decide +kernel) ?_
        refine lv_goto (tgt := 35) hx hb dX5_knownIn_31 (by decide) ?_
        refine iv_add hx hb dX5_knownIn_35 ?_
        refine lv_istore_n (lv' := [(2, .int (iI (x2 + 1))), (3, .int (iI x3)), (0, .ref mo), (1, .ref ro)]) hx hb dX5_knownIn_36 rfl hl (by decide) rfl (fun ls hl => ?_)
        refine iv_inc (lv' := [(3, .int (iI (x3 + 1))), (2, .int (iI (x2 + 1))), (0, .ref mo), (1, .ref ro)]) hx hb dX5_knownIn_37 hl (k := 1) rfl (by decide) rfl (fun ls hl => ?_)
        refine lv_goto (tgt := 4) hx hb dX5_knownIn_40 (by decide) ?_
        refine ih4 (i + 1, x2 + 1, x3 + 1) (by show ((S 0).toNat - (i + 1) : Nat) < (S 0).toNat - i; omega) ?_
        exact ⟨by omega, by omega, by subst h5; rw [h6]; show _ = _ + (if _ then _ else _); split <;> omega, lv_sub hl [0, 1, 2, 3] rfl⟩
set_option maxHeartbeats 4000000 in
set_option maxRecDepth 100000 in
theorem c_X5_knownOf (l : Launch) (D : va_G) (yI yC yD : ClassId) (mo : Nat) (th : Int) (re : Int) (tl : Int) (a1 : Nat) (a2 : Nat) (a3 : Nat) (a4 : Nat) (a5 : Nat) (a6 : Nat) (a7 : Nat) (a8 : Nat) (S : Int → Int) (Bd : Int → Int) (i : Int) (h1 : 0 ≤ i ∧ i < 40) (h3 : GB Bd) : Met l yX5_knownOf wsX5_knownOf ({ frames := 1, cells := 0, slots := 0, locals := 22 }) (roP [.ref mo, .int (iI i)] D (tyz yI yC yD) [(mo, oMo th a1 a2 a3 re a4 a5 a6 tl a7 a8), (a1, aI yI 96 S), (a7, aI yI 1681 Bd)]) (QcRead (iI (knownOf Bd i))) 0 0 (fun _ => False) := by
  refine Met.ofW (cc := cX5_knownOf) (maxL := 2) (ret := (some .int)) (by decide) rfl ?_
  intro p e s m args below meth c s₁ B hml hv
  obtain ⟨rfl, hP, hK⟩ := hv
  have hx := B.exec
  have hb := B.bytes
  have hr := B.returns
  have hts := atoms_spec (ws := wsX5_knownOf) B.pre
  have hown : s.vm.findClass RX5 = some m.cls := findClass_of_methodNamed B.named
  have hlocks := B.notSynchronized
  have hP : va_P D vwCl [(mo, oMo th a1 a2 a3 re a4 a5 a6 tl a7 a8), (a1, aI yI 96 S), (a7, aI yI 1681 Bd)] s.heap := hP
  have hinX5 : ∀ w ∈ wsX50, w ∈ wsX5_knownOf := by decide +kernel
  have hf28 : (Cond.fieldLink RX5 28 "RiddleDriveModel" "bounds" "[I").before _ s = true := hts _ (by decide +kernel)
  have hl := lv_entry ([.ref mo, .int (iI i)]) (n := 2) (Nat.le_of_ble_eq_true rfl)
  rw [lg_entry_eq]
  generalize (lg_sl ([.ref mo, .int (iI i)]) ++ List.replicate (2 - (lg_sl ([.ref mo, .int (iI i)])).length) Slot.unset).toArray = ls at hl ⊢
  have hl : lv_has ls 2 [(0, .ref mo), (1, .int (iI i))] := hl
  have b1 := mostI_r h3 (a := i) (b := i) (by omega)
  have b2 := leastI_r h3 (a := i) (b := i) (by omega)
  refine lv_aload_n hx hb dX5_knownOf_0 rfl (lv_at hl 0 rfl) ?_
  refine va_get (D := D) (ci := 5) (v := .ref a7) (C := RX5) (T := TX5) (N := 11) hx hb hts hinX5 hown hK hP 0 rfl rfl 9 (by decide) hf28 (fun _ h9 => h9) rfl dX5_knownOf_1 ?_
  refine lv_iload_n hx hb dX5_knownOf_4 rfl (lv_at hl 1 rfl) ?_
  refine lv_iload_n hx hb dX5_knownOf_5 rfl (lv_at hl 1 rfl) ?_
  refine iv_roS (As := [.ref a7, .int (iI i), .int (iI i)]) (rest := []) (n := 3) ⟨hx, hb, hml, hown, hts⟩ (c_X5_mostIn l D yI yC yD a7 Bd i i (by omega)) (va_cwS 3 hts gX5_knownOf_X5_mostIn rfl rfl rfl (by decide +kernel) ⟨Nat.le_of_ble_eq_true rfl, Nat.le_of_ble_eq_true rfl⟩) hK hP [2] rfl rfl hl.1 rfl (Nat.le_of_ble_eq_true rfl) dX5_knownOf_6 ⟨Nat.zero_le _, Nat.zero_le _⟩ ?_
  refine lv_aload_n hx hb dX5_knownOf_9 rfl (lv_at hl 0 rfl) ?_
  refine va_get (D := D) (ci := 5) (v := .ref a7) (C := RX5) (T := TX5) (N := 11) hx hb hts hinX5 hown hK hP 0 rfl rfl 9 (by decide) hf28 (fun _ h9 => h9) rfl dX5_knownOf_10 ?_
  refine lv_iload_n hx hb dX5_knownOf_13 rfl (lv_at hl 1 rfl) ?_
  refine lv_iload_n hx hb dX5_knownOf_14 rfl (lv_at hl 1 rfl) ?_
  refine iv_roS (As := [.ref a7, .int (iI i), .int (iI i)]) (rest := [.int (iI (mostI Bd i i))]) (n := 3) ⟨hx, hb, hml, hown, hts⟩ (c_X5_leastIn l D yI yC yD a7 Bd i i (by omega)) (va_cwS 3 hts gX5_knownOf_X5_leastIn rfl rfl rfl (by decide +kernel) ⟨Nat.le_of_ble_eq_true rfl, Nat.le_of_ble_eq_true rfl⟩) hK hP [2] rfl rfl hl.1 rfl (Nat.le_of_ble_eq_true rfl) dX5_knownOf_15 ⟨Nat.zero_le _, Nat.zero_le _⟩ ?_
  refine iv_icmp_ne (a := mostI Bd i i) (b := leastI Bd i i) (tgt := 33) hx hb (by omega) (by omega) dX5_knownOf_18 (by decide) (fun c18 => ?_) (fun c18 => ?_)
  · refine lv_iconst (v := iI (-1)) hx hb dX5_knownOf_33 (by decide +kernel) ?_
    exact W.iret hx hb hr (fun t ht hW => ⟨congrArg (fun z => Outcome.returned (some (Value.int (iI z)))) (show -1 = knownOf Bd i by unfold knownOf; split <;> omega), ht⟩) (fun q h => by cases h) dX5_knownOf_34
  · refine lv_aload_n hx hb dX5_knownOf_21 rfl (lv_at hl 0 rfl) ?_
    refine va_get (D := D) (ci := 5) (v := .ref a7) (C := RX5) (T := TX5) (N := 11) hx hb hts hinX5 hown hK hP 0 rfl rfl 9 (by decide) hf28 (fun _ h9 => h9) rfl dX5_knownOf_22 ?_
    refine lv_iload_n hx hb dX5_knownOf_25 rfl (lv_at hl 1 rfl) ?_
    refine lv_iload_n hx hb dX5_knownOf_26 rfl (lv_at hl 1 rfl) ?_
    refine iv_roS (As := [.ref a7, .int (iI i), .int (iI i)]) (rest := []) (n := 3) ⟨hx, hb, hml, hown, hts⟩ (c_X5_mostIn l D yI yC yD a7 Bd i i (by omega)) (va_cwS 3 hts gX5_knownOf_X5_mostIn rfl rfl rfl (by decide +kernel) ⟨Nat.le_of_ble_eq_true rfl, Nat.le_of_ble_eq_true rfl⟩) hK hP [2] rfl rfl hl.1 rfl (Nat.le_of_ble_eq_true rfl) dX5_knownOf_27 ⟨Nat.zero_le _, Nat.zero_le _⟩ ?_
    refine lv_goto (tgt := 34) hx hb dX5_knownOf_30 (by decide) ?_
    exact W.iret hx hb hr (fun t ht hW => ⟨congrArg (fun z => Outcome.returned (some (Value.int (iI z)))) (show mostI Bd i i = knownOf Bd i by unfold knownOf; split <;> omega), ht⟩) (fun q h => by cases h) dX5_knownOf_34
set_option maxHeartbeats 4000000 in
set_option maxRecDepth 100000 in
theorem c_X5_whyNoRange (l : Launch) (D : va_G) (yI yC yD : ClassId) (mo : Nat) (th : Int) (re : Int) (tl : Int) (a1 : Nat) (a2 : Nat) (a3 : Nat) (a4 : Nat) (a5 : Nat) (a6 : Nat) (a7 : Nat) (a8 : Nat) (S : Int → Int) (a : Int) (b : Int) (h1 : inR a ∧ inR b) (h2 : 0 ≤ S 0 ∧ S 0 ≤ 40) : Met l yX5_whyNoRange wsX5_whyNoRange ({ frames := 2, cells := 0, slots := 0, locals := 43 }) (roP [.ref mo, .int (iI a), .int (iI b)] D (tyz yI yC yD) [(mo, oMo th a1 a2 a3 re a4 a5 a6 tl a7 a8), (a1, aI yI 96 S)]) (QcRead (iI (whyR S a b))) 0 0 (fun _ => False) := by
  refine Met.ofW (cc := cX5_whyNoRange) (maxL := 3) (ret := (some .int)) (by decide) rfl ?_
  intro p e s m args below meth c s₁ B hml hv
  obtain ⟨rfl, hP, hK⟩ := hv
  have hx := B.exec
  have hb := B.bytes
  have hr := B.returns
  have hts := atoms_spec (ws := wsX5_whyNoRange) B.pre
  have hown : s.vm.findClass RX5 = some m.cls := findClass_of_methodNamed B.named
  have hlocks := B.notSynchronized
  have hP : va_P D vwCl [(mo, oMo th a1 a2 a3 re a4 a5 a6 tl a7 a8), (a1, aI yI 96 S)] s.heap := hP
  have hl := lv_entry ([.ref mo, .int (iI a), .int (iI b)]) (n := 3) (Nat.le_of_ble_eq_true rfl)
  rw [lg_entry_eq]
  generalize (lg_sl ([.ref mo, .int (iI a), .int (iI b)]) ++ List.replicate (3 - (lg_sl ([.ref mo, .int (iI a), .int (iI b)])).length) Slot.unset).toArray = ls at hl ⊢
  have hl : lv_has ls 3 [(0, .ref mo), (1, .int (iI a)), (2, .int (iI b))] := hl
  refine lv_aload_n hx hb dX5_whyNoRange_0 rfl (lv_at hl 0 rfl) ?_
  refine lv_iload_n hx hb dX5_whyNoRange_1 rfl (lv_at hl 1 rfl) ?_
  refine iv_roV (As := [.int (iI a)]) (rest := []) (C := RX5) (n := 1) ⟨hx, hb, hml, hown, hts⟩ (c_X5_isPlace l D yI yC yD mo th re tl a1 a2 a3 a4 a5 a6 a7 a8 S a (by omega) (by omega)) (cwV 1 hts gX5_whyNoRange_X5_isPlace rfl rfl rfl (by decide +kernel) ⟨Nat.le_of_ble_eq_true rfl, Nat.le_of_ble_eq_true rfl⟩) hK hP [0, 1] rfl 0 rfl rfl rfl hl.1 rfl (Nat.le_of_ble_eq_true rfl) dX5_whyNoRange_2 ⟨Nat.zero_le _, Nat.zero_le _⟩ ?_
  refine iv_ifb_eq (P := 0 ≤ a ∧ a < S 0) (tgt := 16) hx hb dX5_whyNoRange_5 (by decide) (fun c5 => ?_) (fun c5 => ?_)
  · refine lv_iconst (v := iI 1) hx hb dX5_whyNoRange_16 (by decide +kernel) ?_
    refine lv_goto (tgt := 30) hx hb dX5_whyNoRange_17 (by decide) ?_
    exact W.iret hx hb hr (fun t ht hW => ⟨congrArg (fun z => Outcome.returned (some (Value.int (iI z)))) (show 1 = whyR S a b by unfold whyR; repeat (first | rw [if_pos (by omega)] | rw [if_neg (by omega)])), ht⟩) (fun q h => by cases h) dX5_whyNoRange_30
  · refine lv_aload_n hx hb dX5_whyNoRange_8 rfl (lv_at hl 0 rfl) ?_
    refine lv_iload_n hx hb dX5_whyNoRange_9 rfl (lv_at hl 2 rfl) ?_
    refine iv_roV (As := [.int (iI b)]) (rest := []) (C := RX5) (n := 1) ⟨hx, hb, hml, hown, hts⟩ (c_X5_isPlace l D yI yC yD mo th re tl a1 a2 a3 a4 a5 a6 a7 a8 S b (by omega) (by omega)) (cwV 1 hts gX5_whyNoRange_X5_isPlace rfl rfl rfl (by decide +kernel) ⟨Nat.le_of_ble_eq_true rfl, Nat.le_of_ble_eq_true rfl⟩) hK hP [0, 1] rfl 0 rfl rfl rfl hl.1 rfl (Nat.le_of_ble_eq_true rfl) dX5_whyNoRange_10 ⟨Nat.zero_le _, Nat.zero_le _⟩ ?_
    refine iv_ifb_ne (P := 0 ≤ b ∧ b < S 0) (tgt := 20) hx hb dX5_whyNoRange_13 (by decide) (fun c13 => ?_) (fun c13 => ?_)
    · refine lv_iload_n hx hb dX5_whyNoRange_20 rfl (lv_at hl 2 rfl) ?_
      refine lv_iload_n hx hb dX5_whyNoRange_21 rfl (lv_at hl 1 rfl) ?_
      refine iv_icmp_ge (a := b) (b := a) (tgt := 29) hx hb (by omega) (by omega) dX5_whyNoRange_22 (by decide) (fun c22 => ?_) (fun c22 => ?_)
      · refine lv_iconst (v := iI 0) hx hb dX5_whyNoRange_29 (by decide +kernel) ?_
        exact W.iret hx hb hr (fun t ht hW => ⟨congrArg (fun z => Outcome.returned (some (Value.int (iI z)))) (show 0 = whyR S a b by unfold whyR; repeat (first | rw [if_pos (by omega)] | rw [if_neg (by omega)])), ht⟩) (fun q h => by cases h) dX5_whyNoRange_30
      · refine lv_iconst (v := iI 2) hx hb dX5_whyNoRange_25 (by decide +kernel) ?_
        refine lv_goto (tgt := 30) hx hb dX5_whyNoRange_26 (by decide) ?_
        exact W.iret hx hb hr (fun t ht hW => ⟨congrArg (fun z => Outcome.returned (some (Value.int (iI z)))) (show 2 = whyR S a b by unfold whyR; repeat (first | rw [if_pos (by omega)] | rw [if_neg (by omega)])), ht⟩) (fun q h => by cases h) dX5_whyNoRange_30
    · refine lv_iconst (v := iI 1) hx hb dX5_whyNoRange_16 (by decide +kernel) ?_
      refine lv_goto (tgt := 30) hx hb dX5_whyNoRange_17 (by decide) ?_
      exact W.iret hx hb hr (fun t ht hW => ⟨congrArg (fun z => Outcome.returned (some (Value.int (iI z)))) (show 1 = whyR S a b by unfold whyR; repeat (first | rw [if_pos (by omega)] | rw [if_neg (by omega)])), ht⟩) (fun q h => by cases h) dX5_whyNoRange_30
set_option maxHeartbeats 4000000 in
set_option maxRecDepth 100000 in
theorem c_X5_isAnswer (l : Launch) (D : va_G) (yI yC yD : ClassId) (mo : Nat) (th : Int) (re : Int) (tl : Int) (a1 : Nat) (a2 : Nat) (a3 : Nat) (a4 : Nat) (a5 : Nat) (a6 : Nat) (a7 : Nat) (a8 : Nat) (S : Int → Int) (i : Int) (h1 : inR i) (h2 : 0 ≤ S 4 ∧ S 4 ≤ 12) : Met l yX5_isAnswer wsX5_isAnswer ({ frames := 1, cells := 0, slots := 0, locals := 22 }) (roP [.ref mo, .int (iI i)] D (tyz yI yC yD) [(mo, oMo th a1 a2 a3 re a4 a5 a6 tl a7 a8), (a1, aI yI 96 S)]) (QcRead (iI (bI (0 ≤ i ∧ i < S 4)))) 0 0 (fun _ => False) := by
  refine Met.ofW (cc := cX5_isAnswer) (maxL := 2) (ret := (some .boolean)) (by decide) rfl ?_
  intro p e s m args below meth c s₁ B hml hv
  obtain ⟨rfl, hP, hK⟩ := hv
  have hx := B.exec
  have hb := B.bytes
  have hr := B.returns
  have hts := atoms_spec (ws := wsX5_isAnswer) B.pre
  have hown : s.vm.findClass RX5 = some m.cls := findClass_of_methodNamed B.named
  have hlocks := B.notSynchronized
  have hP : va_P D vwCl [(mo, oMo th a1 a2 a3 re a4 a5 a6 tl a7 a8), (a1, aI yI 96 S)] s.heap := hP
  have hinX5 : ∀ w ∈ wsX50, w ∈ wsX5_isAnswer := by decide +kernel
  have hf7 : (Cond.fieldLink RX5 7 "RiddleDriveModel" "state" "[I").before _ s = true := hts _ (by decide +kernel)
  have hl := lv_entry ([.ref mo, .int (iI i)]) (n := 2) (Nat.le_of_ble_eq_true rfl)
  rw [lg_entry_eq]
  generalize (lg_sl ([.ref mo, .int (iI i)]) ++ List.replicate (2 - (lg_sl ([.ref mo, .int (iI i)])).length) Slot.unset).toArray = ls at hl ⊢
  have hl : lv_has ls 2 [(0, .ref mo), (1, .int (iI i))] := hl
  refine lv_iload_n hx hb dX5_isAnswer_0 rfl (lv_at hl 1 rfl) ?_
  refine lv_iconst (v := iI 0) hx hb dX5_isAnswer_1 (by decide +kernel) ?_
  refine lv_aload_n hx hb dX5_isAnswer_2 rfl (lv_at hl 0 rfl) ?_
  refine va_get (D := D) (ci := 5) (v := .ref a1) (C := RX5) (T := TX5) (N := 11) hx hb hts hinX5 hown hK hP 0 rfl rfl 1 (by decide) hf7 (fun _ h9 => h9) rfl dX5_isAnswer_3 ?_
  refine lv_iconst (v := iI 4) hx hb dX5_isAnswer_6 (by decide +kernel) ?_
  refine iv_ald hx hb hK hP 1 0 rfl rfl (z := 4) (by omega) (by omega) (by omega) dX5_isAnswer_7 ?_
  refine lv_iconst (v := iI 1) hx hb dX5_isAnswer_8 (by decide +kernel) ?_
  refine iv_sub hx hb dX5_isAnswer_9 ?_
  refine iv_roS (As := [.int (iI i), .int (iI 0), .int (iI (S 4 - 1))]) (rest := []) (n := 3) ⟨hx, hb, hml, hown, hts⟩ (c_X5_within l D yI yC yD i 0 (S 4 - 1) (by omega) (by omega) (by omega)) (va_cwS 3 hts gX5_isAnswer_X5_within rfl rfl rfl (by decide +kernel) ⟨Nat.le_of_ble_eq_true rfl, Nat.le_of_ble_eq_true rfl⟩) hK hP [] rfl rfl hl.1 rfl (Nat.le_of_ble_eq_true rfl) dX5_isAnswer_10 ⟨Nat.zero_le _, Nat.zero_le _⟩ ?_
  exact W.zret hx hb hr (narB _) (fun t ht hW => ⟨congrArg (fun z => Outcome.returned (some (Value.int (iI z)))) (show bI (0 ≤ i ∧ i ≤ (S 4 - 1)) = bI (0 ≤ i ∧ i < S 4) by exact bI_c (by omega)), ht⟩) (fun q h => by cases h) dX5_isAnswer_13
set_option maxHeartbeats 4000000 in
set_option maxRecDepth 100000 in
theorem c_X5_forgetOne (l : Launch) (D : va_G) (yI yC yD : ClassId) (mo : Nat) (th : Int) (re : Int) (tl : Int) (a1 : Nat) (a2 : Nat) (a3 : Nat) (a4 : Nat) (a5 : Nat) (a6 : Nat) (a7 : Nat) (a8 : Nat) (S : Int → Int) (i : Int) (h1 : 0 ≤ i ∧ i < S 4 ∧ S 4 ≤ 12) (sz : Nat) : Met l yX5_forgetOne wsX5_forgetOne ({ frames := 0, cells := 0, slots := 0, locals := 0 }) (rwP [.ref mo, .int (iI i)] D (tyz yI yC yD) [(mo, oMo th a1 a2 a3 re a4 a5 a6 tl a7 a8), (a1, aI yI 96 S)] sz) (va_Qv (fun (_ : Unit) => True) (fun (_ : Unit) (t : State) => va_P D vwCl [(mo, oMo th a1 a2 a3 re a4 a5 a6 tl a7 a8), (a1, aI yI 96 (forget1 S i))] t.heap) (va_A [(mo, oMo th a1 a2 a3 re a4 a5 a6 tl a7 a8), (a1, aI yI 96 S)] sz)) 0 0 (va_A [(mo, oMo th a1 a2 a3 re a4 a5 a6 tl a7 a8), (a1, aI yI 96 S)] sz) := by
  refine Met.ofW (cc := cX5_forgetOne) (maxL := 3) (ret := none) (by decide) rfl ?_
  intro p e s m args below meth c s₁ B hml hv
  obtain ⟨rfl, hsz, hP, hK, hD0⟩ := hv
  have hx := B.exec
  have hb := B.bytes
  have hr := B.returns
  have hts := atoms_spec (ws := wsX5_forgetOne) B.pre
  have hown : s.vm.findClass RX5 = some m.cls := findClass_of_methodNamed B.named
  have hlocks := B.notSynchronized
  subst hsz
  have hD := hD0.self (sz := s.heap.size)
  generalize hAe : va_A [(mo, oMo th a1 a2 a3 re a4 a5 a6 tl a7 a8), (a1, aI yI 96 S)] s.heap.size = A at hD ⊢
  have hA : ∀ q : Nat, s.heap.size ≤ q → A q := fun q h => by rw [← hAe]; exact Or.inr h
  have hS : va_S A s.heap s.heap [] := va_S.rf
  have hP : va_P D vwCl [(mo, oMo th a1 a2 a3 re a4 a5 a6 tl a7 a8), (a1, aI yI 96 S)] s.heap := hP
  have hinX5 : ∀ w ∈ wsX50, w ∈ wsX5_forgetOne := by decide +kernel
  have hf7 : (Cond.fieldLink RX5 7 "RiddleDriveModel" "state" "[I").before _ s = true := hts _ (by decide +kernel)
  have hl := lv_entry ([.ref mo, .int (iI i)]) (n := 3) (Nat.le_of_ble_eq_true rfl)
  rw [lg_entry_eq]
  generalize (lg_sl ([.ref mo, .int (iI i)]) ++ List.replicate (3 - (lg_sl ([.ref mo, .int (iI i)])).length) Slot.unset).toArray = ls at hl ⊢
  have hl : lv_has ls 3 [(0, .ref mo), (1, .int (iI i))] := hl
  refine lv_bipush (v := iI 48) hx hb dX5_forgetOne_0 (by decide +kernel) ?_
  refine lv_iconst (v := iI 4) hx hb dX5_forgetOne_2 (by decide +kernel) ?_
  refine lv_iload_n hx hb dX5_forgetOne_3 rfl (lv_at hl 1 rfl) ?_
  refine iv_mul hx hb dX5_forgetOne_4 ?_
  refine iv_add hx hb dX5_forgetOne_5 ?_
  refine lv_istore_n (lv' := [(2, .int (iI (48 + (4 * i)))), (0, .ref mo), (1, .int (iI i))]) hx hb dX5_forgetOne_6 rfl hl (by decide) rfl (fun ls hl => ?_)
  refine iv_loop (I := fun (qq : Nat × Int × (Int → Int)) H locs ls => match qq with | (k, x2, G) => ((k : Int) ≤ 4 * (S 4 - 1) - 4 * i) ∧ (x2 = 48 + 4 * i + k) ∧ (G = shN S (48 + 4 * i) k) ∧ va_P D vwCl [(mo, oMo th a1 a2 a3 re a4 a5 a6 tl a7 a8), (a1, aI yI 96 G)] H ∧ va_D A [(mo, oMo th a1 a2 a3 re a4 a5 a6 tl a7 a8), (a1, aI yI 96 G)] ∧ va_S A s.heap H locs ∧ lv_has ls 3 [(2, .int (iI x2)), (0, .ref mo), (1, .int (iI i))]) (μ := fun (qq : Nat × Int × (Int → Int)) => match qq with | (k, x2, G) => 48 - k) (0, 48 + 4 * i, S) ?_ ?_
  · exact ⟨by omega, by omega, shN_0, hP, hD, hS, lv_sub hl [0, 1, 2] rfl⟩
  · intro qq H locs ls hI ih7
    obtain ⟨k, x2, G⟩ := qq
    obtain ⟨hk, h5, hG, hP, hD, hS, hl⟩ := hI
    refine lv_iload_n hx hb dX5_forgetOne_7 rfl (lv_at hl 0 rfl) ?_
    refine lv_bipush (v := iI 48) hx hb dX5_forgetOne_8 (by decide +kernel) ?_
    have e4 : G 4 = S 4 := by rw [hG]; exact shN_lo (by omega)
    have e7 : G 7 = S 7 := by rw [hG]; exact shN_lo (by omega)
    refine lv_iconst (v := iI 4) hx hb dX5_forgetOne_10 (by decide +kernel) ?_
    refine lv_aload_n hx hb dX5_forgetOne_11 rfl (lv_at hl 1 rfl) ?_
    refine va_get (D := D) (ci := 5) (v := .ref a1) (C := RX5) (T := TX5) (N := 11) hx hb hts hinX5 hown hK hP 0 rfl rfl 1 (by decide) hf7 (fun _ h9 => h9) rfl dX5_forgetOne_12 ?_
    refine lv_iconst (v := iI 4) hx hb dX5_forgetOne_15 (by decide +kernel) ?_
    refine iv_ald hx hb hK hP 1 0 rfl rfl (z := 4) (by omega) (by omega) (by omega) dX5_forgetOne_16 ?_
    refine lv_iconst (v := iI 1) hx hb dX5_forgetOne_17 (by decide +kernel) ?_
    refine iv_sub hx hb dX5_forgetOne_18 ?_
    refine iv_mul hx hb dX5_forgetOne_19 ?_
    refine iv_add hx hb dX5_forgetOne_20 ?_
    refine iv_icmp_ge (a := x2) (b := 48 + (4 * (G 4 - 1))) (tgt := 44) hx hb (by constructor <;> omega) (by constructor <;> omega) dX5_forgetOne_21 (by decide) (fun c21 => ?_) (fun c21 => ?_)
    · refine lv_aload_n hx hb dX5_forgetOne_44 rfl (lv_at hl 1 rfl) ?_
      refine va_get (D := D) (ci := 5) (v := .ref a1) (C := RX5) (T := TX5) (N := 11) hx hb hts hinX5 hown hK hP 0 rfl rfl 1 (by decide) hf7 (fun _ h9 => h9) rfl dX5_forgetOne_45 ?_
      refine lv_iconst (v := iI 4) hx hb dX5_forgetOne_48 (by decide +kernel) ?_
      refine lv_dup2_11 hx hb dX5_forgetOne_49 rfl rfl ?_
      refine iv_ald hx hb hK hP 1 0 rfl rfl (z := 4) (by omega) (by omega) (by omega) dX5_forgetOne_50 ?_
      refine lv_iconst (v := iI 1) hx hb dX5_forgetOne_51 (by decide +kernel) ?_
      refine iv_sub hx hb dX5_forgetOne_52 ?_
      refine iv_ast hx hb hK hP hD hS 1 0 rfl rfl (z := 4) (v := G 4 - 1) (by omega) (by omega) (by omega) dX5_forgetOne_53 (fun H locs hP hD hS => ?_)
      have hP : va_P D vwCl [(mo, oMo th a1 a2 a3 re a4 a5 a6 tl a7 a8), (a1, aI yI 96 (up G 4 (G 4 - 1)))] H := hP
      have hD : va_D A [(mo, oMo th a1 a2 a3 re a4 a5 a6 tl a7 a8), (a1, aI yI 96 (up G 4 (G 4 - 1)))] := hD
      refine lv_aload_n hx hb dX5_forgetOne_54 rfl (lv_at hl 1 rfl) ?_
      refine va_get (D := D) (ci := 5) (v := .ref a1) (C := RX5) (T := TX5) (N := 11) hx hb hts hinX5 hown hK hP 0 rfl rfl 1 (by decide) hf7 (fun _ h9 => h9) rfl dX5_forgetOne_55 ?_
      refine lv_bipush (v := iI 7) hx hb dX5_forgetOne_58 (by decide +kernel) ?_
      refine lv_dup2_11 hx hb dX5_forgetOne_60 rfl rfl ?_
      refine iv_ald hx hb hK hP 1 0 rfl rfl (z := 7) (by omega) (by omega) (by omega) dX5_forgetOne_61 ?_
      refine lv_iconst (v := iI 1) hx hb dX5_forgetOne_62 (by decide +kernel) ?_
      refine iv_add hx hb dX5_forgetOne_63 ?_
      refine iv_ast hx hb hK hP hD hS 1 0 rfl rfl (z := 7) (v := G 7 + 1) (by omega) (by omega) (by omega) dX5_forgetOne_64 (fun H locs hP hD hS => ?_)
      have hP : va_P D vwCl [(mo, oMo th a1 a2 a3 re a4 a5 a6 tl a7 a8), (a1, aI yI 96 (up (up G 4 (G 4 - 1)) 7 (G 7 + 1)))] H := hP
      have hD : va_D A [(mo, oMo th a1 a2 a3 re a4 a5 a6 tl a7 a8), (a1, aI yI 96 (up (up G 4 (G 4 - 1)) 7 (G 7 + 1)))] := hD
      have hP9 : va_P D vwCl [(mo, oMo th a1 a2 a3 re a4 a5 a6 tl a7 a8), (a1, aI yI 96 (forget1 S i))] _ := (hP.sub (ws' := [(mo, oMo th a1 a2 a3 re a4 a5 a6 tl a7 a8), (a1, aI yI 96 (up (up G 4 (G 4 - 1)) 7 (G 7 + 1)))]) [0, 1] rfl).cv (by rw [forget1_eq (k := k) (by omega) hG])
      exact W.vret hx hb hr (fun t ht hW => ⟨⟨(), rfl, trivial, by show va_P D vwCl _ t.heap; rw [ht]; exact hP9⟩, hS.F ht⟩) hS.2.2 dX5_forgetOne_65
    · refine lv_aload_n hx hb dX5_forgetOne_24 rfl (lv_at hl 1 rfl) ?_
      refine va_get (D := D) (ci := 5) (v := .ref a1) (C := RX5) (T := TX5) (N := 11) hx hb hts hinX5 hown hK hP 0 rfl rfl 1 (by decide) hf7 (fun _ h9 => h9) rfl dX5_forgetOne_25 ?_
      refine lv_iload_n hx hb dX5_forgetOne_28 rfl (lv_at hl 0 rfl) ?_
      refine lv_aload_n hx hb dX5_forgetOne_29 rfl (lv_at hl 1 rfl) ?_
      refine va_get (D := D) (ci := 5) (v := .ref a1) (C := RX5) (T := TX5) (N := 11) hx hb hts hinX5 hown hK hP 0 rfl rfl 1 (by decide) hf7 (fun _ h9 => h9) rfl dX5_forgetOne_30 ?_
      refine lv_iload_n hx hb dX5_forgetOne_33 rfl (lv_at hl 0 rfl) ?_
      refine lv_iconst (v := iI 4) hx hb dX5_forgetOne_34 (by decide +kernel) ?_
      refine iv_add hx hb dX5_forgetOne_35 ?_
      refine iv_ald hx hb hK hP 1 0 rfl rfl (z := x2 + 4) (by omega) (by omega) (by omega) dX5_forgetOne_36 ?_
      refine iv_ast hx hb hK hP hD hS 1 0 rfl rfl (z := x2) (v := G (x2 + 4)) (by omega) (by omega) (by omega) dX5_forgetOne_37 (fun H locs hP hD hS => ?_)
      have hP : va_P D vwCl [(mo, oMo th a1 a2 a3 re a4 a5 a6 tl a7 a8), (a1, aI yI 96 (up G x2 (G (x2 + 4))))] H := hP
      have hD : va_D A [(mo, oMo th a1 a2 a3 re a4 a5 a6 tl a7 a8), (a1, aI yI 96 (up G x2 (G (x2 + 4))))] := hD
      refine iv_inc (lv' := [(2, .int (iI (x2 + 1))), (0, .ref mo), (1, .int (iI i))]) hx hb dX5_forgetOne_38 hl (k := 0) rfl (by decide) rfl (fun ls hl => ?_)
      refine lv_goto (tgt := 7) hx hb dX5_forgetOne_41 (by decide) ?_
      refine ih7 (k + 1, x2 + 1, up G x2 (G (x2 + 4))) _ _ (by show (48 - (k + 1) : Nat) < 48 - k; omega) ?_
      exact ⟨by omega, by omega, by rw [hG, h5]; exact shN_s, hP, hD, hS, lv_sub hl [0, 1, 2] rfl⟩
set_option maxHeartbeats 4000000 in
set_option maxRecDepth 100000 in
theorem c_X5_forgetAll (l : Launch) (D : va_G) (yI yC yD : ClassId) (mo : Nat) (th : Int) (re : Int) (tl : Int) (a1 : Nat) (a2 : Nat) (a3 : Nat) (a4 : Nat) (a5 : Nat) (a6 : Nat) (a7 : Nat) (a8 : Nat) (S : Int → Int)  (sz : Nat) : Met l yX5_forgetAll wsX5_forgetAll ({ frames := 0, cells := 0, slots := 0, locals := 0 }) (rwP [.ref mo] D (tyz yI yC yD) [(mo, oMo th a1 a2 a3 re a4 a5 a6 tl a7 a8), (a1, aI yI 96 S)] sz) (va_Qv (fun (_ : Unit) => True) (fun (_ : Unit) (t : State) => va_P D vwCl [(mo, oMo th a1 a2 a3 re a4 a5 a6 tl a7 a8), (a1, aI yI 96 (forgetA S))] t.heap) (va_A [(mo, oMo th a1 a2 a3 re a4 a5 a6 tl a7 a8), (a1, aI yI 96 S)] sz)) 0 0 (va_A [(mo, oMo th a1 a2 a3 re a4 a5 a6 tl a7 a8), (a1, aI yI 96 S)] sz) := by
  refine Met.ofW (cc := cX5_forgetAll) (maxL := 1) (ret := none) (by decide) rfl ?_
  intro p e s m args below meth c s₁ B hml hv
  obtain ⟨rfl, hsz, hP, hK, hD0⟩ := hv
  have hx := B.exec
  have hb := B.bytes
  have hr := B.returns
  have hts := atoms_spec (ws := wsX5_forgetAll) B.pre
  have hown : s.vm.findClass RX5 = some m.cls := findClass_of_methodNamed B.named
  have hlocks := B.notSynchronized
  subst hsz
  have hD := hD0.self (sz := s.heap.size)
  generalize hAe : va_A [(mo, oMo th a1 a2 a3 re a4 a5 a6 tl a7 a8), (a1, aI yI 96 S)] s.heap.size = A at hD ⊢
  have hA : ∀ q : Nat, s.heap.size ≤ q → A q := fun q h => by rw [← hAe]; exact Or.inr h
  have hS : va_S A s.heap s.heap [] := va_S.rf
  have hP : va_P D vwCl [(mo, oMo th a1 a2 a3 re a4 a5 a6 tl a7 a8), (a1, aI yI 96 S)] s.heap := hP
  have hinX5 : ∀ w ∈ wsX50, w ∈ wsX5_forgetAll := by decide +kernel
  have hf7 : (Cond.fieldLink RX5 7 "RiddleDriveModel" "state" "[I").before _ s = true := hts _ (by decide +kernel)
  have hl := lv_entry ([.ref mo]) (n := 1) (Nat.le_of_ble_eq_true rfl)
  rw [lg_entry_eq]
  generalize (lg_sl ([.ref mo]) ++ List.replicate (1 - (lg_sl ([.ref mo])).length) Slot.unset).toArray = ls at hl ⊢
  have hl : lv_has ls 1 [(0, .ref mo)] := hl
  refine lv_aload_n hx hb dX5_forgetAll_0 rfl (lv_at hl 0 rfl) ?_
  refine va_get (D := D) (ci := 5) (v := .ref a1) (C := RX5) (T := TX5) (N := 11) hx hb hts hinX5 hown hK hP 0 rfl rfl 1 (by decide) hf7 (fun _ h9 => h9) rfl dX5_forgetAll_1 ?_
  refine lv_bipush (v := iI 7) hx hb dX5_forgetAll_4 (by decide +kernel) ?_
  refine lv_dup2_11 hx hb dX5_forgetAll_6 rfl rfl ?_
  refine iv_ald hx hb hK hP 1 0 rfl rfl (z := 7) (by omega) (by omega) (by omega) dX5_forgetAll_7 ?_
  refine lv_aload_n hx hb dX5_forgetAll_8 rfl (lv_at hl 0 rfl) ?_
  refine va_get (D := D) (ci := 5) (v := .ref a1) (C := RX5) (T := TX5) (N := 11) hx hb hts hinX5 hown hK hP 0 rfl rfl 1 (by decide) hf7 (fun _ h9 => h9) rfl dX5_forgetAll_9 ?_
  refine lv_iconst (v := iI 4) hx hb dX5_forgetAll_12 (by decide +kernel) ?_
  refine iv_ald hx hb hK hP 1 0 rfl rfl (z := 4) (by omega) (by omega) (by omega) dX5_forgetAll_13 ?_
  refine iv_add hx hb dX5_forgetAll_14 ?_
  refine iv_ast hx hb hK hP hD hS 1 0 rfl rfl (z := 7) (v := S 7 + (S 4)) (by omega) (by omega) (by omega) dX5_forgetAll_15 (fun H locs hP hD hS => ?_)
  have hP : va_P D vwCl [(mo, oMo th a1 a2 a3 re a4 a5 a6 tl a7 a8), (a1, aI yI 96 (up S 7 (S 7 + (S 4))))] H := hP
  have hD : va_D A [(mo, oMo th a1 a2 a3 re a4 a5 a6 tl a7 a8), (a1, aI yI 96 (up S 7 (S 7 + (S 4))))] := hD
  refine lv_aload_n hx hb dX5_forgetAll_16 rfl (lv_at hl 0 rfl) ?_
  refine va_get (D := D) (ci := 5) (v := .ref a1) (C := RX5) (T := TX5) (N := 11) hx hb hts hinX5 hown hK hP 0 rfl rfl 1 (by decide) hf7 (fun _ h9 => h9) rfl dX5_forgetAll_17 ?_
  refine lv_iconst (v := iI 4) hx hb dX5_forgetAll_20 (by decide +kernel) ?_
  refine lv_iconst (v := iI 0) hx hb dX5_forgetAll_21 (by decide +kernel) ?_
  refine iv_ast hx hb hK hP hD hS 1 0 rfl rfl (z := 4) (v := 0) (by omega) (by omega) (by omega) dX5_forgetAll_22 (fun H locs hP hD hS => ?_)
  have hP : va_P D vwCl [(mo, oMo th a1 a2 a3 re a4 a5 a6 tl a7 a8), (a1, aI yI 96 (up (up S 7 (S 7 + (S 4))) 4 0))] H := hP
  have hD : va_D A [(mo, oMo th a1 a2 a3 re a4 a5 a6 tl a7 a8), (a1, aI yI 96 (up (up S 7 (S 7 + (S 4))) 4 0))] := hD
  have hP9 : va_P D vwCl [(mo, oMo th a1 a2 a3 re a4 a5 a6 tl a7 a8), (a1, aI yI 96 (forgetA S))] _ := (hP.sub (ws' := [(mo, oMo th a1 a2 a3 re a4 a5 a6 tl a7 a8), (a1, aI yI 96 (up (up S 7 (S 7 + (S 4))) 4 0))]) [0, 1] rfl).cv (by rw [forgetA_eq])
  exact W.vret hx hb hr (fun t ht hW => ⟨⟨(), rfl, trivial, by show va_P D vwCl _ t.heap; rw [ht]; exact hP9⟩, hS.F ht⟩) hS.2.2 dX5_forgetAll_23
set_option maxHeartbeats 4000000 in
set_option maxRecDepth 100000 in
theorem c_X5_isSetting (l : Launch) (D : va_G) (yI yC yD : ClassId) (what : Int) (v : Int) (h1 : inR what ∧ inR v) : Met l yX5_isSetting wsX5_isSetting ({ frames := 1, cells := 0, slots := 0, locals := 22 }) (roP [.int (iI what), .int (iI v)] D (tyz yI yC yD) []) (QcRead (iI (bI (okS what v)))) 0 0 (fun _ => False) := by
  refine Met.ofW (cc := cX5_isSetting) (maxL := 2) (ret := (some .boolean)) (by decide) rfl ?_
  intro p e s m args below meth c s₁ B hml hv
  obtain ⟨rfl, hP, hK⟩ := hv
  have hx := B.exec
  have hb := B.bytes
  have hr := B.returns
  have hts := atoms_spec (ws := wsX5_isSetting) B.pre
  have hown : s.vm.findClass RX5 = some m.cls := findClass_of_methodNamed B.named
  have hlocks := B.notSynchronized
  have hP : va_P D vwCl [] s.heap := hP
  have hl := lv_entry ([.int (iI what), .int (iI v)]) (n := 2) (Nat.le_of_ble_eq_true rfl)
  rw [lg_entry_eq]
  generalize (lg_sl ([.int (iI what), .int (iI v)]) ++ List.replicate (2 - (lg_sl ([.int (iI what), .int (iI v)])).length) Slot.unset).toArray = ls at hl ⊢
  have hl : lv_has ls 2 [(0, .int (iI what)), (1, .int (iI v))] := hl
  refine lv_iload_n hx hb dX5_isSetting_0 rfl (lv_at hl 0 rfl) ?_
  refine iv_if_ne (a := what) (tgt := 14) hx hb (by omega) dX5_isSetting_1 (by decide) (fun c1 => ?_) (fun c1 => ?_)
  · refine lv_iload_n hx hb dX5_isSetting_14 rfl (lv_at hl 0 rfl) ?_
    refine lv_iconst (v := iI 1) hx hb dX5_isSetting_15 (by decide +kernel) ?_
    refine iv_icmp_ne (a := what) (b := 1) (tgt := 28) hx hb (by omega) (by omega) dX5_isSetting_16 (by decide) (fun c16 => ?_) (fun c16 => ?_)
    · refine lv_iload_n hx hb dX5_isSetting_28 rfl (lv_at hl 0 rfl) ?_
      refine lv_iconst (v := iI 2) hx hb dX5_isSetting_29 (by decide +kernel) ?_
      refine iv_icmp_ne (a := what) (b := 2) (tgt := 47) hx hb (by omega) (by omega) dX5_isSetting_30 (by decide) (fun c30 => ?_) (fun c30 => ?_)
      · refine lv_iconst (v := iI 0) hx hb dX5_isSetting_47 (by decide +kernel) ?_
        exact W.zret hx hb hr (by decide +kernel) (fun t ht hW => ⟨congrArg (fun z => Outcome.returned (some (Value.int (iI z)))) (show 0 = bI (okS what v) by first | exact bI_c (by unfold okS; omega) | exact (bI_t (by unfold okS; omega)).symm | exact (bI_f (by unfold okS; omega)).symm), ht⟩) (fun q h => by cases h) dX5_isSetting_48
      · refine lv_iload_n hx hb dX5_isSetting_33 rfl (lv_at hl 1 rfl) ?_
        refine lv_iconst (v := iI 0) hx hb dX5_isSetting_34 (by decide +kernel) ?_
        refine lv_bipush (v := iI 9) hx hb dX5_isSetting_35 (by decide +kernel) ?_
        refine iv_roS (As := [.int (iI v), .int (iI 0), .int (iI 9)]) (rest := []) (n := 3) ⟨hx, hb, hml, hown, hts⟩ (c_X5_within l D yI yC yD v 0 9 (by omega) (by omega) (by omega)) (va_cwS 3 hts gX5_isSetting_X5_within rfl rfl rfl (by decide +kernel) ⟨Nat.le_of_ble_eq_true rfl, Nat.le_of_ble_eq_true rfl⟩) hK hP [] rfl rfl hl.1 rfl (Nat.le_of_ble_eq_true rfl) dX5_isSetting_37 ⟨Nat.zero_le _, Nat.zero_le _⟩ ?_
        refine iv_ifb_eq (P := 0 ≤ v ∧ v ≤ 9) (tgt := 47) hx hb dX5_isSetting_40 (by decide) (fun c40 => ?_) (fun c40 => ?_)
        · refine lv_iconst (v := iI 0) hx hb dX5_isSetting_47 (by decide +kernel) ?_
          exact W.zret hx hb hr (by decide +kernel) (fun t ht hW => ⟨congrArg (fun z => Outcome.returned (some (Value.int (iI z)))) (show 0 = bI (okS what v) by first | exact bI_c (by unfold okS; omega) | exact (bI_t (by unfold okS; omega)).symm | exact (bI_f (by unfold okS; omega)).symm), ht⟩) (fun q h => by cases h) dX5_isSetting_48
        · refine lv_iconst (v := iI 1) hx hb dX5_isSetting_43 (by decide +kernel) ?_
          refine lv_goto (tgt := 48) hx hb dX5_isSetting_44 (by decide) ?_
          exact W.zret hx hb hr (by decide +kernel) (fun t ht hW => ⟨congrArg (fun z => Outcome.returned (some (Value.int (iI z)))) (show 1 = bI (okS what v) by first | exact bI_c (by unfold okS; omega) | exact (bI_t (by unfold okS; omega)).symm | exact (bI_f (by unfold okS; omega)).symm), ht⟩) (fun q h => by cases h) dX5_isSetting_48
    · refine lv_iload_n hx hb dX5_isSetting_19 rfl (lv_at hl 1 rfl) ?_
      refine lv_iconst (v := iI 0) hx hb dX5_isSetting_20 (by decide +kernel) ?_
      refine lv_iconst (v := iI 4) hx hb dX5_isSetting_21 (by decide +kernel) ?_
      refine iv_roS (As := [.int (iI v), .int (iI 0), .int (iI 4)]) (rest := []) (n := 3) ⟨hx, hb, hml, hown, hts⟩ (c_X5_within l D yI yC yD v 0 4 (by omega) (by omega) (by omega)) (va_cwS 3 hts gX5_isSetting_X5_within rfl rfl rfl (by decide +kernel) ⟨Nat.le_of_ble_eq_true rfl, Nat.le_of_ble_eq_true rfl⟩) hK hP [] rfl rfl hl.1 rfl (Nat.le_of_ble_eq_true rfl) dX5_isSetting_22 ⟨Nat.zero_le _, Nat.zero_le _⟩ ?_
      refine lv_goto (tgt := 48) hx hb dX5_isSetting_25 (by decide) ?_
      exact W.zret hx hb hr (narB _) (fun t ht hW => ⟨congrArg (fun z => Outcome.returned (some (Value.int (iI z)))) (show bI (0 ≤ v ∧ v ≤ 4) = bI (okS what v) by first | exact bI_c (by unfold okS; omega) | exact (bI_t (by unfold okS; omega)).symm | exact (bI_f (by unfold okS; omega)).symm), ht⟩) (fun q h => by cases h) dX5_isSetting_48
  · refine lv_iload_n hx hb dX5_isSetting_4 rfl (lv_at hl 1 rfl) ?_
    refine lv_iconst (v := iI 1) hx hb dX5_isSetting_5 (by decide +kernel) ?_
    refine lv_bipush (v := iI 8) hx hb dX5_isSetting_6 (by decide +kernel) ?_
    refine iv_roS (As := [.int (iI v), .int (iI 1), .int (iI 8)]) (rest := []) (n := 3) ⟨hx, hb, hml, hown, hts⟩ (c_X5_within l D yI yC yD v 1 8 (by omega) (by omega) (by omega)) (va_cwS 3 hts gX5_isSetting_X5_within rfl rfl rfl (by decide +kernel) ⟨Nat.le_of_ble_eq_true rfl, Nat.le_of_ble_eq_true rfl⟩) hK hP [] rfl rfl hl.1 rfl (Nat.le_of_ble_eq_true rfl) dX5_isSetting_8 ⟨Nat.zero_le _, Nat.zero_le _⟩ ?_
    refine lv_goto (tgt := 48) hx hb dX5_isSetting_11 (by decide) ?_
    exact W.zret hx hb hr (narB _) (fun t ht hW => ⟨congrArg (fun z => Outcome.returned (some (Value.int (iI z)))) (show bI (1 ≤ v ∧ v ≤ 8) = bI (okS what v) by first | exact bI_c (by unfold okS; omega) | exact (bI_t (by unfold okS; omega)).symm | exact (bI_f (by unfold okS; omega)).symm), ht⟩) (fun q h => by cases h) dX5_isSetting_48
set_option maxHeartbeats 4000000 in
set_option maxRecDepth 100000 in
theorem c_X5_changed (l : Launch) (D : va_G) (yI yC yD : ClassId) (mo : Nat) (th : Int) (re : Int) (tl : Int) (a1 : Nat) (a2 : Nat) (a3 : Nat) (a4 : Nat) (a5 : Nat) (a6 : Nat) (a7 : Nat) (a8 : Nat) (S : Int → Int) (what : Int) (v : Int) (h1 : 0 ≤ what ∧ what ≤ 2) (h2 : inR v ∧ inR (S (1 + what))) (sz : Nat) : Met l yX5_changed wsX5_changed ({ frames := 1, cells := 0, slots := 0, locals := 20 }) (rwP [.ref mo, .int (iI what), .int (iI v)] D (tyz yI yC yD) [(mo, oMo th a1 a2 a3 re a4 a5 a6 tl a7 a8), (a1, aI yI 96 S)] sz) (va_Qi (fun (r : Int32) (_ : Unit) => r = iI (S (1 + what)) ∧ True) (fun (_ : Unit) (t : State) => va_P D vwCl [(mo, oMo th a1 a2 a3 re a4 a5 a6 tl a7 a8), (a1, aI yI 96 (setg S what v))] t.heap) (va_A [(mo, oMo th a1 a2 a3 re a4 a5 a6 tl a7 a8), (a1, aI yI 96 S)] sz)) 0 0 (va_A [(mo, oMo th a1 a2 a3 re a4 a5 a6 tl a7 a8), (a1, aI yI 96 S)] sz) := by
  refine Met.ofW (cc := cX5_changed) (maxL := 4) (ret := (some .int)) (by decide) rfl ?_
  intro p e s m args below meth c s₁ B hml hv
  obtain ⟨rfl, hsz, hP, hK, hD0⟩ := hv
  have hx := B.exec
  have hb := B.bytes
  have hr := B.returns
  have hts := atoms_spec (ws := wsX5_changed) B.pre
  have hown : s.vm.findClass RX5 = some m.cls := findClass_of_methodNamed B.named
  have hlocks := B.notSynchronized
  subst hsz
  have hD := hD0.self (sz := s.heap.size)
  generalize hAe : va_A [(mo, oMo th a1 a2 a3 re a4 a5 a6 tl a7 a8), (a1, aI yI 96 S)] s.heap.size = A at hD ⊢
  have hA : ∀ q : Nat, s.heap.size ≤ q → A q := fun q h => by rw [← hAe]; exact Or.inr h
  have hS : va_S A s.heap s.heap [] := va_S.rf
  have hP : va_P D vwCl [(mo, oMo th a1 a2 a3 re a4 a5 a6 tl a7 a8), (a1, aI yI 96 S)] s.heap := hP
  have hinX5 : ∀ w ∈ wsX50, w ∈ wsX5_changed := by decide +kernel
  have hf7 : (Cond.fieldLink RX5 7 "RiddleDriveModel" "state" "[I").before _ s = true := hts _ (by decide +kernel)
  have hl := lv_entry ([.ref mo, .int (iI what), .int (iI v)]) (n := 4) (Nat.le_of_ble_eq_true rfl)
  rw [lg_entry_eq]
  generalize (lg_sl ([.ref mo, .int (iI what), .int (iI v)]) ++ List.replicate (4 - (lg_sl ([.ref mo, .int (iI what), .int (iI v)])).length) Slot.unset).toArray = ls at hl ⊢
  have hl : lv_has ls 4 [(0, .ref mo), (1, .int (iI what)), (2, .int (iI v))] := hl
  refine lv_aload_n hx hb dX5_changed_0 rfl (lv_at hl 0 rfl) ?_
  refine va_get (D := D) (ci := 5) (v := .ref a1) (C := RX5) (T := TX5) (N := 11) hx hb hts hinX5 hown hK hP 0 rfl rfl 1 (by decide) hf7 (fun _ h9 => h9) rfl dX5_changed_1 ?_
  refine lv_iconst (v := iI 1) hx hb dX5_changed_4 (by decide +kernel) ?_
  refine lv_iload_n hx hb dX5_changed_5 rfl (lv_at hl 1 rfl) ?_
  refine iv_add hx hb dX5_changed_6 ?_
  refine iv_ald hx hb hK hP 1 0 rfl rfl (z := 1 + what) (by omega) (by omega) (by omega) dX5_changed_7 ?_
  refine lv_istore_n (lv' := [(3, .int (iI (S (1 + what)))), (0, .ref mo), (1, .int (iI what)), (2, .int (iI v))]) hx hb dX5_changed_8 rfl hl (by decide) rfl (fun ls hl => ?_)
  refine lv_aload_n hx hb dX5_changed_9 rfl (lv_at hl 1 rfl) ?_
  refine va_get (D := D) (ci := 5) (v := .ref a1) (C := RX5) (T := TX5) (N := 11) hx hb hts hinX5 hown hK hP 0 rfl rfl 1 (by decide) hf7 (fun _ h9 => h9) rfl dX5_changed_10 ?_
  refine lv_iconst (v := iI 1) hx hb dX5_changed_13 (by decide +kernel) ?_
  refine lv_iload_n hx hb dX5_changed_14 rfl (lv_at hl 2 rfl) ?_
  refine iv_add hx hb dX5_changed_15 ?_
  refine lv_iload_n hx hb dX5_changed_16 rfl (lv_at hl 3 rfl) ?_
  refine iv_ast hx hb hK hP hD hS 1 0 rfl rfl (z := 1 + what) (v := v) (by omega) (by omega) (by omega) dX5_changed_17 (fun H locs hP hD hS => ?_)
  have hP : va_P D vwCl [(mo, oMo th a1 a2 a3 re a4 a5 a6 tl a7 a8), (a1, aI yI 96 (up S (1 + what) v))] H := hP
  have hD : va_D A [(mo, oMo th a1 a2 a3 re a4 a5 a6 tl a7 a8), (a1, aI yI 96 (up S (1 + what) v))] := hD
  refine lv_iload_n hx hb dX5_changed_18 rfl (lv_at hl 2 rfl) ?_
  refine lv_iconst (v := iI 1) hx hb dX5_changed_19 (by decide +kernel) ?_
  refine iv_icmp_ne (a := what) (b := 1) (tgt := 32) hx hb (by omega) (by omega) dX5_changed_20 (by decide) (fun c20 => ?_) (fun c20 => ?_)
  · refine lv_iload_n hx hb dX5_changed_32 rfl (lv_at hl 0 rfl) ?_
    have hP9 : va_P D vwCl [(mo, oMo th a1 a2 a3 re a4 a5 a6 tl a7 a8), (a1, aI yI 96 (setg S what v))] _ := (hP.sub (ws' := [(mo, oMo th a1 a2 a3 re a4 a5 a6 tl a7 a8), (a1, aI yI 96 (up S (1 + what) v))]) [0, 1] rfl).cv (by unfold setg; first | rw [if_pos (by omega)] | rw [if_neg (by omega)])
    exact W.iret hx hb hr (fun t ht hW => ⟨⟨iI (S (1 + what)), (), rfl, ⟨rfl, trivial⟩, by show va_P D vwCl _ t.heap; rw [ht]; exact hP9⟩, hS.F ht⟩) hS.2.2 dX5_changed_33
  · refine lv_iload_n hx hb dX5_changed_23 rfl (lv_at hl 0 rfl) ?_
    refine lv_iload_n hx hb dX5_changed_24 rfl (lv_at hl 3 rfl) ?_
    refine iv_icmp_eq (a := S (1 + what)) (b := v) (tgt := 32) hx hb (by omega) (by omega) dX5_changed_25 (by decide) (fun c25 => ?_) (fun c25 => ?_)
    · refine lv_iload_n hx hb dX5_changed_32 rfl (lv_at hl 0 rfl) ?_
      have hP9 : va_P D vwCl [(mo, oMo th a1 a2 a3 re a4 a5 a6 tl a7 a8), (a1, aI yI 96 (setg S what v))] _ := (hP.sub (ws' := [(mo, oMo th a1 a2 a3 re a4 a5 a6 tl a7 a8), (a1, aI yI 96 (up S (1 + what) v))]) [0, 1] rfl).cv (by unfold setg; first | rw [if_pos (by omega)] | rw [if_neg (by omega)])
      exact W.iret hx hb hr (fun t ht hW => ⟨⟨iI (S (1 + what)), (), rfl, ⟨rfl, trivial⟩, by show va_P D vwCl _ t.heap; rw [ht]; exact hP9⟩, hS.F ht⟩) hS.2.2 dX5_changed_33
    · refine lv_aload_n hx hb dX5_changed_28 rfl (lv_at hl 1 rfl) ?_
      refine iv_rwVv (As := []) (rest := []) (C := RX5) (n := 0) ⟨hx, hb, hml, hown, hts⟩ (c_X5_forgetAll l D yI yC yD mo th re tl a1 a2 a3 a4 a5 a6 a7 a8 (up S (1 + what) v)  _) (cwV 0 hts gX5_changed_X5_forgetAll rfl rfl rfl (by decide +kernel) ⟨Nat.le_of_ble_eq_true rfl, Nat.le_of_ble_eq_true rfl⟩) hK hP hD hS hA [0, 1] (by decide) rfl 0 rfl rfl rfl hl.1 rfl (Nat.le_of_ble_eq_true rfl) dX5_changed_29 ⟨Nat.zero_le _, Nat.zero_le _⟩ (fun _ => rfl) (fun u29 H locs hw29 hP hD hS => ?_)
      have hP : va_P D vwCl [(mo, oMo th a1 a2 a3 re a4 a5 a6 tl a7 a8), (a1, aI yI 96 (forgetA (up S (1 + what) v)))] H := hP
      have hD : va_D A [(mo, oMo th a1 a2 a3 re a4 a5 a6 tl a7 a8), (a1, aI yI 96 (forgetA (up S (1 + what) v)))] := hD
      refine lv_iload_n hx hb dX5_changed_32 rfl (lv_at hl 0 rfl) ?_
      have hP9 : va_P D vwCl [(mo, oMo th a1 a2 a3 re a4 a5 a6 tl a7 a8), (a1, aI yI 96 (setg S what v))] _ := (hP.sub (ws' := [(mo, oMo th a1 a2 a3 re a4 a5 a6 tl a7 a8), (a1, aI yI 96 (forgetA (up S (1 + what) v)))]) [0, 1] rfl).cv (by unfold setg; first | rw [if_pos (by omega)] | rw [if_neg (by omega)])
      exact W.iret hx hb hr (fun t ht hW => ⟨⟨iI (S (1 + what)), (), rfl, ⟨rfl, trivial⟩, by show va_P D vwCl _ t.heap; rw [ht]; exact hP9⟩, hS.F ht⟩) hS.2.2 dX5_changed_33
set_option maxHeartbeats 4000000 in
set_option maxRecDepth 100000 in
theorem c_X5_isSlot (l : Launch) (D : va_G) (yI yC yD : ClassId) (sl : Int) (h1 : inR sl) : Met l yX5_isSlot wsX5_isSlot ({ frames := 0, cells := 0, slots := 0, locals := 0 }) (roP [.int (iI sl)] D (tyz yI yC yD) []) (QcRead (iI (bI (0 ≤ sl ∧ sl < 2)))) 0 0 (fun _ => False) := by
  refine Met.ofW (cc := cX5_isSlot) (maxL := 1) (ret := (some .boolean)) (by decide) rfl ?_
  intro p e s m args below meth c s₁ B hml hv
  obtain ⟨rfl, hP, hK⟩ := hv
  have hx := B.exec
  have hb := B.bytes
  have hr := B.returns
  have hts := atoms_spec (ws := wsX5_isSlot) B.pre
  have hown : s.vm.findClass RX5 = some m.cls := findClass_of_methodNamed B.named
  have hlocks := B.notSynchronized
  have hP : va_P D vwCl [] s.heap := hP
  have hl := lv_entry ([.int (iI sl)]) (n := 1) (Nat.le_of_ble_eq_true rfl)
  rw [lg_entry_eq]
  generalize (lg_sl ([.int (iI sl)]) ++ List.replicate (1 - (lg_sl ([.int (iI sl)])).length) Slot.unset).toArray = ls at hl ⊢
  have hl : lv_has ls 1 [(0, .int (iI sl))] := hl
  refine lv_iload_n hx hb dX5_isSlot_0 rfl (lv_at hl 0 rfl) ?_
  refine iv_if_eq (a := sl) (tgt := 9) hx hb (by omega) dX5_isSlot_1 (by decide) (fun c1 => ?_) (fun c1 => ?_)
  · refine lv_iconst (v := iI 1) hx hb dX5_isSlot_9 (by decide +kernel) ?_
    refine lv_goto (tgt := 14) hx hb dX5_isSlot_10 (by decide) ?_
    exact W.zret hx hb hr (by decide +kernel) (fun t ht hW => ⟨congrArg (fun z => Outcome.returned (some (Value.int (iI z)))) (show 1 = bI (0 ≤ sl ∧ sl < 2) by first | exact (bI_t (by omega)).symm | exact (bI_f (by omega)).symm), ht⟩) (fun q h => by cases h) dX5_isSlot_14
  · refine lv_iload_n hx hb dX5_isSlot_4 rfl (lv_at hl 0 rfl) ?_
    refine lv_iconst (v := iI 1) hx hb dX5_isSlot_5 (by decide +kernel) ?_
    refine iv_icmp_ne (a := sl) (b := 1) (tgt := 13) hx hb (by omega) (by omega) dX5_isSlot_6 (by decide) (fun c6 => ?_) (fun c6 => ?_)
    · refine lv_iconst (v := iI 0) hx hb dX5_isSlot_13 (by decide +kernel) ?_
      exact W.zret hx hb hr (by decide +kernel) (fun t ht hW => ⟨congrArg (fun z => Outcome.returned (some (Value.int (iI z)))) (show 0 = bI (0 ≤ sl ∧ sl < 2) by first | exact (bI_t (by omega)).symm | exact (bI_f (by omega)).symm), ht⟩) (fun q h => by cases h) dX5_isSlot_14
    · refine lv_iconst (v := iI 1) hx hb dX5_isSlot_9 (by decide +kernel) ?_
      refine lv_goto (tgt := 14) hx hb dX5_isSlot_10 (by decide) ?_
      exact W.zret hx hb hr (by decide +kernel) (fun t ht hW => ⟨congrArg (fun z => Outcome.returned (some (Value.int (iI z)))) (show 1 = bI (0 ≤ sl ∧ sl < 2) by first | exact (bI_t (by omega)).symm | exact (bI_f (by omega)).symm), ht⟩) (fun q h => by cases h) dX5_isSlot_14
set_option maxHeartbeats 4000000 in
set_option maxRecDepth 100000 in
theorem c_X5_thrown (l : Launch) (D : va_G) (yI yC yD : ClassId) (mo : Nat) (th : Int) (re : Int) (tl : Int) (a1 : Nat) (a2 : Nat) (a3 : Nat) (a4 : Nat) (a5 : Nat) (a6 : Nat) (a7 : Nat) (a8 : Nat)  : Met l yX5_thrown wsX5_thrown ({ frames := 0, cells := 0, slots := 0, locals := 0 }) (roP [.ref mo] D (tyz yI yC yD) [(mo, oMo th a1 a2 a3 re a4 a5 a6 tl a7 a8)]) (QcRead (iI th)) 0 0 (fun _ => False) := by
  refine Met.ofW (cc := cX5_thrown) (maxL := 1) (ret := (some .int)) (by decide) rfl ?_
  intro p e s m args below meth c s₁ B hml hv
  obtain ⟨rfl, hP, hK⟩ := hv
  have hx := B.exec
  have hb := B.bytes
  have hr := B.returns
  have hts := atoms_spec (ws := wsX5_thrown) B.pre
  have hown : s.vm.findClass RX5 = some m.cls := findClass_of_methodNamed B.named
  have hlocks := B.notSynchronized
  have hP : va_P D vwCl [(mo, oMo th a1 a2 a3 re a4 a5 a6 tl a7 a8)] s.heap := hP
  have hinX5 : ∀ w ∈ wsX50, w ∈ wsX5_thrown := by decide +kernel
  have hf38 : (Cond.fieldLink RX5 38 "RiddleDriveModel" "thrown" "I").before _ s = true := hts _ (by decide +kernel)
  have hl := lv_entry ([.ref mo]) (n := 1) (Nat.le_of_ble_eq_true rfl)
  rw [lg_entry_eq]
  generalize (lg_sl ([.ref mo]) ++ List.replicate (1 - (lg_sl ([.ref mo])).length) Slot.unset).toArray = ls at hl ⊢
  have hl : lv_has ls 1 [(0, .ref mo)] := hl
  refine lv_aload_n hx hb dX5_thrown_0 rfl (lv_at hl 0 rfl) ?_
  refine va_get (D := D) (ci := 5) (v := .int (iI th)) (C := RX5) (T := TX5) (N := 11) hx hb hts hinX5 hown hK hP 0 rfl rfl 0 (by decide) hf38 (fun _ h9 => h9) rfl dX5_thrown_1 ?_
  exact W.iret hx hb hr (fun t ht hW => ⟨rfl, ht⟩) (fun q h => by cases h) dX5_thrown_4
set_option maxHeartbeats 4000000 in
set_option maxRecDepth 100000 in
theorem c_X5_renew (l : Launch) (D : va_G) (yI yC yD : ClassId) (mo : Nat) (th : Int) (re : Int) (tl : Int) (a1 : Nat) (a2 : Nat) (a3 : Nat) (a4 : Nat) (a5 : Nat) (a6 : Nat) (a7 : Nat) (a8 : Nat) (S : Int → Int) (pl : Int)  (sz : Nat) : Met l yX5_renew wsX5_renew ({ frames := 0, cells := 0, slots := 0, locals := 0 }) (rwP [.ref mo, .int (iI pl)] D (tyz yI yC yD) [(mo, oMo th a1 a2 a3 re a4 a5 a6 tl a7 a8), (a1, aI yI 96 S)] sz) (va_Qv (fun (_ : Unit) => True) (fun (_ : Unit) (t : State) => va_P D vwCl [(mo, oMo th a1 a2 a3 re a4 a5 a6 tl a7 a8), (a1, aI yI 96 (newS pl))] t.heap) (va_A [(mo, oMo th a1 a2 a3 re a4 a5 a6 tl a7 a8), (a1, aI yI 96 S)] sz)) 0 0 (va_A [(mo, oMo th a1 a2 a3 re a4 a5 a6 tl a7 a8), (a1, aI yI 96 S)] sz) := by
  refine Met.ofW (cc := cX5_renew) (maxL := 3) (ret := none) (by decide) rfl ?_
  intro p e s m args below meth c s₁ B hml hv
  obtain ⟨rfl, hsz, hP, hK, hD0⟩ := hv
  have hx := B.exec
  have hb := B.bytes
  have hr := B.returns
  have hts := atoms_spec (ws := wsX5_renew) B.pre
  have hown : s.vm.findClass RX5 = some m.cls := findClass_of_methodNamed B.named
  have hlocks := B.notSynchronized
  subst hsz
  have hD := hD0.self (sz := s.heap.size)
  generalize hAe : va_A [(mo, oMo th a1 a2 a3 re a4 a5 a6 tl a7 a8), (a1, aI yI 96 S)] s.heap.size = A at hD ⊢
  have hA : ∀ q : Nat, s.heap.size ≤ q → A q := fun q h => by rw [← hAe]; exact Or.inr h
  have hS : va_S A s.heap s.heap [] := va_S.rf
  have hP : va_P D vwCl [(mo, oMo th a1 a2 a3 re a4 a5 a6 tl a7 a8), (a1, aI yI 96 S)] s.heap := hP
  have hinX5 : ∀ w ∈ wsX50, w ∈ wsX5_renew := by decide +kernel
  have hf7 : (Cond.fieldLink RX5 7 "RiddleDriveModel" "state" "[I").before _ s = true := hts _ (by decide +kernel)
  have hl := lv_entry ([.ref mo, .int (iI pl)]) (n := 3) (Nat.le_of_ble_eq_true rfl)
  rw [lg_entry_eq]
  generalize (lg_sl ([.ref mo, .int (iI pl)]) ++ List.replicate (3 - (lg_sl ([.ref mo, .int (iI pl)])).length) Slot.unset).toArray = ls at hl ⊢
  have hl : lv_has ls 3 [(0, .ref mo), (1, .int (iI pl))] := hl
  refine lv_iconst (v := iI 0) hx hb dX5_renew_0 (by decide +kernel) ?_
  refine lv_istore_n (lv' := [(2, .int (iI 0)), (0, .ref mo), (1, .int (iI pl))]) hx hb dX5_renew_1 rfl hl (by decide) rfl (fun ls hl => ?_)
  refine iv_loop (I := fun (qq : Nat × Int × (Int → Int)) H locs ls => match qq with | (k, x2, G) => (k ≤ 96) ∧ (x2 = k) ∧ (∀ z : Int, 0 ≤ z → z < k → G z = 0) ∧ va_P D vwCl [(mo, oMo th a1 a2 a3 re a4 a5 a6 tl a7 a8), (a1, aI yI 96 G)] H ∧ va_D A [(mo, oMo th a1 a2 a3 re a4 a5 a6 tl a7 a8), (a1, aI yI 96 G)] ∧ va_S A s.heap H locs ∧ lv_has ls 3 [(2, .int (iI x2)), (0, .ref mo), (1, .int (iI pl))]) (μ := fun (qq : Nat × Int × (Int → Int)) => match qq with | (k, x2, G) => 96 - k) (0, 0, S) ?_ ?_
  · exact ⟨by omega, by omega, fun z h1 h2 => by omega, hP, hD, hS, lv_sub hl [0, 1, 2] rfl⟩
  · intro qq H locs ls hI ih2
    obtain ⟨k, x2, G⟩ := qq
    obtain ⟨hk, h5, hG, hP, hD, hS, hl⟩ := hI
    refine lv_iload_n hx hb dX5_renew_2 rfl (lv_at hl 0 rfl) ?_
    refine lv_bipush (v := iI 96) hx hb dX5_renew_3 (by decide +kernel) ?_
    refine iv_icmp_ge (a := x2) (b := 96) (tgt := 21) hx hb (by omega) (by omega) dX5_renew_5 (by decide) (fun c5 => ?_) (fun c5 => ?_)
    · refine lv_aload_n hx hb dX5_renew_21 rfl (lv_at hl 1 rfl) ?_
      refine va_get (D := D) (ci := 5) (v := .ref a1) (C := RX5) (T := TX5) (N := 11) hx hb hts hinX5 hown hK hP 0 rfl rfl 1 (by decide) hf7 (fun _ h9 => h9) rfl dX5_renew_22 ?_
      refine lv_iconst (v := iI 0) hx hb dX5_renew_25 (by decide +kernel) ?_
      refine lv_iload_n hx hb dX5_renew_26 rfl (lv_at hl 2 rfl) ?_
      refine iv_ast hx hb hK hP hD hS 1 0 rfl rfl (z := 0) (v := pl) (by omega) (by omega) (by omega) dX5_renew_27 (fun H locs hP hD hS => ?_)
      have hP : va_P D vwCl [(mo, oMo th a1 a2 a3 re a4 a5 a6 tl a7 a8), (a1, aI yI 96 (up G 0 pl))] H := hP
      have hD : va_D A [(mo, oMo th a1 a2 a3 re a4 a5 a6 tl a7 a8), (a1, aI yI 96 (up G 0 pl))] := hD
      refine lv_aload_n hx hb dX5_renew_28 rfl (lv_at hl 1 rfl) ?_
      refine va_get (D := D) (ci := 5) (v := .ref a1) (C := RX5) (T := TX5) (N := 11) hx hb hts hinX5 hown hK hP 0 rfl rfl 1 (by decide) hf7 (fun _ h9 => h9) rfl dX5_renew_29 ?_
      refine lv_iconst (v := iI 1) hx hb dX5_renew_32 (by decide +kernel) ?_
      refine lv_iconst (v := iI 3) hx hb dX5_renew_33 (by decide +kernel) ?_
      refine iv_ast hx hb hK hP hD hS 1 0 rfl rfl (z := 1) (v := 3) (by omega) (by omega) (by omega) dX5_renew_34 (fun H locs hP hD hS => ?_)
      have hP : va_P D vwCl [(mo, oMo th a1 a2 a3 re a4 a5 a6 tl a7 a8), (a1, aI yI 96 (up (up G 0 pl) 1 3))] H := hP
      have hD : va_D A [(mo, oMo th a1 a2 a3 re a4 a5 a6 tl a7 a8), (a1, aI yI 96 (up (up G 0 pl) 1 3))] := hD
      refine lv_aload_n hx hb dX5_renew_35 rfl (lv_at hl 1 rfl) ?_
      refine va_get (D := D) (ci := 5) (v := .ref a1) (C := RX5) (T := TX5) (N := 11) hx hb hts hinX5 hown hK hP 0 rfl rfl 1 (by decide) hf7 (fun _ h9 => h9) rfl dX5_renew_36 ?_
      refine lv_iconst (v := iI 2) hx hb dX5_renew_39 (by decide +kernel) ?_
      refine lv_iconst (v := iI 2) hx hb dX5_renew_40 (by decide +kernel) ?_
      refine iv_ast hx hb hK hP hD hS 1 0 rfl rfl (z := 2) (v := 2) (by omega) (by omega) (by omega) dX5_renew_41 (fun H locs hP hD hS => ?_)
      have hP : va_P D vwCl [(mo, oMo th a1 a2 a3 re a4 a5 a6 tl a7 a8), (a1, aI yI 96 (up (up (up G 0 pl) 1 3) 2 2))] H := hP
      have hD : va_D A [(mo, oMo th a1 a2 a3 re a4 a5 a6 tl a7 a8), (a1, aI yI 96 (up (up (up G 0 pl) 1 3) 2 2))] := hD
      refine lv_aload_n hx hb dX5_renew_42 rfl (lv_at hl 1 rfl) ?_
      refine va_get (D := D) (ci := 5) (v := .ref a1) (C := RX5) (T := TX5) (N := 11) hx hb hts hinX5 hown hK hP 0 rfl rfl 1 (by decide) hf7 (fun _ h9 => h9) rfl dX5_renew_43 ?_
      refine lv_iconst (v := iI 3) hx hb dX5_renew_46 (by decide +kernel) ?_
      refine lv_iconst (v := iI 1) hx hb dX5_renew_47 (by decide +kernel) ?_
      refine iv_ast hx hb hK hP hD hS 1 0 rfl rfl (z := 3) (v := 1) (by omega) (by omega) (by omega) dX5_renew_48 (fun H locs hP hD hS => ?_)
      have hP : va_P D vwCl [(mo, oMo th a1 a2 a3 re a4 a5 a6 tl a7 a8), (a1, aI yI 96 (up (up (up (up G 0 pl) 1 3) 2 2) 3 1))] H := hP
      have hD : va_D A [(mo, oMo th a1 a2 a3 re a4 a5 a6 tl a7 a8), (a1, aI yI 96 (up (up (up (up G 0 pl) 1 3) 2 2) 3 1))] := hD
      have hP := va_P.arr hP 1 (g := newS pl) rfl (renew_eq (fun z h1 h2 => hG z h1 (by omega)))
      have hD : va_D A [(mo, oMo th a1 a2 a3 re a4 a5 a6 tl a7 a8), (a1, aI yI 96 (newS pl))] := hD.set (p := 1) rfl
      have hP : va_P D vwCl [(mo, oMo th a1 a2 a3 re a4 a5 a6 tl a7 a8), (a1, aI yI 96 (newS pl))] H := hP
      have hP9 : va_P D vwCl [(mo, oMo th a1 a2 a3 re a4 a5 a6 tl a7 a8), (a1, aI yI 96 (newS pl))] _ := hP.sub [0, 1] rfl
      exact W.vret hx hb hr (fun t ht hW => ⟨⟨(), rfl, trivial, by show va_P D vwCl _ t.heap; rw [ht]; exact hP9⟩, hS.F ht⟩) hS.2.2 dX5_renew_49
    · refine lv_aload_n hx hb dX5_renew_8 rfl (lv_at hl 1 rfl) ?_
      refine va_get (D := D) (ci := 5) (v := .ref a1) (C := RX5) (T := TX5) (N := 11) hx hb hts hinX5 hown hK hP 0 rfl rfl 1 (by decide) hf7 (fun _ h9 => h9) rfl dX5_renew_9 ?_
      refine lv_iload_n hx hb dX5_renew_12 rfl (lv_at hl 0 rfl) ?_
      refine lv_iconst (v := iI 0) hx hb dX5_renew_13 (by decide +kernel) ?_
      refine iv_ast hx hb hK hP hD hS 1 0 rfl rfl (z := x2) (v := 0) (by omega) (by omega) (by omega) dX5_renew_14 (fun H locs hP hD hS => ?_)
      have hP : va_P D vwCl [(mo, oMo th a1 a2 a3 re a4 a5 a6 tl a7 a8), (a1, aI yI 96 (up G x2 0))] H := hP
      have hD : va_D A [(mo, oMo th a1 a2 a3 re a4 a5 a6 tl a7 a8), (a1, aI yI 96 (up G x2 0))] := hD
      refine iv_inc (lv' := [(2, .int (iI (x2 + 1))), (0, .ref mo), (1, .int (iI pl))]) hx hb dX5_renew_15 hl (k := 0) rfl (by decide) rfl (fun ls hl => ?_)
      refine lv_goto (tgt := 2) hx hb dX5_renew_18 (by decide) ?_
      refine ih2 (k + 1, x2 + 1, up G x2 0) _ _ (by show (96 - (k + 1) : Nat) < 96 - k; omega) ?_
      exact ⟨by omega, by omega, fun z h1 h2 => (if e : z = x2 then (by rw [e]; exact up_s) else (by rw [up_n e]; exact hG z h1 (by omega))), hP, hD, hS, lv_sub hl [0, 1, 2] rfl⟩
