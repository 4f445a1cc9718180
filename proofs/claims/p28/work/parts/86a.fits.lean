set_option maxHeartbeats 4000000 in
set_option maxRecDepth 100000 in
theorem c_L_fits (l : Launch) (D : va_G) (yI yC yD yL : ClassId) (qa : Nat) (aa : Nat) (S : Int → Int) (g : Int → Int) (z : Int) (wo : Int) (hI : Inv S) (hR : Rc S g) (h9 : S 0 ≤ 9) (hz : 0 ≤ z ∧ z < 512) (hwo : inR wo) : Met l yL_fits wsL_fits ({ frames := 2, cells := 0, slots := 0, locals := 44 }) (roP [.int (iI z), .int (iI wo), .ref qa, .ref aa] D (tyl yI yC yD yL) [(qa, aI yI 9 (qS S)), (aa, aI yI 48 g)]) (QcRead (iI (bI (fitG S wo z.toNat = 1)))) 0 0 (fun _ => False) := by
  refine Met.ofW (cc := cL_fits) (maxL := 7) (ret := (some .boolean)) (by decide) rfl ?_
  intro p e s m args below meth c s₁ B hml hv
  obtain ⟨rfl, hP, hK⟩ := hv
  have hx := B.exec
  have hb := B.bytes
  have hr := B.returns
  have hts := atoms_spec (ws := wsL_fits) B.pre
  have hown : s.vm.findClass RL = some m.cls := findClass_of_methodNamed B.named
  have hlocks := B.notSynchronized
  have hP : va_P D vwCl [(qa, aI yI 9 (qS S)), (aa, aI yI 48 g)] s.heap := hP
  have hKz : va_K D vwCl (tyz yI yC yD) s := hK.sub [0, 1, 2] rfl
  have hl := lv_entry ([.int (iI z), .int (iI wo), .ref qa, .ref aa]) (n := 7) (Nat.le_of_ble_eq_true rfl)
  rw [lg_entry_eq]
  generalize (lg_sl ([.int (iI z), .int (iI wo), .ref qa, .ref aa]) ++ List.replicate (7 - (lg_sl ([.int (iI z), .int (iI wo), .ref qa, .ref aa])).length) Slot.unset).toArray = ls at hl ⊢
  have hl : lv_has ls 7 [(0, .int (iI z)), (1, .int (iI wo)), (2, .ref qa), (3, .ref aa)] := hl
  have hpl := hI.pl
  have hna := hI.na
  have hse := hI.se
  have hwi := hI.wi
  have hfe := hI.fe
  have hna := hI.na
  refine lv_iconst (v := iI 1) hx hb dL_fits_0 (by decide +kernel) ?_
  refine lv_istore (lv' := [(4, .int (iI 1)), (0, .int (iI z)), (1, .int (iI wo)), (2, .ref qa), (3, .ref aa)]) hx hb dL_fits_1 hl (by decide) rfl (fun ls hl => ?_)
  refine lv_iconst (v := iI 0) hx hb dL_fits_3 (by decide +kernel) ?_
  refine lv_istore (lv' := [(5, .int (iI 0)), (4, .int (iI 1)), (0, .int (iI z)), (1, .int (iI wo)), (2, .ref qa), (3, .ref aa)]) hx hb dL_fits_4 hl (by decide) rfl (fun ls hl => ?_)
  refine iv_loopR (I := fun (qq : Nat × Int × Int) ls => match qq with | (n, x4, x5) => ((n : Int) ≤ S 4) ∧ (x5 = n) ∧ (x4 = fitN S wo z.toNat n) ∧ lv_has ls 7 [(5, .int (iI x5)), (4, .int (iI x4)), (0, .int (iI z)), (1, .int (iI wo)), (2, .ref qa), (3, .ref aa)]) (μ := fun (qq : Nat × Int × Int) => match qq with | (n, x4, x5) => (S 4).toNat - n) (0, 1, 0) ?_ ?_
  · exact ⟨by omega, by omega, rfl, lv_sub hl [0, 1, 2, 3, 4, 5] rfl⟩
  · intro qq ls hI ih6
    obtain ⟨n, x4, x5⟩ := qq
    obtain ⟨hn, h5, h4, hl⟩ := hI
    refine lv_iload hx hb dL_fits_6 (lv_at hl 0 rfl) ?_
    refine lv_aload_n hx hb dL_fits_8 rfl (lv_at hl 4 rfl) ?_
    refine lv_iconst (v := iI 4) hx hb dL_fits_9 (by decide +kernel) ?_
    refine iv_aldE hx hb hK hP 0 0 rfl rfl (z := 4) (w := S 4) (by first | exact qS_n (by omega) | exact up_s | rfl) (by omega) (by omega) (by omega) dL_fits_10 ?_
    refine iv_icmp_ge (a := x5) (b := S 4) (tgt := 95) hx hb (by omega) (by omega) dL_fits_11 (by decide) (fun c11 => ?_) (fun c11 => ?_)
    · refine lv_iload hx hb dL_fits_95 (lv_at hl 1 rfl) ?_
      rw [show (iI x4 : Int32) = iI (bI (fitG S wo z.toNat = 1)) from (by have e : x4 = fitG S wo z.toNat := (by rw [h4]; exact congrArg (fitN S wo z.toNat) (by omega)); rw [e]; exact congrArg iI (bI_k (fitN_01 _)).symm)]
      exact W.zret hx hb hr (narB _) (fun t ht hW => ⟨rfl, ht⟩) (fun q h => by cases h) dL_fits_97
    · have hna := hI.na
      have ha := hI.ans (i := x5) (by omega) (by omega)
      have hto := told_r hI (a := an S x5 0) (b := an S x5 1) (by omega) (by omega) (by omega)
      have r0 : g (4 * x5) = an S x5 0 := by rw [show 4 * x5 = x5 * 4 + 0 by omega]; exact hR x5 0 (by omega) (by omega) (by omega) (by omega)
      have r1 : g (4 * x5 + 1) = an S x5 1 := by rw [show 4 * x5 + 1 = x5 * 4 + 1 by omega]; exact hR x5 1 (by omega) (by omega) (by omega) (by omega)
      have r2 : g (4 * x5 + 2) = an S x5 2 := by rw [show 4 * x5 + 2 = x5 * 4 + 2 by omega]; exact hR x5 2 (by omega) (by omega) (by omega) (by omega)
      have hir := inL_r (L := z.toNat) (a := an S x5 0) (b := an S x5 1) (by omega)
      have hf : fitN S wo z.toNat (n + 1) = if x4 = 1 ∧ (x5 = wo ∨ (an S x5 2 = -2 ∧ inL z.toNat (an S x5 0) (an S x5 1) < S 2) ∨ (an S x5 2 ≠ -2 ∧ inL z.toNat (an S x5 0) (an S x5 1) = an S x5 2)) then 1 else 0 := by rw [h4, h5]; rfl
      have h01 : 0 ≤ x4 ∧ x4 ≤ 1 := by rw [h4]; exact fitN_01 n
      refine lv_iload_n hx hb dL_fits_14 rfl (lv_at hl 2 rfl) ?_
      refine lv_aload_n hx hb dL_fits_15 rfl (lv_at hl 5 rfl) ?_
      refine lv_iconst (v := iI 4) hx hb dL_fits_16 (by decide +kernel) ?_
      refine lv_iload hx hb dL_fits_17 (lv_at hl 0 rfl) ?_
      refine iv_mul hx hb dL_fits_19 ?_
      refine iv_ald hx hb hK hP 1 0 rfl rfl (z := 4 * x5) (by omega) (by omega) (by omega) dL_fits_20 ?_
      refine lv_aload_n hx hb dL_fits_21 rfl (lv_at hl 5 rfl) ?_
      refine lv_iconst (v := iI 4) hx hb dL_fits_22 (by decide +kernel) ?_
      refine lv_iload hx hb dL_fits_23 (lv_at hl 0 rfl) ?_
      refine iv_mul hx hb dL_fits_25 ?_
      refine lv_iconst (v := iI 1) hx hb dL_fits_26 (by decide +kernel) ?_
      refine iv_add hx hb dL_fits_27 ?_
      refine iv_ald hx hb hK hP 1 0 rfl rfl (z := 4 * x5 + 1) (by omega) (by omega) (by omega) dL_fits_28 ?_
      refine iv_roS (As := [.int (iI z), .int (iI (g (4 * x5))), .int (iI (g (4 * x5 + 1)))]) (rest := []) (n := 3) ⟨hx, hb, hml, hown, hts⟩ (c_L_in l D yI yC yD yL z (g (4 * x5)) (g (4 * x5 + 1)) (by omega) (by omega)) (va_cwS 3 hts gL_fits_L_in rfl rfl rfl (by decide +kernel) ⟨Nat.le_of_ble_eq_true rfl, Nat.le_of_ble_eq_true rfl⟩) hK hP [] rfl rfl hl.1 rfl (Nat.le_of_ble_eq_true rfl) dL_fits_29 ⟨Nat.zero_le _, Nat.zero_le _⟩ ?_
      rw [show (inL z.toNat (g (4 * x5)) (g (4 * x5 + 1)) : Int) = inL z.toNat (an S x5 0) (an S x5 1) from (by rw [r0, r1])]
      refine lv_istore (lv' := [(6, .int (iI (inL z.toNat (an S x5 0) (an S x5 1)))), (5, .int (iI x5)), (4, .int (iI x4)), (0, .int (iI z)), (1, .int (iI wo)), (2, .ref qa), (3, .ref aa)]) hx hb dL_fits_32 hl (by decide) rfl (fun ls hl => ?_)
      refine iv_joinR (I := fun (qq : Int) ls => match qq with | yv => (yv = fitN S wo z.toNat (n + 1)) ∧ lv_has ls 7 [(6, .int (iI (inL z.toNat (an S x5 0) (an S x5 1)))), (5, .int (iI x5)), (4, .int (iI x4)), (0, .int (iI z)), (1, .int (iI wo)), (2, .ref qa), (3, .ref aa)]) (sx := fun (qq : Int) => match qq with | yv => [.int (iI yv)]) (pcj := 87) ?_ (fun J87 => ?_)
      · intro yv ls hI
        obtain ⟨hy, hl⟩ := hI
        refine lv_istore (lv' := [(4, .int (iI yv)), (6, .int (iI (inL z.toNat (an S x5 0) (an S x5 1)))), (5, .int (iI x5)), (0, .int (iI z)), (1, .int (iI wo)), (2, .ref qa), (3, .ref aa)]) hx hb dL_fits_87 hl (by decide) rfl (fun ls hl => ?_)
        refine iv_inc (lv' := [(5, .int (iI (x5 + 1))), (4, .int (iI yv)), (6, .int (iI (inL z.toNat (an S x5 0) (an S x5 1)))), (0, .int (iI z)), (1, .int (iI wo)), (2, .ref qa), (3, .ref aa)]) hx hb dL_fits_89 hl (k := 2) rfl (by decide) rfl (fun ls hl => ?_)
        refine lv_goto (tgt := 6) hx hb dL_fits_92 (by decide) ?_
        refine ih6 (n + 1, yv, x5 + 1) (by show ((S 4).toNat - (n + 1) : Nat) < (S 4).toNat - n; omega) ?_
        exact ⟨by omega, by omega, hy, lv_sub hl [0, 1, 3, 4, 5, 6] rfl⟩
      · refine lv_iload hx hb dL_fits_34 (lv_at hl 2 rfl) ?_
        refine iv_if_eq (a := x4) (tgt := 86) hx hb (by omega) dL_fits_36 (by decide) (fun c36 => ?_) (fun c36 => ?_)
        · refine lv_iconst (v := iI 0) hx hb dL_fits_86 (by decide +kernel) ?_
          exact J87 (0) ⟨by rw [hf]; first | (rw [if_pos (by omega)]; done) | (rw [if_neg (by omega)]; done), lv_sub hl [0, 1, 2, 3, 4, 5, 6] rfl⟩
        · refine lv_iload hx hb dL_fits_39 (lv_at hl 1 rfl) ?_
          refine lv_iload_n hx hb dL_fits_41 rfl (lv_at hl 4 rfl) ?_
          refine iv_icmp_eq (a := x5) (b := wo) (tgt := 82) hx hb (by omega) (by omega) dL_fits_42 (by decide) (fun c42 => ?_) (fun c42 => ?_)
          · refine lv_iconst (v := iI 1) hx hb dL_fits_82 (by decide +kernel) ?_
            refine lv_goto (tgt := 87) hx hb dL_fits_83 (by decide) ?_
            exact J87 (1) ⟨by rw [hf]; first | (rw [if_pos (by omega)]; done) | (rw [if_neg (by omega)]; done), lv_sub hl [0, 1, 2, 3, 4, 5, 6] rfl⟩
          · refine lv_aload_n hx hb dL_fits_45 rfl (lv_at hl 6 rfl) ?_
            refine lv_iconst (v := iI 4) hx hb dL_fits_46 (by decide +kernel) ?_
            refine lv_iload hx hb dL_fits_47 (lv_at hl 1 rfl) ?_
            refine iv_mul hx hb dL_fits_49 ?_
            refine lv_iconst (v := iI 2) hx hb dL_fits_50 (by decide +kernel) ?_
            refine iv_add hx hb dL_fits_51 ?_
            refine iv_ald hx hb hK hP 1 0 rfl rfl (z := 4 * x5 + 2) (by omega) (by omega) (by omega) dL_fits_52 ?_
            refine lv_bipush (v := iI (-2)) hx hb dL_fits_53 (by decide +kernel) ?_
            refine iv_icmp_ne (a := g (4 * x5 + 2)) (b := -2) (tgt := 69) hx hb (by omega) (by omega) dL_fits_55 (by decide) (fun c55 => ?_) (fun c55 => ?_)
            · refine lv_iload hx hb dL_fits_69 (lv_at hl 0 rfl) ?_
              refine lv_aload_n hx hb dL_fits_71 rfl (lv_at hl 6 rfl) ?_
              refine lv_iconst (v := iI 4) hx hb dL_fits_72 (by decide +kernel) ?_
              refine lv_iload hx hb dL_fits_73 (lv_at hl 1 rfl) ?_
              refine iv_mul hx hb dL_fits_75 ?_
              refine lv_iconst (v := iI 2) hx hb dL_fits_76 (by decide +kernel) ?_
              refine iv_add hx hb dL_fits_77 ?_
              refine iv_ald hx hb hK hP 1 0 rfl rfl (z := 4 * x5 + 2) (by omega) (by omega) (by omega) dL_fits_78 ?_
              refine iv_icmp_ne (a := inL z.toNat (an S x5 0) (an S x5 1)) (b := g (4 * x5 + 2)) (tgt := 86) hx hb (by omega) (by omega) dL_fits_79 (by decide) (fun c79 => ?_) (fun c79 => ?_)
              · refine lv_iconst (v := iI 0) hx hb dL_fits_86 (by decide +kernel) ?_
                exact J87 (0) ⟨by rw [hf]; first | (rw [if_pos (by omega)]; done) | (rw [if_neg (by omega)]; done), lv_sub hl [0, 1, 2, 3, 4, 5, 6] rfl⟩
              · refine lv_iconst (v := iI 1) hx hb dL_fits_82 (by decide +kernel) ?_
                refine lv_goto (tgt := 87) hx hb dL_fits_83 (by decide) ?_
                exact J87 (1) ⟨by rw [hf]; first | (rw [if_pos (by omega)]; done) | (rw [if_neg (by omega)]; done), lv_sub hl [0, 1, 2, 3, 4, 5, 6] rfl⟩
            · refine lv_iload hx hb dL_fits_58 (lv_at hl 0 rfl) ?_
              refine lv_aload_n hx hb dL_fits_60 rfl (lv_at hl 5 rfl) ?_
              refine lv_iconst (v := iI 2) hx hb dL_fits_61 (by decide +kernel) ?_
              refine iv_aldE hx hb hK hP 0 0 rfl rfl (z := 2) (w := S 2) (by first | exact qS_n (by omega) | exact up_s | rfl) (by omega) (by omega) (by omega) dL_fits_62 ?_
              refine iv_icmp_ge (a := inL z.toNat (an S x5 0) (an S x5 1)) (b := S 2) (tgt := 86) hx hb (by omega) (by omega) dL_fits_63 (by decide) (fun c63 => ?_) (fun c63 => ?_)
              · refine lv_iconst (v := iI 0) hx hb dL_fits_86 (by decide +kernel) ?_
                exact J87 (0) ⟨by rw [hf]; first | (rw [if_pos (by omega)]; done) | (rw [if_neg (by omega)]; done), lv_sub hl [0, 1, 2, 3, 4, 5, 6] rfl⟩
              · refine lv_goto (tgt := 82) hx hb dL_fits_66 (by decide) ?_
                refine lv_iconst (v := iI 1) hx hb dL_fits_82 (by decide +kernel) ?_
                refine lv_goto (tgt := 87) hx hb dL_fits_83 (by decide) ?_
                exact J87 (1) ⟨by rw [hf]; first | (rw [if_pos (by omega)]; done) | (rw [if_neg (by omega)]; done), lv_sub hl [0, 1, 2, 3, 4, 5, 6] rfl⟩
