set_option maxHeartbeats 4000000 in
set_option maxRecDepth 100000 in
theorem c_L_possible (l : Launch) (D : va_G) (yI yC yD yL : ClassId) (qa : Nat) (aa : Nat) (S : Int → Int) (g : Int → Int) (sa : Nat) (F : Nat → Int64) (wo : Int) (hI : Inv S) (hR : Rc S g) (h9 : S 0 ≤ 9) (hwo : inR wo) (sz : Nat) : Met l yL_possible wsL_possible ({ frames := 3, cells := 0, slots := 0, locals := 70 }) (rwP [.int (iI wo), .ref qa, .ref aa, .ref sa] D (tyl yI yC yD yL) [(qa, aI yI 9 (qS S)), (aa, aI yI 48 g), (sa, aJ yL 16 F)] sz) (va_Qv (fun (_ : Unit) => True) (fun (_ : Unit) (t : State) => va_P D vwCl [(qa, aI yI 9 (qS S)), (aa, aI yI 48 g), (sa, aJ yL 16 (setF (fitG S wo) (2 ^ (S 0).toNat)))] t.heap) (va_A [(qa, aI yI 9 (qS S)), (aa, aI yI 48 g), (sa, aJ yL 16 F)] sz)) 0 0 (va_A [(qa, aI yI 9 (qS S)), (aa, aI yI 48 g), (sa, aJ yL 16 F)] sz) := by
  refine Met.ofW (cc := cL_possible) (maxL := 5) (ret := none) (by decide) rfl ?_
  intro p e s m args below meth c s₁ B hml hv
  obtain ⟨rfl, hsz, hP, hK, hD0⟩ := hv
  have hx := B.exec
  have hb := B.bytes
  have hr := B.returns
  have hts := atoms_spec (ws := wsL_possible) B.pre
  have hown : s.vm.findClass RL = some m.cls := findClass_of_methodNamed B.named
  have hlocks := B.notSynchronized
  subst hsz
  have hD := hD0.self (sz := s.heap.size)
  generalize hAe : va_A [(qa, aI yI 9 (qS S)), (aa, aI yI 48 g), (sa, aJ yL 16 F)] s.heap.size = A at hD ⊢
  have hA : ∀ q : Nat, s.heap.size ≤ q → A q := fun q h => by rw [← hAe]; exact Or.inr h
  have hS : va_S A s.heap s.heap [] := va_S.rf
  have hP : va_P D vwCl [(qa, aI yI 9 (qS S)), (aa, aI yI 48 g), (sa, aJ yL 16 F)] s.heap := hP
  have hKz : va_K D vwCl (tyz yI yC yD) s := hK.sub [0, 1, 2] rfl
  have hl := lv_entry ([.int (iI wo), .ref qa, .ref aa, .ref sa]) (n := 5) (Nat.le_of_ble_eq_true rfl)
  rw [lg_entry_eq]
  generalize (lg_sl ([.int (iI wo), .ref qa, .ref aa, .ref sa]) ++ List.replicate (5 - (lg_sl ([.int (iI wo), .ref qa, .ref aa, .ref sa])).length) Slot.unset).toArray = ls at hl ⊢
  have hl : lv_has ls 5 [(0, .int (iI wo)), (1, .ref qa), (2, .ref aa), (3, .ref sa)] := hl
  have hpl := hI.pl
  have hna := hI.na
  have hse := hI.se
  have hwi := hI.wi
  have hfe := hI.fe
  have hM : 2 ^ (S 0).toNat ≤ 512 := pw_le (n := 9) (by omega)
  refine lv_iconst (v := iI 0) hx hb dL_possible_0 (by decide +kernel) ?_
  refine lv_istore (lv' := [(4, .int (iI 0)), (0, .int (iI wo)), (1, .ref qa), (2, .ref aa), (3, .ref sa)]) hx hb dL_possible_1 hl (by decide) rfl (fun ls hl => ?_)
  refine iv_loop (I := fun (qq : Nat × Int × (Nat → Int64)) H locs ls => match qq with | (n, x4, F1) => ((n : Int) ≤ 16) ∧ (x4 = n) ∧ (∀ k : Nat, k < n → F1 k = 0) ∧ va_P D vwCl [(qa, aI yI 9 (qS S)), (aa, aI yI 48 g), (sa, aJ yL 16 F1)] H ∧ va_D A [(qa, aI yI 9 (qS S)), (aa, aI yI 48 g), (sa, aJ yL 16 F1)] ∧ va_S A s.heap H locs ∧ lv_has ls 5 [(4, .int (iI x4)), (0, .int (iI wo)), (1, .ref qa), (2, .ref aa), (3, .ref sa)]) (μ := fun (qq : Nat × Int × (Nat → Int64)) => match qq with | (n, x4, F1) => 16 - n) (0, 0, F) ?_ ?_
  · exact ⟨by omega, by omega, fun k hk => by omega, hP, hD, hS, lv_sub hl [0, 1, 2, 3, 4] rfl⟩
  · intro qq H locs ls hI ih3
    obtain ⟨n, x4, F1⟩ := qq
    obtain ⟨hn, h4, hF, hP, hD, hS, hl⟩ := hI
    refine lv_iload hx hb dL_possible_3 (lv_at hl 0 rfl) ?_
    refine lv_bipush (v := iI 16) hx hb dL_possible_5 (by decide +kernel) ?_
    refine iv_icmp_ge (a := x4) (b := 16) (tgt := 21) hx hb (by omega) (by omega) dL_possible_7 (by decide) (fun c7 => ?_) (fun c7 => ?_)
    · have hP := va_P.arJ hP 2 (g := setF (fitG S wo) 0) rfl (fun k hk => (hF k (by omega)).trans (setF_0 k).symm)
      have hD : va_D A [(qa, aI yI 9 (qS S)), (aa, aI yI 48 g), (sa, aJ yL 16 (setF (fitG S wo) 0))] := hD.set (p := 2) rfl
      have hP : va_P D vwCl [(qa, aI yI 9 (qS S)), (aa, aI yI 48 g), (sa, aJ yL 16 (setF (fitG S wo) 0))] _ := hP
      refine lv_iconst (v := iI 0) hx hb dL_possible_21 (by decide +kernel) ?_
      refine lv_istore (lv' := [(4, .int (iI 0)), (0, .int (iI wo)), (1, .ref qa), (2, .ref aa), (3, .ref sa)]) hx hb dL_possible_22 hl (by decide) rfl (fun ls hl => ?_)
      refine iv_loop (I := fun (qq : Nat × Int × (Nat → Int64)) H locs ls => match qq with | (k, y4, F2) => (k ≤ (2 ^ (S 0).toNat)) ∧ (y4 = k) ∧ (F2 = setF (fitG S wo) k) ∧ va_P D vwCl [(qa, aI yI 9 (qS S)), (aa, aI yI 48 g), (sa, aJ yL 16 F2)] H ∧ va_D A [(qa, aI yI 9 (qS S)), (aa, aI yI 48 g), (sa, aJ yL 16 F2)] ∧ va_S A s.heap H locs ∧ lv_has ls 5 [(4, .int (iI y4)), (0, .int (iI wo)), (1, .ref qa), (2, .ref aa), (3, .ref sa)]) (μ := fun (qq : Nat × Int × (Nat → Int64)) => match qq with | (k, y4, F2) => (2 ^ (S 0).toNat) - k) (0, 0, setF (fitG S wo) 0) ?_ ?_
      · exact ⟨Nat.zero_le _, by omega, rfl, hP, hD, hS, lv_sub hl [0, 1, 2, 3, 4] rfl⟩
      · intro qq H locs ls hI ih24
        obtain ⟨k, y4, F2⟩ := qq
        obtain ⟨hk, h5, hF2, hP, hD, hS, hl⟩ := hI
        refine lv_iload hx hb dL_possible_24 (lv_at hl 0 rfl) ?_
        refine lv_iconst (v := iI 1) hx hb dL_possible_26 (by decide +kernel) ?_
        refine lv_aload_n hx hb dL_possible_27 rfl (lv_at hl 2 rfl) ?_
        refine lv_iconst (v := iI 0) hx hb dL_possible_28 (by decide +kernel) ?_
        refine iv_aldE hx hb hK hP 0 0 rfl rfl (z := 0) (w := S 0) (by first | exact qS_n (by omega) | exact up_s | rfl) (by omega) (by omega) (by omega) dL_possible_29 ?_
        refine lv_ishl hx hb dL_possible_30 ?_
        rw [isl_i 1 (S 0)]
        rw [show (isl 1 (S 0) : Int) = ((2 ^ (S 0).toNat : Nat) : Int) from (isl_1 (by omega))]
        refine iv_icmp_ge (a := y4) (b := ((2 ^ (S 0).toNat : Nat) : Int)) (tgt := 72) hx hb (by omega) (by omega) dL_possible_31 (by decide) (fun c31 => ?_) (fun c31 => ?_)
        · have er_ : F2 = setF (fitG S wo) (2 ^ (S 0).toNat) := by rw [hF2, show k = (2 ^ (S 0).toNat) by omega]
          rw [er_] at hP hD
          have hP : va_P D vwCl [(qa, aI yI 9 (qS S)), (aa, aI yI 48 g), (sa, aJ yL 16 (setF (fitG S wo) (2 ^ (S 0).toNat)))] H := hP
          have hD : va_D A [(qa, aI yI 9 (qS S)), (aa, aI yI 48 g), (sa, aJ yL 16 (setF (fitG S wo) (2 ^ (S 0).toNat)))] := hD
          have hP9 : va_P D vwCl [(qa, aI yI 9 (qS S)), (aa, aI yI 48 g), (sa, aJ yL 16 (setF (fitG S wo) (2 ^ (S 0).toNat)))] _ := hP.sub [0, 1, 2] rfl
          exact W.vret hx hb hr (fun t ht hW => ⟨⟨(), rfl, trivial, by show va_P D vwCl _ t.heap; rw [ht]; exact hP9⟩, hS.F ht⟩) hS.2.2 dL_possible_72
        · have hx4 : y4.toNat = k := by omega
          refine lv_aload_n hx hb dL_possible_34 rfl (lv_at hl 4 rfl) ?_
          refine lv_iload hx hb dL_possible_35 (lv_at hl 0 rfl) ?_
          refine lv_bipush (v := iI 64) hx hb dL_possible_37 (by decide +kernel) ?_
          refine iv_div hx hb (by omega) (by omega) (by omega) (by omega) dL_possible_39 ?_
          refine lv_dup2_11 hx hb dL_possible_40 rfl rfl ?_
          refine iv_ljd hx hb hK hP 2 3 rfl rfl (z := y4 / 64) (by omega) (by omega) (by omega) dL_possible_41 ?_
          refine lv_iload hx hb dL_possible_42 (lv_at hl 0 rfl) ?_
          refine lv_iload_n hx hb dL_possible_44 rfl (lv_at hl 1 rfl) ?_
          refine lv_aload_n hx hb dL_possible_45 rfl (lv_at hl 2 rfl) ?_
          refine lv_aload_n hx hb dL_possible_46 rfl (lv_at hl 3 rfl) ?_
          refine iv_roS (As := [.int (iI y4), .int (iI wo), .ref qa, .ref aa]) (rest := [.long (F2 ((y4 / 64).toNat)), .int (iI (y4 / 64)), .ref sa]) (n := 4) ⟨hx, hb, hml, hown, hts⟩ (c_L_fits l D yI yC yD yL qa aa S g y4 wo (by assumption) (by assumption) (by omega) (by omega) (by omega)) (va_cwS 4 hts gL_possible_L_fits rfl rfl rfl (by decide +kernel) ⟨Nat.le_of_ble_eq_true rfl, Nat.le_of_ble_eq_true rfl⟩) hK hP [0, 1] rfl rfl hl.1 rfl (Nat.le_of_ble_eq_true rfl) dL_possible_47 ⟨Nat.zero_le _, Nat.zero_le _⟩ ?_
          refine iv_join (I := fun (qq : Int64) H locs ls => match qq with | yv => (yv = if fitG S wo k = 1 then lN (2 ^ (k % 64)) else 0) ∧ va_P D vwCl [(qa, aI yI 9 (qS S)), (aa, aI yI 48 g), (sa, aJ yL 16 F2)] H ∧ va_D A [(qa, aI yI 9 (qS S)), (aa, aI yI 48 g), (sa, aJ yL 16 F2)] ∧ va_S A s.heap H locs ∧ lv_has ls 5 [(4, .int (iI y4)), (0, .int (iI wo)), (1, .ref qa), (2, .ref aa), (3, .ref sa)]) (sx := fun (qq : Int64) => match qq with | yv => [.long yv, .long (F2 ((y4 / 64).toNat)), .int (iI (y4 / 64)), .ref sa]) (pcj := 64) ?_ (fun J64 => ?_)
          · intro yv H locs ls hI
            obtain ⟨hy, hP, hD, hS, hl⟩ := hI
            refine lv_lor hx hb dL_possible_64 ?_
            refine iv_ljt hx hb hK hP hD hS 2 3 rfl rfl (z := y4 / 64) (by omega) (by omega) (by omega) dL_possible_65 (fun H locs hP hD hS => ?_)
            have hP : va_P D vwCl [(qa, aI yI 9 (qS S)), (aa, aI yI 48 g), (sa, aJ yL 16 (vp_updL F2 ((y4 / 64).toNat) ((F2 ((y4 / 64).toNat)) ||| yv)))] H := hP
            have hD : va_D A [(qa, aI yI 9 (qS S)), (aa, aI yI 48 g), (sa, aJ yL 16 (vp_updL F2 ((y4 / 64).toNat) ((F2 ((y4 / 64).toNat)) ||| yv)))] := hD
            refine iv_inc (lv' := [(4, .int (iI (y4 + 1))), (0, .int (iI wo)), (1, .ref qa), (2, .ref aa), (3, .ref sa)]) hx hb dL_possible_66 hl (k := 0) rfl (by decide) rfl (fun ls hl => ?_)
            refine lv_goto (tgt := 24) hx hb dL_possible_69 (by decide) ?_
            refine ih24 (k + 1, y4 + 1, vp_updL F2 ((y4 / 64).toNat) ((F2 ((y4 / 64).toNat)) ||| yv)) _ _ (by show ((2 ^ (S 0).toNat) - (k + 1) : Nat) < (2 ^ (S 0).toNat) - k; omega) ?_
            exact ⟨by omega, by omega, by rw [hF2, show (y4 / 64).toNat = k / 64 by omega]; exact setF_s hy, hP, hD, hS, lv_sub hl [0, 1, 2, 3, 4] rfl⟩
          · refine iv_ifb_eq (P := fitG S wo y4.toNat = 1) (tgt := 63) hx hb dL_possible_50 (by decide) (fun c50 => ?_) (fun c50 => ?_)
            · refine lv_lconst (v := 0) hx hb dL_possible_63 (by decide +kernel) ?_
              exact J64 (0) _ _ ⟨by first | (rw [if_pos (by rw [← hx4]; exact c50), shl_1L (by omega), show (y4 % 64).toNat = k % 64 by omega]; done) | (rw [if_neg (by rw [← hx4]; exact c50)]; done), hP, hD, hS, lv_sub hl [0, 1, 2, 3, 4] rfl⟩
            · refine lv_lconst (v := 1) hx hb dL_possible_53 (by decide +kernel) ?_
              refine lv_iload hx hb dL_possible_54 (lv_at hl 0 rfl) ?_
              refine lv_bipush (v := iI 64) hx hb dL_possible_56 (by decide +kernel) ?_
              refine iv_rem hx hb (by omega) (by omega) (by omega) (by omega) dL_possible_58 ?_
              refine lv_lshl (v := 1 <<< ((iI (y4 % 64)).toInt64 &&& 63)) hx hb dL_possible_59 rfl ?_
              refine lv_goto (tgt := 64) hx hb dL_possible_60 (by decide) ?_
              exact J64 (1 <<< ((iI (y4 % 64)).toInt64 &&& 63)) _ _ ⟨by first | (rw [if_pos (by rw [← hx4]; exact c50), shl_1L (by omega), show (y4 % 64).toNat = k % 64 by omega]; done) | (rw [if_neg (by rw [← hx4]; exact c50)]; done), hP, hD, hS, lv_sub hl [0, 1, 2, 3, 4] rfl⟩
    · refine lv_aload_n hx hb dL_possible_10 rfl (lv_at hl 4 rfl) ?_
      refine lv_iload hx hb dL_possible_11 (lv_at hl 0 rfl) ?_
      refine lv_lconst (v := 0) hx hb dL_possible_13 (by decide +kernel) ?_
      refine iv_ljt hx hb hK hP hD hS 2 3 rfl rfl (z := x4) (by omega) (by omega) (by omega) dL_possible_14 (fun H locs hP hD hS => ?_)
      have hP : va_P D vwCl [(qa, aI yI 9 (qS S)), (aa, aI yI 48 g), (sa, aJ yL 16 (vp_updL F1 ((x4).toNat) 0))] H := hP
      have hD : va_D A [(qa, aI yI 9 (qS S)), (aa, aI yI 48 g), (sa, aJ yL 16 (vp_updL F1 ((x4).toNat) 0))] := hD
      refine iv_inc (lv' := [(4, .int (iI (x4 + 1))), (0, .int (iI wo)), (1, .ref qa), (2, .ref aa), (3, .ref sa)]) hx hb dL_possible_15 hl (k := 0) rfl (by decide) rfl (fun ls hl => ?_)
      refine lv_goto (tgt := 3) hx hb dL_possible_18 (by decide) ?_
      refine ih3 (n + 1, x4 + 1, vp_updL F1 ((x4).toNat) 0) _ _ (by show (16 - (n + 1) : Nat) < 16 - n; omega) ?_
      exact ⟨by omega, by omega, fun k hk => by unfold vp_updL; split; rfl; exact hF k (by omega), hP, hD, hS, lv_sub hl [0, 1, 2, 3, 4] rfl⟩
