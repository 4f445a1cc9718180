theorem ws_n1 {G : Nat → Int} {S A2 S2 : Int → Int} {a b yv y6 : Int} {k : Nat} (h : ∀ z : Int, 0 ≤ z → z < 12 → A2 z = alI (Gk G S a b z) k ∧ S2 z = soI (Gk G S a b z) k) (hy : yv = cls S a b k) (hG : G k = 1) (hk : k < 512) (h7 : y6 = k) (z : Int) (q0 : 0 ≤ z) (q1 : z < 12) : up (up A2 yv (ia (A2 yv) y6)) yv (ia (ia (A2 yv) y6) 1073741823) z = alI (Gk G S a b z) (k + 1) ∧ up S2 yv (io (S2 yv) y6) z = soI (Gk G S a b z) (k + 1) := by
  obtain ⟨h1, h2⟩ := h z q0 q1
  have e1 := gk_al (S := S) (a := a) (b := b) (z := z) hk hG hy
  have e2 := gk_so (S := S) (a := a) (b := b) (z := z) hG hy
  rw [← e1, ← e2, ← h1, ← h2, h7]
  by_cases e : z = yv
  · rw [if_pos e, if_pos e, e, up_s, up_s]
    exact ⟨rfl, rfl⟩
  · rw [if_neg e, if_neg e, up_n e, up_n e, up_n e]
    exact ⟨rfl, rfl⟩
set_option maxHeartbeats 4000000 in
set_option maxRecDepth 100000 in
theorem c_L_worst (l : Launch) (D : va_G) (yI yC yD yL : ClassId) (qa : Nat) (sa : Nat) (S : Int → Int) (G : Nat → Int) (ga : Nat) (so : Nat) (fA : Int → Int) (fS : Int → Int) (a : Int) (b : Int) (hI : Inv S) (h9 : S 0 ≤ 9) (hG : Rep G (FB S (-1)) (S 0)) (hab : 0 ≤ a ∧ a ≤ b ∧ b < S 0) (sz : Nat) : Met l yL_worst wsL_worst ({ frames := 2, cells := 0, slots := 0, locals := 44 }) (rwP [.int (iI a), .int (iI b), .ref qa, .ref sa, .ref ga, .ref so] D (tyl yI yC yD yL) [(qa, aI yI 9 (qS S)), (sa, aJ yL 16 (setF G (2 ^ (S 0).toNat))), (ga, aI yI 12 fA), (so, aI yI 12 fS)] sz) (va_Qi (fun (r : Int32) (u : (Int → Int) × (Int → Int)) => match u with | (gA9, gS9) => r = iI (worstQ S a b) ∧ True) (fun (u : (Int → Int) × (Int → Int)) (t : State) => match u with | (gA9, gS9) => va_P D vwCl [(qa, aI yI 9 (qS S)), (sa, aJ yL 16 (setF G (2 ^ (S 0).toNat))), (ga, aI yI 12 gA9), (so, aI yI 12 gS9)] t.heap) (va_A [(qa, aI yI 9 (qS S)), (sa, aJ yL 16 (setF G (2 ^ (S 0).toNat))), (ga, aI yI 12 fA), (so, aI yI 12 fS)] sz)) 0 0 (va_A [(qa, aI yI 9 (qS S)), (sa, aJ yL 16 (setF G (2 ^ (S 0).toNat))), (ga, aI yI 12 fA), (so, aI yI 12 fS)] sz) := by
  refine Met.ofW (cc := cL_worst) (maxL := 9) (ret := (some .int)) (by decide) rfl ?_
  intro p e s m args below meth c s₁ B hml hv
  obtain ⟨rfl, hsz, hP, hK, hD0⟩ := hv
  have hx := B.exec
  have hb := B.bytes
  have hr := B.returns
  have hts := atoms_spec (ws := wsL_worst) B.pre
  have hown : s.vm.findClass RL = some m.cls := findClass_of_methodNamed B.named
  have hlocks := B.notSynchronized
  subst hsz
  have hD := hD0.self (sz := s.heap.size)
  generalize hAe : va_A [(qa, aI yI 9 (qS S)), (sa, aJ yL 16 (setF G (2 ^ (S 0).toNat))), (ga, aI yI 12 fA), (so, aI yI 12 fS)] s.heap.size = A at hD ⊢
  have hA : ∀ q : Nat, s.heap.size ≤ q → A q := fun q h => by rw [← hAe]; exact Or.inr h
  have hS : va_S A s.heap s.heap [] := va_S.rf
  have hP : va_P D vwCl [(qa, aI yI 9 (qS S)), (sa, aJ yL 16 (setF G (2 ^ (S 0).toNat))), (ga, aI yI 12 fA), (so, aI yI 12 fS)] s.heap := hP
  have hKz : va_K D vwCl (tyz yI yC yD) s := hK.sub [0, 1, 2] rfl
  have hl := lv_entry ([.int (iI a), .int (iI b), .ref qa, .ref sa, .ref ga, .ref so]) (n := 9) (Nat.le_of_ble_eq_true rfl)
  rw [lg_entry_eq]
  generalize (lg_sl ([.int (iI a), .int (iI b), .ref qa, .ref sa, .ref ga, .ref so]) ++ List.replicate (9 - (lg_sl ([.int (iI a), .int (iI b), .ref qa, .ref sa, .ref ga, .ref so])).length) Slot.unset).toArray = ls at hl ⊢
  have hl : lv_has ls 9 [(0, .int (iI a)), (1, .int (iI b)), (2, .ref qa), (3, .ref sa), (4, .ref ga), (5, .ref so)] := hl
  have hpl := hI.pl
  have hna := hI.na
  have hse := hI.se
  have hwi := hI.wi
  have hfe := hI.fe
  have hse := hI.se
  have hM : 2 ^ (S 0).toNat ≤ 512 := pw_le (n := 9) (by omega)
  refine lv_iconst (v := iI 0) hx hb dL_worst_0 (by decide +kernel) ?_
  refine lv_istore (lv' := [(6, .int (iI 0)), (0, .int (iI a)), (1, .int (iI b)), (2, .ref qa), (3, .ref sa), (4, .ref ga), (5, .ref so)]) hx hb dL_worst_1 hl (by decide) rfl (fun ls hl => ?_)
  refine iv_loop (I := fun (qq : Nat × Int × (Int → Int) × (Int → Int)) H locs ls => match qq with | (n, x6, A1, S1) => ((n : Int) ≤ 12) ∧ (x6 = n) ∧ (∀ z : Int, 0 ≤ z → z < n → A1 z = -1 ∧ S1 z = 0) ∧ va_P D vwCl [(qa, aI yI 9 (qS S)), (sa, aJ yL 16 (setF G (2 ^ (S 0).toNat))), (ga, aI yI 12 A1), (so, aI yI 12 S1)] H ∧ va_D A [(qa, aI yI 9 (qS S)), (sa, aJ yL 16 (setF G (2 ^ (S 0).toNat))), (ga, aI yI 12 A1), (so, aI yI 12 S1)] ∧ va_S A s.heap H locs ∧ lv_has ls 9 [(6, .int (iI x6)), (0, .int (iI a)), (1, .int (iI b)), (2, .ref qa), (3, .ref sa), (4, .ref ga), (5, .ref so)]) (μ := fun (qq : Nat × Int × (Int → Int) × (Int → Int)) => match qq with | (n, x6, A1, S1) => 12 - n) (0, 0, fA, fS) ?_ ?_
  · exact ⟨by omega, by omega, fun z q0 q1 => by omega, hP, hD, hS, lv_sub hl [0, 1, 2, 3, 4, 5, 6] rfl⟩
  · intro qq H locs ls hI ih3
    obtain ⟨n, x6, A1, S1⟩ := qq
    obtain ⟨hn, h6, hz, hP, hD, hS, hl⟩ := hI
    refine lv_iload hx hb dL_worst_3 (lv_at hl 0 rfl) ?_
    refine lv_bipush (v := iI 12) hx hb dL_worst_5 (by decide +kernel) ?_
    refine iv_icmp_ge (a := x6) (b := 12) (tgt := 28) hx hb (by omega) (by omega) dL_worst_7 (by decide) (fun c7 => ?_) (fun c7 => ?_)
    · refine lv_iconst (v := iI 0) hx hb dL_worst_28 (by decide +kernel) ?_
      refine lv_istore (lv' := [(6, .int (iI 0)), (0, .int (iI a)), (1, .int (iI b)), (2, .ref qa), (3, .ref sa), (4, .ref ga), (5, .ref so)]) hx hb dL_worst_29 hl (by decide) rfl (fun ls hl => ?_)
      refine iv_loop (I := fun (qq : Nat × Int × (Int → Int) × (Int → Int)) H locs ls => match qq with | (k, y6, A2, S2) => (k ≤ (2 ^ (S 0).toNat)) ∧ (y6 = k) ∧ (∀ z : Int, 0 ≤ z → z < 12 → A2 z = alI (Gk G S a b z) k ∧ S2 z = soI (Gk G S a b z) k) ∧ va_P D vwCl [(qa, aI yI 9 (qS S)), (sa, aJ yL 16 (setF G (2 ^ (S 0).toNat))), (ga, aI yI 12 A2), (so, aI yI 12 S2)] H ∧ va_D A [(qa, aI yI 9 (qS S)), (sa, aJ yL 16 (setF G (2 ^ (S 0).toNat))), (ga, aI yI 12 A2), (so, aI yI 12 S2)] ∧ va_S A s.heap H locs ∧ lv_has ls 9 [(6, .int (iI y6)), (0, .int (iI a)), (1, .int (iI b)), (2, .ref qa), (3, .ref sa), (4, .ref ga), (5, .ref so)]) (μ := fun (qq : Nat × Int × (Int → Int) × (Int → Int)) => match qq with | (k, y6, A2, S2) => (2 ^ (S 0).toNat) - k) (0, 0, A1, S1) ?_ ?_
      · exact ⟨Nat.zero_le _, by omega, fun z q0 q1 => hz z q0 (by omega), hP, hD, hS, lv_sub hl [0, 1, 2, 3, 4, 5, 6] rfl⟩
      · intro qq H locs ls hI ih31
        obtain ⟨k, y6, A2, S2⟩ := qq
        obtain ⟨hk, h7, hAS, hP, hD, hS, hl⟩ := hI
        refine lv_iload hx hb dL_worst_31 (lv_at hl 0 rfl) ?_
        refine lv_iconst (v := iI 1) hx hb dL_worst_33 (by decide +kernel) ?_
        refine lv_aload_n hx hb dL_worst_34 rfl (lv_at hl 3 rfl) ?_
        refine lv_iconst (v := iI 0) hx hb dL_worst_35 (by decide +kernel) ?_
        refine iv_aldE hx hb hK hP 0 0 rfl rfl (z := 0) (w := S 0) (by first | exact qS_n (by omega) | exact up_s | rfl) (by omega) (by omega) (by omega) dL_worst_36 ?_
        refine lv_ishl hx hb dL_worst_37 ?_
        rw [isl_i 1 (S 0)]
        rw [show (isl 1 (S 0) : Int) = ((2 ^ (S 0).toNat : Nat) : Int) from (isl_1 (by omega))]
        refine iv_icmp_ge (a := y6) (b := ((2 ^ (S 0).toNat : Nat) : Int)) (tgt := 115) hx hb (by omega) (by omega) dL_worst_38 (by decide) (fun c38 => ?_) (fun c38 => ?_)
        · refine lv_bipush (v := iI 99) hx hb dL_worst_115 (by decide +kernel) ?_
          refine lv_istore (lv' := [(6, .int (iI 99)), (0, .int (iI a)), (1, .int (iI b)), (2, .ref qa), (3, .ref sa), (4, .ref ga), (5, .ref so)]) hx hb dL_worst_117 hl (by decide) rfl (fun ls hl => ?_)
          refine lv_iconst (v := iI 0) hx hb dL_worst_119 (by decide +kernel) ?_
          refine lv_istore (lv' := [(7, .int (iI 0)), (6, .int (iI 99)), (0, .int (iI a)), (1, .int (iI b)), (2, .ref qa), (3, .ref sa), (4, .ref ga), (5, .ref so)]) hx hb dL_worst_120 hl (by decide) rfl (fun ls hl => ?_)
          refine iv_loop (I := fun (qq : Nat × Int × Int) H locs ls => match qq with | (j, w6, w7) => ((j : Int) ≤ 12) ∧ (w7 = j) ∧ (w6 = wlN G S a b (2 ^ (S 0).toNat) j) ∧ (0 ≤ w6 ∧ w6 ≤ 99) ∧ va_P D vwCl [(qa, aI yI 9 (qS S)), (sa, aJ yL 16 (setF G (2 ^ (S 0).toNat))), (ga, aI yI 12 A2), (so, aI yI 12 S2)] H ∧ va_D A [(qa, aI yI 9 (qS S)), (sa, aJ yL 16 (setF G (2 ^ (S 0).toNat))), (ga, aI yI 12 A2), (so, aI yI 12 S2)] ∧ va_S A s.heap H locs ∧ lv_has ls 9 [(7, .int (iI w7)), (6, .int (iI w6)), (0, .int (iI a)), (1, .int (iI b)), (2, .ref qa), (3, .ref sa), (4, .ref ga), (5, .ref so)]) (μ := fun (qq : Nat × Int × Int) => match qq with | (j, w6, w7) => 12 - j) (0, 99, 0) ?_ ?_
          · exact ⟨by omega, by omega, rfl, by omega, hP, hD, hS, lv_sub hl [0, 1, 2, 3, 4, 5, 6, 7] rfl⟩
          · intro qq H locs ls hI ih122
            obtain ⟨j, w6, w7⟩ := qq
            obtain ⟨hj, hw7, hw6, hwr, hP, hD, hS, hl⟩ := hI
            refine lv_iload hx hb dL_worst_122 (lv_at hl 0 rfl) ?_
            refine lv_bipush (v := iI 12) hx hb dL_worst_124 (by decide +kernel) ?_
            refine iv_icmp_ge (a := w7) (b := 12) (tgt := 186) hx hb (by omega) (by omega) dL_worst_126 (by decide) (fun c126 => ?_) (fun c126 => ?_)
            · refine lv_iload hx hb dL_worst_186 (lv_at hl 1 rfl) ?_
              have hP9 : va_P D vwCl [(qa, aI yI 9 (qS S)), (sa, aJ yL 16 (setF G (2 ^ (S 0).toNat))), (ga, aI yI 12 A2), (so, aI yI 12 S2)] _ := hP.sub [0, 1, 2, 3] rfl
              exact W.iret hx hb hr (fun t ht hW => ⟨⟨iI w6, (A2, S2), rfl, ⟨congrArg iI (show w6 = worstQ S a b by rw [hw6, show j = 12 by omega]; exact wl_worst hI h9 hG hab), trivial⟩, by show va_P D vwCl _ t.heap; rw [ht]; exact hP9⟩, hS.F ht⟩) hS.2.2 dL_worst_188
            · have hjj : w7 < 12 := by omega
              obtain ⟨hA7, hS7⟩ := hAS w7 (by omega) (by omega)
              have hkm := kmI_n (x := A2 w7) (y := S2 w7) (n := S 0) (by omega)
              have har := alI_r (G := Gk G S a b w7) (2 ^ (S 0).toNat)
              have hkv : ((popc 10 (kmI (A2 w7) (S2 w7) (S 0)).toNat : Nat) : Int) = kvN G S a b w7 (2 ^ (S 0).toNat) := by rw [hA7, hS7, show k = (2 ^ (S 0).toNat) by omega]; rfl
              have hpr := popc_r 10 (kmI (A2 w7) (S2 w7) (S 0)).toNat
              have hst : wlN G S a b (2 ^ (S 0).toNat) (j + 1) = if alI (Gk G S a b j) (2 ^ (S 0).toNat) ≠ -1 ∧ kvN G S a b j (2 ^ (S 0).toNat) < wlN G S a b (2 ^ (S 0).toNat) j then kvN G S a b j (2 ^ (S 0).toNat) else wlN G S a b (2 ^ (S 0).toNat) j := rfl
              rw [← hw6, ← hw7, ← hkv] at hst
              have hA8 : alI (Gk G S a b w7) (2 ^ (S 0).toNat) = A2 w7 := by rw [hA7, show k = (2 ^ (S 0).toNat) by omega]
              rw [hA8] at hst
              have har2 : inR (A2 w7) := by rw [hA7]; exact alI_r _
              refine lv_aload hx hb dL_worst_129 (lv_at hl 6 rfl) ?_
              refine lv_iload hx hb dL_worst_131 (lv_at hl 0 rfl) ?_
              refine iv_ald hx hb hK hP 2 0 rfl rfl (z := w7) (by omega) (by omega) (by omega) dL_worst_133 ?_
              refine lv_aload hx hb dL_worst_134 (lv_at hl 7 rfl) ?_
              refine lv_iload hx hb dL_worst_136 (lv_at hl 0 rfl) ?_
              refine iv_ald hx hb hK hP 3 0 rfl rfl (z := w7) (by omega) (by omega) (by omega) dL_worst_138 ?_
              refine lv_iconst (v := iI (-1)) hx hb dL_worst_139 (by decide +kernel) ?_
              refine lv_ixor hx hb dL_worst_140 ?_
              rw [ixr_i (S2 w7) (-1)]
              refine lv_ior hx hb dL_worst_141 ?_
              rw [io_i (A2 w7) (ixr (S2 w7) (-1))]
              refine lv_iconst (v := iI 1) hx hb dL_worst_142 (by decide +kernel) ?_
              refine lv_aload_n hx hb dL_worst_143 rfl (lv_at hl 4 rfl) ?_
              refine lv_iconst (v := iI 0) hx hb dL_worst_144 (by decide +kernel) ?_
              refine iv_aldE hx hb hK hP 0 0 rfl rfl (z := 0) (w := S 0) (by first | exact qS_n (by omega) | exact up_s | rfl) (by omega) (by omega) (by omega) dL_worst_145 ?_
              refine lv_ishl hx hb dL_worst_146 ?_
              rw [isl_i 1 (S 0)]
              refine lv_iconst (v := iI 1) hx hb dL_worst_147 (by decide +kernel) ?_
              refine iv_sub hx hb dL_worst_148 ?_
              refine lv_iand hx hb dL_worst_149 ?_
              rw [ia_i (io (A2 w7) (ixr (S2 w7) (-1))) (isl 1 (S 0) - 1)]
              rw [show (ia (io (A2 w7) (ixr (S2 w7) (-1))) (isl 1 (S 0) - 1) : Int) = kmI (A2 w7) (S2 w7) (S 0) from (rfl)]
              refine iv_roS (As := [.int (iI (kmI (A2 w7) (S2 w7) (S 0)))]) (rest := []) (n := 1) ⟨hx, hb, hml, hown, hts⟩ (c_L_bits l D yI yC yD yL (kmI (A2 w7) (S2 w7) (S 0)) (hkm)) (va_cwS 1 hts gL_worst_L_bits rfl rfl rfl (by decide +kernel) ⟨Nat.le_of_ble_eq_true rfl, Nat.le_of_ble_eq_true rfl⟩) hK hP [] rfl rfl hl.1 rfl (Nat.le_of_ble_eq_true rfl) dL_worst_150 ⟨Nat.zero_le _, Nat.zero_le _⟩ ?_
              refine lv_istore (lv' := [(8, .int (iI ((popc 10 (kmI (A2 w7) (S2 w7) (S 0)).toNat : Nat) : Int))), (7, .int (iI w7)), (6, .int (iI w6)), (0, .int (iI a)), (1, .int (iI b)), (2, .ref qa), (3, .ref sa), (4, .ref ga), (5, .ref so)]) hx hb dL_worst_153 hl (by decide) rfl (fun ls hl => ?_)
              refine iv_join (I := fun (qq : Int) H locs ls => match qq with | yw => (yw = wlN G S a b (2 ^ (S 0).toNat) (j + 1)) ∧ (0 ≤ yw ∧ yw ≤ 99) ∧ va_P D vwCl [(qa, aI yI 9 (qS S)), (sa, aJ yL 16 (setF G (2 ^ (S 0).toNat))), (ga, aI yI 12 A2), (so, aI yI 12 S2)] H ∧ va_D A [(qa, aI yI 9 (qS S)), (sa, aJ yL 16 (setF G (2 ^ (S 0).toNat))), (ga, aI yI 12 A2), (so, aI yI 12 S2)] ∧ va_S A s.heap H locs ∧ lv_has ls 9 [(8, .int (iI ((popc 10 (kmI (A2 w7) (S2 w7) (S 0)).toNat : Nat) : Int))), (7, .int (iI w7)), (6, .int (iI w6)), (0, .int (iI a)), (1, .int (iI b)), (2, .ref qa), (3, .ref sa), (4, .ref ga), (5, .ref so)]) (sx := fun (qq : Int) => match qq with | yw => [.int (iI yw)]) (pcj := 178) ?_ (fun J178 => ?_)
              · intro yw H locs ls hI
                obtain ⟨hy, hyr, hP, hD, hS, hl⟩ := hI
                refine lv_istore (lv' := [(6, .int (iI yw)), (8, .int (iI ((popc 10 (kmI (A2 w7) (S2 w7) (S 0)).toNat : Nat) : Int))), (7, .int (iI w7)), (0, .int (iI a)), (1, .int (iI b)), (2, .ref qa), (3, .ref sa), (4, .ref ga), (5, .ref so)]) hx hb dL_worst_178 hl (by decide) rfl (fun ls hl => ?_)
                refine iv_inc (lv' := [(7, .int (iI (w7 + 1))), (6, .int (iI yw)), (8, .int (iI ((popc 10 (kmI (A2 w7) (S2 w7) (S 0)).toNat : Nat) : Int))), (0, .int (iI a)), (1, .int (iI b)), (2, .ref qa), (3, .ref sa), (4, .ref ga), (5, .ref so)]) hx hb dL_worst_180 hl (k := 2) rfl (by decide) rfl (fun ls hl => ?_)
                refine lv_goto (tgt := 122) hx hb dL_worst_183 (by decide) ?_
                refine ih122 (j + 1, yw, w7 + 1) _ _ (by show (12 - (j + 1) : Nat) < 12 - j; omega) ?_
                exact ⟨by omega, by omega, hy, hyr, hP, hD, hS, lv_sub hl [0, 1, 3, 4, 5, 6, 7, 8] rfl⟩
              · refine lv_aload hx hb dL_worst_155 (lv_at hl 7 rfl) ?_
                refine lv_iload hx hb dL_worst_157 (lv_at hl 1 rfl) ?_
                refine iv_ald hx hb hK hP 2 0 rfl rfl (z := w7) (by omega) (by omega) (by omega) dL_worst_159 ?_
                refine lv_iconst (v := iI (-1)) hx hb dL_worst_160 (by decide +kernel) ?_
                refine iv_icmp_eq (a := A2 w7) (b := -1) (tgt := 176) hx hb (by omega) (by omega) dL_worst_161 (by decide) (fun c161 => ?_) (fun c161 => ?_)
                · refine lv_iload hx hb dL_worst_176 (lv_at hl 2 rfl) ?_
                  exact J178 (w6) _ _ ⟨by rw [hst]; first | (rw [if_pos ⟨by omega, by omega⟩]; done) | (rw [if_neg (fun q => by omega)]; done), by omega, hP, hD, hS, lv_sub hl [0, 1, 2, 3, 4, 5, 6, 7, 8] rfl⟩
                · refine lv_iload hx hb dL_worst_164 (lv_at hl 0 rfl) ?_
                  refine lv_iload hx hb dL_worst_166 (lv_at hl 2 rfl) ?_
                  refine iv_icmp_ge (a := ((popc 10 (kmI (A2 w7) (S2 w7) (S 0)).toNat : Nat) : Int)) (b := w6) (tgt := 176) hx hb (by omega) (by omega) dL_worst_168 (by decide) (fun c168 => ?_) (fun c168 => ?_)
                  · refine lv_iload hx hb dL_worst_176 (lv_at hl 2 rfl) ?_
                    exact J178 (w6) _ _ ⟨by rw [hst]; first | (rw [if_pos ⟨by omega, by omega⟩]; done) | (rw [if_neg (fun q => by omega)]; done), by omega, hP, hD, hS, lv_sub hl [0, 1, 2, 3, 4, 5, 6, 7, 8] rfl⟩
                  · refine lv_iload hx hb dL_worst_171 (lv_at hl 0 rfl) ?_
                    refine lv_goto (tgt := 178) hx hb dL_worst_173 (by decide) ?_
                    exact J178 (((popc 10 (kmI (A2 w7) (S2 w7) (S 0)).toNat : Nat) : Int)) _ _ ⟨by rw [hst]; first | (rw [if_pos ⟨by omega, by omega⟩]; done) | (rw [if_neg (fun q => by omega)]; done), by omega, hP, hD, hS, lv_sub hl [0, 1, 2, 3, 4, 5, 6, 7, 8] rfl⟩
        · have hx6 : y6.toNat = k := by omega
          have hk5 : k < 512 := by omega
          have hir := inL_r (L := y6.toNat) (a := a) (b := b) (by omega)
          have hcl := cls_r (S := S) (a := a) (b := b) (L := y6.toNat) (by omega) (by omega)
          refine lv_iload hx hb dL_worst_41 (lv_at hl 0 rfl) ?_
          refine lv_aload_n hx hb dL_worst_43 rfl (lv_at hl 4 rfl) ?_
          refine iv_roS (As := [.int (iI y6), .ref sa]) (rest := []) (n := 2) ⟨hx, hb, hml, hown, hts⟩ (c_L_is l D yI yC yD yL sa y6 (2 ^ (S 0).toNat) G (by omega) (by omega)) (va_cwS 2 hts gL_worst_L_is rfl rfl rfl (by decide +kernel) ⟨Nat.le_of_ble_eq_true rfl, Nat.le_of_ble_eq_true rfl⟩) hK hP [1] rfl rfl hl.1 rfl (Nat.le_of_ble_eq_true rfl) dL_worst_44 ⟨Nat.zero_le _, Nat.zero_le _⟩ ?_
          refine iv_ifb_ne (P := G y6.toNat = 1) (tgt := 53) hx hb dL_worst_47 (by decide) (fun c47 => ?_) (fun c47 => ?_)
          · have hGm : G k = 1 := by rw [← hx6]; exact c47
            refine lv_iload hx hb dL_worst_53 (lv_at hl 0 rfl) ?_
            refine lv_iload_n hx hb dL_worst_55 rfl (lv_at hl 1 rfl) ?_
            refine lv_iload_n hx hb dL_worst_56 rfl (lv_at hl 2 rfl) ?_
            refine iv_roS (As := [.int (iI y6), .int (iI a), .int (iI b)]) (rest := []) (n := 3) ⟨hx, hb, hml, hown, hts⟩ (c_L_in l D yI yC yD yL y6 a b (by omega) (by omega)) (va_cwS 3 hts gL_worst_L_in rfl rfl rfl (by decide +kernel) ⟨Nat.le_of_ble_eq_true rfl, Nat.le_of_ble_eq_true rfl⟩) hK hP [] rfl rfl hl.1 rfl (Nat.le_of_ble_eq_true rfl) dL_worst_57 ⟨Nat.zero_le _, Nat.zero_le _⟩ ?_
            refine lv_istore (lv' := [(7, .int (iI (inL y6.toNat a b))), (6, .int (iI y6)), (0, .int (iI a)), (1, .int (iI b)), (2, .ref qa), (3, .ref sa), (4, .ref ga), (5, .ref so)]) hx hb dL_worst_60 hl (by decide) rfl (fun ls hl => ?_)
            refine iv_join (I := fun (qq : Int) H locs ls => match qq with | yv => (yv = cls S a b y6.toNat) ∧ va_P D vwCl [(qa, aI yI 9 (qS S)), (sa, aJ yL 16 (setF G (2 ^ (S 0).toNat))), (ga, aI yI 12 A2), (so, aI yI 12 S2)] H ∧ va_D A [(qa, aI yI 9 (qS S)), (sa, aJ yL 16 (setF G (2 ^ (S 0).toNat))), (ga, aI yI 12 A2), (so, aI yI 12 S2)] ∧ va_S A s.heap H locs ∧ lv_has ls 9 [(7, .int (iI (inL y6.toNat a b))), (6, .int (iI y6)), (0, .int (iI a)), (1, .int (iI b)), (2, .ref qa), (3, .ref sa), (4, .ref ga), (5, .ref so)]) (sx := fun (qq : Int) => match qq with | yv => [.int (iI yv)]) (pcj := 77) ?_ (fun J77 => ?_)
            · intro yv H locs ls hI
              obtain ⟨hy, hP, hD, hS, hl⟩ := hI
              refine lv_istore (lv' := [(8, .int (iI yv)), (7, .int (iI (inL y6.toNat a b))), (6, .int (iI y6)), (0, .int (iI a)), (1, .int (iI b)), (2, .ref qa), (3, .ref sa), (4, .ref ga), (5, .ref so)]) hx hb dL_worst_77 hl (by decide) rfl (fun ls hl => ?_)
              have hy2 : yv = cls S a b k := by rw [← hx6]; exact hy
              refine lv_aload hx hb dL_worst_79 (lv_at hl 7 rfl) ?_
              refine lv_iload hx hb dL_worst_81 (lv_at hl 0 rfl) ?_
              refine lv_dup2_11 hx hb dL_worst_83 rfl rfl ?_
              refine iv_ald hx hb hK hP 2 0 rfl rfl (z := yv) (by omega) (by omega) (by omega) dL_worst_84 ?_
              refine lv_iload hx hb dL_worst_85 (lv_at hl 2 rfl) ?_
              refine lv_iand hx hb dL_worst_87 ?_
              rw [ia_i (A2 yv) y6]
              refine iv_ast hx hb hK hP hD hS 2 0 rfl rfl (z := yv) (v := ia (A2 yv) y6) (by omega) (by omega) (by omega) dL_worst_88 (fun H locs hP hD hS => ?_)
              have hP : va_P D vwCl [(qa, aI yI 9 (qS S)), (sa, aJ yL 16 (setF G (2 ^ (S 0).toNat))), (ga, aI yI 12 (up A2 yv (ia (A2 yv) y6))), (so, aI yI 12 S2)] H := hP
              have hD : va_D A [(qa, aI yI 9 (qS S)), (sa, aJ yL 16 (setF G (2 ^ (S 0).toNat))), (ga, aI yI 12 (up A2 yv (ia (A2 yv) y6))), (so, aI yI 12 S2)] := hD
              refine lv_aload hx hb dL_worst_89 (lv_at hl 8 rfl) ?_
              refine lv_iload hx hb dL_worst_91 (lv_at hl 0 rfl) ?_
              refine lv_dup2_11 hx hb dL_worst_93 rfl rfl ?_
              refine iv_ald hx hb hK hP 3 0 rfl rfl (z := yv) (by omega) (by omega) (by omega) dL_worst_94 ?_
              refine lv_iload hx hb dL_worst_95 (lv_at hl 2 rfl) ?_
              refine lv_ior hx hb dL_worst_97 ?_
              rw [io_i (S2 yv) y6]
              refine iv_ast hx hb hK hP hD hS 3 0 rfl rfl (z := yv) (v := io (S2 yv) y6) (by omega) (by omega) (by omega) dL_worst_98 (fun H locs hP hD hS => ?_)
              have hP : va_P D vwCl [(qa, aI yI 9 (qS S)), (sa, aJ yL 16 (setF G (2 ^ (S 0).toNat))), (ga, aI yI 12 (up A2 yv (ia (A2 yv) y6))), (so, aI yI 12 (up S2 yv (io (S2 yv) y6)))] H := hP
              have hD : va_D A [(qa, aI yI 9 (qS S)), (sa, aJ yL 16 (setF G (2 ^ (S 0).toNat))), (ga, aI yI 12 (up A2 yv (ia (A2 yv) y6))), (so, aI yI 12 (up S2 yv (io (S2 yv) y6)))] := hD
              refine lv_aload hx hb dL_worst_99 (lv_at hl 7 rfl) ?_
              refine lv_iload hx hb dL_worst_101 (lv_at hl 0 rfl) ?_
              refine lv_dup2_11 hx hb dL_worst_103 rfl rfl ?_
              refine iv_aldE hx hb hK hP 2 0 rfl rfl (z := yv) (w := ia (A2 yv) y6) (by first | exact qS_n (by omega) | exact up_s | rfl) (by omega) (by omega) (by omega) dL_worst_104 ?_
              refine lv_ldc (v := iI 1073741823) hx hb hown (hts (.constant RL 51 (1073741823)) (by decide +kernel)) dL_worst_105 ?_
              refine lv_iand hx hb dL_worst_107 ?_
              rw [ia_i (ia (A2 yv) y6) 1073741823]
              refine iv_ast hx hb hK hP hD hS 2 0 rfl rfl (z := yv) (v := ia (ia (A2 yv) y6) 1073741823) (by omega) (by omega) (by omega) dL_worst_108 (fun H locs hP hD hS => ?_)
              have hP : va_P D vwCl [(qa, aI yI 9 (qS S)), (sa, aJ yL 16 (setF G (2 ^ (S 0).toNat))), (ga, aI yI 12 (up (up A2 yv (ia (A2 yv) y6)) yv (ia (ia (A2 yv) y6) 1073741823))), (so, aI yI 12 (up S2 yv (io (S2 yv) y6)))] H := hP
              have hD : va_D A [(qa, aI yI 9 (qS S)), (sa, aJ yL 16 (setF G (2 ^ (S 0).toNat))), (ga, aI yI 12 (up (up A2 yv (ia (A2 yv) y6)) yv (ia (ia (A2 yv) y6) 1073741823))), (so, aI yI 12 (up S2 yv (io (S2 yv) y6)))] := hD
              refine iv_inc (lv' := [(6, .int (iI (y6 + 1))), (8, .int (iI yv)), (7, .int (iI (inL y6.toNat a b))), (0, .int (iI a)), (1, .int (iI b)), (2, .ref qa), (3, .ref sa), (4, .ref ga), (5, .ref so)]) hx hb dL_worst_109 hl (k := 2) rfl (by decide) rfl (fun ls hl => ?_)
              refine lv_goto (tgt := 31) hx hb dL_worst_112 (by decide) ?_
              refine ih31 (k + 1, y6 + 1, up (up A2 yv (ia (A2 yv) y6)) yv (ia (ia (A2 yv) y6) 1073741823), up S2 yv (io (S2 yv) y6)) _ _ (by show ((2 ^ (S 0).toNat) - (k + 1) : Nat) < (2 ^ (S 0).toNat) - k; omega) ?_
              exact ⟨by omega, by omega, fun z q0 q1 => by first | exact ws_n1 hAS hy2 hGm hk5 h7 z q0 q1 | (rw [(gk_no hGn).1, (gk_no hGn).2]; exact hAS z q0 q1), hP, hD, hS, lv_sub hl [0, 3, 4, 5, 6, 7, 8] rfl⟩
            · refine lv_iload hx hb dL_worst_62 (lv_at hl 0 rfl) ?_
              refine lv_aload_n hx hb dL_worst_64 rfl (lv_at hl 4 rfl) ?_
              refine lv_iconst (v := iI 2) hx hb dL_worst_65 (by decide +kernel) ?_
              refine iv_aldE hx hb hK hP 0 0 rfl rfl (z := 2) (w := S 2) (by first | exact qS_n (by omega) | exact up_s | rfl) (by omega) (by omega) (by omega) dL_worst_66 ?_
              refine iv_icmp_ge (a := inL y6.toNat a b) (b := S 2) (tgt := 75) hx hb (by omega) (by omega) dL_worst_67 (by decide) (fun c67 => ?_) (fun c67 => ?_)
              · refine lv_iload hx hb dL_worst_75 (lv_at hl 0 rfl) ?_
                exact J77 (inL y6.toNat a b) _ _ ⟨by show _ = if inL y6.toNat a b < S 2 then 11 else inL y6.toNat a b; first | (rw [if_pos (by omega)]; done) | (rw [if_neg (by omega)]; done), hP, hD, hS, lv_sub hl [0, 1, 2, 3, 4, 5, 6, 7] rfl⟩
              · refine lv_bipush (v := iI 11) hx hb dL_worst_70 (by decide +kernel) ?_
                refine lv_goto (tgt := 77) hx hb dL_worst_72 (by decide) ?_
                exact J77 (11) _ _ ⟨by show _ = if inL y6.toNat a b < S 2 then 11 else inL y6.toNat a b; first | (rw [if_pos (by omega)]; done) | (rw [if_neg (by omega)]; done), hP, hD, hS, lv_sub hl [0, 1, 2, 3, 4, 5, 6, 7] rfl⟩
          · have hGn : ¬ G k = 1 := by rw [← hx6]; exact c47
            refine lv_goto (tgt := 109) hx hb dL_worst_50 (by decide) ?_
            refine iv_inc (lv' := [(6, .int (iI (y6 + 1))), (0, .int (iI a)), (1, .int (iI b)), (2, .ref qa), (3, .ref sa), (4, .ref ga), (5, .ref so)]) hx hb dL_worst_109 hl (k := 0) rfl (by decide) rfl (fun ls hl => ?_)
            refine lv_goto (tgt := 31) hx hb dL_worst_112 (by decide) ?_
            refine ih31 (k + 1, y6 + 1, A2, S2) _ _ (by show ((2 ^ (S 0).toNat) - (k + 1) : Nat) < (2 ^ (S 0).toNat) - k; omega) ?_
            exact ⟨by omega, by omega, fun z q0 q1 => by first | exact ws_n1 hAS hy2 hGm hk5 h7 z q0 q1 | (rw [(gk_no hGn).1, (gk_no hGn).2]; exact hAS z q0 q1), hP, hD, hS, lv_sub hl [0, 1, 2, 3, 4, 5, 6] rfl⟩
    · refine lv_aload hx hb dL_worst_10 (lv_at hl 5 rfl) ?_
      refine lv_iload hx hb dL_worst_12 (lv_at hl 0 rfl) ?_
      refine lv_iconst (v := iI (-1)) hx hb dL_worst_14 (by decide +kernel) ?_
      refine iv_ast hx hb hK hP hD hS 2 0 rfl rfl (z := x6) (v := -1) (by omega) (by omega) (by omega) dL_worst_15 (fun H locs hP hD hS => ?_)
      have hP : va_P D vwCl [(qa, aI yI 9 (qS S)), (sa, aJ yL 16 (setF G (2 ^ (S 0).toNat))), (ga, aI yI 12 (up A1 x6 (-1))), (so, aI yI 12 S1)] H := hP
      have hD : va_D A [(qa, aI yI 9 (qS S)), (sa, aJ yL 16 (setF G (2 ^ (S 0).toNat))), (ga, aI yI 12 (up A1 x6 (-1))), (so, aI yI 12 S1)] := hD
      refine lv_aload hx hb dL_worst_16 (lv_at hl 6 rfl) ?_
      refine lv_iload hx hb dL_worst_18 (lv_at hl 0 rfl) ?_
      refine lv_iconst (v := iI 0) hx hb dL_worst_20 (by decide +kernel) ?_
      refine iv_ast hx hb hK hP hD hS 3 0 rfl rfl (z := x6) (v := 0) (by omega) (by omega) (by omega) dL_worst_21 (fun H locs hP hD hS => ?_)
      have hP : va_P D vwCl [(qa, aI yI 9 (qS S)), (sa, aJ yL 16 (setF G (2 ^ (S 0).toNat))), (ga, aI yI 12 (up A1 x6 (-1))), (so, aI yI 12 (up S1 x6 0))] H := hP
      have hD : va_D A [(qa, aI yI 9 (qS S)), (sa, aJ yL 16 (setF G (2 ^ (S 0).toNat))), (ga, aI yI 12 (up A1 x6 (-1))), (so, aI yI 12 (up S1 x6 0))] := hD
      refine iv_inc (lv' := [(6, .int (iI (x6 + 1))), (0, .int (iI a)), (1, .int (iI b)), (2, .ref qa), (3, .ref sa), (4, .ref ga), (5, .ref so)]) hx hb dL_worst_22 hl (k := 0) rfl (by decide) rfl (fun ls hl => ?_)
      refine lv_goto (tgt := 3) hx hb dL_worst_25 (by decide) ?_
      refine ih3 (n + 1, x6 + 1, up A1 x6 (-1), up S1 x6 0) _ _ (by show (12 - (n + 1) : Nat) < 12 - n; omega) ?_
      exact ⟨by omega, by omega, fun z q0 q1 => (if e : z = x6 then (by rw [e, up_s, up_s]; exact ⟨rfl, rfl⟩) else (by rw [up_n e, up_n e]; exact hz z q0 (by omega))), hP, hD, hS, lv_sub hl [0, 1, 2, 3, 4, 5, 6] rfl⟩
