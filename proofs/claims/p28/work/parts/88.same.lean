set_option maxHeartbeats 4000000 in
set_option maxRecDepth 100000 in
theorem c_L_same (l : Launch) (D : va_G) (yI yC yD yL : ClassId) (x : Nat) (tx : Nat) (nw : Nat) (tr : Nat) (kn : Nat) (me : Nat) (sl : Nat) (nc : Nat) (S : Int → Int) (g : Int → Int) (ex : Nat) (pl : Int) (E : Int → Int) (qa : Nat) (aa : Nat) (sa : Nat) (ga : Nat) (so : Nat) (gl : Int → Int) (F : Nat → Int64) (fA : Int → Int) (fS : Int → Int) (hI : Inv S) (hR : Rc S g) (hRl : Rc S gl) (h9 : S 0 ≤ 9) (hs6 : 0 ≤ S 6 ∧ S 6 ≤ 1000) (sz : Nat) : Met l yL_same wsL_same ({ frames := 5, cells := 0, slots := 0, locals := 125 }) (rwP [.ref x, .ref qa, .ref aa, .ref sa, .ref ga, .ref so] D (tyl yI yC yD yL) [(x, oRD tx nw tr kn me sl), (nw, oDrv nc S (lN (kL (S) 0 40))), (nc, aI yI 48 g), (kn, oKn pl ex), (ex, aI yI 1681 E), (qa, aI yI 9 (qS S)), (aa, aI yI 48 gl), (sa, aJ yL 16 F), (ga, aI yI 12 fA), (so, aI yI 12 fS)] sz) (va_Qi (fun (r : Int32) (u : Int × (Int → Int) × (Nat → Int64) × (Int → Int) × (Int → Int)) => match u with | (p9, E9, F9, gA9, gS9) => r = iI 1 ∧ True) (fun (u : Int × (Int → Int) × (Nat → Int64) × (Int → Int) × (Int → Int)) (t : State) => match u with | (p9, E9, F9, gA9, gS9) => va_P D vwCl [(x, oRD tx nw tr kn me sl), (nw, oDrv nc S (lN (kL (S) 0 40))), (nc, aI yI 48 g), (kn, oKn p9 ex), (ex, aI yI 1681 E9), (qa, aI yI 9 (qS S)), (aa, aI yI 48 gl), (sa, aJ yL 16 F9), (ga, aI yI 12 gA9), (so, aI yI 12 gS9)] t.heap) (va_A [(x, oRD tx nw tr kn me sl), (nw, oDrv nc S (lN (kL (S) 0 40))), (nc, aI yI 48 g), (kn, oKn pl ex), (ex, aI yI 1681 E), (qa, aI yI 9 (qS S)), (aa, aI yI 48 gl), (sa, aJ yL 16 F), (ga, aI yI 12 fA), (so, aI yI 12 fS)] sz)) 0 0 (va_A [(x, oRD tx nw tr kn me sl), (nw, oDrv nc S (lN (kL (S) 0 40))), (nc, aI yI 48 g), (kn, oKn pl ex), (ex, aI yI 1681 E), (qa, aI yI 9 (qS S)), (aa, aI yI 48 gl), (sa, aJ yL 16 F), (ga, aI yI 12 fA), (so, aI yI 12 fS)] sz) := by
  refine Met.ofW (cc := cL_same) (maxL := 19) (ret := (some .boolean)) (by decide) rfl ?_
  intro p e s m args below meth c s₁ B hml hv
  obtain ⟨rfl, hsz, hP, hK, hD0⟩ := hv
  have hx := B.exec
  have hb := B.bytes
  have hr := B.returns
  have hts := atoms_spec (ws := wsL_same) B.pre
  have hown : s.vm.findClass RL = some m.cls := findClass_of_methodNamed B.named
  have hlocks := B.notSynchronized
  subst hsz
  have hD := hD0.self (sz := s.heap.size)
  generalize hAe : va_A [(x, oRD tx nw tr kn me sl), (nw, oDrv nc S (lN (kL (S) 0 40))), (nc, aI yI 48 g), (kn, oKn pl ex), (ex, aI yI 1681 E), (qa, aI yI 9 (qS S)), (aa, aI yI 48 gl), (sa, aJ yL 16 F), (ga, aI yI 12 fA), (so, aI yI 12 fS)] s.heap.size = A at hD ⊢
  have hA : ∀ q : Nat, s.heap.size ≤ q → A q := fun q h => by rw [← hAe]; exact Or.inr h
  have hS : va_S A s.heap s.heap [] := va_S.rf
  have hP : va_P D vwCl [(x, oRD tx nw tr kn me sl), (nw, oDrv nc S (lN (kL (S) 0 40))), (nc, aI yI 48 g), (kn, oKn pl ex), (ex, aI yI 1681 E), (qa, aI yI 9 (qS S)), (aa, aI yI 48 gl), (sa, aJ yL 16 F), (ga, aI yI 12 fA), (so, aI yI 12 fS)] s.heap := hP
  have hKz : va_K D vwCl (tyz yI yC yD) s := hK.sub [0, 1, 2] rfl
  have hl := lv_entry ([.ref x, .ref qa, .ref aa, .ref sa, .ref ga, .ref so]) (n := 19) (Nat.le_of_ble_eq_true rfl)
  rw [lg_entry_eq]
  generalize (lg_sl ([.ref x, .ref qa, .ref aa, .ref sa, .ref ga, .ref so]) ++ List.replicate (19 - (lg_sl ([.ref x, .ref qa, .ref aa, .ref sa, .ref ga, .ref so])).length) Slot.unset).toArray = ls at hl ⊢
  have hl : lv_has ls 19 [(0, .ref x), (1, .ref qa), (2, .ref aa), (3, .ref sa), (4, .ref ga), (5, .ref so)] := hl
  have hpl := hI.pl
  have hna := hI.na
  have hse := hI.se
  have hwi := hI.wi
  have hfe := hI.fe
  have hna := hI.na
  have hwi := hI.wi
  have hse := hI.se
  have hfe := hI.fe
  have hkl := kq_lt hI h9
  have hG : Rep (fitG S (-1)) (FB S (-1)) (S 0) := rep_FB hI h9 (-1)
  have hM : 2 ^ (S 0).toNat ≤ 512 := pw_le (n := 9) (by omega)
  refine lv_iconst (v := iI (-1)) hx hb dL_same_0 (by decide +kernel) ?_
  refine lv_aload_n hx hb dL_same_1 rfl (lv_at hl 1 rfl) ?_
  refine lv_aload_n hx hb dL_same_2 rfl (lv_at hl 2 rfl) ?_
  refine lv_aload_n hx hb dL_same_3 rfl (lv_at hl 3 rfl) ?_
  refine iv_rwSv (As := [.int (iI (-1)), .ref qa, .ref aa, .ref sa]) (rest := []) (n := 4) ⟨hx, hb, hml, hown, hts⟩ (c_L_possible l D yI yC yD yL qa aa S gl sa F (-1) (by assumption) (by assumption) (by omega) (by omega) _) (va_cwS 4 hts gL_same_L_possible rfl rfl rfl (by decide +kernel) ⟨Nat.le_of_ble_eq_true rfl, Nat.le_of_ble_eq_true rfl⟩) hK hP hD hS hA [5, 6, 7] (by decide) rfl rfl hl.1 rfl (Nat.le_of_ble_eq_true rfl) dL_same_4 ⟨Nat.zero_le _, Nat.zero_le _⟩ (fun _ => by simp only [List.map_cons, List.map_nil]) (fun u4 H locs hw4 hP hD hS => ?_)
  have hP : va_P D vwCl [(x, oRD tx nw tr kn me sl), (nw, oDrv nc S (lN (kL (S) 0 40))), (nc, aI yI 48 g), (kn, oKn pl ex), (ex, aI yI 1681 E), (qa, aI yI 9 (qS S)), (aa, aI yI 48 gl), (sa, aJ yL 16 (setF (fitG S (-1)) (2 ^ (S 0).toNat))), (ga, aI yI 12 fA), (so, aI yI 12 fS)] H := hP
  have hD : va_D A [(x, oRD tx nw tr kn me sl), (nw, oDrv nc S (lN (kL (S) 0 40))), (nc, aI yI 48 g), (kn, oKn pl ex), (ex, aI yI 1681 E), (qa, aI yI 9 (qS S)), (aa, aI yI 48 gl), (sa, aJ yL 16 (setF (fitG S (-1)) (2 ^ (S 0).toNat))), (ga, aI yI 12 fA), (so, aI yI 12 fS)] := hD
  refine lv_aload_n hx hb dL_same_7 rfl (lv_at hl 1 rfl) ?_
  refine lv_aload_n hx hb dL_same_8 rfl (lv_at hl 3 rfl) ?_
  refine iv_roS (As := [.ref qa, .ref sa]) (rest := []) (n := 2) ⟨hx, hb, hml, hown, hts⟩ (c_L_known l D yI yC yD yL qa sa S (fitG S (-1)) (by omega)) (va_cwS 2 hts gL_same_L_known rfl rfl rfl (by decide +kernel) ⟨Nat.le_of_ble_eq_true rfl, Nat.le_of_ble_eq_true rfl⟩) hK hP [5, 7] rfl rfl hl.1 rfl (Nat.le_of_ble_eq_true rfl) dL_same_9 ⟨Nat.zero_le _, Nat.zero_le _⟩ ?_
  rw [show (kmI (alI (fitG S (-1)) (2 ^ (S 0).toNat)) (soI (fitG S (-1)) (2 ^ (S 0).toNat)) (S 0) : Int) = ((wd (knF (FB S (-1))) 0 (S 0).toNat : Nat) : Int) from (rep_km hG)]
  refine lv_istore (lv' := [(6, .int (iI ((wd (knF (FB S (-1))) 0 (S 0).toNat : Nat) : Int))), (0, .ref x), (1, .ref qa), (2, .ref aa), (3, .ref sa), (4, .ref ga), (5, .ref so)]) hx hb dL_same_12 hl (by decide) rfl (fun ls hl => ?_)
  refine lv_iconst (v := iI (-1)) hx hb dL_same_14 (by decide +kernel) ?_
  refine lv_istore (lv' := [(7, .int (iI (-1))), (6, .int (iI ((wd (knF (FB S (-1))) 0 (S 0).toNat : Nat) : Int))), (0, .ref x), (1, .ref qa), (2, .ref aa), (3, .ref sa), (4, .ref ga), (5, .ref so)]) hx hb dL_same_15 hl (by decide) rfl (fun ls hl => ?_)
  refine lv_iconst (v := iI 0) hx hb dL_same_17 (by decide +kernel) ?_
  refine lv_istore (lv' := [(8, .int (iI 0)), (7, .int (iI (-1))), (6, .int (iI ((wd (knF (FB S (-1))) 0 (S 0).toNat : Nat) : Int))), (0, .ref x), (1, .ref qa), (2, .ref aa), (3, .ref sa), (4, .ref ga), (5, .ref so)]) hx hb dL_same_18 hl (by decide) rfl (fun ls hl => ?_)
  refine lv_iconst (v := iI 0) hx hb dL_same_20 (by decide +kernel) ?_
  refine lv_istore (lv' := [(9, .int (iI 0)), (8, .int (iI 0)), (7, .int (iI (-1))), (6, .int (iI ((wd (knF (FB S (-1))) 0 (S 0).toNat : Nat) : Int))), (0, .ref x), (1, .ref qa), (2, .ref aa), (3, .ref sa), (4, .ref ga), (5, .ref so)]) hx hb dL_same_21 hl (by decide) rfl (fun ls hl => ?_)
  refine lv_iconst (v := iI 0) hx hb dL_same_23 (by decide +kernel) ?_
  refine lv_istore (lv' := [(10, .int (iI 0)), (9, .int (iI 0)), (8, .int (iI 0)), (7, .int (iI (-1))), (6, .int (iI ((wd (knF (FB S (-1))) 0 (S 0).toNat : Nat) : Int))), (0, .ref x), (1, .ref qa), (2, .ref aa), (3, .ref sa), (4, .ref ga), (5, .ref so)]) hx hb dL_same_24 hl (by decide) rfl (fun ls hl => ?_)
  refine lv_iconst (v := iI 0) hx hb dL_same_26 (by decide +kernel) ?_
  refine lv_istore (lv' := [(11, .int (iI 0)), (10, .int (iI 0)), (9, .int (iI 0)), (8, .int (iI 0)), (7, .int (iI (-1))), (6, .int (iI ((wd (knF (FB S (-1))) 0 (S 0).toNat : Nat) : Int))), (0, .ref x), (1, .ref qa), (2, .ref aa), (3, .ref sa), (4, .ref ga), (5, .ref so)]) hx hb dL_same_27 hl (by decide) rfl (fun ls hl => ?_)
  refine iv_loop (I := fun (qq : Nat × Int × Int × Int × Int × Int × Int × (Int → Int) × (Int → Int) × (Int → Int)) H locs ls => match qq with | (ka, x7, x8, x9, x10, x11, p1, E1, A1, S1) => ((ka : Int) ≤ S 0) ∧ (x11 = ka) ∧ (x10 = kCnt (FB S (-1)) ka) ∧ ((x7, x8, x9) = bqO S (FB S (-1)) ka) ∧ (0 ≤ x8 ∧ x8 ≤ 100 ∧ 0 ≤ x9 ∧ x9 ≤ 100 ∧ -1 ≤ x7 ∧ x7 ≤ 4000) ∧ va_P D vwCl [(x, oRD tx nw tr kn me sl), (nw, oDrv nc S (lN (kL (S) 0 40))), (nc, aI yI 48 g), (kn, oKn p1 ex), (ex, aI yI 1681 E1), (qa, aI yI 9 (qS S)), (aa, aI yI 48 gl), (sa, aJ yL 16 (setF (fitG S (-1)) (2 ^ (S 0).toNat))), (ga, aI yI 12 A1), (so, aI yI 12 S1)] H ∧ va_D A [(x, oRD tx nw tr kn me sl), (nw, oDrv nc S (lN (kL (S) 0 40))), (nc, aI yI 48 g), (kn, oKn p1 ex), (ex, aI yI 1681 E1), (qa, aI yI 9 (qS S)), (aa, aI yI 48 gl), (sa, aJ yL 16 (setF (fitG S (-1)) (2 ^ (S 0).toNat))), (ga, aI yI 12 A1), (so, aI yI 12 S1)] ∧ va_S A s.heap H locs ∧ lv_has ls 19 [(11, .int (iI x11)), (10, .int (iI x10)), (9, .int (iI x9)), (8, .int (iI x8)), (7, .int (iI x7)), (6, .int (iI ((wd (knF (FB S (-1))) 0 (S 0).toNat : Nat) : Int))), (0, .ref x), (1, .ref qa), (2, .ref aa), (3, .ref sa), (4, .ref ga), (5, .ref so)]) (μ := fun (qq : Nat × Int × Int × Int × Int × Int × Int × (Int → Int) × (Int → Int) × (Int → Int)) => match qq with | (ka, x7, x8, x9, x10, x11, p1, E1, A1, S1) => (S 0).toNat - ka) (0, -1, 0, 0, 0, 0, pl, E, fA, fS) ?_ ?_
  · exact ⟨by omega, by omega, rfl, rfl, by omega, hP, hD, hS, lv_sub hl [0, 1, 2, 3, 4, 5, 6, 7, 8, 9, 10, 11] rfl⟩
  · intro qq H locs ls hI ih29
    obtain ⟨ka, x7, x8, x9, x10, x11, p1, E1, A1, S1⟩ := qq
    obtain ⟨hka, h11, h10, hq0, hr0, hP, hD, hS, hl⟩ := hI
    refine lv_iload hx hb dL_same_29 (lv_at hl 0 rfl) ?_
    refine lv_aload_n hx hb dL_same_31 rfl (lv_at hl 7 rfl) ?_
    refine lv_iconst (v := iI 0) hx hb dL_same_32 (by decide +kernel) ?_
    refine iv_aldE hx hb hK hP 5 0 rfl rfl (z := 0) (w := S 0) (by first | exact qS_n (by omega) | exact up_s | rfl) (by omega) (by omega) (by omega) dL_same_33 ?_
    refine iv_icmp_ge (a := x11) (b := S 0) (tgt := 373) hx hb (by omega) (by omega) dL_same_34 (by decide) (fun c34 => ?_) (fun c34 => ?_)
    · have hcr2 := kCnt_r (r := (FB S (-1))) ka
      have hka2 : ka = (S 0).toNat := by omega
      have hbest : bestQ S = x7 := by unfold bestQ; rw [← hka2, ← hq0]
      have hnone : kAt (FB S (-1)) x10 (S 0).toNat = -1 := kAt_none _ (by rw [← hka2, ← h10]; exact Int.le_refl _)
      have hall : knownIn (FB S (-1)) (S 0) = x10 := by rw [h10, hka2]; exact (kCnt_known hI).symm
      refine lv_aload_n hx hb dL_same_373 rfl (lv_at hl 6 rfl) ?_
      refine iv_rwV (As := []) (rest := []) (C := RX4) (n := 0) ⟨hx, hb, hml, hown, hts⟩ (c_X4_bestQuestion l D yI yC yD x tx nw tr kn me sl nc S g ex p1 E1 (by assumption) (by assumption) _) (cwV 0 hts gL_same_X4_bestQuestion rfl rfl rfl (by decide +kernel) ⟨Nat.le_of_ble_eq_true rfl, Nat.le_of_ble_eq_true rfl⟩) hKz hP hD hS hA [0, 1, 2, 3, 4] (by decide) rfl 0 rfl rfl rfl hl.1 rfl (Nat.le_of_ble_eq_true rfl) dL_same_374 ⟨Nat.zero_le _, Nat.zero_le _⟩ (fun _ => rfl) (fun r374 u374 H locs hw374 hP hD hS => ?_)
      obtain ⟨p9374, E9374⟩ := u374
      obtain ⟨hr374, -⟩ := hw374
      subst hr374
      have hP : va_P D vwCl [(x, oRD tx nw tr kn me sl), (nw, oDrv nc S (lN (kL (S) 0 40))), (nc, aI yI 48 g), (kn, oKn p9374 ex), (ex, aI yI 1681 E9374), (qa, aI yI 9 (qS S)), (aa, aI yI 48 gl), (sa, aJ yL 16 (setF (fitG S (-1)) (2 ^ (S 0).toNat))), (ga, aI yI 12 A1), (so, aI yI 12 S1)] H := hP
      have hD : va_D A [(x, oRD tx nw tr kn me sl), (nw, oDrv nc S (lN (kL (S) 0 40))), (nc, aI yI 48 g), (kn, oKn p9374 ex), (ex, aI yI 1681 E9374), (qa, aI yI 9 (qS S)), (aa, aI yI 48 gl), (sa, aJ yL 16 (setF (fitG S (-1)) (2 ^ (S 0).toNat))), (ga, aI yI 12 A1), (so, aI yI 12 S1)] := hD
      refine lv_iload hx hb dL_same_377 (lv_at hl 4 rfl) ?_
      refine iv_icmp_ne (a := bestQ S) (b := x7) (tgt := 403) hx hb (by omega) (by omega) dL_same_379 (by decide) (fun c379 => ?_) (fun c379 => ?_)
      · exact absurd (by omega) c379
      · refine lv_aload_n hx hb dL_same_382 rfl (lv_at hl 6 rfl) ?_
        refine lv_iload hx hb dL_same_383 (lv_at hl 1 rfl) ?_
        refine iv_rwV (As := [.int (iI x10)]) (rest := []) (C := RX4) (n := 1) ⟨hx, hb, hml, hown, hts⟩ (c_X4_knownAt_ok l D yI yC yD x tx nw tr kn me sl nc S g ex p9374 E9374 x10 (by assumption) (by assumption) ((⟨by omega, by omega⟩)) (by omega) _) (cwV 1 hts gL_same_X4_knownAt rfl rfl rfl (by decide +kernel) ⟨Nat.le_of_ble_eq_true rfl, Nat.le_of_ble_eq_true rfl⟩) hKz hP hD hS hA [0, 1, 2, 3, 4] (by decide) rfl 0 rfl rfl rfl hl.1 rfl (Nat.le_of_ble_eq_true rfl) dL_same_385 ⟨Nat.zero_le _, Nat.zero_le _⟩ (fun _ => rfl) (fun r385 u385 H locs hw385 hP hD hS => ?_)
        obtain ⟨p9385, E9385⟩ := u385
        obtain ⟨hr385, -⟩ := hw385
        subst hr385
        have hP : va_P D vwCl [(x, oRD tx nw tr kn me sl), (nw, oDrv nc S (lN (kL (S) 0 40))), (nc, aI yI 48 g), (kn, oKn p9385 ex), (ex, aI yI 1681 E9385), (qa, aI yI 9 (qS S)), (aa, aI yI 48 gl), (sa, aJ yL 16 (setF (fitG S (-1)) (2 ^ (S 0).toNat))), (ga, aI yI 12 A1), (so, aI yI 12 S1)] H := hP
        have hD : va_D A [(x, oRD tx nw tr kn me sl), (nw, oDrv nc S (lN (kL (S) 0 40))), (nc, aI yI 48 g), (kn, oKn p9385 ex), (ex, aI yI 1681 E9385), (qa, aI yI 9 (qS S)), (aa, aI yI 48 gl), (sa, aJ yL 16 (setF (fitG S (-1)) (2 ^ (S 0).toNat))), (ga, aI yI 12 A1), (so, aI yI 12 S1)] := hD
        refine lv_iconst (v := iI (-1)) hx hb dL_same_388 (by decide +kernel) ?_
        refine iv_icmp_ne (a := kAt (FB S (-1)) x10 (S 0).toNat) (b := -1) (tgt := 403) hx hb (by omega) (by omega) dL_same_389 (by decide) (fun c389 => ?_) (fun c389 => ?_)
        · exact absurd (by omega) c389
        · refine lv_aload_n hx hb dL_same_392 rfl (lv_at hl 6 rfl) ?_
          refine lv_bipush (v := iI 9) hx hb dL_same_393 (by decide +kernel) ?_
          refine iv_rwV (As := [.int (iI 9)]) (rest := []) (C := RX4) (n := 1) ⟨hx, hb, hml, hown, hts⟩ (c_X4_about_ok l D yI yC yD x tx nw tr kn me sl nc S g ex p9385 E9385 9 (by assumption) (by assumption) ((⟨by omega, by omega⟩)) (by omega) _) (cwV 1 hts gL_same_X4_about rfl rfl rfl (by decide +kernel) ⟨Nat.le_of_ble_eq_true rfl, Nat.le_of_ble_eq_true rfl⟩) hKz hP hD hS hA [0, 1, 2, 3, 4] (by decide) rfl 0 rfl rfl rfl hl.1 rfl (Nat.le_of_ble_eq_true rfl) dL_same_395 ⟨Nat.zero_le _, Nat.zero_le _⟩ (fun _ => rfl) (fun r395 u395 H locs hw395 hP hD hS => ?_)
          obtain ⟨p9395, E9395⟩ := u395
          obtain ⟨hr395, -⟩ := hw395
          subst hr395
          rw [show (abt S 9 : Int) = knownIn (FB S (-1)) (S 0) from (rfl)]
          have hP : va_P D vwCl [(x, oRD tx nw tr kn me sl), (nw, oDrv nc S (lN (kL (S) 0 40))), (nc, aI yI 48 g), (kn, oKn p9395 ex), (ex, aI yI 1681 E9395), (qa, aI yI 9 (qS S)), (aa, aI yI 48 gl), (sa, aJ yL 16 (setF (fitG S (-1)) (2 ^ (S 0).toNat))), (ga, aI yI 12 A1), (so, aI yI 12 S1)] H := hP
          have hD : va_D A [(x, oRD tx nw tr kn me sl), (nw, oDrv nc S (lN (kL (S) 0 40))), (nc, aI yI 48 g), (kn, oKn p9395 ex), (ex, aI yI 1681 E9395), (qa, aI yI 9 (qS S)), (aa, aI yI 48 gl), (sa, aJ yL 16 (setF (fitG S (-1)) (2 ^ (S 0).toNat))), (ga, aI yI 12 A1), (so, aI yI 12 S1)] := hD
          refine lv_iload hx hb dL_same_398 (lv_at hl 1 rfl) ?_
          refine iv_icmp_eq (a := knownIn (FB S (-1)) (S 0)) (b := x10) (tgt := 405) hx hb (by omega) (by omega) dL_same_400 (by decide) (fun c400 => ?_) (fun c400 => ?_)
          · refine lv_iconst (v := iI 0) hx hb dL_same_405 (by decide +kernel) ?_
            refine lv_istore (lv' := [(11, .int (iI 0)), (10, .int (iI x10)), (9, .int (iI x9)), (8, .int (iI x8)), (7, .int (iI x7)), (6, .int (iI ((wd (knF (FB S (-1))) 0 (S 0).toNat : Nat) : Int))), (0, .ref x), (1, .ref qa), (2, .ref aa), (3, .ref sa), (4, .ref ga), (5, .ref so)]) hx hb dL_same_406 hl (by decide) rfl (fun ls hl => ?_)
            refine iv_loop (I := fun (qq : Nat × Int) H locs ls => match qq with | (n1, u11) => ((n1 : Int) ≤ S 4) ∧ (u11 = n1) ∧ va_P D vwCl [(x, oRD tx nw tr kn me sl), (nw, oDrv nc S (lN (kL (S) 0 40))), (nc, aI yI 48 g), (kn, oKn p9395 ex), (ex, aI yI 1681 E9395), (qa, aI yI 9 (qS S)), (aa, aI yI 48 gl), (sa, aJ yL 16 (setF (fitG S (-1)) (2 ^ (S 0).toNat))), (ga, aI yI 12 A1), (so, aI yI 12 S1)] H ∧ va_D A [(x, oRD tx nw tr kn me sl), (nw, oDrv nc S (lN (kL (S) 0 40))), (nc, aI yI 48 g), (kn, oKn p9395 ex), (ex, aI yI 1681 E9395), (qa, aI yI 9 (qS S)), (aa, aI yI 48 gl), (sa, aJ yL 16 (setF (fitG S (-1)) (2 ^ (S 0).toNat))), (ga, aI yI 12 A1), (so, aI yI 12 S1)] ∧ va_S A s.heap H locs ∧ lv_has ls 19 [(11, .int (iI u11)), (10, .int (iI x10)), (9, .int (iI x9)), (8, .int (iI x8)), (7, .int (iI x7)), (6, .int (iI ((wd (knF (FB S (-1))) 0 (S 0).toNat : Nat) : Int))), (0, .ref x), (1, .ref qa), (2, .ref aa), (3, .ref sa), (4, .ref ga), (5, .ref so)]) (μ := fun (qq : Nat × Int) => match qq with | (n1, u11) => (S 4).toNat - n1) (0, 0) ?_ ?_
            · exact ⟨by omega, by omega, hP, hD, hS, lv_sub hl [0, 1, 2, 3, 4, 5, 6, 7, 8, 9, 10, 11] rfl⟩
            · intro qq H locs ls hI ih408
              obtain ⟨n1, u11⟩ := qq
              obtain ⟨hn1, hu1, hP, hD, hS, hl⟩ := hI
              refine lv_iload hx hb dL_same_408 (lv_at hl 0 rfl) ?_
              refine lv_aload_n hx hb dL_same_410 rfl (lv_at hl 7 rfl) ?_
              refine lv_iconst (v := iI 4) hx hb dL_same_411 (by decide +kernel) ?_
              refine iv_aldE hx hb hK hP 5 0 rfl rfl (z := 4) (w := S 4) (by first | exact qS_n (by omega) | exact up_s | rfl) (by omega) (by omega) (by omega) dL_same_412 ?_
              refine iv_icmp_ge (a := u11) (b := S 4) (tgt := 459) hx hb (by omega) (by omega) dL_same_413 (by decide) (fun c413 => ?_) (fun c413 => ?_)
              · refine lv_iconst (v := iI (-1)) hx hb dL_same_459 (by decide +kernel) ?_
                refine lv_istore (lv' := [(11, .int (iI (-1))), (10, .int (iI x10)), (9, .int (iI x9)), (8, .int (iI x8)), (7, .int (iI x7)), (6, .int (iI ((wd (knF (FB S (-1))) 0 (S 0).toNat : Nat) : Int))), (0, .ref x), (1, .ref qa), (2, .ref aa), (3, .ref sa), (4, .ref ga), (5, .ref so)]) hx hb dL_same_460 hl (by decide) rfl (fun ls hl => ?_)
                refine lv_iconst (v := iI (-1)) hx hb dL_same_462 (by decide +kernel) ?_
                refine lv_istore (lv' := [(12, .int (iI (-1))), (11, .int (iI (-1))), (10, .int (iI x10)), (9, .int (iI x9)), (8, .int (iI x8)), (7, .int (iI x7)), (6, .int (iI ((wd (knF (FB S (-1))) 0 (S 0).toNat : Nat) : Int))), (0, .ref x), (1, .ref qa), (2, .ref aa), (3, .ref sa), (4, .ref ga), (5, .ref so)]) hx hb dL_same_463 hl (by decide) rfl (fun ls hl => ?_)
                refine lv_iconst (v := iI 0) hx hb dL_same_465 (by decide +kernel) ?_
                refine lv_istore (lv' := [(13, .int (iI 0)), (12, .int (iI (-1))), (11, .int (iI (-1))), (10, .int (iI x10)), (9, .int (iI x9)), (8, .int (iI x8)), (7, .int (iI x7)), (6, .int (iI ((wd (knF (FB S (-1))) 0 (S 0).toNat : Nat) : Int))), (0, .ref x), (1, .ref qa), (2, .ref aa), (3, .ref sa), (4, .ref ga), (5, .ref so)]) hx hb dL_same_466 hl (by decide) rfl (fun ls hl => ?_)
                refine iv_loop (I := fun (qq : Nat × Int × Int × Int × (Nat → Int64)) H locs ls => match qq with | (n3, w11, w12, w13, F3) => ((n3 : Int) ≤ S 4) ∧ (w13 = n3) ∧ ((w11, w12) = lwN S n3) ∧ (-1 ≤ w11 ∧ w11 ≤ 40 ∧ -1 ≤ w12 ∧ w12 ≤ 40) ∧ va_P D vwCl [(x, oRD tx nw tr kn me sl), (nw, oDrv nc S (lN (kL (S) 0 40))), (nc, aI yI 48 g), (kn, oKn p9395 ex), (ex, aI yI 1681 E9395), (qa, aI yI 9 (qS S)), (aa, aI yI 48 gl), (sa, aJ yL 16 F3), (ga, aI yI 12 A1), (so, aI yI 12 S1)] H ∧ va_D A [(x, oRD tx nw tr kn me sl), (nw, oDrv nc S (lN (kL (S) 0 40))), (nc, aI yI 48 g), (kn, oKn p9395 ex), (ex, aI yI 1681 E9395), (qa, aI yI 9 (qS S)), (aa, aI yI 48 gl), (sa, aJ yL 16 F3), (ga, aI yI 12 A1), (so, aI yI 12 S1)] ∧ va_S A s.heap H locs ∧ lv_has ls 19 [(13, .int (iI w13)), (12, .int (iI w12)), (11, .int (iI w11)), (10, .int (iI x10)), (9, .int (iI x9)), (8, .int (iI x8)), (7, .int (iI x7)), (6, .int (iI ((wd (knF (FB S (-1))) 0 (S 0).toNat : Nat) : Int))), (0, .ref x), (1, .ref qa), (2, .ref aa), (3, .ref sa), (4, .ref ga), (5, .ref so)]) (μ := fun (qq : Nat × Int × Int × Int × (Nat → Int64)) => match qq with | (n3, w11, w12, w13, F3) => (S 4).toNat - n3) (0, -1, -1, 0, setF (fitG S (-1)) (2 ^ (S 0).toNat)) ?_ ?_
                · exact ⟨by omega, by omega, rfl, by omega, hP, hD, hS, lv_sub hl [0, 1, 2, 3, 4, 5, 6, 7, 8, 9, 10, 11, 12, 13] rfl⟩
                · intro qq H locs ls hI ih468
                  obtain ⟨n3, w11, w12, w13, F3⟩ := qq
                  obtain ⟨hn3, hw3, hlw, hr3, hP, hD, hS, hl⟩ := hI
                  refine lv_iload hx hb dL_same_468 (lv_at hl 0 rfl) ?_
                  refine lv_aload_n hx hb dL_same_470 rfl (lv_at hl 9 rfl) ?_
                  refine lv_iconst (v := iI 4) hx hb dL_same_471 (by decide +kernel) ?_
                  refine iv_aldE hx hb hK hP 5 0 rfl rfl (z := 4) (w := S 4) (by first | exact qS_n (by omega) | exact up_s | rfl) (by omega) (by omega) (by omega) dL_same_472 ?_
                  refine iv_icmp_ge (a := w13) (b := S 4) (tgt := 532) hx hb (by omega) (by omega) dL_same_473 (by decide) (fun c473 => ?_) (fun c473 => ?_)
                  · have hlw9 : leastW S = w11 := by unfold leastW; rw [show (S 4).toNat = n3 by omega, ← hlw]
                    refine lv_aload_n hx hb dL_same_532 rfl (lv_at hl 8 rfl) ?_
                    refine iv_rwV (As := []) (rest := []) (C := RX4) (n := 0) ⟨hx, hb, hml, hown, hts⟩ (c_X4_leastWorth l D yI yC yD x tx nw tr kn me sl nc S g ex p9395 E9395 (by assumption) (by assumption) _) (cwV 0 hts gL_same_X4_leastWorth rfl rfl rfl (by decide +kernel) ⟨Nat.le_of_ble_eq_true rfl, Nat.le_of_ble_eq_true rfl⟩) hKz hP hD hS hA [0, 1, 2, 3, 4] (by decide) rfl 0 rfl rfl rfl hl.1 rfl (Nat.le_of_ble_eq_true rfl) dL_same_533 ⟨Nat.zero_le _, Nat.zero_le _⟩ (fun _ => rfl) (fun r533 u533 H locs hw533 hP hD hS => ?_)
                    obtain ⟨p9533, E9533⟩ := u533
                    obtain ⟨hr533, -⟩ := hw533
                    subst hr533
                    have hP : va_P D vwCl [(x, oRD tx nw tr kn me sl), (nw, oDrv nc S (lN (kL (S) 0 40))), (nc, aI yI 48 g), (kn, oKn p9533 ex), (ex, aI yI 1681 E9533), (qa, aI yI 9 (qS S)), (aa, aI yI 48 gl), (sa, aJ yL 16 F3), (ga, aI yI 12 A1), (so, aI yI 12 S1)] H := hP
                    have hD : va_D A [(x, oRD tx nw tr kn me sl), (nw, oDrv nc S (lN (kL (S) 0 40))), (nc, aI yI 48 g), (kn, oKn p9533 ex), (ex, aI yI 1681 E9533), (qa, aI yI 9 (qS S)), (aa, aI yI 48 gl), (sa, aJ yL 16 F3), (ga, aI yI 12 A1), (so, aI yI 12 S1)] := hD
                    refine lv_iload hx hb dL_same_536 (lv_at hl 2 rfl) ?_
                    refine iv_icmp_eq (a := leastW S) (b := w11) (tgt := 543) hx hb (by omega) (by omega) dL_same_538 (by decide) (fun c538 => ?_) (fun c538 => ?_)
                    · have hk1 := keysIn_r hI (a := 0) (b := S 0 - 1) (by omega) (by omega) (by omega)
                      refine lv_aload_n hx hb dL_same_543 rfl (lv_at hl 8 rfl) ?_
                      refine lv_iconst (v := iI 0) hx hb dL_same_544 (by decide +kernel) ?_
                      refine iv_rwV (As := [.int (iI 0)]) (rest := []) (C := RX4) (n := 1) ⟨hx, hb, hml, hown, hts⟩ (c_X4_about_ok l D yI yC yD x tx nw tr kn me sl nc S g ex p9533 E9533 0 (by assumption) (by assumption) ((⟨by omega, by omega⟩)) (by omega) _) (cwV 1 hts gL_same_X4_about rfl rfl rfl (by decide +kernel) ⟨Nat.le_of_ble_eq_true rfl, Nat.le_of_ble_eq_true rfl⟩) hKz hP hD hS hA [0, 1, 2, 3, 4] (by decide) rfl 0 rfl rfl rfl hl.1 rfl (Nat.le_of_ble_eq_true rfl) dL_same_545 ⟨Nat.zero_le _, Nat.zero_le _⟩ (fun _ => rfl) (fun r545 u545 H locs hw545 hP hD hS => ?_)
                      obtain ⟨p9545, E9545⟩ := u545
                      obtain ⟨hr545, -⟩ := hw545
                      subst hr545
                      rw [show (abt S 0 : Int) = S 0 from (rfl)]
                      have hP : va_P D vwCl [(x, oRD tx nw tr kn me sl), (nw, oDrv nc S (lN (kL (S) 0 40))), (nc, aI yI 48 g), (kn, oKn p9545 ex), (ex, aI yI 1681 E9545), (qa, aI yI 9 (qS S)), (aa, aI yI 48 gl), (sa, aJ yL 16 F3), (ga, aI yI 12 A1), (so, aI yI 12 S1)] H := hP
                      have hD : va_D A [(x, oRD tx nw tr kn me sl), (nw, oDrv nc S (lN (kL (S) 0 40))), (nc, aI yI 48 g), (kn, oKn p9545 ex), (ex, aI yI 1681 E9545), (qa, aI yI 9 (qS S)), (aa, aI yI 48 gl), (sa, aJ yL 16 F3), (ga, aI yI 12 A1), (so, aI yI 12 S1)] := hD
                      refine lv_aload_n hx hb dL_same_548 rfl (lv_at hl 9 rfl) ?_
                      refine lv_iconst (v := iI 0) hx hb dL_same_549 (by decide +kernel) ?_
                      refine iv_aldE hx hb hK hP 5 0 rfl rfl (z := 0) (w := S 0) (by first | exact qS_n (by omega) | exact up_s | rfl) (by omega) (by omega) (by omega) dL_same_550 ?_
                      refine iv_icmp_ne (a := S 0) (b := S 0) (tgt := 655) hx hb (by omega) (by omega) dL_same_551 (by decide) (fun c551 => ?_) (fun c551 => ?_)
                      · exact absurd (by omega) c551
                      · refine lv_aload_n hx hb dL_same_554 rfl (lv_at hl 8 rfl) ?_
                        refine lv_iconst (v := iI 1) hx hb dL_same_555 (by decide +kernel) ?_
                        refine iv_rwV (As := [.int (iI 1)]) (rest := []) (C := RX4) (n := 1) ⟨hx, hb, hml, hown, hts⟩ (c_X4_about_ok l D yI yC yD x tx nw tr kn me sl nc S g ex p9545 E9545 1 (by assumption) (by assumption) ((⟨by omega, by omega⟩)) (by omega) _) (cwV 1 hts gL_same_X4_about rfl rfl rfl (by decide +kernel) ⟨Nat.le_of_ble_eq_true rfl, Nat.le_of_ble_eq_true rfl⟩) hKz hP hD hS hA [0, 1, 2, 3, 4] (by decide) rfl 0 rfl rfl rfl hl.1 rfl (Nat.le_of_ble_eq_true rfl) dL_same_556 ⟨Nat.zero_le _, Nat.zero_le _⟩ (fun _ => rfl) (fun r556 u556 H locs hw556 hP hD hS => ?_)
                        obtain ⟨p9556, E9556⟩ := u556
                        obtain ⟨hr556, -⟩ := hw556
                        subst hr556
                        rw [show (abt S 1 : Int) = keysIn S 0 (S 0 - 1) from (rfl)]
                        have hP : va_P D vwCl [(x, oRD tx nw tr kn me sl), (nw, oDrv nc S (lN (kL (S) 0 40))), (nc, aI yI 48 g), (kn, oKn p9556 ex), (ex, aI yI 1681 E9556), (qa, aI yI 9 (qS S)), (aa, aI yI 48 gl), (sa, aJ yL 16 F3), (ga, aI yI 12 A1), (so, aI yI 12 S1)] H := hP
                        have hD : va_D A [(x, oRD tx nw tr kn me sl), (nw, oDrv nc S (lN (kL (S) 0 40))), (nc, aI yI 48 g), (kn, oKn p9556 ex), (ex, aI yI 1681 E9556), (qa, aI yI 9 (qS S)), (aa, aI yI 48 gl), (sa, aJ yL 16 F3), (ga, aI yI 12 A1), (so, aI yI 12 S1)] := hD
                        refine lv_aload_n hx hb dL_same_559 rfl (lv_at hl 9 rfl) ?_
                        refine lv_bipush (v := iI 8) hx hb dL_same_560 (by decide +kernel) ?_
                        refine iv_aldE hx hb hK hP 5 0 rfl rfl (z := 8) (w := ((kL S 0 40 : Nat) : Int)) (qS_8) (by omega) (by omega) (by omega) dL_same_562 ?_
                        refine iv_roS (As := [.int (iI ((kL S 0 40 : Nat) : Int))]) (rest := [.int (iI (keysIn S 0 (S 0 - 1)))]) (n := 1) ⟨hx, hb, hml, hown, hts⟩ (c_L_bits l D yI yC yD yL ((kL S 0 40 : Nat) : Int) (by omega)) (va_cwS 1 hts gL_same_L_bits rfl rfl rfl (by decide +kernel) ⟨Nat.le_of_ble_eq_true rfl, Nat.le_of_ble_eq_true rfl⟩) hK hP [] rfl rfl hl.1 rfl (Nat.le_of_ble_eq_true rfl) dL_same_563 ⟨Nat.zero_le _, Nat.zero_le _⟩ ?_
                        rw [show (((popc 10 ((kL S 0 40 : Nat) : Int).toNat : Nat) : Int) : Int) = keysIn S 0 (S 0 - 1) from (kq_all hI h9)]
                        refine iv_icmp_ne (a := keysIn S 0 (S 0 - 1)) (b := keysIn S 0 (S 0 - 1)) (tgt := 655) hx hb (by omega) (by omega) dL_same_566 (by decide) (fun c566 => ?_) (fun c566 => ?_)
                        · exact absurd (by omega) c566
                        · refine lv_aload_n hx hb dL_same_569 rfl (lv_at hl 8 rfl) ?_
                          refine lv_iconst (v := iI 2) hx hb dL_same_570 (by decide +kernel) ?_
                          refine iv_rwV (As := [.int (iI 2)]) (rest := []) (C := RX4) (n := 1) ⟨hx, hb, hml, hown, hts⟩ (c_X4_about_ok l D yI yC yD x tx nw tr kn me sl nc S g ex p9556 E9556 2 (by assumption) (by assumption) ((⟨by omega, by omega⟩)) (by omega) _) (cwV 1 hts gL_same_X4_about rfl rfl rfl (by decide +kernel) ⟨Nat.le_of_ble_eq_true rfl, Nat.le_of_ble_eq_true rfl⟩) hKz hP hD hS hA [0, 1, 2, 3, 4] (by decide) rfl 0 rfl rfl rfl hl.1 rfl (Nat.le_of_ble_eq_true rfl) dL_same_571 ⟨Nat.zero_le _, Nat.zero_le _⟩ (fun _ => rfl) (fun r571 u571 H locs hw571 hP hD hS => ?_)
                          obtain ⟨p9571, E9571⟩ := u571
                          obtain ⟨hr571, -⟩ := hw571
                          subst hr571
                          rw [show (abt S 2 : Int) = S 1 from (rfl)]
                          have hP : va_P D vwCl [(x, oRD tx nw tr kn me sl), (nw, oDrv nc S (lN (kL (S) 0 40))), (nc, aI yI 48 g), (kn, oKn p9571 ex), (ex, aI yI 1681 E9571), (qa, aI yI 9 (qS S)), (aa, aI yI 48 gl), (sa, aJ yL 16 F3), (ga, aI yI 12 A1), (so, aI yI 12 S1)] H := hP
                          have hD : va_D A [(x, oRD tx nw tr kn me sl), (nw, oDrv nc S (lN (kL (S) 0 40))), (nc, aI yI 48 g), (kn, oKn p9571 ex), (ex, aI yI 1681 E9571), (qa, aI yI 9 (qS S)), (aa, aI yI 48 gl), (sa, aJ yL 16 F3), (ga, aI yI 12 A1), (so, aI yI 12 S1)] := hD
                          refine lv_aload_n hx hb dL_same_574 rfl (lv_at hl 9 rfl) ?_
                          refine lv_iconst (v := iI 1) hx hb dL_same_575 (by decide +kernel) ?_
                          refine iv_aldE hx hb hK hP 5 0 rfl rfl (z := 1) (w := S 1) (by first | exact qS_n (by omega) | exact up_s | rfl) (by omega) (by omega) (by omega) dL_same_576 ?_
                          refine iv_icmp_ne (a := S 1) (b := S 1) (tgt := 655) hx hb (by omega) (by omega) dL_same_577 (by decide) (fun c577 => ?_) (fun c577 => ?_)
                          · exact absurd (by omega) c577
                          · refine lv_aload_n hx hb dL_same_580 rfl (lv_at hl 8 rfl) ?_
                            refine lv_iconst (v := iI 3) hx hb dL_same_581 (by decide +kernel) ?_
                            refine iv_rwV (As := [.int (iI 3)]) (rest := []) (C := RX4) (n := 1) ⟨hx, hb, hml, hown, hts⟩ (c_X4_about_ok l D yI yC yD x tx nw tr kn me sl nc S g ex p9571 E9571 3 (by assumption) (by assumption) ((⟨by omega, by omega⟩)) (by omega) _) (cwV 1 hts gL_same_X4_about rfl rfl rfl (by decide +kernel) ⟨Nat.le_of_ble_eq_true rfl, Nat.le_of_ble_eq_true rfl⟩) hKz hP hD hS hA [0, 1, 2, 3, 4] (by decide) rfl 0 rfl rfl rfl hl.1 rfl (Nat.le_of_ble_eq_true rfl) dL_same_582 ⟨Nat.zero_le _, Nat.zero_le _⟩ (fun _ => rfl) (fun r582 u582 H locs hw582 hP hD hS => ?_)
                            obtain ⟨p9582, E9582⟩ := u582
                            obtain ⟨hr582, -⟩ := hw582
                            subst hr582
                            rw [show (abt S 3 : Int) = S 2 from (rfl)]
                            have hP : va_P D vwCl [(x, oRD tx nw tr kn me sl), (nw, oDrv nc S (lN (kL (S) 0 40))), (nc, aI yI 48 g), (kn, oKn p9582 ex), (ex, aI yI 1681 E9582), (qa, aI yI 9 (qS S)), (aa, aI yI 48 gl), (sa, aJ yL 16 F3), (ga, aI yI 12 A1), (so, aI yI 12 S1)] H := hP
                            have hD : va_D A [(x, oRD tx nw tr kn me sl), (nw, oDrv nc S (lN (kL (S) 0 40))), (nc, aI yI 48 g), (kn, oKn p9582 ex), (ex, aI yI 1681 E9582), (qa, aI yI 9 (qS S)), (aa, aI yI 48 gl), (sa, aJ yL 16 F3), (ga, aI yI 12 A1), (so, aI yI 12 S1)] := hD
                            refine lv_aload_n hx hb dL_same_585 rfl (lv_at hl 9 rfl) ?_
                            refine lv_iconst (v := iI 2) hx hb dL_same_586 (by decide +kernel) ?_
                            refine iv_aldE hx hb hK hP 5 0 rfl rfl (z := 2) (w := S 2) (by first | exact qS_n (by omega) | exact up_s | rfl) (by omega) (by omega) (by omega) dL_same_587 ?_
                            refine iv_icmp_ne (a := S 2) (b := S 2) (tgt := 655) hx hb (by omega) (by omega) dL_same_588 (by decide) (fun c588 => ?_) (fun c588 => ?_)
                            · exact absurd (by omega) c588
                            · refine lv_aload_n hx hb dL_same_591 rfl (lv_at hl 8 rfl) ?_
                              refine lv_iconst (v := iI 4) hx hb dL_same_592 (by decide +kernel) ?_
                              refine iv_rwV (As := [.int (iI 4)]) (rest := []) (C := RX4) (n := 1) ⟨hx, hb, hml, hown, hts⟩ (c_X4_about_ok l D yI yC yD x tx nw tr kn me sl nc S g ex p9582 E9582 4 (by assumption) (by assumption) ((⟨by omega, by omega⟩)) (by omega) _) (cwV 1 hts gL_same_X4_about rfl rfl rfl (by decide +kernel) ⟨Nat.le_of_ble_eq_true rfl, Nat.le_of_ble_eq_true rfl⟩) hKz hP hD hS hA [0, 1, 2, 3, 4] (by decide) rfl 0 rfl rfl rfl hl.1 rfl (Nat.le_of_ble_eq_true rfl) dL_same_593 ⟨Nat.zero_le _, Nat.zero_le _⟩ (fun _ => rfl) (fun r593 u593 H locs hw593 hP hD hS => ?_)
                              obtain ⟨p9593, E9593⟩ := u593
                              obtain ⟨hr593, -⟩ := hw593
                              subst hr593
                              rw [show (abt S 4 : Int) = S 3 from (rfl)]
                              have hP : va_P D vwCl [(x, oRD tx nw tr kn me sl), (nw, oDrv nc S (lN (kL (S) 0 40))), (nc, aI yI 48 g), (kn, oKn p9593 ex), (ex, aI yI 1681 E9593), (qa, aI yI 9 (qS S)), (aa, aI yI 48 gl), (sa, aJ yL 16 F3), (ga, aI yI 12 A1), (so, aI yI 12 S1)] H := hP
                              have hD : va_D A [(x, oRD tx nw tr kn me sl), (nw, oDrv nc S (lN (kL (S) 0 40))), (nc, aI yI 48 g), (kn, oKn p9593 ex), (ex, aI yI 1681 E9593), (qa, aI yI 9 (qS S)), (aa, aI yI 48 gl), (sa, aJ yL 16 F3), (ga, aI yI 12 A1), (so, aI yI 12 S1)] := hD
                              refine lv_aload_n hx hb dL_same_596 rfl (lv_at hl 9 rfl) ?_
                              refine lv_iconst (v := iI 3) hx hb dL_same_597 (by decide +kernel) ?_
                              refine iv_aldE hx hb hK hP 5 0 rfl rfl (z := 3) (w := S 3) (by first | exact qS_n (by omega) | exact up_s | rfl) (by omega) (by omega) (by omega) dL_same_598 ?_
                              refine iv_icmp_ne (a := S 3) (b := S 3) (tgt := 655) hx hb (by omega) (by omega) dL_same_599 (by decide) (fun c599 => ?_) (fun c599 => ?_)
                              · exact absurd (by omega) c599
                              · refine lv_aload_n hx hb dL_same_602 rfl (lv_at hl 8 rfl) ?_
                                refine lv_iconst (v := iI 5) hx hb dL_same_603 (by decide +kernel) ?_
                                refine iv_rwV (As := [.int (iI 5)]) (rest := []) (C := RX4) (n := 1) ⟨hx, hb, hml, hown, hts⟩ (c_X4_about_ok l D yI yC yD x tx nw tr kn me sl nc S g ex p9593 E9593 5 (by assumption) (by assumption) ((⟨by omega, by omega⟩)) (by omega) _) (cwV 1 hts gL_same_X4_about rfl rfl rfl (by decide +kernel) ⟨Nat.le_of_ble_eq_true rfl, Nat.le_of_ble_eq_true rfl⟩) hKz hP hD hS hA [0, 1, 2, 3, 4] (by decide) rfl 0 rfl rfl rfl hl.1 rfl (Nat.le_of_ble_eq_true rfl) dL_same_604 ⟨Nat.zero_le _, Nat.zero_le _⟩ (fun _ => rfl) (fun r604 u604 H locs hw604 hP hD hS => ?_)
                                obtain ⟨p9604, E9604⟩ := u604
                                obtain ⟨hr604, -⟩ := hw604
                                subst hr604
                                rw [show (abt S 5 : Int) = S 4 from (rfl)]
                                have hP : va_P D vwCl [(x, oRD tx nw tr kn me sl), (nw, oDrv nc S (lN (kL (S) 0 40))), (nc, aI yI 48 g), (kn, oKn p9604 ex), (ex, aI yI 1681 E9604), (qa, aI yI 9 (qS S)), (aa, aI yI 48 gl), (sa, aJ yL 16 F3), (ga, aI yI 12 A1), (so, aI yI 12 S1)] H := hP
                                have hD : va_D A [(x, oRD tx nw tr kn me sl), (nw, oDrv nc S (lN (kL (S) 0 40))), (nc, aI yI 48 g), (kn, oKn p9604 ex), (ex, aI yI 1681 E9604), (qa, aI yI 9 (qS S)), (aa, aI yI 48 gl), (sa, aJ yL 16 F3), (ga, aI yI 12 A1), (so, aI yI 12 S1)] := hD
                                refine lv_aload_n hx hb dL_same_607 rfl (lv_at hl 9 rfl) ?_
                                refine lv_iconst (v := iI 4) hx hb dL_same_608 (by decide +kernel) ?_
                                refine iv_aldE hx hb hK hP 5 0 rfl rfl (z := 4) (w := S 4) (by first | exact qS_n (by omega) | exact up_s | rfl) (by omega) (by omega) (by omega) dL_same_609 ?_
                                refine iv_icmp_ne (a := S 4) (b := S 4) (tgt := 655) hx hb (by omega) (by omega) dL_same_610 (by decide) (fun c610 => ?_) (fun c610 => ?_)
                                · exact absurd (by omega) c610
                                · refine lv_aload_n hx hb dL_same_613 rfl (lv_at hl 8 rfl) ?_
                                  refine lv_bipush (v := iI 6) hx hb dL_same_614 (by decide +kernel) ?_
                                  refine iv_rwV (As := [.int (iI 6)]) (rest := []) (C := RX4) (n := 1) ⟨hx, hb, hml, hown, hts⟩ (c_X4_about_ok l D yI yC yD x tx nw tr kn me sl nc S g ex p9604 E9604 6 (by assumption) (by assumption) ((⟨by omega, by omega⟩)) (by omega) _) (cwV 1 hts gL_same_X4_about rfl rfl rfl (by decide +kernel) ⟨Nat.le_of_ble_eq_true rfl, Nat.le_of_ble_eq_true rfl⟩) hKz hP hD hS hA [0, 1, 2, 3, 4] (by decide) rfl 0 rfl rfl rfl hl.1 rfl (Nat.le_of_ble_eq_true rfl) dL_same_616 ⟨Nat.zero_le _, Nat.zero_le _⟩ (fun _ => rfl) (fun r616 u616 H locs hw616 hP hD hS => ?_)
                                  obtain ⟨p9616, E9616⟩ := u616
                                  obtain ⟨hr616, -⟩ := hw616
                                  subst hr616
                                  rw [show (abt S 6 : Int) = S 5 from (rfl)]
                                  have hP : va_P D vwCl [(x, oRD tx nw tr kn me sl), (nw, oDrv nc S (lN (kL (S) 0 40))), (nc, aI yI 48 g), (kn, oKn p9616 ex), (ex, aI yI 1681 E9616), (qa, aI yI 9 (qS S)), (aa, aI yI 48 gl), (sa, aJ yL 16 F3), (ga, aI yI 12 A1), (so, aI yI 12 S1)] H := hP
                                  have hD : va_D A [(x, oRD tx nw tr kn me sl), (nw, oDrv nc S (lN (kL (S) 0 40))), (nc, aI yI 48 g), (kn, oKn p9616 ex), (ex, aI yI 1681 E9616), (qa, aI yI 9 (qS S)), (aa, aI yI 48 gl), (sa, aJ yL 16 F3), (ga, aI yI 12 A1), (so, aI yI 12 S1)] := hD
                                  refine lv_aload_n hx hb dL_same_619 rfl (lv_at hl 9 rfl) ?_
                                  refine lv_iconst (v := iI 5) hx hb dL_same_620 (by decide +kernel) ?_
                                  refine iv_aldE hx hb hK hP 5 0 rfl rfl (z := 5) (w := S 5) (by first | exact qS_n (by omega) | exact up_s | rfl) (by omega) (by omega) (by omega) dL_same_621 ?_
                                  refine lv_icmp_ne (x := iI (S 5)) (y := iI (S 5)) (tgt := 655) hx hb dL_same_622 (by decide) (fun c622 => ?_) (fun c622 => ?_)
                                  · exact absurd rfl c622
                                  · refine lv_aload_n hx hb dL_same_625 rfl (lv_at hl 8 rfl) ?_
                                    refine lv_bipush (v := iI 7) hx hb dL_same_626 (by decide +kernel) ?_
                                    refine iv_rwV (As := [.int (iI 7)]) (rest := []) (C := RX4) (n := 1) ⟨hx, hb, hml, hown, hts⟩ (c_X4_about_ok l D yI yC yD x tx nw tr kn me sl nc S g ex p9616 E9616 7 (by assumption) (by assumption) ((⟨by omega, by omega⟩)) (by omega) _) (cwV 1 hts gL_same_X4_about rfl rfl rfl (by decide +kernel) ⟨Nat.le_of_ble_eq_true rfl, Nat.le_of_ble_eq_true rfl⟩) hKz hP hD hS hA [0, 1, 2, 3, 4] (by decide) rfl 0 rfl rfl rfl hl.1 rfl (Nat.le_of_ble_eq_true rfl) dL_same_628 ⟨Nat.zero_le _, Nat.zero_le _⟩ (fun _ => rfl) (fun r628 u628 H locs hw628 hP hD hS => ?_)
                                    obtain ⟨p9628, E9628⟩ := u628
                                    obtain ⟨hr628, -⟩ := hw628
                                    subst hr628
                                    rw [show (abt S 7 : Int) = S 6 from (rfl)]
                                    have hP : va_P D vwCl [(x, oRD tx nw tr kn me sl), (nw, oDrv nc S (lN (kL (S) 0 40))), (nc, aI yI 48 g), (kn, oKn p9628 ex), (ex, aI yI 1681 E9628), (qa, aI yI 9 (qS S)), (aa, aI yI 48 gl), (sa, aJ yL 16 F3), (ga, aI yI 12 A1), (so, aI yI 12 S1)] H := hP
                                    have hD : va_D A [(x, oRD tx nw tr kn me sl), (nw, oDrv nc S (lN (kL (S) 0 40))), (nc, aI yI 48 g), (kn, oKn p9628 ex), (ex, aI yI 1681 E9628), (qa, aI yI 9 (qS S)), (aa, aI yI 48 gl), (sa, aJ yL 16 F3), (ga, aI yI 12 A1), (so, aI yI 12 S1)] := hD
                                    refine lv_aload_n hx hb dL_same_631 rfl (lv_at hl 9 rfl) ?_
                                    refine lv_bipush (v := iI 6) hx hb dL_same_632 (by decide +kernel) ?_
                                    refine iv_aldE hx hb hK hP 5 0 rfl rfl (z := 6) (w := S 6) (by first | exact qS_n (by omega) | exact up_s | rfl) (by omega) (by omega) (by omega) dL_same_634 ?_
                                    refine lv_icmp_ne (x := iI (S 6)) (y := iI (S 6)) (tgt := 655) hx hb dL_same_635 (by decide) (fun c635 => ?_) (fun c635 => ?_)
                                    · exact absurd rfl c635
                                    · refine lv_aload_n hx hb dL_same_638 rfl (lv_at hl 8 rfl) ?_
                                      refine lv_bipush (v := iI 8) hx hb dL_same_639 (by decide +kernel) ?_
                                      refine iv_rwV (As := [.int (iI 8)]) (rest := []) (C := RX4) (n := 1) ⟨hx, hb, hml, hown, hts⟩ (c_X4_about_ok l D yI yC yD x tx nw tr kn me sl nc S g ex p9628 E9628 8 (by assumption) (by assumption) ((⟨by omega, by omega⟩)) (by omega) _) (cwV 1 hts gL_same_X4_about rfl rfl rfl (by decide +kernel) ⟨Nat.le_of_ble_eq_true rfl, Nat.le_of_ble_eq_true rfl⟩) hKz hP hD hS hA [0, 1, 2, 3, 4] (by decide) rfl 0 rfl rfl rfl hl.1 rfl (Nat.le_of_ble_eq_true rfl) dL_same_641 ⟨Nat.zero_le _, Nat.zero_le _⟩ (fun _ => rfl) (fun r641 u641 H locs hw641 hP hD hS => ?_)
                                      obtain ⟨p9641, E9641⟩ := u641
                                      obtain ⟨hr641, -⟩ := hw641
                                      subst hr641
                                      rw [show (abt S 8 : Int) = S 7 from (rfl)]
                                      have hP : va_P D vwCl [(x, oRD tx nw tr kn me sl), (nw, oDrv nc S (lN (kL (S) 0 40))), (nc, aI yI 48 g), (kn, oKn p9641 ex), (ex, aI yI 1681 E9641), (qa, aI yI 9 (qS S)), (aa, aI yI 48 gl), (sa, aJ yL 16 F3), (ga, aI yI 12 A1), (so, aI yI 12 S1)] H := hP
                                      have hD : va_D A [(x, oRD tx nw tr kn me sl), (nw, oDrv nc S (lN (kL (S) 0 40))), (nc, aI yI 48 g), (kn, oKn p9641 ex), (ex, aI yI 1681 E9641), (qa, aI yI 9 (qS S)), (aa, aI yI 48 gl), (sa, aJ yL 16 F3), (ga, aI yI 12 A1), (so, aI yI 12 S1)] := hD
                                      refine lv_aload_n hx hb dL_same_644 rfl (lv_at hl 9 rfl) ?_
                                      refine lv_bipush (v := iI 7) hx hb dL_same_645 (by decide +kernel) ?_
                                      refine iv_aldE hx hb hK hP 5 0 rfl rfl (z := 7) (w := S 7) (by first | exact qS_n (by omega) | exact up_s | rfl) (by omega) (by omega) (by omega) dL_same_647 ?_
                                      refine lv_icmp_ne (x := iI (S 7)) (y := iI (S 7)) (tgt := 655) hx hb dL_same_648 (by decide) (fun c648 => ?_) (fun c648 => ?_)
                                      · exact absurd rfl c648
                                      · refine lv_iconst (v := iI 1) hx hb dL_same_651 (by decide +kernel) ?_
                                        refine lv_goto (tgt := 656) hx hb dL_same_652 (by decide) ?_
                                        have hP9 : va_P D vwCl [(x, oRD tx nw tr kn me sl), (nw, oDrv nc S (lN (kL (S) 0 40))), (nc, aI yI 48 g), (kn, oKn p9641 ex), (ex, aI yI 1681 E9641), (qa, aI yI 9 (qS S)), (aa, aI yI 48 gl), (sa, aJ yL 16 F3), (ga, aI yI 12 A1), (so, aI yI 12 S1)] _ := hP.sub [0, 1, 2, 3, 4, 5, 6, 7, 8, 9] rfl
                                        exact W.zret hx hb hr (by decide +kernel) (fun t ht hW => ⟨⟨iI 1, (p9641, E9641, F3, A1, S1), rfl, ⟨rfl, trivial⟩, by show va_P D vwCl _ t.heap; rw [ht]; exact hP9⟩, hS.F ht⟩) hS.2.2 dL_same_656
                    · exact absurd (by omega) c538
                  · refine lv_iload hx hb dL_same_476 (lv_at hl 0 rfl) ?_
                    refine lv_aload_n hx hb dL_same_478 rfl (lv_at hl 9 rfl) ?_
                    refine lv_aload_n hx hb dL_same_479 rfl (lv_at hl 10 rfl) ?_
                    refine lv_aload_n hx hb dL_same_480 rfl (lv_at hl 11 rfl) ?_
                    refine iv_rwSv (As := [.int (iI w13), .ref qa, .ref aa, .ref sa]) (rest := []) (n := 4) ⟨hx, hb, hml, hown, hts⟩ (c_L_possible l D yI yC yD yL qa aa S gl sa F3 w13 (by assumption) (by assumption) (by omega) (by omega) _) (va_cwS 4 hts gL_same_L_possible rfl rfl rfl (by decide +kernel) ⟨Nat.le_of_ble_eq_true rfl, Nat.le_of_ble_eq_true rfl⟩) hK hP hD hS hA [5, 6, 7] (by decide) rfl rfl hl.1 rfl (Nat.le_of_ble_eq_true rfl) dL_same_481 ⟨Nat.zero_le _, Nat.zero_le _⟩ (fun _ => by simp only [List.map_cons, List.map_nil]) (fun u481 H locs hw481 hP hD hS => ?_)
                    have hP : va_P D vwCl [(x, oRD tx nw tr kn me sl), (nw, oDrv nc S (lN (kL (S) 0 40))), (nc, aI yI 48 g), (kn, oKn p9395 ex), (ex, aI yI 1681 E9395), (qa, aI yI 9 (qS S)), (aa, aI yI 48 gl), (sa, aJ yL 16 (setF (fitG S w13) (2 ^ (S 0).toNat))), (ga, aI yI 12 A1), (so, aI yI 12 S1)] H := hP
                    have hD : va_D A [(x, oRD tx nw tr kn me sl), (nw, oDrv nc S (lN (kL (S) 0 40))), (nc, aI yI 48 g), (kn, oKn p9395 ex), (ex, aI yI 1681 E9395), (qa, aI yI 9 (qS S)), (aa, aI yI 48 gl), (sa, aJ yL 16 (setF (fitG S w13) (2 ^ (S 0).toNat))), (ga, aI yI 12 A1), (so, aI yI 12 S1)] := hD
                    refine lv_aload_n hx hb dL_same_484 rfl (lv_at hl 9 rfl) ?_
                    refine lv_aload_n hx hb dL_same_485 rfl (lv_at hl 11 rfl) ?_
                    refine iv_roS (As := [.ref qa, .ref sa]) (rest := []) (n := 2) ⟨hx, hb, hml, hown, hts⟩ (c_L_known l D yI yC yD yL qa sa S (fitG S w13) (by omega)) (va_cwS 2 hts gL_same_L_known rfl rfl rfl (by decide +kernel) ⟨Nat.le_of_ble_eq_true rfl, Nat.le_of_ble_eq_true rfl⟩) hK hP [5, 7] rfl rfl hl.1 rfl (Nat.le_of_ble_eq_true rfl) dL_same_486 ⟨Nat.zero_le _, Nat.zero_le _⟩ ?_
                    refine iv_roS (As := [.int (iI (kmI (alI (fitG S w13) (2 ^ (S 0).toNat)) (soI (fitG S w13) (2 ^ (S 0).toNat)) (S 0)))]) (rest := []) (n := 1) ⟨hx, hb, hml, hown, hts⟩ (c_L_bits l D yI yC yD yL (kmI (alI (fitG S w13) (2 ^ (S 0).toNat)) (soI (fitG S w13) (2 ^ (S 0).toNat)) (S 0)) (kmI_n (by omega))) (va_cwS 1 hts gL_same_L_bits rfl rfl rfl (by decide +kernel) ⟨Nat.le_of_ble_eq_true rfl, Nat.le_of_ble_eq_true rfl⟩) hK hP [] rfl rfl hl.1 rfl (Nat.le_of_ble_eq_true rfl) dL_same_489 ⟨Nat.zero_le _, Nat.zero_le _⟩ ?_
                    rw [show (((popc 10 (kmI (alI (fitG S w13) (2 ^ (S 0).toNat)) (soI (fitG S w13) (2 ^ (S 0).toNat)) (S 0)).toNat : Nat) : Int) : Int) = knownIn (FB S w13) (S 0) from (rep_kc (rep_FB hI h9 w13))]
                    refine lv_istore (lv' := [(14, .int (iI (knownIn (FB S w13) (S 0)))), (13, .int (iI w13)), (12, .int (iI w12)), (11, .int (iI w11)), (10, .int (iI x10)), (9, .int (iI x9)), (8, .int (iI x8)), (7, .int (iI x7)), (6, .int (iI ((wd (knF (FB S (-1))) 0 (S 0).toNat : Nat) : Int))), (0, .ref x), (1, .ref qa), (2, .ref aa), (3, .ref sa), (4, .ref ga), (5, .ref so)]) hx hb dL_same_492 hl (by decide) rfl (fun ls hl => ?_)
                    have hkr := knownIn_r (r := FB S w13) (pl := S 0) (by omega)
                    refine iv_join (I := fun (qq : Int) H locs ls => match qq with | j1 => ((w12 < knownIn (FB S w13) (S 0) ∧ j1 = w13) ∨ (¬ w12 < knownIn (FB S w13) (S 0) ∧ j1 = w11)) ∧ va_P D vwCl [(x, oRD tx nw tr kn me sl), (nw, oDrv nc S (lN (kL (S) 0 40))), (nc, aI yI 48 g), (kn, oKn p9395 ex), (ex, aI yI 1681 E9395), (qa, aI yI 9 (qS S)), (aa, aI yI 48 gl), (sa, aJ yL 16 (setF (fitG S w13) (2 ^ (S 0).toNat))), (ga, aI yI 12 A1), (so, aI yI 12 S1)] H ∧ va_D A [(x, oRD tx nw tr kn me sl), (nw, oDrv nc S (lN (kL (S) 0 40))), (nc, aI yI 48 g), (kn, oKn p9395 ex), (ex, aI yI 1681 E9395), (qa, aI yI 9 (qS S)), (aa, aI yI 48 gl), (sa, aJ yL 16 (setF (fitG S w13) (2 ^ (S 0).toNat))), (ga, aI yI 12 A1), (so, aI yI 12 S1)] ∧ va_S A s.heap H locs ∧ lv_has ls 19 [(14, .int (iI (knownIn (FB S w13) (S 0)))), (13, .int (iI w13)), (12, .int (iI w12)), (11, .int (iI w11)), (10, .int (iI x10)), (9, .int (iI x9)), (8, .int (iI x8)), (7, .int (iI x7)), (6, .int (iI ((wd (knF (FB S (-1))) 0 (S 0).toNat : Nat) : Int))), (0, .ref x), (1, .ref qa), (2, .ref aa), (3, .ref sa), (4, .ref ga), (5, .ref so)]) (sx := fun (qq : Int) => match qq with | j1 => [.int (iI j1)]) (pcj := 508) ?_ (fun J508 => ?_)
                    · intro j1 H locs ls hI
                      obtain ⟨hj1, hP, hD, hS, hl⟩ := hI
                      refine lv_istore (lv' := [(11, .int (iI j1)), (14, .int (iI (knownIn (FB S w13) (S 0)))), (13, .int (iI w13)), (12, .int (iI w12)), (10, .int (iI x10)), (9, .int (iI x9)), (8, .int (iI x8)), (7, .int (iI x7)), (6, .int (iI ((wd (knF (FB S (-1))) 0 (S 0).toNat : Nat) : Int))), (0, .ref x), (1, .ref qa), (2, .ref aa), (3, .ref sa), (4, .ref ga), (5, .ref so)]) hx hb dL_same_508 hl (by decide) rfl (fun ls hl => ?_)
                      refine iv_join (I := fun (qq : Int) H locs ls => match qq with | j2 => ((w12 < knownIn (FB S w13) (S 0) ∧ j2 = knownIn (FB S w13) (S 0)) ∨ (¬ w12 < knownIn (FB S w13) (S 0) ∧ j2 = w12)) ∧ va_P D vwCl [(x, oRD tx nw tr kn me sl), (nw, oDrv nc S (lN (kL (S) 0 40))), (nc, aI yI 48 g), (kn, oKn p9395 ex), (ex, aI yI 1681 E9395), (qa, aI yI 9 (qS S)), (aa, aI yI 48 gl), (sa, aJ yL 16 (setF (fitG S w13) (2 ^ (S 0).toNat))), (ga, aI yI 12 A1), (so, aI yI 12 S1)] H ∧ va_D A [(x, oRD tx nw tr kn me sl), (nw, oDrv nc S (lN (kL (S) 0 40))), (nc, aI yI 48 g), (kn, oKn p9395 ex), (ex, aI yI 1681 E9395), (qa, aI yI 9 (qS S)), (aa, aI yI 48 gl), (sa, aJ yL 16 (setF (fitG S w13) (2 ^ (S 0).toNat))), (ga, aI yI 12 A1), (so, aI yI 12 S1)] ∧ va_S A s.heap H locs ∧ lv_has ls 19 [(11, .int (iI j1)), (14, .int (iI (knownIn (FB S w13) (S 0)))), (13, .int (iI w13)), (12, .int (iI w12)), (10, .int (iI x10)), (9, .int (iI x9)), (8, .int (iI x8)), (7, .int (iI x7)), (6, .int (iI ((wd (knF (FB S (-1))) 0 (S 0).toNat : Nat) : Int))), (0, .ref x), (1, .ref qa), (2, .ref aa), (3, .ref sa), (4, .ref ga), (5, .ref so)]) (sx := fun (qq : Int) => match qq with | j2 => [.int (iI j2)]) (pcj := 524) ?_ (fun J524 => ?_)
                      · intro j2 H locs ls hI
                        obtain ⟨hj2, hP, hD, hS, hl⟩ := hI
                        refine lv_istore (lv' := [(12, .int (iI j2)), (11, .int (iI j1)), (14, .int (iI (knownIn (FB S w13) (S 0)))), (13, .int (iI w13)), (10, .int (iI x10)), (9, .int (iI x9)), (8, .int (iI x8)), (7, .int (iI x7)), (6, .int (iI ((wd (knF (FB S (-1))) 0 (S 0).toNat : Nat) : Int))), (0, .ref x), (1, .ref qa), (2, .ref aa), (3, .ref sa), (4, .ref ga), (5, .ref so)]) hx hb dL_same_524 hl (by decide) rfl (fun ls hl => ?_)
                        refine iv_inc (lv' := [(13, .int (iI (w13 + 1))), (12, .int (iI j2)), (11, .int (iI j1)), (14, .int (iI (knownIn (FB S w13) (S 0)))), (10, .int (iI x10)), (9, .int (iI x9)), (8, .int (iI x8)), (7, .int (iI x7)), (6, .int (iI ((wd (knF (FB S (-1))) 0 (S 0).toNat : Nat) : Int))), (0, .ref x), (1, .ref qa), (2, .ref aa), (3, .ref sa), (4, .ref ga), (5, .ref so)]) hx hb dL_same_526 hl (k := 3) rfl (by decide) rfl (fun ls hl => ?_)
                        refine lv_goto (tgt := 468) hx hb dL_same_529 (by decide) ?_
                        refine ih468 (n3 + 1, j1, j2, w13 + 1, setF (fitG S w13) (2 ^ (S 0).toNat)) _ _ (by show ((S 4).toNat - (n3 + 1) : Nat) < (S 4).toNat - n3; omega) ?_
                        exact ⟨by omega, by omega, by subst hw3; rcases hj1 with ⟨q, e⟩ | ⟨q, e⟩ <;> rcases hj2 with ⟨q2, e2⟩ | ⟨q2, e2⟩ <;> first | (exfalso; omega) | (rw [e, e2]; first | exact (lw_t hlw q).symm | exact (lw_f hlw q).symm), by omega, hP, hD, hS, lv_sub hl [0, 1, 2, 4, 5, 6, 7, 8, 9, 10, 11, 12, 13, 14] rfl⟩
                      · refine lv_iload hx hb dL_same_510 (lv_at hl 1 rfl) ?_
                        refine lv_iload hx hb dL_same_512 (lv_at hl 3 rfl) ?_
                        refine iv_icmp_le (a := knownIn (FB S w13) (S 0)) (b := w12) (tgt := 522) hx hb (by omega) (by omega) dL_same_514 (by decide) (fun c514 => ?_) (fun c514 => ?_)
                        · refine lv_iload hx hb dL_same_522 (lv_at hl 3 rfl) ?_
                          exact J524 (w12) _ _ ⟨by omega, hP, hD, hS, lv_sub hl [0, 1, 2, 3, 4, 5, 6, 7, 8, 9, 10, 11, 12, 13, 14] rfl⟩
                        · refine lv_iload hx hb dL_same_517 (lv_at hl 1 rfl) ?_
                          refine lv_goto (tgt := 524) hx hb dL_same_519 (by decide) ?_
                          exact J524 (knownIn (FB S w13) (S 0)) _ _ ⟨by omega, hP, hD, hS, lv_sub hl [0, 1, 2, 3, 4, 5, 6, 7, 8, 9, 10, 11, 12, 13, 14] rfl⟩
                    · refine lv_iload hx hb dL_same_494 (lv_at hl 0 rfl) ?_
                      refine lv_iload hx hb dL_same_496 (lv_at hl 2 rfl) ?_
                      refine iv_icmp_le (a := knownIn (FB S w13) (S 0)) (b := w12) (tgt := 506) hx hb (by omega) (by omega) dL_same_498 (by decide) (fun c498 => ?_) (fun c498 => ?_)
                      · refine lv_iload hx hb dL_same_506 (lv_at hl 3 rfl) ?_
                        exact J508 (w11) _ _ ⟨by omega, hP, hD, hS, lv_sub hl [0, 1, 2, 3, 4, 5, 6, 7, 8, 9, 10, 11, 12, 13, 14] rfl⟩
                      · refine lv_iload hx hb dL_same_501 (lv_at hl 1 rfl) ?_
                        refine lv_goto (tgt := 508) hx hb dL_same_503 (by decide) ?_
                        exact J508 (w13) _ _ ⟨by omega, hP, hD, hS, lv_sub hl [0, 1, 2, 3, 4, 5, 6, 7, 8, 9, 10, 11, 12, 13, 14] rfl⟩
              · refine lv_iconst (v := iI 0) hx hb dL_same_416 (by decide +kernel) ?_
                refine lv_istore (lv' := [(12, .int (iI 0)), (11, .int (iI u11)), (10, .int (iI x10)), (9, .int (iI x9)), (8, .int (iI x8)), (7, .int (iI x7)), (6, .int (iI ((wd (knF (FB S (-1))) 0 (S 0).toNat : Nat) : Int))), (0, .ref x), (1, .ref qa), (2, .ref aa), (3, .ref sa), (4, .ref ga), (5, .ref so)]) hx hb dL_same_417 hl (by decide) rfl (fun ls hl => ?_)
                refine iv_loop (I := fun (qq : Nat × Int) H locs ls => match qq with | (n2, u12) => ((n2 : Int) ≤ 4) ∧ (u12 = n2) ∧ va_P D vwCl [(x, oRD tx nw tr kn me sl), (nw, oDrv nc S (lN (kL (S) 0 40))), (nc, aI yI 48 g), (kn, oKn p9395 ex), (ex, aI yI 1681 E9395), (qa, aI yI 9 (qS S)), (aa, aI yI 48 gl), (sa, aJ yL 16 (setF (fitG S (-1)) (2 ^ (S 0).toNat))), (ga, aI yI 12 A1), (so, aI yI 12 S1)] H ∧ va_D A [(x, oRD tx nw tr kn me sl), (nw, oDrv nc S (lN (kL (S) 0 40))), (nc, aI yI 48 g), (kn, oKn p9395 ex), (ex, aI yI 1681 E9395), (qa, aI yI 9 (qS S)), (aa, aI yI 48 gl), (sa, aJ yL 16 (setF (fitG S (-1)) (2 ^ (S 0).toNat))), (ga, aI yI 12 A1), (so, aI yI 12 S1)] ∧ va_S A s.heap H locs ∧ lv_has ls 19 [(12, .int (iI u12)), (11, .int (iI u11)), (10, .int (iI x10)), (9, .int (iI x9)), (8, .int (iI x8)), (7, .int (iI x7)), (6, .int (iI ((wd (knF (FB S (-1))) 0 (S 0).toNat : Nat) : Int))), (0, .ref x), (1, .ref qa), (2, .ref aa), (3, .ref sa), (4, .ref ga), (5, .ref so)]) (μ := fun (qq : Nat × Int) => match qq with | (n2, u12) => 4 - n2) (0, 0) ?_ ?_
                · exact ⟨by omega, by omega, hP, hD, hS, lv_sub hl [0, 1, 2, 3, 4, 5, 6, 7, 8, 9, 10, 11, 12] rfl⟩
                · intro qq H locs ls hI ih419
                  obtain ⟨n2, u12⟩ := qq
                  obtain ⟨hn2, hu2, hP, hD, hS, hl⟩ := hI
                  refine lv_iload hx hb dL_same_419 (lv_at hl 0 rfl) ?_
                  refine lv_iconst (v := iI 4) hx hb dL_same_421 (by decide +kernel) ?_
                  refine iv_icmp_ge (a := u12) (b := 4) (tgt := 453) hx hb (by omega) (by omega) dL_same_422 (by decide) (fun c422 => ?_) (fun c422 => ?_)
                  · refine iv_inc (lv' := [(11, .int (iI (u11 + 1))), (12, .int (iI u12)), (10, .int (iI x10)), (9, .int (iI x9)), (8, .int (iI x8)), (7, .int (iI x7)), (6, .int (iI ((wd (knF (FB S (-1))) 0 (S 0).toNat : Nat) : Int))), (0, .ref x), (1, .ref qa), (2, .ref aa), (3, .ref sa), (4, .ref ga), (5, .ref so)]) hx hb dL_same_453 hl (k := 1) rfl (by decide) rfl (fun ls hl => ?_)
                    refine lv_goto (tgt := 408) hx hb dL_same_456 (by decide) ?_
                    refine ih408 (n1 + 1, u11 + 1) _ _ (by show ((S 4).toNat - (n1 + 1) : Nat) < (S 4).toNat - n1; omega) ?_
                    exact ⟨by omega, by omega, hP, hD, hS, lv_sub hl [0, 2, 3, 4, 5, 6, 7, 8, 9, 10, 11, 12] rfl⟩
                  · have hgl : gl (4 * u11 + u12) = an S u11 u12 := by rw [show 4 * u11 + u12 = u11 * 4 + u12 by omega]; exact hRl u11 u12 (by omega) (by omega) (by omega) (by omega)
                    refine lv_aload_n hx hb dL_same_425 rfl (lv_at hl 7 rfl) ?_
                    refine lv_iload hx hb dL_same_426 (lv_at hl 1 rfl) ?_
                    refine lv_iload hx hb dL_same_428 (lv_at hl 0 rfl) ?_
                    refine iv_rwV (As := [.int (iI u11), .int (iI u12)]) (rest := []) (C := RX4) (n := 2) ⟨hx, hb, hml, hown, hts⟩ (c_X4_answer_ok l D yI yC yD x tx nw tr kn me sl nc S g u11 u12 (by assumption) (by assumption) ((⟨by omega, by omega⟩)) ((⟨by omega, by omega⟩)) (by omega) (by omega) _) (cwV 2 hts gL_same_X4_answer rfl rfl rfl (by decide +kernel) ⟨Nat.le_of_ble_eq_true rfl, Nat.le_of_ble_eq_true rfl⟩) hKz hP hD hS hA [0, 1, 2] (by decide) rfl 0 rfl rfl rfl hl.1 rfl (Nat.le_of_ble_eq_true rfl) dL_same_430 ⟨Nat.zero_le _, Nat.zero_le _⟩ (fun _ => rfl) (fun r430 u430 H locs hw430 hP hD hS => ?_)
                    obtain ⟨hr430, -⟩ := hw430
                    subst hr430
                    have hP : va_P D vwCl [(x, oRD tx nw tr kn me sl), (nw, oDrv nc S (lN (kL (S) 0 40))), (nc, aI yI 48 g), (kn, oKn p9395 ex), (ex, aI yI 1681 E9395), (qa, aI yI 9 (qS S)), (aa, aI yI 48 gl), (sa, aJ yL 16 (setF (fitG S (-1)) (2 ^ (S 0).toNat))), (ga, aI yI 12 A1), (so, aI yI 12 S1)] H := hP
                    have hD : va_D A [(x, oRD tx nw tr kn me sl), (nw, oDrv nc S (lN (kL (S) 0 40))), (nc, aI yI 48 g), (kn, oKn p9395 ex), (ex, aI yI 1681 E9395), (qa, aI yI 9 (qS S)), (aa, aI yI 48 gl), (sa, aJ yL 16 (setF (fitG S (-1)) (2 ^ (S 0).toNat))), (ga, aI yI 12 A1), (so, aI yI 12 S1)] := hD
                    refine lv_aload_n hx hb dL_same_433 rfl (lv_at hl 9 rfl) ?_
                    refine lv_iconst (v := iI 4) hx hb dL_same_434 (by decide +kernel) ?_
                    refine lv_iload hx hb dL_same_435 (lv_at hl 1 rfl) ?_
                    refine iv_mul hx hb dL_same_437 ?_
                    refine lv_iload hx hb dL_same_438 (lv_at hl 0 rfl) ?_
                    refine iv_add hx hb dL_same_440 ?_
                    refine iv_ald hx hb hK hP 6 0 rfl rfl (z := 4 * u11 + u12) (by omega) (by omega) (by omega) dL_same_441 ?_
                    refine lv_icmp_eq (x := iI (an S u11 u12)) (y := iI (gl (4 * u11 + u12))) (tgt := 447) hx hb dL_same_442 (by decide) (fun c442 => ?_) (fun c442 => ?_)
                    · refine iv_inc (lv' := [(12, .int (iI (u12 + 1))), (11, .int (iI u11)), (10, .int (iI x10)), (9, .int (iI x9)), (8, .int (iI x8)), (7, .int (iI x7)), (6, .int (iI ((wd (knF (FB S (-1))) 0 (S 0).toNat : Nat) : Int))), (0, .ref x), (1, .ref qa), (2, .ref aa), (3, .ref sa), (4, .ref ga), (5, .ref so)]) hx hb dL_same_447 hl (k := 0) rfl (by decide) rfl (fun ls hl => ?_)
                      refine lv_goto (tgt := 419) hx hb dL_same_450 (by decide) ?_
                      refine ih419 (n2 + 1, u12 + 1) _ _ (by show (4 - (n2 + 1) : Nat) < 4 - n2; omega) ?_
                      exact ⟨by omega, by omega, hP, hD, hS, lv_sub hl [0, 1, 2, 3, 4, 5, 6, 7, 8, 9, 10, 11, 12] rfl⟩
                    · exact absurd (congrArg iI hgl.symm) c442
          · exact absurd (by omega) c400
    · have hko := kno hI (i := x11) (by omega)
      have hky := hI.key (j := x11) (by omega) (by omega)
      have hkc : kCnt (FB S (-1)) (ka + 1) = kCnt (FB S (-1)) ka + (if knownOf (FB S (-1)) x11 ≠ -1 then 1 else 0) := by rw [h11]; rfl
      have hcr := kCnt_r (r := (FB S (-1))) ka
      refine iv_join (I := fun (qq : Int) H locs ls => match qq with | yi => (yi = knF (FB S (-1)) x11.toNat) ∧ va_P D vwCl [(x, oRD tx nw tr kn me sl), (nw, oDrv nc S (lN (kL (S) 0 40))), (nc, aI yI 48 g), (kn, oKn p1 ex), (ex, aI yI 1681 E1), (qa, aI yI 9 (qS S)), (aa, aI yI 48 gl), (sa, aJ yL 16 (setF (fitG S (-1)) (2 ^ (S 0).toNat))), (ga, aI yI 12 A1), (so, aI yI 12 S1)] H ∧ va_D A [(x, oRD tx nw tr kn me sl), (nw, oDrv nc S (lN (kL (S) 0 40))), (nc, aI yI 48 g), (kn, oKn p1 ex), (ex, aI yI 1681 E1), (qa, aI yI 9 (qS S)), (aa, aI yI 48 gl), (sa, aJ yL 16 (setF (fitG S (-1)) (2 ^ (S 0).toNat))), (ga, aI yI 12 A1), (so, aI yI 12 S1)] ∧ va_S A s.heap H locs ∧ lv_has ls 19 [(11, .int (iI x11)), (10, .int (iI x10)), (9, .int (iI x9)), (8, .int (iI x8)), (7, .int (iI x7)), (6, .int (iI ((wd (knF (FB S (-1))) 0 (S 0).toNat : Nat) : Int))), (0, .ref x), (1, .ref qa), (2, .ref aa), (3, .ref sa), (4, .ref ga), (5, .ref so)]) (sx := fun (qq : Int) => match qq with | yi => [.int (iI yi)]) (pcj := 53) ?_ (fun J53 => ?_)
      · intro yi H locs ls hI
        obtain ⟨hyi, hP, hD, hS, hl⟩ := hI
        refine lv_istore (lv' := [(12, .int (iI yi)), (11, .int (iI x11)), (10, .int (iI x10)), (9, .int (iI x9)), (8, .int (iI x8)), (7, .int (iI x7)), (6, .int (iI ((wd (knF (FB S (-1))) 0 (S 0).toNat : Nat) : Int))), (0, .ref x), (1, .ref qa), (2, .ref aa), (3, .ref sa), (4, .ref ga), (5, .ref so)]) hx hb dL_same_53 hl (by decide) rfl (fun ls hl => ?_)
        refine iv_join (I := fun (qq : Int) H locs ls => match qq with | yk => (yk = S (8 + x11)) ∧ va_P D vwCl [(x, oRD tx nw tr kn me sl), (nw, oDrv nc S (lN (kL (S) 0 40))), (nc, aI yI 48 g), (kn, oKn p1 ex), (ex, aI yI 1681 E1), (qa, aI yI 9 (qS S)), (aa, aI yI 48 gl), (sa, aJ yL 16 (setF (fitG S (-1)) (2 ^ (S 0).toNat))), (ga, aI yI 12 A1), (so, aI yI 12 S1)] H ∧ va_D A [(x, oRD tx nw tr kn me sl), (nw, oDrv nc S (lN (kL (S) 0 40))), (nc, aI yI 48 g), (kn, oKn p1 ex), (ex, aI yI 1681 E1), (qa, aI yI 9 (qS S)), (aa, aI yI 48 gl), (sa, aJ yL 16 (setF (fitG S (-1)) (2 ^ (S 0).toNat))), (ga, aI yI 12 A1), (so, aI yI 12 S1)] ∧ va_S A s.heap H locs ∧ lv_has ls 19 [(12, .int (iI yi)), (11, .int (iI x11)), (10, .int (iI x10)), (9, .int (iI x9)), (8, .int (iI x8)), (7, .int (iI x7)), (6, .int (iI ((wd (knF (FB S (-1))) 0 (S 0).toNat : Nat) : Int))), (0, .ref x), (1, .ref qa), (2, .ref aa), (3, .ref sa), (4, .ref ga), (5, .ref so)]) (sx := fun (qq : Int) => match qq with | yk => [.int (iI yk)]) (pcj := 73) ?_ (fun J73 => ?_)
        · intro yk H locs ls hI
          obtain ⟨hyk, hP, hD, hS, hl⟩ := hI
          refine lv_istore (lv' := [(13, .int (iI yk)), (12, .int (iI yi)), (11, .int (iI x11)), (10, .int (iI x10)), (9, .int (iI x9)), (8, .int (iI x8)), (7, .int (iI x7)), (6, .int (iI ((wd (knF (FB S (-1))) 0 (S 0).toNat : Nat) : Int))), (0, .ref x), (1, .ref qa), (2, .ref aa), (3, .ref sa), (4, .ref ga), (5, .ref so)]) hx hb dL_same_73 hl (by decide) rfl (fun ls hl => ?_)
          refine lv_aload_n hx hb dL_same_75 rfl (lv_at hl 8 rfl) ?_
          refine lv_iload hx hb dL_same_76 (lv_at hl 2 rfl) ?_
          refine iv_rwV (As := [.int (iI x11)]) (rest := []) (C := RX4) (n := 1) ⟨hx, hb, hml, hown, hts⟩ (c_X4_has_ok l D yI yC yD x tx nw tr kn me sl nc S g x11 (by assumption) ((⟨by omega, by omega⟩)) (by omega) _) (cwV 1 hts gL_same_X4_has rfl rfl rfl (by decide +kernel) ⟨Nat.le_of_ble_eq_true rfl, Nat.le_of_ble_eq_true rfl⟩) hKz hP hD hS hA [0, 1, 2] (by decide) rfl 0 rfl rfl rfl hl.1 rfl (Nat.le_of_ble_eq_true rfl) dL_same_78 ⟨Nat.zero_le _, Nat.zero_le _⟩ (fun _ => rfl) (fun r78 u78 H locs hw78 hP hD hS => ?_)
          obtain ⟨hr78, -⟩ := hw78
          subst hr78
          have hP : va_P D vwCl [(x, oRD tx nw tr kn me sl), (nw, oDrv nc S (lN (kL (S) 0 40))), (nc, aI yI 48 g), (kn, oKn p1 ex), (ex, aI yI 1681 E1), (qa, aI yI 9 (qS S)), (aa, aI yI 48 gl), (sa, aJ yL 16 (setF (fitG S (-1)) (2 ^ (S 0).toNat))), (ga, aI yI 12 A1), (so, aI yI 12 S1)] H := hP
          have hD : va_D A [(x, oRD tx nw tr kn me sl), (nw, oDrv nc S (lN (kL (S) 0 40))), (nc, aI yI 48 g), (kn, oKn p1 ex), (ex, aI yI 1681 E1), (qa, aI yI 9 (qS S)), (aa, aI yI 48 gl), (sa, aJ yL 16 (setF (fitG S (-1)) (2 ^ (S 0).toNat))), (ga, aI yI 12 A1), (so, aI yI 12 S1)] := hD
          rw [show (iI (bI (S (8 + x11) = 1)) : Int32) = iI (S (8 + x11)) from (congrArg iI (bI_k (by omega)))]
          refine lv_iload hx hb dL_same_81 (lv_at hl 0 rfl) ?_
          refine iv_icmp_ne (a := S (8 + x11)) (b := yk) (tgt := 133) hx hb (by omega) (by omega) dL_same_83 (by decide) (fun c83 => ?_) (fun c83 => ?_)
          · exact absurd (by omega) c83
          · refine lv_aload_n hx hb dL_same_86 rfl (lv_at hl 8 rfl) ?_
            refine lv_iload hx hb dL_same_87 (lv_at hl 2 rfl) ?_
            refine iv_rwV (As := [.int (iI x11)]) (rest := []) (C := RX4) (n := 1) ⟨hx, hb, hml, hown, hts⟩ (c_X4_known_ok l D yI yC yD x tx nw tr kn me sl nc S g ex p1 E1 x11 (by assumption) (by assumption) ((⟨by omega, by omega⟩)) (by omega) _) (cwV 1 hts gL_same_X4_known rfl rfl rfl (by decide +kernel) ⟨Nat.le_of_ble_eq_true rfl, Nat.le_of_ble_eq_true rfl⟩) hKz hP hD hS hA [0, 1, 2, 3, 4] (by decide) rfl 0 rfl rfl rfl hl.1 rfl (Nat.le_of_ble_eq_true rfl) dL_same_89 ⟨Nat.zero_le _, Nat.zero_le _⟩ (fun _ => rfl) (fun r89 u89 H locs hw89 hP hD hS => ?_)
            obtain ⟨p989, E989⟩ := u89
            obtain ⟨hr89, -⟩ := hw89
            subst hr89
            have hP : va_P D vwCl [(x, oRD tx nw tr kn me sl), (nw, oDrv nc S (lN (kL (S) 0 40))), (nc, aI yI 48 g), (kn, oKn p989 ex), (ex, aI yI 1681 E989), (qa, aI yI 9 (qS S)), (aa, aI yI 48 gl), (sa, aJ yL 16 (setF (fitG S (-1)) (2 ^ (S 0).toNat))), (ga, aI yI 12 A1), (so, aI yI 12 S1)] H := hP
            have hD : va_D A [(x, oRD tx nw tr kn me sl), (nw, oDrv nc S (lN (kL (S) 0 40))), (nc, aI yI 48 g), (kn, oKn p989 ex), (ex, aI yI 1681 E989), (qa, aI yI 9 (qS S)), (aa, aI yI 48 gl), (sa, aJ yL 16 (setF (fitG S (-1)) (2 ^ (S 0).toNat))), (ga, aI yI 12 A1), (so, aI yI 12 S1)] := hD
            refine iv_join (I := fun (qq : Int) H locs ls => match qq with | yq => (yq = knownOf (FB S (-1)) x11) ∧ va_P D vwCl [(x, oRD tx nw tr kn me sl), (nw, oDrv nc S (lN (kL (S) 0 40))), (nc, aI yI 48 g), (kn, oKn p989 ex), (ex, aI yI 1681 E989), (qa, aI yI 9 (qS S)), (aa, aI yI 48 gl), (sa, aJ yL 16 (setF (fitG S (-1)) (2 ^ (S 0).toNat))), (ga, aI yI 12 A1), (so, aI yI 12 S1)] H ∧ va_D A [(x, oRD tx nw tr kn me sl), (nw, oDrv nc S (lN (kL (S) 0 40))), (nc, aI yI 48 g), (kn, oKn p989 ex), (ex, aI yI 1681 E989), (qa, aI yI 9 (qS S)), (aa, aI yI 48 gl), (sa, aJ yL 16 (setF (fitG S (-1)) (2 ^ (S 0).toNat))), (ga, aI yI 12 A1), (so, aI yI 12 S1)] ∧ va_S A s.heap H locs ∧ lv_has ls 19 [(13, .int (iI yk)), (12, .int (iI yi)), (11, .int (iI x11)), (10, .int (iI x10)), (9, .int (iI x9)), (8, .int (iI x8)), (7, .int (iI x7)), (6, .int (iI ((wd (knF (FB S (-1))) 0 (S 0).toNat : Nat) : Int))), (0, .ref x), (1, .ref qa), (2, .ref aa), (3, .ref sa), (4, .ref ga), (5, .ref so)]) (sx := fun (qq : Int) => match qq with | yq => [.int (iI yq), .int (iI (knownOf (FB S (-1)) x11))]) (pcj := 111) ?_ (fun J111 => ?_)
            · intro yq H locs ls hI
              obtain ⟨hyq, hP, hD, hS, hl⟩ := hI
              refine iv_icmp_ne (a := knownOf (FB S (-1)) x11) (b := yq) (tgt := 133) hx hb (by omega) (by omega) dL_same_111 (by decide) (fun c111 => ?_) (fun c111 => ?_)
              · exact absurd (by omega) c111
              · refine iv_join (I := fun (qq : Int × Int × (Int → Int)) H locs ls => match qq with | (yf, p3, E3) => (yf = kCnt (FB S (-1)) (ka + 1)) ∧ va_P D vwCl [(x, oRD tx nw tr kn me sl), (nw, oDrv nc S (lN (kL (S) 0 40))), (nc, aI yI 48 g), (kn, oKn p3 ex), (ex, aI yI 1681 E3), (qa, aI yI 9 (qS S)), (aa, aI yI 48 gl), (sa, aJ yL 16 (setF (fitG S (-1)) (2 ^ (S 0).toNat))), (ga, aI yI 12 A1), (so, aI yI 12 S1)] H ∧ va_D A [(x, oRD tx nw tr kn me sl), (nw, oDrv nc S (lN (kL (S) 0 40))), (nc, aI yI 48 g), (kn, oKn p3 ex), (ex, aI yI 1681 E3), (qa, aI yI 9 (qS S)), (aa, aI yI 48 gl), (sa, aJ yL 16 (setF (fitG S (-1)) (2 ^ (S 0).toNat))), (ga, aI yI 12 A1), (so, aI yI 12 S1)] ∧ va_S A s.heap H locs ∧ lv_has ls 19 [(13, .int (iI yk)), (12, .int (iI yi)), (11, .int (iI x11)), (10, .int (iI yf)), (9, .int (iI x9)), (8, .int (iI x8)), (7, .int (iI x7)), (6, .int (iI ((wd (knF (FB S (-1))) 0 (S 0).toNat : Nat) : Int))), (0, .ref x), (1, .ref qa), (2, .ref aa), (3, .ref sa), (4, .ref ga), (5, .ref so)]) (sx := fun (qq : Int × Int × (Int → Int)) => match qq with | (yf, p3, E3) => []) (pcj := 135) ?_ (fun J135 => ?_)
                · intro qq H locs ls hI
                  obtain ⟨yf, p3, E3⟩ := qq
                  obtain ⟨hyf, hP, hD, hS, hl⟩ := hI
                  refine lv_iload hx hb dL_same_135 (lv_at hl 2 rfl) ?_
                  refine lv_istore (lv' := [(14, .int (iI x11)), (13, .int (iI yk)), (12, .int (iI yi)), (11, .int (iI x11)), (10, .int (iI yf)), (9, .int (iI x9)), (8, .int (iI x8)), (7, .int (iI x7)), (6, .int (iI ((wd (knF (FB S (-1))) 0 (S 0).toNat : Nat) : Int))), (0, .ref x), (1, .ref qa), (2, .ref aa), (3, .ref sa), (4, .ref ga), (5, .ref so)]) hx hb dL_same_137 hl (by decide) rfl (fun ls hl => ?_)
                  refine iv_loop (I := fun (qq : Nat × Int × Int × Int × Int × Int × (Int → Int) × (Int → Int) × (Int → Int)) H locs ls => match qq with | (mb, y7, y8, y9, x14, p2, E2, A2, S2) => ((mb : Int) ≤ S 0 - x11) ∧ (x14 = x11 + mb) ∧ ((y7, y8, y9) = bqI S (FB S (-1)) x11 (bqO S (FB S (-1)) ka) mb) ∧ (0 ≤ y8 ∧ y8 ≤ 100 ∧ 0 ≤ y9 ∧ y9 ≤ 100 ∧ -1 ≤ y7 ∧ y7 ≤ 4000) ∧ va_P D vwCl [(x, oRD tx nw tr kn me sl), (nw, oDrv nc S (lN (kL (S) 0 40))), (nc, aI yI 48 g), (kn, oKn p2 ex), (ex, aI yI 1681 E2), (qa, aI yI 9 (qS S)), (aa, aI yI 48 gl), (sa, aJ yL 16 (setF (fitG S (-1)) (2 ^ (S 0).toNat))), (ga, aI yI 12 A2), (so, aI yI 12 S2)] H ∧ va_D A [(x, oRD tx nw tr kn me sl), (nw, oDrv nc S (lN (kL (S) 0 40))), (nc, aI yI 48 g), (kn, oKn p2 ex), (ex, aI yI 1681 E2), (qa, aI yI 9 (qS S)), (aa, aI yI 48 gl), (sa, aJ yL 16 (setF (fitG S (-1)) (2 ^ (S 0).toNat))), (ga, aI yI 12 A2), (so, aI yI 12 S2)] ∧ va_S A s.heap H locs ∧ lv_has ls 19 [(14, .int (iI x14)), (11, .int (iI x11)), (10, .int (iI yf)), (9, .int (iI y9)), (8, .int (iI y8)), (7, .int (iI y7)), (6, .int (iI ((wd (knF (FB S (-1))) 0 (S 0).toNat : Nat) : Int))), (0, .ref x), (1, .ref qa), (2, .ref aa), (3, .ref sa), (4, .ref ga), (5, .ref so)]) (μ := fun (qq : Nat × Int × Int × Int × Int × Int × (Int → Int) × (Int → Int) × (Int → Int)) => match qq with | (mb, y7, y8, y9, x14, p2, E2, A2, S2) => (S 0 - x11).toNat - mb) (0, x7, x8, x9, x11, p3, E3, A1, S1) ?_ ?_
                  · exact ⟨by omega, by omega, hq0, by omega, hP, hD, hS, lv_sub hl [0, 3, 4, 5, 6, 7, 8, 9, 10, 11, 12, 13, 14] rfl⟩
                  · intro qq H locs ls hI ih139
                    obtain ⟨mb, y7, y8, y9, x14, p2, E2, A2, S2⟩ := qq
                    obtain ⟨hmb, h14, hqi, hr1, hP, hD, hS, hl⟩ := hI
                    refine lv_iload hx hb dL_same_139 (lv_at hl 0 rfl) ?_
                    refine lv_aload_n hx hb dL_same_141 rfl (lv_at hl 8 rfl) ?_
                    refine lv_iconst (v := iI 0) hx hb dL_same_142 (by decide +kernel) ?_
                    refine iv_aldE hx hb hK hP 5 0 rfl rfl (z := 0) (w := S 0) (by first | exact qS_n (by omega) | exact up_s | rfl) (by omega) (by omega) (by omega) dL_same_143 ?_
                    refine iv_icmp_ge (a := x14) (b := S 0) (tgt := 367) hx hb (by omega) (by omega) dL_same_144 (by decide) (fun c144 => ?_) (fun c144 => ?_)
                    · refine iv_inc (lv' := [(11, .int (iI (x11 + 1))), (14, .int (iI x14)), (10, .int (iI yf)), (9, .int (iI y9)), (8, .int (iI y8)), (7, .int (iI y7)), (6, .int (iI ((wd (knF (FB S (-1))) 0 (S 0).toNat : Nat) : Int))), (0, .ref x), (1, .ref qa), (2, .ref aa), (3, .ref sa), (4, .ref ga), (5, .ref so)]) hx hb dL_same_367 hl (k := 1) rfl (by decide) rfl (fun ls hl => ?_)
                      refine lv_goto (tgt := 29) hx hb dL_same_370 (by decide) ?_
                      refine ih29 (ka + 1, y7, y8, y9, yf, x11 + 1, p2, E2, A2, S2) _ _ (by show ((S 0).toNat - (ka + 1) : Nat) < (S 0).toNat - ka; omega) ?_
                      exact ⟨by omega, by omega, hyf, by (show _ = bqI S _ (ka : Int) (bqO S _ ka) (S 0 - ka).toNat); rw [← h11, show (S 0 - x11).toNat = mb by omega]; exact hqi, by omega, hP, hD, hS, lv_sub hl [0, 2, 3, 4, 5, 6, 7, 8, 9, 10, 11, 12] rfl⟩
                    · have hmq := ml_r (S := S) (wo := -1) (a := x11) (b := x14) (by omega) (by omega)
                      have hle := most_le hI (a := x11) (b := x14) (by omega)
                      have hcf := costOf_r hI (a := x11) (b := x14) (by omega)
                      refine lv_iload hx hb dL_same_147 (lv_at hl 1 rfl) ?_
                      refine lv_iload hx hb dL_same_149 (lv_at hl 0 rfl) ?_
                      refine lv_aload_n hx hb dL_same_151 rfl (lv_at hl 8 rfl) ?_
                      refine lv_aload_n hx hb dL_same_152 rfl (lv_at hl 10 rfl) ?_
                      refine iv_roS (As := [.int (iI x11), .int (iI x14), .ref qa, .ref sa]) (rest := []) (n := 4) ⟨hx, hb, hml, hown, hts⟩ (c_L_least l D yI yC yD yL qa sa S (fitG S (-1)) x11 x14 (by omega) (by omega)) (va_cwS 4 hts gL_same_L_least rfl rfl rfl (by decide +kernel) ⟨Nat.le_of_ble_eq_true rfl, Nat.le_of_ble_eq_true rfl⟩) hK hP [5, 7] rfl rfl hl.1 rfl (Nat.le_of_ble_eq_true rfl) dL_same_153 ⟨Nat.zero_le _, Nat.zero_le _⟩ ?_
                      rw [show (lsN (fitG S (-1)) x11 x14 (2 ^ (S 0).toNat) : Int) = leastI (FB S (-1)) x11 x14 from (rep_ls hG (by omega))]
                      refine lv_istore (lv' := [(15, .int (iI (leastI (FB S (-1)) x11 x14))), (14, .int (iI x14)), (11, .int (iI x11)), (10, .int (iI yf)), (9, .int (iI y9)), (8, .int (iI y8)), (7, .int (iI y7)), (6, .int (iI ((wd (knF (FB S (-1))) 0 (S 0).toNat : Nat) : Int))), (0, .ref x), (1, .ref qa), (2, .ref aa), (3, .ref sa), (4, .ref ga), (5, .ref so)]) hx hb dL_same_156 hl (by decide) rfl (fun ls hl => ?_)
                      refine lv_iload hx hb dL_same_158 (lv_at hl 2 rfl) ?_
                      refine lv_iload hx hb dL_same_160 (lv_at hl 1 rfl) ?_
                      refine lv_aload_n hx hb dL_same_162 rfl (lv_at hl 9 rfl) ?_
                      refine lv_aload_n hx hb dL_same_163 rfl (lv_at hl 11 rfl) ?_
                      refine iv_roS (As := [.int (iI x11), .int (iI x14), .ref qa, .ref sa]) (rest := []) (n := 4) ⟨hx, hb, hml, hown, hts⟩ (c_L_most l D yI yC yD yL qa sa S (fitG S (-1)) x11 x14 (by omega) (by omega)) (va_cwS 4 hts gL_same_L_most rfl rfl rfl (by decide +kernel) ⟨Nat.le_of_ble_eq_true rfl, Nat.le_of_ble_eq_true rfl⟩) hK hP [5, 7] rfl rfl hl.1 rfl (Nat.le_of_ble_eq_true rfl) dL_same_164 ⟨Nat.zero_le _, Nat.zero_le _⟩ ?_
                      rw [show (msN (fitG S (-1)) x11 x14 (2 ^ (S 0).toNat) : Int) = mostI (FB S (-1)) x11 x14 from (rep_ms hG (by omega))]
                      refine lv_istore (lv' := [(16, .int (iI (mostI (FB S (-1)) x11 x14))), (15, .int (iI (leastI (FB S (-1)) x11 x14))), (14, .int (iI x14)), (11, .int (iI x11)), (10, .int (iI yf)), (9, .int (iI y9)), (8, .int (iI y8)), (7, .int (iI y7)), (6, .int (iI ((wd (knF (FB S (-1))) 0 (S 0).toNat : Nat) : Int))), (0, .ref x), (1, .ref qa), (2, .ref aa), (3, .ref sa), (4, .ref ga), (5, .ref so)]) hx hb dL_same_167 hl (by decide) rfl (fun ls hl => ?_)
                      refine lv_iload hx hb dL_same_169 (lv_at hl 3 rfl) ?_
                      refine lv_iload hx hb dL_same_171 (lv_at hl 2 rfl) ?_
                      refine lv_aload_n hx hb dL_same_173 rfl (lv_at hl 10 rfl) ?_
                      refine lv_aload_n hx hb dL_same_174 rfl (lv_at hl 11 rfl) ?_
                      refine iv_roS (As := [.int (iI x11), .int (iI x14), .ref qa, .ref aa]) (rest := []) (n := 4) ⟨hx, hb, hml, hown, hts⟩ (c_L_cost l D yI yC yD yL qa aa S gl x11 x14 (by assumption) (by assumption) (by omega)) (va_cwS 4 hts gL_same_L_cost rfl rfl rfl (by decide +kernel) ⟨Nat.le_of_ble_eq_true rfl, Nat.le_of_ble_eq_true rfl⟩) hK hP [5, 6] rfl rfl hl.1 rfl (Nat.le_of_ble_eq_true rfl) dL_same_175 ⟨Nat.zero_le _, Nat.zero_le _⟩ ?_
                      refine lv_istore (lv' := [(17, .int (iI (costOf S x11 x14))), (16, .int (iI (mostI (FB S (-1)) x11 x14))), (15, .int (iI (leastI (FB S (-1)) x11 x14))), (14, .int (iI x14)), (11, .int (iI x11)), (10, .int (iI yf)), (9, .int (iI y9)), (8, .int (iI y8)), (7, .int (iI y7)), (6, .int (iI ((wd (knF (FB S (-1))) 0 (S 0).toNat : Nat) : Int))), (0, .ref x), (1, .ref qa), (2, .ref aa), (3, .ref sa), (4, .ref ga), (5, .ref so)]) hx hb dL_same_178 hl (by decide) rfl (fun ls hl => ?_)
                      refine iv_join (I := fun (qq : Int) H locs ls => match qq with | yw => ((S 1 ≤ x14 - x11 + 1 ∧ yw = 1) ∨ (¬ S 1 ≤ x14 - x11 + 1 ∧ yw = 0)) ∧ va_P D vwCl [(x, oRD tx nw tr kn me sl), (nw, oDrv nc S (lN (kL (S) 0 40))), (nc, aI yI 48 g), (kn, oKn p2 ex), (ex, aI yI 1681 E2), (qa, aI yI 9 (qS S)), (aa, aI yI 48 gl), (sa, aJ yL 16 (setF (fitG S (-1)) (2 ^ (S 0).toNat))), (ga, aI yI 12 A2), (so, aI yI 12 S2)] H ∧ va_D A [(x, oRD tx nw tr kn me sl), (nw, oDrv nc S (lN (kL (S) 0 40))), (nc, aI yI 48 g), (kn, oKn p2 ex), (ex, aI yI 1681 E2), (qa, aI yI 9 (qS S)), (aa, aI yI 48 gl), (sa, aJ yL 16 (setF (fitG S (-1)) (2 ^ (S 0).toNat))), (ga, aI yI 12 A2), (so, aI yI 12 S2)] ∧ va_S A s.heap H locs ∧ lv_has ls 19 [(17, .int (iI (costOf S x11 x14))), (16, .int (iI (mostI (FB S (-1)) x11 x14))), (15, .int (iI (leastI (FB S (-1)) x11 x14))), (14, .int (iI x14)), (11, .int (iI x11)), (10, .int (iI yf)), (9, .int (iI y9)), (8, .int (iI y8)), (7, .int (iI y7)), (6, .int (iI ((wd (knF (FB S (-1))) 0 (S 0).toNat : Nat) : Int))), (0, .ref x), (1, .ref qa), (2, .ref aa), (3, .ref sa), (4, .ref ga), (5, .ref so)]) (sx := fun (qq : Int) => match qq with | yw => [.int (iI yw)]) (pcj := 198) ?_ (fun J198 => ?_)
                      · intro yw H locs ls hI
                        obtain ⟨hyw, hP, hD, hS, hl⟩ := hI
                        refine lv_istore (lv' := [(18, .int (iI yw)), (17, .int (iI (costOf S x11 x14))), (16, .int (iI (mostI (FB S (-1)) x11 x14))), (15, .int (iI (leastI (FB S (-1)) x11 x14))), (14, .int (iI x14)), (11, .int (iI x11)), (10, .int (iI yf)), (9, .int (iI y9)), (8, .int (iI y8)), (7, .int (iI y7)), (6, .int (iI ((wd (knF (FB S (-1))) 0 (S 0).toNat : Nat) : Int))), (0, .ref x), (1, .ref qa), (2, .ref aa), (3, .ref sa), (4, .ref ga), (5, .ref so)]) hx hb dL_same_198 hl (by decide) rfl (fun ls hl => ?_)
                        refine lv_aload_n hx hb dL_same_200 rfl (lv_at hl 11 rfl) ?_
                        refine lv_iload hx hb dL_same_201 (lv_at hl 5 rfl) ?_
                        refine lv_iload hx hb dL_same_203 (lv_at hl 4 rfl) ?_
                        refine iv_rwV (As := [.int (iI x11), .int (iI x14)]) (rest := []) (C := RX4) (n := 2) ⟨hx, hb, hml, hown, hts⟩ (c_X4_least_ok l D yI yC yD x tx nw tr kn me sl nc S g ex p2 E2 x11 x14 (by assumption) (by assumption) ((⟨⟨by omega, by omega⟩, ⟨by omega, by omega⟩⟩)) (by omega) _) (cwV 2 hts gL_same_X4_least rfl rfl rfl (by decide +kernel) ⟨Nat.le_of_ble_eq_true rfl, Nat.le_of_ble_eq_true rfl⟩) hKz hP hD hS hA [0, 1, 2, 3, 4] (by decide) rfl 0 rfl rfl rfl hl.1 rfl (Nat.le_of_ble_eq_true rfl) dL_same_205 ⟨Nat.zero_le _, Nat.zero_le _⟩ (fun _ => rfl) (fun r205 u205 H locs hw205 hP hD hS => ?_)
                        obtain ⟨p9205, E9205⟩ := u205
                        obtain ⟨hr205, -⟩ := hw205
                        subst hr205
                        have hP : va_P D vwCl [(x, oRD tx nw tr kn me sl), (nw, oDrv nc S (lN (kL (S) 0 40))), (nc, aI yI 48 g), (kn, oKn p9205 ex), (ex, aI yI 1681 E9205), (qa, aI yI 9 (qS S)), (aa, aI yI 48 gl), (sa, aJ yL 16 (setF (fitG S (-1)) (2 ^ (S 0).toNat))), (ga, aI yI 12 A2), (so, aI yI 12 S2)] H := hP
                        have hD : va_D A [(x, oRD tx nw tr kn me sl), (nw, oDrv nc S (lN (kL (S) 0 40))), (nc, aI yI 48 g), (kn, oKn p9205 ex), (ex, aI yI 1681 E9205), (qa, aI yI 9 (qS S)), (aa, aI yI 48 gl), (sa, aJ yL 16 (setF (fitG S (-1)) (2 ^ (S 0).toNat))), (ga, aI yI 12 A2), (so, aI yI 12 S2)] := hD
                        refine lv_iload hx hb dL_same_208 (lv_at hl 3 rfl) ?_
                        refine iv_icmp_ne (a := leastI (FB S (-1)) x11 x14) (b := leastI (FB S (-1)) x11 x14) (tgt := 248) hx hb (by omega) (by omega) dL_same_210 (by decide) (fun c210 => ?_) (fun c210 => ?_)
                        · exact absurd (by omega) c210
                        · refine lv_aload_n hx hb dL_same_213 rfl (lv_at hl 11 rfl) ?_
                          refine lv_iload hx hb dL_same_214 (lv_at hl 5 rfl) ?_
                          refine lv_iload hx hb dL_same_216 (lv_at hl 4 rfl) ?_
                          refine iv_rwV (As := [.int (iI x11), .int (iI x14)]) (rest := []) (C := RX4) (n := 2) ⟨hx, hb, hml, hown, hts⟩ (c_X4_most_ok l D yI yC yD x tx nw tr kn me sl nc S g ex p9205 E9205 x11 x14 (by assumption) (by assumption) ((⟨⟨by omega, by omega⟩, ⟨by omega, by omega⟩⟩)) (by omega) _) (cwV 2 hts gL_same_X4_most rfl rfl rfl (by decide +kernel) ⟨Nat.le_of_ble_eq_true rfl, Nat.le_of_ble_eq_true rfl⟩) hKz hP hD hS hA [0, 1, 2, 3, 4] (by decide) rfl 0 rfl rfl rfl hl.1 rfl (Nat.le_of_ble_eq_true rfl) dL_same_218 ⟨Nat.zero_le _, Nat.zero_le _⟩ (fun _ => rfl) (fun r218 u218 H locs hw218 hP hD hS => ?_)
                          obtain ⟨p9218, E9218⟩ := u218
                          obtain ⟨hr218, -⟩ := hw218
                          subst hr218
                          have hP : va_P D vwCl [(x, oRD tx nw tr kn me sl), (nw, oDrv nc S (lN (kL (S) 0 40))), (nc, aI yI 48 g), (kn, oKn p9218 ex), (ex, aI yI 1681 E9218), (qa, aI yI 9 (qS S)), (aa, aI yI 48 gl), (sa, aJ yL 16 (setF (fitG S (-1)) (2 ^ (S 0).toNat))), (ga, aI yI 12 A2), (so, aI yI 12 S2)] H := hP
                          have hD : va_D A [(x, oRD tx nw tr kn me sl), (nw, oDrv nc S (lN (kL (S) 0 40))), (nc, aI yI 48 g), (kn, oKn p9218 ex), (ex, aI yI 1681 E9218), (qa, aI yI 9 (qS S)), (aa, aI yI 48 gl), (sa, aJ yL 16 (setF (fitG S (-1)) (2 ^ (S 0).toNat))), (ga, aI yI 12 A2), (so, aI yI 12 S2)] := hD
                          refine lv_iload hx hb dL_same_221 (lv_at hl 2 rfl) ?_
                          refine iv_icmp_ne (a := mostI (FB S (-1)) x11 x14) (b := mostI (FB S (-1)) x11 x14) (tgt := 248) hx hb (by omega) (by omega) dL_same_223 (by decide) (fun c223 => ?_) (fun c223 => ?_)
                          · exact absurd (by omega) c223
                          · refine lv_aload_n hx hb dL_same_226 rfl (lv_at hl 11 rfl) ?_
                            refine lv_iload hx hb dL_same_227 (lv_at hl 5 rfl) ?_
                            refine lv_iload hx hb dL_same_229 (lv_at hl 4 rfl) ?_
                            refine iv_rwV (As := [.int (iI x11), .int (iI x14)]) (rest := []) (C := RX4) (n := 2) ⟨hx, hb, hml, hown, hts⟩ (c_X4_costs_ok l D yI yC yD x tx nw tr kn me sl nc S g x11 x14 (by assumption) (by assumption) ((⟨⟨by omega, by omega⟩, ⟨by omega, by omega⟩⟩)) (by omega) _) (cwV 2 hts gL_same_X4_costs rfl rfl rfl (by decide +kernel) ⟨Nat.le_of_ble_eq_true rfl, Nat.le_of_ble_eq_true rfl⟩) hKz hP hD hS hA [0, 1, 2] (by decide) rfl 0 rfl rfl rfl hl.1 rfl (Nat.le_of_ble_eq_true rfl) dL_same_231 ⟨Nat.zero_le _, Nat.zero_le _⟩ (fun _ => rfl) (fun r231 u231 H locs hw231 hP hD hS => ?_)
                            obtain ⟨hr231, -⟩ := hw231
                            subst hr231
                            have hP : va_P D vwCl [(x, oRD tx nw tr kn me sl), (nw, oDrv nc S (lN (kL (S) 0 40))), (nc, aI yI 48 g), (kn, oKn p9218 ex), (ex, aI yI 1681 E9218), (qa, aI yI 9 (qS S)), (aa, aI yI 48 gl), (sa, aJ yL 16 (setF (fitG S (-1)) (2 ^ (S 0).toNat))), (ga, aI yI 12 A2), (so, aI yI 12 S2)] H := hP
                            have hD : va_D A [(x, oRD tx nw tr kn me sl), (nw, oDrv nc S (lN (kL (S) 0 40))), (nc, aI yI 48 g), (kn, oKn p9218 ex), (ex, aI yI 1681 E9218), (qa, aI yI 9 (qS S)), (aa, aI yI 48 gl), (sa, aJ yL 16 (setF (fitG S (-1)) (2 ^ (S 0).toNat))), (ga, aI yI 12 A2), (so, aI yI 12 S2)] := hD
                            obtain ⟨cv, hcv⟩ : ∃ nv_, nv_ = (if S 1 ≤ x14 - x11 + 1 then costOf S x11 x14 else -1) := ⟨_, rfl⟩
                            rw [← hcv]
                            have hcv2 : (S 1 ≤ x14 - x11 + 1 ∧ cv = costOf S x11 x14) ∨ (¬ S 1 ≤ x14 - x11 + 1 ∧ cv = -1) := by rw [hcv]; split; exact Or.inl ⟨by assumption, rfl⟩; exact Or.inr ⟨by assumption, rfl⟩
                            refine iv_join (I := fun (qq : Int) H locs ls => match qq with | yc => (yc = cv) ∧ va_P D vwCl [(x, oRD tx nw tr kn me sl), (nw, oDrv nc S (lN (kL (S) 0 40))), (nc, aI yI 48 g), (kn, oKn p9218 ex), (ex, aI yI 1681 E9218), (qa, aI yI 9 (qS S)), (aa, aI yI 48 gl), (sa, aJ yL 16 (setF (fitG S (-1)) (2 ^ (S 0).toNat))), (ga, aI yI 12 A2), (so, aI yI 12 S2)] H ∧ va_D A [(x, oRD tx nw tr kn me sl), (nw, oDrv nc S (lN (kL (S) 0 40))), (nc, aI yI 48 g), (kn, oKn p9218 ex), (ex, aI yI 1681 E9218), (qa, aI yI 9 (qS S)), (aa, aI yI 48 gl), (sa, aJ yL 16 (setF (fitG S (-1)) (2 ^ (S 0).toNat))), (ga, aI yI 12 A2), (so, aI yI 12 S2)] ∧ va_S A s.heap H locs ∧ lv_has ls 19 [(18, .int (iI yw)), (17, .int (iI (costOf S x11 x14))), (16, .int (iI (mostI (FB S (-1)) x11 x14))), (15, .int (iI (leastI (FB S (-1)) x11 x14))), (14, .int (iI x14)), (11, .int (iI x11)), (10, .int (iI yf)), (9, .int (iI y9)), (8, .int (iI y8)), (7, .int (iI y7)), (6, .int (iI ((wd (knF (FB S (-1))) 0 (S 0).toNat : Nat) : Int))), (0, .ref x), (1, .ref qa), (2, .ref aa), (3, .ref sa), (4, .ref ga), (5, .ref so)]) (sx := fun (qq : Int) => match qq with | yc => [.int (iI yc), .int (iI cv)]) (pcj := 245) ?_ (fun J245 => ?_)
                            · intro yc H locs ls hI
                              obtain ⟨hyc, hP, hD, hS, hl⟩ := hI
                              refine iv_icmp_eq (a := cv) (b := yc) (tgt := 250) hx hb (by omega) (by omega) dL_same_245 (by decide) (fun c245 => ?_) (fun c245 => ?_)
                              · refine iv_join (I := fun (qq : Int × Int × Int) H locs ls => match qq with | (z7, z8, z9) => ((z7, z8, z9) = bqS S (FB S (-1)) x11 x14 (y7, y8, y9)) ∧ (0 ≤ z8 ∧ z8 ≤ 100 ∧ 0 ≤ z9 ∧ z9 ≤ 100 ∧ -1 ≤ z7 ∧ z7 ≤ 4000) ∧ va_P D vwCl [(x, oRD tx nw tr kn me sl), (nw, oDrv nc S (lN (kL (S) 0 40))), (nc, aI yI 48 g), (kn, oKn p9218 ex), (ex, aI yI 1681 E9218), (qa, aI yI 9 (qS S)), (aa, aI yI 48 gl), (sa, aJ yL 16 (setF (fitG S (-1)) (2 ^ (S 0).toNat))), (ga, aI yI 12 A2), (so, aI yI 12 S2)] H ∧ va_D A [(x, oRD tx nw tr kn me sl), (nw, oDrv nc S (lN (kL (S) 0 40))), (nc, aI yI 48 g), (kn, oKn p9218 ex), (ex, aI yI 1681 E9218), (qa, aI yI 9 (qS S)), (aa, aI yI 48 gl), (sa, aJ yL 16 (setF (fitG S (-1)) (2 ^ (S 0).toNat))), (ga, aI yI 12 A2), (so, aI yI 12 S2)] ∧ va_S A s.heap H locs ∧ lv_has ls 19 [(18, .int (iI yw)), (17, .int (iI (costOf S x11 x14))), (16, .int (iI (mostI (FB S (-1)) x11 x14))), (15, .int (iI (leastI (FB S (-1)) x11 x14))), (14, .int (iI x14)), (11, .int (iI x11)), (10, .int (iI yf)), (9, .int (iI z9)), (8, .int (iI z8)), (7, .int (iI z7)), (6, .int (iI ((wd (knF (FB S (-1))) 0 (S 0).toNat : Nat) : Int))), (0, .ref x), (1, .ref qa), (2, .ref aa), (3, .ref sa), (4, .ref ga), (5, .ref so)]) (sx := fun (qq : Int × Int × Int) => match qq with | (z7, z8, z9) => []) (pcj := 310) ?_ (fun J310 => ?_)
                                · intro qq H locs ls hI
                                  obtain ⟨z7, z8, z9⟩ := qq
                                  obtain ⟨hzq, hrz, hP, hD, hS, hl⟩ := hI
                                  refine lv_iload hx hb dL_same_310 (lv_at hl 5 rfl) ?_
                                  refine lv_iload hx hb dL_same_312 (lv_at hl 4 rfl) ?_
                                  refine iv_add hx hb dL_same_314 ?_
                                  refine lv_iconst (v := iI 3) hx hb dL_same_315 (by decide +kernel) ?_
                                  refine iv_rem hx hb (by omega) (by omega) (by omega) (by omega) dL_same_316 ?_
                                  refine lv_aload_n hx hb dL_same_317 rfl (lv_at hl 12 rfl) ?_
                                  refine lv_bipush (v := iI 6) hx hb dL_same_318 (by decide +kernel) ?_
                                  refine iv_aldE hx hb hK hP 5 0 rfl rfl (z := 6) (w := S 6) (by first | exact qS_n (by omega) | exact up_s | rfl) (by omega) (by omega) (by omega) dL_same_320 ?_
                                  refine lv_iconst (v := iI 3) hx hb dL_same_321 (by decide +kernel) ?_
                                  refine iv_rem hx hb (by omega) (by omega) (by omega) (by omega) dL_same_322 ?_
                                  refine iv_icmp_ne (a := (x11 + x14) % 3) (b := (S 6) % 3) (tgt := 361) hx hb (by omega) (by omega) dL_same_323 (by decide) (fun c323 => ?_) (fun c323 => ?_)
                                  · refine iv_inc (lv' := [(14, .int (iI (x14 + 1))), (18, .int (iI yw)), (17, .int (iI (costOf S x11 x14))), (16, .int (iI (mostI (FB S (-1)) x11 x14))), (15, .int (iI (leastI (FB S (-1)) x11 x14))), (11, .int (iI x11)), (10, .int (iI yf)), (9, .int (iI z9)), (8, .int (iI z8)), (7, .int (iI z7)), (6, .int (iI ((wd (knF (FB S (-1))) 0 (S 0).toNat : Nat) : Int))), (0, .ref x), (1, .ref qa), (2, .ref aa), (3, .ref sa), (4, .ref ga), (5, .ref so)]) hx hb dL_same_361 hl (k := 4) rfl (by decide) rfl (fun ls hl => ?_)
                                    refine lv_goto (tgt := 139) hx hb dL_same_364 (by decide) ?_
                                    refine ih139 (mb + 1, z7, z8, z9, x14 + 1, p9218, E9218, A2, S2) _ _ (by show ((S 0 - x11).toNat - (mb + 1) : Nat) < (S 0 - x11).toNat - mb; omega) ?_
                                    exact ⟨by omega, by omega, by (show _ = bqS S _ _ (x11 + (mb : Int)) (bqI S _ _ _ mb)); rw [← hqi, ← h14]; exact hzq, by omega, hP, hD, hS, lv_sub hl [0, 5, 6, 7, 8, 9, 10, 11, 12, 13, 14, 15, 16] rfl⟩
                                  · refine lv_aload_n hx hb dL_same_326 rfl (lv_at hl 11 rfl) ?_
                                    refine lv_iload hx hb dL_same_327 (lv_at hl 5 rfl) ?_
                                    refine lv_iload hx hb dL_same_329 (lv_at hl 4 rfl) ?_
                                    refine iv_rwV (As := [.int (iI x11), .int (iI x14)]) (rest := []) (C := RX4) (n := 2) ⟨hx, hb, hml, hown, hts⟩ (c_X4_worst_ok l D yI yC yD x tx nw tr kn me sl nc S g ex p9218 E9218 x11 x14 (by assumption) (by assumption) ((⟨⟨by omega, by omega⟩, ⟨by omega, by omega⟩⟩)) (by omega) _) (cwV 2 hts gL_same_X4_worst rfl rfl rfl (by decide +kernel) ⟨Nat.le_of_ble_eq_true rfl, Nat.le_of_ble_eq_true rfl⟩) hKz hP hD hS hA [0, 1, 2, 3, 4] (by decide) rfl 0 rfl rfl rfl hl.1 rfl (Nat.le_of_ble_eq_true rfl) dL_same_331 ⟨Nat.zero_le _, Nat.zero_le _⟩ (fun _ => rfl) (fun r331 u331 H locs hw331 hP hD hS => ?_)
                                    obtain ⟨p9331, E9331⟩ := u331
                                    obtain ⟨hr331, -⟩ := hw331
                                    subst hr331
                                    have hP : va_P D vwCl [(x, oRD tx nw tr kn me sl), (nw, oDrv nc S (lN (kL (S) 0 40))), (nc, aI yI 48 g), (kn, oKn p9331 ex), (ex, aI yI 1681 E9331), (qa, aI yI 9 (qS S)), (aa, aI yI 48 gl), (sa, aJ yL 16 (setF (fitG S (-1)) (2 ^ (S 0).toNat))), (ga, aI yI 12 A2), (so, aI yI 12 S2)] H := hP
                                    have hD : va_D A [(x, oRD tx nw tr kn me sl), (nw, oDrv nc S (lN (kL (S) 0 40))), (nc, aI yI 48 g), (kn, oKn p9331 ex), (ex, aI yI 1681 E9331), (qa, aI yI 9 (qS S)), (aa, aI yI 48 gl), (sa, aJ yL 16 (setF (fitG S (-1)) (2 ^ (S 0).toNat))), (ga, aI yI 12 A2), (so, aI yI 12 S2)] := hD
                                    obtain ⟨wv, hwv⟩ : ∃ nv_, nv_ = (if S 1 ≤ x14 - x11 + 1 then worstQ S x11 x14 else -1) := ⟨_, rfl⟩
                                    rw [← hwv]
                                    have hwq := wq_r hI (a := x11) (b := x14)
                                    have hwv2 : (S 1 ≤ x14 - x11 + 1 ∧ wv = worstQ S x11 x14) ∨ (¬ S 1 ≤ x14 - x11 + 1 ∧ wv = -1) := by rw [hwv]; split; exact Or.inl ⟨by assumption, rfl⟩; exact Or.inr ⟨by assumption, rfl⟩
                                    refine iv_join (I := fun (qq : Int × (Int → Int) × (Int → Int)) H locs ls => match qq with | (yz, A4, S4) => (yz = wv) ∧ va_P D vwCl [(x, oRD tx nw tr kn me sl), (nw, oDrv nc S (lN (kL (S) 0 40))), (nc, aI yI 48 g), (kn, oKn p9331 ex), (ex, aI yI 1681 E9331), (qa, aI yI 9 (qS S)), (aa, aI yI 48 gl), (sa, aJ yL 16 (setF (fitG S (-1)) (2 ^ (S 0).toNat))), (ga, aI yI 12 A4), (so, aI yI 12 S4)] H ∧ va_D A [(x, oRD tx nw tr kn me sl), (nw, oDrv nc S (lN (kL (S) 0 40))), (nc, aI yI 48 g), (kn, oKn p9331 ex), (ex, aI yI 1681 E9331), (qa, aI yI 9 (qS S)), (aa, aI yI 48 gl), (sa, aJ yL 16 (setF (fitG S (-1)) (2 ^ (S 0).toNat))), (ga, aI yI 12 A4), (so, aI yI 12 S4)] ∧ va_S A s.heap H locs ∧ lv_has ls 19 [(18, .int (iI yw)), (17, .int (iI (costOf S x11 x14))), (16, .int (iI (mostI (FB S (-1)) x11 x14))), (15, .int (iI (leastI (FB S (-1)) x11 x14))), (14, .int (iI x14)), (11, .int (iI x11)), (10, .int (iI yf)), (9, .int (iI z9)), (8, .int (iI z8)), (7, .int (iI z7)), (6, .int (iI ((wd (knF (FB S (-1))) 0 (S 0).toNat : Nat) : Int))), (0, .ref x), (1, .ref qa), (2, .ref aa), (3, .ref sa), (4, .ref ga), (5, .ref so)]) (sx := fun (qq : Int × (Int → Int) × (Int → Int)) => match qq with | (yz, A4, S4) => [.int (iI yz), .int (iI wv)]) (pcj := 356) ?_ (fun J356 => ?_)
                                    · intro qq H locs ls hI
                                      obtain ⟨yz, A4, S4⟩ := qq
                                      obtain ⟨hyz, hP, hD, hS, hl⟩ := hI
                                      refine iv_icmp_eq (a := wv) (b := yz) (tgt := 361) hx hb (by omega) (by omega) dL_same_356 (by decide) (fun c356 => ?_) (fun c356 => ?_)
                                      · refine iv_inc (lv' := [(14, .int (iI (x14 + 1))), (18, .int (iI yw)), (17, .int (iI (costOf S x11 x14))), (16, .int (iI (mostI (FB S (-1)) x11 x14))), (15, .int (iI (leastI (FB S (-1)) x11 x14))), (11, .int (iI x11)), (10, .int (iI yf)), (9, .int (iI z9)), (8, .int (iI z8)), (7, .int (iI z7)), (6, .int (iI ((wd (knF (FB S (-1))) 0 (S 0).toNat : Nat) : Int))), (0, .ref x), (1, .ref qa), (2, .ref aa), (3, .ref sa), (4, .ref ga), (5, .ref so)]) hx hb dL_same_361 hl (k := 4) rfl (by decide) rfl (fun ls hl => ?_)
                                        refine lv_goto (tgt := 139) hx hb dL_same_364 (by decide) ?_
                                        refine ih139 (mb + 1, z7, z8, z9, x14 + 1, p9331, E9331, A4, S4) _ _ (by show ((S 0 - x11).toNat - (mb + 1) : Nat) < (S 0 - x11).toNat - mb; omega) ?_
                                        exact ⟨by omega, by omega, by (show _ = bqS S _ _ (x11 + (mb : Int)) (bqI S _ _ _ mb)); rw [← hqi, ← h14]; exact hzq, by omega, hP, hD, hS, lv_sub hl [0, 5, 6, 7, 8, 9, 10, 11, 12, 13, 14, 15, 16] rfl⟩
                                      · exact absurd (by omega) c356
                                    · refine lv_iload hx hb dL_same_334 (lv_at hl 0 rfl) ?_
                                      refine iv_if_eq (a := yw) (tgt := 355) hx hb (by omega) dL_same_336 (by decide) (fun c336 => ?_) (fun c336 => ?_)
                                      · refine lv_iconst (v := iI (-1)) hx hb dL_same_355 (by decide +kernel) ?_
                                        exact J356 (-1, A2, S2) _ _ ⟨by omega, hP, hD, hS, lv_sub hl [0, 1, 2, 3, 4, 5, 6, 7, 8, 9, 10, 11, 12, 13, 14, 15, 16] rfl⟩
                                      · refine lv_iload hx hb dL_same_339 (lv_at hl 5 rfl) ?_
                                        refine lv_iload hx hb dL_same_341 (lv_at hl 4 rfl) ?_
                                        refine lv_aload_n hx hb dL_same_343 rfl (lv_at hl 12 rfl) ?_
                                        refine lv_aload_n hx hb dL_same_344 rfl (lv_at hl 14 rfl) ?_
                                        refine lv_aload hx hb dL_same_345 (lv_at hl 15 rfl) ?_
                                        refine lv_aload hx hb dL_same_347 (lv_at hl 16 rfl) ?_
                                        refine iv_rwS (As := [.int (iI x11), .int (iI x14), .ref qa, .ref sa, .ref ga, .ref so]) (rest := [.int (iI wv)]) (n := 6) ⟨hx, hb, hml, hown, hts⟩ (c_L_worst l D yI yC yD yL qa sa S (fitG S (-1)) ga so A2 S2 x11 x14 (by assumption) (by omega) (hG) (by omega) _) (va_cwS 6 hts gL_same_L_worst rfl rfl rfl (by decide +kernel) ⟨Nat.le_of_ble_eq_true rfl, Nat.le_of_ble_eq_true rfl⟩) hK hP hD hS hA [5, 7, 8, 9] (by decide) rfl rfl hl.1 rfl (Nat.le_of_ble_eq_true rfl) dL_same_349 ⟨Nat.zero_le _, Nat.zero_le _⟩ (fun _ => rfl) (fun r349 u349 H locs hw349 hP hD hS => ?_)
                                        obtain ⟨gA9349, gS9349⟩ := u349
                                        obtain ⟨hr349, -⟩ := hw349
                                        subst hr349
                                        have hP : va_P D vwCl [(x, oRD tx nw tr kn me sl), (nw, oDrv nc S (lN (kL (S) 0 40))), (nc, aI yI 48 g), (kn, oKn p9331 ex), (ex, aI yI 1681 E9331), (qa, aI yI 9 (qS S)), (aa, aI yI 48 gl), (sa, aJ yL 16 (setF (fitG S (-1)) (2 ^ (S 0).toNat))), (ga, aI yI 12 gA9349), (so, aI yI 12 gS9349)] H := hP
                                        have hD : va_D A [(x, oRD tx nw tr kn me sl), (nw, oDrv nc S (lN (kL (S) 0 40))), (nc, aI yI 48 g), (kn, oKn p9331 ex), (ex, aI yI 1681 E9331), (qa, aI yI 9 (qS S)), (aa, aI yI 48 gl), (sa, aJ yL 16 (setF (fitG S (-1)) (2 ^ (S 0).toNat))), (ga, aI yI 12 gA9349), (so, aI yI 12 gS9349)] := hD
                                        refine lv_goto (tgt := 356) hx hb dL_same_352 (by decide) ?_
                                        exact J356 (worstQ S x11 x14, gA9349, gS9349) _ _ ⟨by omega, hP, hD, hS, lv_sub hl [0, 1, 2, 3, 4, 5, 6, 7, 8, 9, 10, 11, 12, 13, 14, 15, 16] rfl⟩
                                · refine lv_iload hx hb dL_same_250 (lv_at hl 0 rfl) ?_
                                  refine iv_if_eq (a := yw) (tgt := 310) hx hb (by omega) dL_same_252 (by decide) (fun c252 => ?_) (fun c252 => ?_)
                                  · exact J310 (y7, y8, y9) _ _ ⟨by first | exact (bqS_t (show mostI (FB S (-1)) x11 x14 - leastI (FB S (-1)) x11 x14 = bqB S _ x11 x14 from (if_pos (by omega)).symm) (by omega)).symm | exact (bqS_f (show mostI (FB S (-1)) x11 x14 - leastI (FB S (-1)) x11 x14 = bqB S _ x11 x14 from (if_pos (by omega)).symm) (by omega)).symm | exact (bqS_f (v := 0) (if_neg (by omega)).symm (by omega)).symm, by omega, hP, hD, hS, lv_sub hl [0, 1, 2, 3, 4, 5, 6, 7, 8, 9, 10, 11, 12, 13, 14, 15, 16] rfl⟩
                                  · refine lv_iload hx hb dL_same_255 (lv_at hl 2 rfl) ?_
                                    refine lv_iload hx hb dL_same_257 (lv_at hl 3 rfl) ?_
                                    refine iv_sub hx hb dL_same_259 ?_
                                    refine lv_iload hx hb dL_same_260 (lv_at hl 8 rfl) ?_
                                    refine iv_icmp_gt (a := mostI (FB S (-1)) x11 x14 - (leastI (FB S (-1)) x11 x14)) (b := y8) (tgt := 289) hx hb (by omega) (by omega) dL_same_262 (by decide) (fun c262 => ?_) (fun c262 => ?_)
                                    · refine lv_bipush (v := iI 100) hx hb dL_same_289 (by decide +kernel) ?_
                                      refine lv_iload hx hb dL_same_291 (lv_at hl 5 rfl) ?_
                                      refine iv_mul hx hb dL_same_293 ?_
                                      refine lv_iload hx hb dL_same_294 (lv_at hl 4 rfl) ?_
                                      refine iv_add hx hb dL_same_296 ?_
                                      refine lv_istore (lv' := [(7, .int (iI (100 * x11 + x14))), (18, .int (iI yw)), (17, .int (iI (costOf S x11 x14))), (16, .int (iI (mostI (FB S (-1)) x11 x14))), (15, .int (iI (leastI (FB S (-1)) x11 x14))), (14, .int (iI x14)), (11, .int (iI x11)), (10, .int (iI yf)), (9, .int (iI y9)), (8, .int (iI y8)), (6, .int (iI ((wd (knF (FB S (-1))) 0 (S 0).toNat : Nat) : Int))), (0, .ref x), (1, .ref qa), (2, .ref aa), (3, .ref sa), (4, .ref ga), (5, .ref so)]) hx hb dL_same_297 hl (by decide) rfl (fun ls hl => ?_)
                                      refine lv_iload hx hb dL_same_299 (lv_at hl 3 rfl) ?_
                                      refine lv_iload hx hb dL_same_301 (lv_at hl 4 rfl) ?_
                                      refine iv_sub hx hb dL_same_303 ?_
                                      refine lv_istore (lv' := [(8, .int (iI (mostI (FB S (-1)) x11 x14 - (leastI (FB S (-1)) x11 x14)))), (7, .int (iI (100 * x11 + x14))), (18, .int (iI yw)), (17, .int (iI (costOf S x11 x14))), (16, .int (iI (mostI (FB S (-1)) x11 x14))), (15, .int (iI (leastI (FB S (-1)) x11 x14))), (14, .int (iI x14)), (11, .int (iI x11)), (10, .int (iI yf)), (9, .int (iI y9)), (6, .int (iI ((wd (knF (FB S (-1))) 0 (S 0).toNat : Nat) : Int))), (0, .ref x), (1, .ref qa), (2, .ref aa), (3, .ref sa), (4, .ref ga), (5, .ref so)]) hx hb dL_same_304 hl (by decide) rfl (fun ls hl => ?_)
                                      refine lv_iload hx hb dL_same_306 (lv_at hl 3 rfl) ?_
                                      refine lv_istore (lv' := [(9, .int (iI (costOf S x11 x14))), (8, .int (iI (mostI (FB S (-1)) x11 x14 - (leastI (FB S (-1)) x11 x14)))), (7, .int (iI (100 * x11 + x14))), (18, .int (iI yw)), (17, .int (iI (costOf S x11 x14))), (16, .int (iI (mostI (FB S (-1)) x11 x14))), (15, .int (iI (leastI (FB S (-1)) x11 x14))), (14, .int (iI x14)), (11, .int (iI x11)), (10, .int (iI yf)), (6, .int (iI ((wd (knF (FB S (-1))) 0 (S 0).toNat : Nat) : Int))), (0, .ref x), (1, .ref qa), (2, .ref aa), (3, .ref sa), (4, .ref ga), (5, .ref so)]) hx hb dL_same_308 hl (by decide) rfl (fun ls hl => ?_)
                                      exact J310 (100 * x11 + x14, mostI (FB S (-1)) x11 x14 - (leastI (FB S (-1)) x11 x14), costOf S x11 x14) _ _ ⟨by first | exact (bqS_t (show mostI (FB S (-1)) x11 x14 - leastI (FB S (-1)) x11 x14 = bqB S _ x11 x14 from (if_pos (by omega)).symm) (by omega)).symm | exact (bqS_f (show mostI (FB S (-1)) x11 x14 - leastI (FB S (-1)) x11 x14 = bqB S _ x11 x14 from (if_pos (by omega)).symm) (by omega)).symm | exact (bqS_f (v := 0) (if_neg (by omega)).symm (by omega)).symm, by omega, hP, hD, hS, lv_sub hl [3, 4, 5, 6, 7, 8, 9, 0, 1, 2, 10, 11, 12, 13, 14, 15, 16] rfl⟩
                                    · refine lv_iload hx hb dL_same_265 (lv_at hl 2 rfl) ?_
                                      refine lv_iload hx hb dL_same_267 (lv_at hl 3 rfl) ?_
                                      refine iv_icmp_le (a := mostI (FB S (-1)) x11 x14) (b := leastI (FB S (-1)) x11 x14) (tgt := 310) hx hb (by omega) (by omega) dL_same_269 (by decide) (fun c269 => ?_) (fun c269 => ?_)
                                      · exact J310 (y7, y8, y9) _ _ ⟨by first | exact (bqS_t (show mostI (FB S (-1)) x11 x14 - leastI (FB S (-1)) x11 x14 = bqB S _ x11 x14 from (if_pos (by omega)).symm) (by omega)).symm | exact (bqS_f (show mostI (FB S (-1)) x11 x14 - leastI (FB S (-1)) x11 x14 = bqB S _ x11 x14 from (if_pos (by omega)).symm) (by omega)).symm | exact (bqS_f (v := 0) (if_neg (by omega)).symm (by omega)).symm, by omega, hP, hD, hS, lv_sub hl [0, 1, 2, 3, 4, 5, 6, 7, 8, 9, 10, 11, 12, 13, 14, 15, 16] rfl⟩
                                      · refine lv_iload hx hb dL_same_272 (lv_at hl 2 rfl) ?_
                                        refine lv_iload hx hb dL_same_274 (lv_at hl 3 rfl) ?_
                                        refine iv_sub hx hb dL_same_276 ?_
                                        refine lv_iload hx hb dL_same_277 (lv_at hl 8 rfl) ?_
                                        refine iv_icmp_ne (a := mostI (FB S (-1)) x11 x14 - (leastI (FB S (-1)) x11 x14)) (b := y8) (tgt := 310) hx hb (by omega) (by omega) dL_same_279 (by decide) (fun c279 => ?_) (fun c279 => ?_)
                                        · exact J310 (y7, y8, y9) _ _ ⟨by first | exact (bqS_t (show mostI (FB S (-1)) x11 x14 - leastI (FB S (-1)) x11 x14 = bqB S _ x11 x14 from (if_pos (by omega)).symm) (by omega)).symm | exact (bqS_f (show mostI (FB S (-1)) x11 x14 - leastI (FB S (-1)) x11 x14 = bqB S _ x11 x14 from (if_pos (by omega)).symm) (by omega)).symm | exact (bqS_f (v := 0) (if_neg (by omega)).symm (by omega)).symm, by omega, hP, hD, hS, lv_sub hl [0, 1, 2, 3, 4, 5, 6, 7, 8, 9, 10, 11, 12, 13, 14, 15, 16] rfl⟩
                                        · refine lv_iload hx hb dL_same_282 (lv_at hl 1 rfl) ?_
                                          refine lv_iload hx hb dL_same_284 (lv_at hl 7 rfl) ?_
                                          refine iv_icmp_ge (a := costOf S x11 x14) (b := y9) (tgt := 310) hx hb (by omega) (by omega) dL_same_286 (by decide) (fun c286 => ?_) (fun c286 => ?_)
                                          · exact J310 (y7, y8, y9) _ _ ⟨by first | exact (bqS_t (show mostI (FB S (-1)) x11 x14 - leastI (FB S (-1)) x11 x14 = bqB S _ x11 x14 from (if_pos (by omega)).symm) (by omega)).symm | exact (bqS_f (show mostI (FB S (-1)) x11 x14 - leastI (FB S (-1)) x11 x14 = bqB S _ x11 x14 from (if_pos (by omega)).symm) (by omega)).symm | exact (bqS_f (v := 0) (if_neg (by omega)).symm (by omega)).symm, by omega, hP, hD, hS, lv_sub hl [0, 1, 2, 3, 4, 5, 6, 7, 8, 9, 10, 11, 12, 13, 14, 15, 16] rfl⟩
                                          · refine lv_bipush (v := iI 100) hx hb dL_same_289 (by decide +kernel) ?_
                                            refine lv_iload hx hb dL_same_291 (lv_at hl 5 rfl) ?_
                                            refine iv_mul hx hb dL_same_293 ?_
                                            refine lv_iload hx hb dL_same_294 (lv_at hl 4 rfl) ?_
                                            refine iv_add hx hb dL_same_296 ?_
                                            refine lv_istore (lv' := [(7, .int (iI (100 * x11 + x14))), (18, .int (iI yw)), (17, .int (iI (costOf S x11 x14))), (16, .int (iI (mostI (FB S (-1)) x11 x14))), (15, .int (iI (leastI (FB S (-1)) x11 x14))), (14, .int (iI x14)), (11, .int (iI x11)), (10, .int (iI yf)), (9, .int (iI y9)), (8, .int (iI y8)), (6, .int (iI ((wd (knF (FB S (-1))) 0 (S 0).toNat : Nat) : Int))), (0, .ref x), (1, .ref qa), (2, .ref aa), (3, .ref sa), (4, .ref ga), (5, .ref so)]) hx hb dL_same_297 hl (by decide) rfl (fun ls hl => ?_)
                                            refine lv_iload hx hb dL_same_299 (lv_at hl 3 rfl) ?_
                                            refine lv_iload hx hb dL_same_301 (lv_at hl 4 rfl) ?_
                                            refine iv_sub hx hb dL_same_303 ?_
                                            refine lv_istore (lv' := [(8, .int (iI (mostI (FB S (-1)) x11 x14 - (leastI (FB S (-1)) x11 x14)))), (7, .int (iI (100 * x11 + x14))), (18, .int (iI yw)), (17, .int (iI (costOf S x11 x14))), (16, .int (iI (mostI (FB S (-1)) x11 x14))), (15, .int (iI (leastI (FB S (-1)) x11 x14))), (14, .int (iI x14)), (11, .int (iI x11)), (10, .int (iI yf)), (9, .int (iI y9)), (6, .int (iI ((wd (knF (FB S (-1))) 0 (S 0).toNat : Nat) : Int))), (0, .ref x), (1, .ref qa), (2, .ref aa), (3, .ref sa), (4, .ref ga), (5, .ref so)]) hx hb dL_same_304 hl (by decide) rfl (fun ls hl => ?_)
                                            refine lv_iload hx hb dL_same_306 (lv_at hl 3 rfl) ?_
                                            refine lv_istore (lv' := [(9, .int (iI (costOf S x11 x14))), (8, .int (iI (mostI (FB S (-1)) x11 x14 - (leastI (FB S (-1)) x11 x14)))), (7, .int (iI (100 * x11 + x14))), (18, .int (iI yw)), (17, .int (iI (costOf S x11 x14))), (16, .int (iI (mostI (FB S (-1)) x11 x14))), (15, .int (iI (leastI (FB S (-1)) x11 x14))), (14, .int (iI x14)), (11, .int (iI x11)), (10, .int (iI yf)), (6, .int (iI ((wd (knF (FB S (-1))) 0 (S 0).toNat : Nat) : Int))), (0, .ref x), (1, .ref qa), (2, .ref aa), (3, .ref sa), (4, .ref ga), (5, .ref so)]) hx hb dL_same_308 hl (by decide) rfl (fun ls hl => ?_)
                                            exact J310 (100 * x11 + x14, mostI (FB S (-1)) x11 x14 - (leastI (FB S (-1)) x11 x14), costOf S x11 x14) _ _ ⟨by first | exact (bqS_t (show mostI (FB S (-1)) x11 x14 - leastI (FB S (-1)) x11 x14 = bqB S _ x11 x14 from (if_pos (by omega)).symm) (by omega)).symm | exact (bqS_f (show mostI (FB S (-1)) x11 x14 - leastI (FB S (-1)) x11 x14 = bqB S _ x11 x14 from (if_pos (by omega)).symm) (by omega)).symm | exact (bqS_f (v := 0) (if_neg (by omega)).symm (by omega)).symm, by omega, hP, hD, hS, lv_sub hl [3, 4, 5, 6, 7, 8, 9, 0, 1, 2, 10, 11, 12, 13, 14, 15, 16] rfl⟩
                              · exact absurd (by omega) c245
                            · refine lv_iload hx hb dL_same_234 (lv_at hl 0 rfl) ?_
                              refine iv_if_eq (a := yw) (tgt := 244) hx hb (by omega) dL_same_236 (by decide) (fun c236 => ?_) (fun c236 => ?_)
                              · refine lv_iconst (v := iI (-1)) hx hb dL_same_244 (by decide +kernel) ?_
                                exact J245 (-1) _ _ ⟨by omega, hP, hD, hS, lv_sub hl [0, 1, 2, 3, 4, 5, 6, 7, 8, 9, 10, 11, 12, 13, 14, 15, 16] rfl⟩
                              · refine lv_iload hx hb dL_same_239 (lv_at hl 1 rfl) ?_
                                refine lv_goto (tgt := 245) hx hb dL_same_241 (by decide) ?_
                                exact J245 (costOf S x11 x14) _ _ ⟨by omega, hP, hD, hS, lv_sub hl [0, 1, 2, 3, 4, 5, 6, 7, 8, 9, 10, 11, 12, 13, 14, 15, 16] rfl⟩
                      · refine lv_iload hx hb dL_same_180 (lv_at hl 3 rfl) ?_
                        refine lv_iload hx hb dL_same_182 (lv_at hl 4 rfl) ?_
                        refine iv_sub hx hb dL_same_184 ?_
                        refine lv_iconst (v := iI 1) hx hb dL_same_185 (by decide +kernel) ?_
                        refine iv_add hx hb dL_same_186 ?_
                        refine lv_aload_n hx hb dL_same_187 rfl (lv_at hl 11 rfl) ?_
                        refine lv_iconst (v := iI 1) hx hb dL_same_188 (by decide +kernel) ?_
                        refine iv_aldE hx hb hK hP 5 0 rfl rfl (z := 1) (w := S 1) (by first | exact qS_n (by omega) | exact up_s | rfl) (by omega) (by omega) (by omega) dL_same_189 ?_
                        refine iv_icmp_lt (a := x14 - x11 + 1) (b := S 1) (tgt := 197) hx hb (by omega) (by omega) dL_same_190 (by decide) (fun c190 => ?_) (fun c190 => ?_)
                        · refine lv_iconst (v := iI 0) hx hb dL_same_197 (by decide +kernel) ?_
                          exact J198 (0) _ _ ⟨by omega, hP, hD, hS, lv_sub hl [0, 1, 2, 3, 4, 5, 6, 7, 8, 9, 10, 11, 12, 13, 14, 15] rfl⟩
                        · refine lv_iconst (v := iI 1) hx hb dL_same_193 (by decide +kernel) ?_
                          refine lv_goto (tgt := 198) hx hb dL_same_194 (by decide) ?_
                          exact J198 (1) _ _ ⟨by omega, hP, hD, hS, lv_sub hl [0, 1, 2, 3, 4, 5, 6, 7, 8, 9, 10, 11, 12, 13, 14, 15] rfl⟩
                · refine lv_iload hx hb dL_same_114 (lv_at hl 1 rfl) ?_
                  refine iv_if_eq (a := yi) (tgt := 135) hx hb (by omega) dL_same_116 (by decide) (fun c116 => ?_) (fun c116 => ?_)
                  · exact J135 (x10, p989, E989) _ _ ⟨by rw [hkc]; first | (rw [if_pos (by omega)]; omega) | (rw [if_neg (by omega)]; omega), hP, hD, hS, lv_sub hl [0, 1, 2, 3, 4, 5, 6, 7, 8, 9, 10, 11, 12, 13] rfl⟩
                  · have hkf : kAt (FB S (-1)) x10 (S 0).toNat = x11 := by rw [kAt_found (r := (FB S (-1))) (i := x10) (k := ka) (by rw [← h11]; omega) h10.symm (S 0).toNat (by omega)]; exact h11.symm
                    refine lv_aload_n hx hb dL_same_119 rfl (lv_at hl 8 rfl) ?_
                    refine lv_iload hx hb dL_same_120 (lv_at hl 3 rfl) ?_
                    refine iv_inc (lv' := [(10, .int (iI (x10 + 1))), (13, .int (iI yk)), (12, .int (iI yi)), (11, .int (iI x11)), (9, .int (iI x9)), (8, .int (iI x8)), (7, .int (iI x7)), (6, .int (iI ((wd (knF (FB S (-1))) 0 (S 0).toNat : Nat) : Int))), (0, .ref x), (1, .ref qa), (2, .ref aa), (3, .ref sa), (4, .ref ga), (5, .ref so)]) hx hb dL_same_122 hl (k := 3) rfl (by decide) rfl (fun ls hl => ?_)
                    refine iv_rwV (As := [.int (iI x10)]) (rest := []) (C := RX4) (n := 1) ⟨hx, hb, hml, hown, hts⟩ (c_X4_knownAt_ok l D yI yC yD x tx nw tr kn me sl nc S g ex p989 E989 x10 (by assumption) (by assumption) ((⟨by omega, by omega⟩)) (by omega) _) (cwV 1 hts gL_same_X4_knownAt rfl rfl rfl (by decide +kernel) ⟨Nat.le_of_ble_eq_true rfl, Nat.le_of_ble_eq_true rfl⟩) hKz hP hD hS hA [0, 1, 2, 3, 4] (by decide) rfl 0 rfl rfl rfl hl.1 rfl (Nat.le_of_ble_eq_true rfl) dL_same_125 ⟨Nat.zero_le _, Nat.zero_le _⟩ (fun _ => rfl) (fun r125 u125 H locs hw125 hP hD hS => ?_)
                    obtain ⟨p9125, E9125⟩ := u125
                    obtain ⟨hr125, -⟩ := hw125
                    subst hr125
                    have hP : va_P D vwCl [(x, oRD tx nw tr kn me sl), (nw, oDrv nc S (lN (kL (S) 0 40))), (nc, aI yI 48 g), (kn, oKn p9125 ex), (ex, aI yI 1681 E9125), (qa, aI yI 9 (qS S)), (aa, aI yI 48 gl), (sa, aJ yL 16 (setF (fitG S (-1)) (2 ^ (S 0).toNat))), (ga, aI yI 12 A1), (so, aI yI 12 S1)] H := hP
                    have hD : va_D A [(x, oRD tx nw tr kn me sl), (nw, oDrv nc S (lN (kL (S) 0 40))), (nc, aI yI 48 g), (kn, oKn p9125 ex), (ex, aI yI 1681 E9125), (qa, aI yI 9 (qS S)), (aa, aI yI 48 gl), (sa, aJ yL 16 (setF (fitG S (-1)) (2 ^ (S 0).toNat))), (ga, aI yI 12 A1), (so, aI yI 12 S1)] := hD
                    refine lv_iload hx hb dL_same_128 (lv_at hl 3 rfl) ?_
                    refine iv_icmp_eq (a := kAt (FB S (-1)) x10 (S 0).toNat) (b := x11) (tgt := 135) hx hb (by omega) (by omega) dL_same_130 (by decide) (fun c130 => ?_) (fun c130 => ?_)
                    · exact J135 (x10 + 1, p9125, E9125) _ _ ⟨by rw [hkc]; first | (rw [if_pos (by omega)]; omega) | (rw [if_neg (by omega)]; omega), hP, hD, hS, lv_sub hl [1, 2, 3, 0, 4, 5, 6, 7, 8, 9, 10, 11, 12, 13] rfl⟩
                    · exact absurd (by omega) c130
            · refine lv_iload hx hb dL_same_92 (lv_at hl 1 rfl) ?_
              refine iv_if_eq (a := yi) (tgt := 110) hx hb (by omega) dL_same_94 (by decide) (fun c94 => ?_) (fun c94 => ?_)
              · refine lv_iconst (v := iI (-1)) hx hb dL_same_110 (by decide +kernel) ?_
                exact J111 (-1) _ _ ⟨by omega, hP, hD, hS, lv_sub hl [0, 1, 2, 3, 4, 5, 6, 7, 8, 9, 10, 11, 12, 13] rfl⟩
              · refine lv_iload hx hb dL_same_97 (lv_at hl 0 rfl) ?_
                refine iv_if_eq (a := yk) (tgt := 106) hx hb (by omega) dL_same_99 (by decide) (fun c99 => ?_) (fun c99 => ?_)
                · refine lv_iconst (v := iI 0) hx hb dL_same_106 (by decide +kernel) ?_
                  refine lv_goto (tgt := 111) hx hb dL_same_107 (by decide) ?_
                  exact J111 (0) _ _ ⟨by omega, hP, hD, hS, lv_sub hl [0, 1, 2, 3, 4, 5, 6, 7, 8, 9, 10, 11, 12, 13] rfl⟩
                · refine lv_iconst (v := iI 1) hx hb dL_same_102 (by decide +kernel) ?_
                  refine lv_goto (tgt := 111) hx hb dL_same_103 (by decide) ?_
                  exact J111 (1) _ _ ⟨by omega, hP, hD, hS, lv_sub hl [0, 1, 2, 3, 4, 5, 6, 7, 8, 9, 10, 11, 12, 13] rfl⟩
        · refine lv_aload_n hx hb dL_same_55 rfl (lv_at hl 8 rfl) ?_
          refine lv_bipush (v := iI 8) hx hb dL_same_56 (by decide +kernel) ?_
          refine iv_aldE hx hb hK hP 5 0 rfl rfl (z := 8) (w := ((kL S 0 40 : Nat) : Int)) (qS_8) (by omega) (by omega) (by omega) dL_same_58 ?_
          refine lv_iload hx hb dL_same_59 (lv_at hl 1 rfl) ?_
          refine lv_ishr hx hb dL_same_61 ?_
          rw [isr_i ((kL S 0 40 : Nat) : Int) x11]
          refine lv_iconst (v := iI 1) hx hb dL_same_62 (by decide +kernel) ?_
          refine lv_iand hx hb dL_same_63 ?_
          rw [ia_i (isr ((kL S 0 40 : Nat) : Int) x11) 1]
          rw [show (ia (isr ((kL S 0 40 : Nat) : Int) x11) 1 : Int) = S (8 + x11) from (kq_bit hI h9 (by omega))]
          refine lv_iconst (v := iI 1) hx hb dL_same_64 (by decide +kernel) ?_
          refine iv_icmp_ne (a := S (8 + x11)) (b := 1) (tgt := 72) hx hb (by omega) (by omega) dL_same_65 (by decide) (fun c65 => ?_) (fun c65 => ?_)
          · refine lv_iconst (v := iI 0) hx hb dL_same_72 (by decide +kernel) ?_
            exact J73 (0) _ _ ⟨by omega, hP, hD, hS, lv_sub hl [0, 1, 2, 3, 4, 5, 6, 7, 8, 9, 10, 11, 12] rfl⟩
          · refine lv_iconst (v := iI 1) hx hb dL_same_68 (by decide +kernel) ?_
            refine lv_goto (tgt := 73) hx hb dL_same_69 (by decide) ?_
            exact J73 (1) _ _ ⟨by omega, hP, hD, hS, lv_sub hl [0, 1, 2, 3, 4, 5, 6, 7, 8, 9, 10, 11, 12] rfl⟩
      · refine lv_iload hx hb dL_same_37 (lv_at hl 5 rfl) ?_
        refine lv_iload hx hb dL_same_39 (lv_at hl 0 rfl) ?_
        refine lv_ishr hx hb dL_same_41 ?_
        rw [isr_i ((wd (knF (FB S (-1))) 0 (S 0).toNat : Nat) : Int) x11]
        refine lv_iconst (v := iI 1) hx hb dL_same_42 (by decide +kernel) ?_
        refine lv_iand hx hb dL_same_43 ?_
        rw [ia_i (isr ((wd (knF (FB S (-1))) 0 (S 0).toNat : Nat) : Int) x11) 1]
        rw [show (ia (isr ((wd (knF (FB S (-1))) 0 (S 0).toNat : Nat) : Int) x11) 1 : Int) = knF (FB S (-1)) x11.toNat from (kw_bit (by omega))]
        refine lv_iconst (v := iI 1) hx hb dL_same_44 (by decide +kernel) ?_
        refine iv_icmp_ne (a := knF (FB S (-1)) x11.toNat) (b := 1) (tgt := 52) hx hb (by omega) (by omega) dL_same_45 (by decide) (fun c45 => ?_) (fun c45 => ?_)
        · refine lv_iconst (v := iI 0) hx hb dL_same_52 (by decide +kernel) ?_
          exact J53 (0) _ _ ⟨by omega, hP, hD, hS, lv_sub hl [0, 1, 2, 3, 4, 5, 6, 7, 8, 9, 10, 11] rfl⟩
        · refine lv_iconst (v := iI 1) hx hb dL_same_48 (by decide +kernel) ?_
          refine lv_goto (tgt := 53) hx hb dL_same_49 (by decide) ?_
          exact J53 (1) _ _ ⟨by omega, hP, hD, hS, lv_sub hl [0, 1, 2, 3, 4, 5, 6, 7, 8, 9, 10, 11] rfl⟩
