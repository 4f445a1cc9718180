set_option maxHeartbeats 8000000 in
set_option maxRecDepth 100000 in
theorem lc_answer {p : Program} {e : Env} {s : State} {m : MethodId} {below : List Frame} {meth : Method} {c : Code} (l : Launch) (hla : l.stackTraces = false) {b L : Nat} {xs : Nat → Int32} (C0 : lw_At p s m meth c b L xs) (D : va_G) (yI yC yD yL : ClassId) (hK4 : va_K D vwCl (tyl yI yC yD yL) s) (hB : XB (fun q : Nat => s.heap.size ≤ q) s s.heap) {Q : State → Prop} {cells slots : Nat} (hroom : cells + 8 ≤ 601024 ∧ slots + 150 ≤ 7293034) {i : Int} (hi : 0 ≤ i ∧ i + 4 ≤ L ∧ L ≤ 2048) {H : Heap} {locs : List Loc} {ls : Array Slot} (hLI : LI D yI yC yD yL s b i H locs ls) (K : ∀ (H : Heap) (locs : List Loc) (ls : Array Slot), LI D yI yC yD yL s b i H locs ls → W p l e room_1 s m #[Value.ref b] below meth c H locs (cells + 8) (slots + 150) Q (F0 m 1563 ls [])) : W p l e room_1 s m #[Value.ref b] below meth c H locs cells slots Q (F0 m 397 ls []) := by
  obtain ⟨hx, hb, hr, hml, hown, hts, hX, hbl, hlocks, hgv⟩ := id C0
  have hA : ∀ q : Nat, s.heap.size ≤ q → (fun q : Nat => s.heap.size ≤ q) q := fun _ h => h
  have hbA : ¬ (fun q : Nat => s.heap.size ≤ q) b := Nat.not_le.mpr hbl
  have hK : va_K D vwCl (tyz yI yC yD) s := hK4.sub [0, 1, 2] rfl
  obtain ⟨x, tx, sg, nw, nc, tr, tc, kn, ex, me, rg, sl, mo, a1, a2, a3, a4, a5, a6, a7, a8, ou, T, S, g, S2, g2, E, Kp, Hh, Sl, Sv, Bd, B2, tl, po, lo, pk, nx, ct, th, k2, ov, f, fs, en, hP, hD, hS, hl, hI, hR, htl, hrt, hme, hsv, hfO, hrO, hsO⟩ := hLI
  obtain ⟨z1, hz1, hr1⟩ : ∃ z, xs (i + 1).toNat = iI z ∧ inR z := ⟨_, iI_of _, iI_rng _⟩
  obtain ⟨z2, hz2, hr2⟩ : ∃ z, xs (i + 2).toNat = iI z ∧ inR z := ⟨_, iI_of _, iI_rng _⟩
  obtain ⟨z3, hz3, hr3⟩ : ∃ z, xs (i + 3).toNat = iI z ∧ inR z := ⟨_, iI_of _, iI_rng _⟩
  have hpl := hI.pl
  have hna := hI.na
  have hre : 0 ≤ ct ∧ ct ≤ 14 := ⟨hme.2.2.1, hme.2.2.2⟩
  have hrt6 : ∀ z, 0 ≤ z → z < tl → 0 ≤ T z ∧ T z < 65536 := fun z q1 q2 => by have := hrt z q1 q2; omega
  have hr12 : inR z1 ∧ inR z2 := ⟨hr1, hr2⟩
  have hwr := whyAn_r (S := S) (i := z1) (w := z2)
  generalize hplq : plE yI en 16 = pl at hP hD
  have hP : va_P D vwCl ([(x, oRD tx nw tr kn me sl), (tx, oTx sg tl po lo), (sg, aC yC 100 T), (nw, oDrv nc S (lN (kL (S) 0 40))), (nc, aI yI 48 g), (tr, oDrv tc S2 k2), (tc, aI yI 48 g2), (kn, oKn pk ex), (ex, aI yI 1681 E), (me, oMem rg nx ct), (rg, aD yD 14 f), (sl, aD yD 2 fs), (mo, oMo th a1 a2 a3 ct a4 a5 a6 tl a7 a8), (a1, aI yI 96 S), (a2, aI yI 96 Kp), (a3, aI yI 1344 Hh), (a4, aI yI 192 Sl), (a5, aI yI 2 Sv), (a6, aI yI 100 T), (a7, aI yI 1681 Bd), (a8, aI yI 1681 B2), (ou, aL yL ov)] ++ pl) H := hP
  by_cases hc : whyAn S z1 z2 = 0
  · refine lv_aload_n hx hb dL_law_397 rfl (lv_at hl 1 rfl) ?_
    refine lv_aload_n hx hb dL_law_398 rfl (lv_at hl 0 rfl) ?_
    refine lv_iload hx hb dL_law_399 (lv_at hl 4 rfl) ?_
    refine lv_iconst (v := iI 1) hx hb dL_law_401 (by decide +kernel) ?_
    refine iv_add hx hb dL_law_402 ?_
    refine iv_sld hx hb hX hbl hbA hS hz1 (by omega) dL_law_403 ?_
    refine lv_aload_n hx hb dL_law_404 rfl (lv_at hl 0 rfl) ?_
    refine lv_iload hx hb dL_law_405 (lv_at hl 4 rfl) ?_
    refine lv_iconst (v := iI 2) hx hb dL_law_407 (by decide +kernel) ?_
    refine iv_add hx hb dL_law_408 ?_
    refine iv_sld hx hb hX hbl hbA hS hz2 (by omega) dL_law_409 ?_
    refine lv_aload_n hx hb dL_law_410 rfl (lv_at hl 3 rfl) ?_
    have hP := hP.re (Y := [(x, oRD tx nw tr kn me sl), (nw, oDrv nc S (lN (kL (S) 0 40))), (nc, aI yI 48 g), (ou, aL yL ov), (tx, oTx sg tl po lo), (sg, aC yC 100 T), (tr, oDrv tc S2 k2), (tc, aI yI 48 g2), (kn, oKn pk ex), (ex, aI yI 1681 E), (me, oMem rg nx ct), (rg, aD yD 14 f), (sl, aD yD 2 fs), (mo, oMo th a1 a2 a3 ct a4 a5 a6 tl a7 a8), (a1, aI yI 96 S), (a2, aI yI 96 Kp), (a3, aI yI 1344 Hh), (a4, aI yI 192 Sl), (a5, aI yI 2 Sv), (a6, aI yI 100 T), (a7, aI yI 1681 Bd), (a8, aI yI 1681 B2)]) [0, 3, 4, 21, 1, 2, 5, 6, 7, 8, 9, 10, 11, 12, 13, 14, 15, 16, 17, 18, 19, 20] rfl
    have hD := hD.re (Y := [(x, oRD tx nw tr kn me sl), (nw, oDrv nc S (lN (kL (S) 0 40))), (nc, aI yI 48 g), (ou, aL yL ov), (tx, oTx sg tl po lo), (sg, aC yC 100 T), (tr, oDrv tc S2 k2), (tc, aI yI 48 g2), (kn, oKn pk ex), (ex, aI yI 1681 E), (me, oMem rg nx ct), (rg, aD yD 14 f), (sl, aD yD 2 fs), (mo, oMo th a1 a2 a3 ct a4 a5 a6 tl a7 a8), (a1, aI yI 96 S), (a2, aI yI 96 Kp), (a3, aI yI 1344 Hh), (a4, aI yI 192 Sl), (a5, aI yI 2 Sv), (a6, aI yI 100 T), (a7, aI yI 1681 Bd), (a8, aI yI 1681 B2)]) [0, 3, 4, 21, 1, 2, 5, 6, 7, 8, 9, 10, 11, 12, 13, 14, 15, 16, 17, 18, 19, 20] (by decide) rfl
    refine iv_lawF (cx := [(x, oRD tx nw tr kn me sl), (nw, oDrv nc S (lN (kL (S) 0 40))), (nc, aI yI 48 g), (ou, aL yL ov)]) (RR := ([(tx, oTx sg tl po lo), (sg, aC yC 100 T), (tr, oDrv tc S2 k2), (tc, aI yI 48 g2), (kn, oKn pk ex), (ex, aI yI 1681 E), (me, oMem rg nx ct), (rg, aD yD 14 f), (sl, aD yD 2 fs), (mo, oMo th a1 a2 a3 ct a4 a5 a6 tl a7 a8), (a1, aI yI 96 S), (a2, aI yI 96 Kp), (a3, aI yI 1344 Hh), (a4, aI yI 192 Sl), (a5, aI yI 2 Sv), (a6, aI yI 100 T), (a7, aI yI 1681 Bd), (a8, aI yI 1681 B2)] ++ pl)) (wp := fun (_ : Unit) => [(x, oRD tx nw tr kn me sl), (nw, oDrv nc S (lN (kL (S) 0 40))), (nc, aI yI 48 g), (ou, aL yL ((iI (an S z1 z2)).toInt64))]) (As := [.ref x, .int (iI z1), .int (iI z2), .ref ou]) (rest := []) (n := 4) ⟨hx, hb, hml, hown, hts⟩ (c_L_answer_0 l hla D yI yC yD yL x tx nw tr kn me sl nc S g z1 z2 ou ov (by first | assumption | omega | exact ⟨hr1, hr2⟩ | exact fun z q1 q2 => by have := hrt z q1 q2; omega) (by first | assumption | omega | exact ⟨hr1, hr2⟩ | exact fun z q1 q2 => by have := hrt z q1 q2; omega) (by first | assumption | omega | exact ⟨hr1, hr2⟩ | exact fun z q1 q2 => by have := hrt z q1 q2; omega) (by first | assumption | omega | exact ⟨hr1, hr2⟩ | exact fun z q1 q2 => by have := hrt z q1 q2; omega) (hc) _) (vx_cwSW 4 hts gL_law_L_answer rfl rfl rfl (by decide +kernel) ⟨Nat.le_of_ble_eq_true rfl, Nat.le_of_ble_eq_true rfl⟩) hK4 hP hD hS hA hB rfl hl.1 rfl (Nat.le_of_ble_eq_true rfl) dL_law_411 ⟨(by show _ ≤ (601024 : Nat); omega), (by show _ ≤ (7293034 : Nat); omega)⟩ (fun r9 u H locs hw hP hD hS => ?_)
    obtain ⟨hr9, hwa9_h⟩ := hw
    subst hr9
    have hP : va_P D vwCl ([(x, oRD tx nw tr kn me sl), (nw, oDrv nc S (lN (kL (S) 0 40))), (nc, aI yI 48 g), (ou, aL yL ((iI (an S z1 z2)).toInt64)), (tx, oTx sg tl po lo), (sg, aC yC 100 T), (tr, oDrv tc S2 k2), (tc, aI yI 48 g2), (kn, oKn pk ex), (ex, aI yI 1681 E), (me, oMem rg nx ct), (rg, aD yD 14 f), (sl, aD yD 2 fs), (mo, oMo th a1 a2 a3 ct a4 a5 a6 tl a7 a8), (a1, aI yI 96 S), (a2, aI yI 96 Kp), (a3, aI yI 1344 Hh), (a4, aI yI 192 Sl), (a5, aI yI 2 Sv), (a6, aI yI 100 T), (a7, aI yI 1681 Bd), (a8, aI yI 1681 B2)] ++ pl) H := hP
    have hD : va_D (fun q : Nat => s.heap.size ≤ q) ([(x, oRD tx nw tr kn me sl), (nw, oDrv nc S (lN (kL (S) 0 40))), (nc, aI yI 48 g), (ou, aL yL ((iI (an S z1 z2)).toInt64)), (tx, oTx sg tl po lo), (sg, aC yC 100 T), (tr, oDrv tc S2 k2), (tc, aI yI 48 g2), (kn, oKn pk ex), (ex, aI yI 1681 E), (me, oMem rg nx ct), (rg, aD yD 14 f), (sl, aD yD 2 fs), (mo, oMo th a1 a2 a3 ct a4 a5 a6 tl a7 a8), (a1, aI yI 96 S), (a2, aI yI 96 Kp), (a3, aI yI 1344 Hh), (a4, aI yI 192 Sl), (a5, aI yI 2 Sv), (a6, aI yI 100 T), (a7, aI yI 1681 Bd), (a8, aI yI 1681 B2)] ++ pl) := hD
    refine lv_istore (lv' := [(5, .int (iI 0)), (0, .ref b), (1, .ref x), (2, .ref mo), (3, .ref ou), (4, .int (iI i))]) hx hb dL_law_414 hl (by decide) rfl (fun ls hl => ?_)
    refine lv_aload_n hx hb dL_law_416 rfl (lv_at hl 3 rfl) ?_
    refine lv_aload_n hx hb dL_law_417 rfl (lv_at hl 1 rfl) ?_
    refine lv_iload hx hb dL_law_418 (lv_at hl 5 rfl) ?_
    refine lv_iconst (v := iI 1) hx hb dL_law_420 (by decide +kernel) ?_
    refine iv_add hx hb dL_law_421 ?_
    refine iv_sld hx hb hX hbl hbA hS hz1 (by omega) dL_law_422 ?_
    refine lv_aload_n hx hb dL_law_423 rfl (lv_at hl 1 rfl) ?_
    refine lv_iload hx hb dL_law_424 (lv_at hl 5 rfl) ?_
    refine lv_iconst (v := iI 2) hx hb dL_law_426 (by decide +kernel) ?_
    refine iv_add hx hb dL_law_427 ?_
    refine iv_sld hx hb hX hbl hbA hS hz2 (by omega) dL_law_428 ?_
    refine iv_rwV (As := [.int (iI z1), .int (iI z2)]) (rest := []) (C := RX5) (n := 2) ⟨hx, hb, hml, hown, hts⟩ (c_X5_answer l D yI yC yD mo th ct tl a1 a2 a3 a4 a5 a6 a7 a8 S z1 z2 (by assumption) (by assumption) (by assumption) _) (cwV 2 hts gL_law_X5_answer rfl rfl rfl (by decide +kernel) ⟨Nat.le_of_ble_eq_true rfl, Nat.le_of_ble_eq_true rfl⟩) hK hP hD hS hA [13, 14] (by decide) rfl 13 rfl rfl rfl hl.1 rfl (Nat.le_of_ble_eq_true rfl) dL_law_429 ⟨(by show _ ≤ (601024 : Nat); omega), (by show _ ≤ (7293034 : Nat); omega)⟩ (fun _ => rfl) (fun r429 u429 H locs hw429 hP hD hS => ?_)
    obtain ⟨hr429, -⟩ := hw429
    subst hr429
    have hP : va_P D vwCl ([(x, oRD tx nw tr kn me sl), (nw, oDrv nc S (lN (kL (S) 0 40))), (nc, aI yI 48 g), (ou, aL yL ((iI (an S z1 z2)).toInt64)), (tx, oTx sg tl po lo), (sg, aC yC 100 T), (tr, oDrv tc S2 k2), (tc, aI yI 48 g2), (kn, oKn pk ex), (ex, aI yI 1681 E), (me, oMem rg nx ct), (rg, aD yD 14 f), (sl, aD yD 2 fs), (mo, oMo (whyAn S z1 z2) a1 a2 a3 ct a4 a5 a6 tl a7 a8), (a1, aI yI 96 S), (a2, aI yI 96 Kp), (a3, aI yI 1344 Hh), (a4, aI yI 192 Sl), (a5, aI yI 2 Sv), (a6, aI yI 100 T), (a7, aI yI 1681 Bd), (a8, aI yI 1681 B2)] ++ pl) H := hP
    have hD : va_D (fun q : Nat => s.heap.size ≤ q) ([(x, oRD tx nw tr kn me sl), (nw, oDrv nc S (lN (kL (S) 0 40))), (nc, aI yI 48 g), (ou, aL yL ((iI (an S z1 z2)).toInt64)), (tx, oTx sg tl po lo), (sg, aC yC 100 T), (tr, oDrv tc S2 k2), (tc, aI yI 48 g2), (kn, oKn pk ex), (ex, aI yI 1681 E), (me, oMem rg nx ct), (rg, aD yD 14 f), (sl, aD yD 2 fs), (mo, oMo (whyAn S z1 z2) a1 a2 a3 ct a4 a5 a6 tl a7 a8), (a1, aI yI 96 S), (a2, aI yI 96 Kp), (a3, aI yI 1344 Hh), (a4, aI yI 192 Sl), (a5, aI yI 2 Sv), (a6, aI yI 100 T), (a7, aI yI 1681 Bd), (a8, aI yI 1681 B2)] ++ pl) := hD
    have hth : (whyAn S z1 z2 : Int) = 0 := by first | exact bI_f (not_not_intro hc) | exact bI_t hc | exact hc | rfl
    have hP : va_P D vwCl ([(x, oRD tx nw tr kn me sl), (nw, oDrv nc S (lN (kL (S) 0 40))), (nc, aI yI 48 g), (ou, aL yL ((iI (an S z1 z2)).toInt64)), (tx, oTx sg tl po lo), (sg, aC yC 100 T), (tr, oDrv tc S2 k2), (tc, aI yI 48 g2), (kn, oKn pk ex), (ex, aI yI 1681 E), (me, oMem rg nx ct), (rg, aD yD 14 f), (sl, aD yD 2 fs), (mo, oMo 0 a1 a2 a3 ct a4 a5 a6 tl a7 a8), (a1, aI yI 96 S), (a2, aI yI 96 Kp), (a3, aI yI 1344 Hh), (a4, aI yI 192 Sl), (a5, aI yI 2 Sv), (a6, aI yI 100 T), (a7, aI yI 1681 Bd), (a8, aI yI 1681 B2)] ++ pl) H := hP.cv (by (try simp only [if_pos hc]); (try simp only [hth]))
    have hD : va_D (fun q : Nat => s.heap.size ≤ q) ([(x, oRD tx nw tr kn me sl), (nw, oDrv nc S (lN (kL (S) 0 40))), (nc, aI yI 48 g), (ou, aL yL ((iI (an S z1 z2)).toInt64)), (tx, oTx sg tl po lo), (sg, aC yC 100 T), (tr, oDrv tc S2 k2), (tc, aI yI 48 g2), (kn, oKn pk ex), (ex, aI yI 1681 E), (me, oMem rg nx ct), (rg, aD yD 14 f), (sl, aD yD 2 fs), (mo, oMo 0 a1 a2 a3 ct a4 a5 a6 tl a7 a8), (a1, aI yI 96 S), (a2, aI yI 96 Kp), (a3, aI yI 1344 Hh), (a4, aI yI 192 Sl), (a5, aI yI 2 Sv), (a6, aI yI 100 T), (a7, aI yI 1681 Bd), (a8, aI yI 1681 B2)] ++ pl) := hD.cv (by (try simp only [if_pos hc]); (try simp only [hth]))
    rw [show (if whyAn S z1 z2 = 0 then an S z1 z2 else 0 : Int) = an S z1 z2 from if_pos hc]
    refine lv_istore (lv' := [(6, .int (iI (an S z1 z2))), (5, .int (iI 0)), (0, .ref b), (1, .ref x), (2, .ref mo), (3, .ref ou), (4, .int (iI i))]) hx hb dL_law_432 hl (by decide) rfl (fun ls hl => ?_)
    refine lv_aload_n hx hb dL_law_434 rfl (lv_at hl 4 rfl) ?_
    refine iv_roV (As := []) (rest := []) (C := RX5) (n := 0) ⟨hx, hb, hml, hown, hts⟩ (c_X5_thrown l D yI yC yD mo 0 ct tl a1 a2 a3 a4 a5 a6 a7 a8 ) (cwV 0 hts gL_law_X5_thrown rfl rfl rfl (by decide +kernel) ⟨Nat.le_of_ble_eq_true rfl, Nat.le_of_ble_eq_true rfl⟩) hK hP [13] rfl 13 rfl rfl rfl hl.1 rfl (Nat.le_of_ble_eq_true rfl) dL_law_435 ⟨(by show _ ≤ (601024 : Nat); omega), (by show _ ≤ (7293034 : Nat); omega)⟩ ?_
    refine lv_iload hx hb dL_law_438 (lv_at hl 1 rfl) ?_
    refine lv_icmp_eq (x := iI 0) (y := iI 0) (tgt := 445) hx hb dL_law_440 (by decide) (fun c440 => ?_) (fun c440 => ?_)
    · refine lv_iload hx hb dL_law_445 (lv_at hl 1 rfl) ?_
      refine iv_if_ne (a := 0) (tgt := 462) hx hb (by omega) dL_law_447 (by decide) (fun c447 => ?_) (fun c447 => ?_)
      · exact absurd c447 (by omega)
      · refine lv_aload_n hx hb dL_law_450 rfl (lv_at hl 5 rfl) ?_
        refine lv_iconst (v := iI 0) hx hb dL_law_451 (by decide +kernel) ?_
        refine iv_lld hx hb hK4 hP 3 3 rfl rfl dL_law_452 ?_
        refine lv_iload hx hb dL_law_453 (lv_at hl 0 rfl) ?_
        refine lv_i2l (v := (iI (an S z1 z2)).toInt64) hx hb dL_law_455 rfl ?_
        refine iv_lcmp (z := 0) hx hb (cmp_self _) dL_law_456 ?_
        refine iv_if_eq (a := 0) (tgt := 462) hx hb (by omega) dL_law_457 (by decide) (fun c457 => ?_) (fun c457 => ?_)
        · refine lv_goto (tgt := 1563) hx hb dL_law_462 (by decide) ?_
          have hP9 : va_P D vwCl ([(x, oRD tx nw tr kn me sl), (tx, oTx sg tl po lo), (sg, aC yC 100 T), (nw, oDrv nc S (lN (kL (S) 0 40))), (nc, aI yI 48 g), (tr, oDrv tc S2 k2), (tc, aI yI 48 g2), (kn, oKn pk ex), (ex, aI yI 1681 E), (me, oMem rg nx ct), (rg, aD yD 14 f), (sl, aD yD 2 fs), (mo, oMo 0 a1 a2 a3 ct a4 a5 a6 tl a7 a8), (a1, aI yI 96 S), (a2, aI yI 96 Kp), (a3, aI yI 1344 Hh), (a4, aI yI 192 Sl), (a5, aI yI 2 Sv), (a6, aI yI 100 T), (a7, aI yI 1681 Bd), (a8, aI yI 1681 B2), (ou, aL yL ((iI (an S z1 z2)).toInt64))] ++ pl) _ := hP.re [0, 4, 5, 1, 2, 6, 7, 8, 9, 10, 11, 12, 13, 14, 15, 16, 17, 18, 19, 20, 21, 3] rfl
          have hD9 : va_D (fun q : Nat => s.heap.size ≤ q) ([(x, oRD tx nw tr kn me sl), (tx, oTx sg tl po lo), (sg, aC yC 100 T), (nw, oDrv nc S (lN (kL (S) 0 40))), (nc, aI yI 48 g), (tr, oDrv tc S2 k2), (tc, aI yI 48 g2), (kn, oKn pk ex), (ex, aI yI 1681 E), (me, oMem rg nx ct), (rg, aD yD 14 f), (sl, aD yD 2 fs), (mo, oMo 0 a1 a2 a3 ct a4 a5 a6 tl a7 a8), (a1, aI yI 96 S), (a2, aI yI 96 Kp), (a3, aI yI 1344 Hh), (a4, aI yI 192 Sl), (a5, aI yI 2 Sv), (a6, aI yI 100 T), (a7, aI yI 1681 Bd), (a8, aI yI 1681 B2), (ou, aL yL ((iI (an S z1 z2)).toInt64))] ++ pl) := hD.re [0, 4, 5, 1, 2, 6, 7, 8, 9, 10, 11, 12, 13, 14, 15, 16, 17, 18, 19, 20, 21, 3] (by decide) rfl
          rw [← hplq] at hP9 hD9
          refine W.widen (k := cells + 8) (n := slots + 150) (by omega) (by omega) ?_
          exact K _ _ _ ⟨x, tx, sg, nw, nc, tr, tc, kn, ex, me, rg, sl, mo, a1, a2, a3, a4, a5, a6, a7, a8, ou, T, S, g, S2, g2, E, Kp, Hh, Sl, Sv, Bd, B2, tl, po, lo, pk, nx, ct, 0, k2, ((iI (an S z1 z2)).toInt64), f, fs, en, hP9, hD9, hS, lv_sub hl [2, 3, 4, 5, 6] rfl, hI, hR, htl, hrt, hme, hsv, hfO, hrO, hsO⟩
        · exact absurd c457 (by omega)
    · exact absurd rfl c440
  · refine lv_aload_n hx hb dL_law_397 rfl (lv_at hl 1 rfl) ?_
    refine lv_aload_n hx hb dL_law_398 rfl (lv_at hl 0 rfl) ?_
    refine lv_iload hx hb dL_law_399 (lv_at hl 4 rfl) ?_
    refine lv_iconst (v := iI 1) hx hb dL_law_401 (by decide +kernel) ?_
    refine iv_add hx hb dL_law_402 ?_
    refine iv_sld hx hb hX hbl hbA hS hz1 (by omega) dL_law_403 ?_
    refine lv_aload_n hx hb dL_law_404 rfl (lv_at hl 0 rfl) ?_
    refine lv_iload hx hb dL_law_405 (lv_at hl 4 rfl) ?_
    refine lv_iconst (v := iI 2) hx hb dL_law_407 (by decide +kernel) ?_
    refine iv_add hx hb dL_law_408 ?_
    refine iv_sld hx hb hX hbl hbA hS hz2 (by omega) dL_law_409 ?_
    refine lv_aload_n hx hb dL_law_410 rfl (lv_at hl 3 rfl) ?_
    have hP := hP.re (Y := [(x, oRD tx nw tr kn me sl), (nw, oDrv nc S (lN (kL (S) 0 40))), (nc, aI yI 48 g), (ou, aL yL ov), (tx, oTx sg tl po lo), (sg, aC yC 100 T), (tr, oDrv tc S2 k2), (tc, aI yI 48 g2), (kn, oKn pk ex), (ex, aI yI 1681 E), (me, oMem rg nx ct), (rg, aD yD 14 f), (sl, aD yD 2 fs), (mo, oMo th a1 a2 a3 ct a4 a5 a6 tl a7 a8), (a1, aI yI 96 S), (a2, aI yI 96 Kp), (a3, aI yI 1344 Hh), (a4, aI yI 192 Sl), (a5, aI yI 2 Sv), (a6, aI yI 100 T), (a7, aI yI 1681 Bd), (a8, aI yI 1681 B2)]) [0, 3, 4, 21, 1, 2, 5, 6, 7, 8, 9, 10, 11, 12, 13, 14, 15, 16, 17, 18, 19, 20] rfl
    have hD := hD.re (Y := [(x, oRD tx nw tr kn me sl), (nw, oDrv nc S (lN (kL (S) 0 40))), (nc, aI yI 48 g), (ou, aL yL ov), (tx, oTx sg tl po lo), (sg, aC yC 100 T), (tr, oDrv tc S2 k2), (tc, aI yI 48 g2), (kn, oKn pk ex), (ex, aI yI 1681 E), (me, oMem rg nx ct), (rg, aD yD 14 f), (sl, aD yD 2 fs), (mo, oMo th a1 a2 a3 ct a4 a5 a6 tl a7 a8), (a1, aI yI 96 S), (a2, aI yI 96 Kp), (a3, aI yI 1344 Hh), (a4, aI yI 192 Sl), (a5, aI yI 2 Sv), (a6, aI yI 100 T), (a7, aI yI 1681 Bd), (a8, aI yI 1681 B2)]) [0, 3, 4, 21, 1, 2, 5, 6, 7, 8, 9, 10, 11, 12, 13, 14, 15, 16, 17, 18, 19, 20] (by decide) rfl
    refine iv_lawF (cx := [(x, oRD tx nw tr kn me sl), (nw, oDrv nc S (lN (kL (S) 0 40))), (nc, aI yI 48 g), (ou, aL yL ov)]) (RR := ([(tx, oTx sg tl po lo), (sg, aC yC 100 T), (tr, oDrv tc S2 k2), (tc, aI yI 48 g2), (kn, oKn pk ex), (ex, aI yI 1681 E), (me, oMem rg nx ct), (rg, aD yD 14 f), (sl, aD yD 2 fs), (mo, oMo th a1 a2 a3 ct a4 a5 a6 tl a7 a8), (a1, aI yI 96 S), (a2, aI yI 96 Kp), (a3, aI yI 1344 Hh), (a4, aI yI 192 Sl), (a5, aI yI 2 Sv), (a6, aI yI 100 T), (a7, aI yI 1681 Bd), (a8, aI yI 1681 B2)] ++ pl)) (wp := fun (_ : Unit) => [(x, oRD tx nw tr kn me sl), (nw, oDrv nc S (lN (kL (S) 0 40))), (nc, aI yI 48 g), (ou, aL yL ov)]) (As := [.ref x, .int (iI z1), .int (iI z2), .ref ou]) (rest := []) (n := 4) ⟨hx, hb, hml, hown, hts⟩ (c_L_answer_1 l hla D yI yC yD yL x tx nw tr kn me sl nc S g z1 z2 ou ov (by first | assumption | omega | exact ⟨hr1, hr2⟩ | exact fun z q1 q2 => by have := hrt z q1 q2; omega) (by first | assumption | omega | exact ⟨hr1, hr2⟩ | exact fun z q1 q2 => by have := hrt z q1 q2; omega) (by first | assumption | omega | exact ⟨hr1, hr2⟩ | exact fun z q1 q2 => by have := hrt z q1 q2; omega) (by first | assumption | omega | exact ⟨hr1, hr2⟩ | exact fun z q1 q2 => by have := hrt z q1 q2; omega) (hc) _) (vx_cwSW 4 hts gL_law_L_answer rfl rfl rfl (by decide +kernel) ⟨Nat.le_of_ble_eq_true rfl, Nat.le_of_ble_eq_true rfl⟩) hK4 hP hD hS hA hB rfl hl.1 rfl (Nat.le_of_ble_eq_true rfl) dL_law_411 ⟨(by show _ ≤ (601024 : Nat); omega), (by show _ ≤ (7293034 : Nat); omega)⟩ (fun r9 u H locs hw hP hD hS => ?_)
    obtain ⟨hr9, -⟩ := hw
    subst hr9
    have hP : va_P D vwCl ([(x, oRD tx nw tr kn me sl), (nw, oDrv nc S (lN (kL (S) 0 40))), (nc, aI yI 48 g), (ou, aL yL ov), (tx, oTx sg tl po lo), (sg, aC yC 100 T), (tr, oDrv tc S2 k2), (tc, aI yI 48 g2), (kn, oKn pk ex), (ex, aI yI 1681 E), (me, oMem rg nx ct), (rg, aD yD 14 f), (sl, aD yD 2 fs), (mo, oMo th a1 a2 a3 ct a4 a5 a6 tl a7 a8), (a1, aI yI 96 S), (a2, aI yI 96 Kp), (a3, aI yI 1344 Hh), (a4, aI yI 192 Sl), (a5, aI yI 2 Sv), (a6, aI yI 100 T), (a7, aI yI 1681 Bd), (a8, aI yI 1681 B2)] ++ pl) H := hP
    have hD : va_D (fun q : Nat => s.heap.size ≤ q) ([(x, oRD tx nw tr kn me sl), (nw, oDrv nc S (lN (kL (S) 0 40))), (nc, aI yI 48 g), (ou, aL yL ov), (tx, oTx sg tl po lo), (sg, aC yC 100 T), (tr, oDrv tc S2 k2), (tc, aI yI 48 g2), (kn, oKn pk ex), (ex, aI yI 1681 E), (me, oMem rg nx ct), (rg, aD yD 14 f), (sl, aD yD 2 fs), (mo, oMo th a1 a2 a3 ct a4 a5 a6 tl a7 a8), (a1, aI yI 96 S), (a2, aI yI 96 Kp), (a3, aI yI 1344 Hh), (a4, aI yI 192 Sl), (a5, aI yI 2 Sv), (a6, aI yI 100 T), (a7, aI yI 1681 Bd), (a8, aI yI 1681 B2)] ++ pl) := hD
    refine lv_istore (lv' := [(5, .int (iI (whyAn S z1 z2))), (0, .ref b), (1, .ref x), (2, .ref mo), (3, .ref ou), (4, .int (iI i))]) hx hb dL_law_414 hl (by decide) rfl (fun ls hl => ?_)
    refine lv_aload_n hx hb dL_law_416 rfl (lv_at hl 3 rfl) ?_
    refine lv_aload_n hx hb dL_law_417 rfl (lv_at hl 1 rfl) ?_
    refine lv_iload hx hb dL_law_418 (lv_at hl 5 rfl) ?_
    refine lv_iconst (v := iI 1) hx hb dL_law_420 (by decide +kernel) ?_
    refine iv_add hx hb dL_law_421 ?_
    refine iv_sld hx hb hX hbl hbA hS hz1 (by omega) dL_law_422 ?_
    refine lv_aload_n hx hb dL_law_423 rfl (lv_at hl 1 rfl) ?_
    refine lv_iload hx hb dL_law_424 (lv_at hl 5 rfl) ?_
    refine lv_iconst (v := iI 2) hx hb dL_law_426 (by decide +kernel) ?_
    refine iv_add hx hb dL_law_427 ?_
    refine iv_sld hx hb hX hbl hbA hS hz2 (by omega) dL_law_428 ?_
    refine iv_rwV (As := [.int (iI z1), .int (iI z2)]) (rest := []) (C := RX5) (n := 2) ⟨hx, hb, hml, hown, hts⟩ (c_X5_answer l D yI yC yD mo th ct tl a1 a2 a3 a4 a5 a6 a7 a8 S z1 z2 (by assumption) (by assumption) (by assumption) _) (cwV 2 hts gL_law_X5_answer rfl rfl rfl (by decide +kernel) ⟨Nat.le_of_ble_eq_true rfl, Nat.le_of_ble_eq_true rfl⟩) hK hP hD hS hA [13, 14] (by decide) rfl 13 rfl rfl rfl hl.1 rfl (Nat.le_of_ble_eq_true rfl) dL_law_429 ⟨(by show _ ≤ (601024 : Nat); omega), (by show _ ≤ (7293034 : Nat); omega)⟩ (fun _ => rfl) (fun r429 u429 H locs hw429 hP hD hS => ?_)
    obtain ⟨hr429, -⟩ := hw429
    subst hr429
    have hP : va_P D vwCl ([(x, oRD tx nw tr kn me sl), (nw, oDrv nc S (lN (kL (S) 0 40))), (nc, aI yI 48 g), (ou, aL yL ov), (tx, oTx sg tl po lo), (sg, aC yC 100 T), (tr, oDrv tc S2 k2), (tc, aI yI 48 g2), (kn, oKn pk ex), (ex, aI yI 1681 E), (me, oMem rg nx ct), (rg, aD yD 14 f), (sl, aD yD 2 fs), (mo, oMo (whyAn S z1 z2) a1 a2 a3 ct a4 a5 a6 tl a7 a8), (a1, aI yI 96 S), (a2, aI yI 96 Kp), (a3, aI yI 1344 Hh), (a4, aI yI 192 Sl), (a5, aI yI 2 Sv), (a6, aI yI 100 T), (a7, aI yI 1681 Bd), (a8, aI yI 1681 B2)] ++ pl) H := hP
    have hD : va_D (fun q : Nat => s.heap.size ≤ q) ([(x, oRD tx nw tr kn me sl), (nw, oDrv nc S (lN (kL (S) 0 40))), (nc, aI yI 48 g), (ou, aL yL ov), (tx, oTx sg tl po lo), (sg, aC yC 100 T), (tr, oDrv tc S2 k2), (tc, aI yI 48 g2), (kn, oKn pk ex), (ex, aI yI 1681 E), (me, oMem rg nx ct), (rg, aD yD 14 f), (sl, aD yD 2 fs), (mo, oMo (whyAn S z1 z2) a1 a2 a3 ct a4 a5 a6 tl a7 a8), (a1, aI yI 96 S), (a2, aI yI 96 Kp), (a3, aI yI 1344 Hh), (a4, aI yI 192 Sl), (a5, aI yI 2 Sv), (a6, aI yI 100 T), (a7, aI yI 1681 Bd), (a8, aI yI 1681 B2)] ++ pl) := hD
    rw [show (if whyAn S z1 z2 = 0 then an S z1 z2 else 0 : Int) = 0 from if_neg hc]
    refine lv_istore (lv' := [(6, .int (iI 0)), (5, .int (iI (whyAn S z1 z2))), (0, .ref b), (1, .ref x), (2, .ref mo), (3, .ref ou), (4, .int (iI i))]) hx hb dL_law_432 hl (by decide) rfl (fun ls hl => ?_)
    refine lv_aload_n hx hb dL_law_434 rfl (lv_at hl 4 rfl) ?_
    refine iv_roV (As := []) (rest := []) (C := RX5) (n := 0) ⟨hx, hb, hml, hown, hts⟩ (c_X5_thrown l D yI yC yD mo (whyAn S z1 z2) ct tl a1 a2 a3 a4 a5 a6 a7 a8 ) (cwV 0 hts gL_law_X5_thrown rfl rfl rfl (by decide +kernel) ⟨Nat.le_of_ble_eq_true rfl, Nat.le_of_ble_eq_true rfl⟩) hK hP [13] rfl 13 rfl rfl rfl hl.1 rfl (Nat.le_of_ble_eq_true rfl) dL_law_435 ⟨(by show _ ≤ (601024 : Nat); omega), (by show _ ≤ (7293034 : Nat); omega)⟩ ?_
    refine lv_iload hx hb dL_law_438 (lv_at hl 1 rfl) ?_
    refine lv_icmp_eq (x := iI (whyAn S z1 z2)) (y := iI (whyAn S z1 z2)) (tgt := 445) hx hb dL_law_440 (by decide) (fun c440 => ?_) (fun c440 => ?_)
    · refine lv_iload hx hb dL_law_445 (lv_at hl 1 rfl) ?_
      refine iv_if_ne (a := whyAn S z1 z2) (tgt := 462) hx hb (by omega) dL_law_447 (by decide) (fun c447 => ?_) (fun c447 => ?_)
      · refine lv_goto (tgt := 1563) hx hb dL_law_462 (by decide) ?_
        have hP9 : va_P D vwCl ([(x, oRD tx nw tr kn me sl), (tx, oTx sg tl po lo), (sg, aC yC 100 T), (nw, oDrv nc S (lN (kL (S) 0 40))), (nc, aI yI 48 g), (tr, oDrv tc S2 k2), (tc, aI yI 48 g2), (kn, oKn pk ex), (ex, aI yI 1681 E), (me, oMem rg nx ct), (rg, aD yD 14 f), (sl, aD yD 2 fs), (mo, oMo (whyAn S z1 z2) a1 a2 a3 ct a4 a5 a6 tl a7 a8), (a1, aI yI 96 S), (a2, aI yI 96 Kp), (a3, aI yI 1344 Hh), (a4, aI yI 192 Sl), (a5, aI yI 2 Sv), (a6, aI yI 100 T), (a7, aI yI 1681 Bd), (a8, aI yI 1681 B2), (ou, aL yL ov)] ++ pl) _ := hP.re [0, 4, 5, 1, 2, 6, 7, 8, 9, 10, 11, 12, 13, 14, 15, 16, 17, 18, 19, 20, 21, 3] rfl
        have hD9 : va_D (fun q : Nat => s.heap.size ≤ q) ([(x, oRD tx nw tr kn me sl), (tx, oTx sg tl po lo), (sg, aC yC 100 T), (nw, oDrv nc S (lN (kL (S) 0 40))), (nc, aI yI 48 g), (tr, oDrv tc S2 k2), (tc, aI yI 48 g2), (kn, oKn pk ex), (ex, aI yI 1681 E), (me, oMem rg nx ct), (rg, aD yD 14 f), (sl, aD yD 2 fs), (mo, oMo (whyAn S z1 z2) a1 a2 a3 ct a4 a5 a6 tl a7 a8), (a1, aI yI 96 S), (a2, aI yI 96 Kp), (a3, aI yI 1344 Hh), (a4, aI yI 192 Sl), (a5, aI yI 2 Sv), (a6, aI yI 100 T), (a7, aI yI 1681 Bd), (a8, aI yI 1681 B2), (ou, aL yL ov)] ++ pl) := hD.re [0, 4, 5, 1, 2, 6, 7, 8, 9, 10, 11, 12, 13, 14, 15, 16, 17, 18, 19, 20, 21, 3] (by decide) rfl
        rw [← hplq] at hP9 hD9
        refine W.widen (k := cells + 8) (n := slots + 150) (by omega) (by omega) ?_
        exact K _ _ _ ⟨x, tx, sg, nw, nc, tr, tc, kn, ex, me, rg, sl, mo, a1, a2, a3, a4, a5, a6, a7, a8, ou, T, S, g, S2, g2, E, Kp, Hh, Sl, Sv, Bd, B2, tl, po, lo, pk, nx, ct, (whyAn S z1 z2), k2, ov, f, fs, en, hP9, hD9, hS, lv_sub hl [2, 3, 4, 5, 6] rfl, hI, hR, htl, hrt, hme, hsv, hfO, hrO, hsO⟩
      · exfalso; omega
    · exact absurd rfl c440
set_option maxHeartbeats 8000000 in
set_option maxRecDepth 100000 in
theorem lc_least {p : Program} {e : Env} {s : State} {m : MethodId} {below : List Frame} {meth : Method} {c : Code} (l : Launch) (hla : l.stackTraces = false) {b L : Nat} {xs : Nat → Int32} (C0 : lw_At p s m meth c b L xs) (D : va_G) (yI yC yD yL : ClassId) (hK4 : va_K D vwCl (tyl yI yC yD yL) s) (hB : XB (fun q : Nat => s.heap.size ≤ q) s s.heap) {Q : State → Prop} {cells slots : Nat} (hroom : cells + 8 ≤ 601024 ∧ slots + 150 ≤ 7293034) {i : Int} (hi : 0 ≤ i ∧ i + 4 ≤ L ∧ L ≤ 2048) {H : Heap} {locs : List Loc} {ls : Array Slot} (hLI : LI D yI yC yD yL s b i H locs ls) (K : ∀ (H : Heap) (locs : List Loc) (ls : Array Slot), LI D yI yC yD yL s b i H locs ls → W p l e room_1 s m #[Value.ref b] below meth c H locs (cells + 8) (slots + 150) Q (F0 m 1563 ls [])) : W p l e room_1 s m #[Value.ref b] below meth c H locs cells slots Q (F0 m 465 ls []) := by
  obtain ⟨hx, hb, hr, hml, hown, hts, hX, hbl, hlocks, hgv⟩ := id C0
  have hA : ∀ q : Nat, s.heap.size ≤ q → (fun q : Nat => s.heap.size ≤ q) q := fun _ h => h
  have hbA : ¬ (fun q : Nat => s.heap.size ≤ q) b := Nat.not_le.mpr hbl
  have hK : va_K D vwCl (tyz yI yC yD) s := hK4.sub [0, 1, 2] rfl
  obtain ⟨x, tx, sg, nw, nc, tr, tc, kn, ex, me, rg, sl, mo, a1, a2, a3, a4, a5, a6, a7, a8, ou, T, S, g, S2, g2, E, Kp, Hh, Sl, Sv, Bd, B2, tl, po, lo, pk, nx, ct, th, k2, ov, f, fs, en, hP, hD, hS, hl, hI, hR, htl, hrt, hme, hsv, hfO, hrO, hsO⟩ := hLI
  obtain ⟨z1, hz1, hr1⟩ : ∃ z, xs (i + 1).toNat = iI z ∧ inR z := ⟨_, iI_of _, iI_rng _⟩
  obtain ⟨z2, hz2, hr2⟩ : ∃ z, xs (i + 2).toNat = iI z ∧ inR z := ⟨_, iI_of _, iI_rng _⟩
  obtain ⟨z3, hz3, hr3⟩ : ∃ z, xs (i + 3).toNat = iI z ∧ inR z := ⟨_, iI_of _, iI_rng _⟩
  have hpl := hI.pl
  have hna := hI.na
  have hre : 0 ≤ ct ∧ ct ≤ 14 := ⟨hme.2.2.1, hme.2.2.2⟩
  have hrt6 : ∀ z, 0 ≤ z → z < tl → 0 ≤ T z ∧ T z < 65536 := fun z q1 q2 => by have := hrt z q1 q2; omega
  have hr12 : inR z1 ∧ inR z2 := ⟨hr1, hr2⟩
  have hwr := whyR_r (S := S) (a := z1) (b := z2)
  generalize hplq : plE yI en 16 = pl at hP hD
  have hP : va_P D vwCl ([(x, oRD tx nw tr kn me sl), (tx, oTx sg tl po lo), (sg, aC yC 100 T), (nw, oDrv nc S (lN (kL (S) 0 40))), (nc, aI yI 48 g), (tr, oDrv tc S2 k2), (tc, aI yI 48 g2), (kn, oKn pk ex), (ex, aI yI 1681 E), (me, oMem rg nx ct), (rg, aD yD 14 f), (sl, aD yD 2 fs), (mo, oMo th a1 a2 a3 ct a4 a5 a6 tl a7 a8), (a1, aI yI 96 S), (a2, aI yI 96 Kp), (a3, aI yI 1344 Hh), (a4, aI yI 192 Sl), (a5, aI yI 2 Sv), (a6, aI yI 100 T), (a7, aI yI 1681 Bd), (a8, aI yI 1681 B2), (ou, aL yL ov)] ++ pl) H := hP
  by_cases hc : whyR S z1 z2 = 0
  · refine lv_aload_n hx hb dL_law_465 rfl (lv_at hl 1 rfl) ?_
    refine lv_aload_n hx hb dL_law_466 rfl (lv_at hl 0 rfl) ?_
    refine lv_iload hx hb dL_law_467 (lv_at hl 4 rfl) ?_
    refine lv_iconst (v := iI 1) hx hb dL_law_469 (by decide +kernel) ?_
    refine iv_add hx hb dL_law_470 ?_
    refine iv_sld hx hb hX hbl hbA hS hz1 (by omega) dL_law_471 ?_
    refine lv_aload_n hx hb dL_law_472 rfl (lv_at hl 0 rfl) ?_
    refine lv_iload hx hb dL_law_473 (lv_at hl 4 rfl) ?_
    refine lv_iconst (v := iI 2) hx hb dL_law_475 (by decide +kernel) ?_
    refine iv_add hx hb dL_law_476 ?_
    refine iv_sld hx hb hX hbl hbA hS hz2 (by omega) dL_law_477 ?_
    refine lv_aload_n hx hb dL_law_478 rfl (lv_at hl 3 rfl) ?_
    have hP := hP.re (Y := [(x, oRD tx nw tr kn me sl), (nw, oDrv nc S (lN (kL (S) 0 40))), (nc, aI yI 48 g), (kn, oKn pk ex), (ex, aI yI 1681 E), (ou, aL yL ov), (tx, oTx sg tl po lo), (sg, aC yC 100 T), (tr, oDrv tc S2 k2), (tc, aI yI 48 g2), (me, oMem rg nx ct), (rg, aD yD 14 f), (sl, aD yD 2 fs), (mo, oMo th a1 a2 a3 ct a4 a5 a6 tl a7 a8), (a1, aI yI 96 S), (a2, aI yI 96 Kp), (a3, aI yI 1344 Hh), (a4, aI yI 192 Sl), (a5, aI yI 2 Sv), (a6, aI yI 100 T), (a7, aI yI 1681 Bd), (a8, aI yI 1681 B2)]) [0, 3, 4, 7, 8, 21, 1, 2, 5, 6, 9, 10, 11, 12, 13, 14, 15, 16, 17, 18, 19, 20] rfl
    have hD := hD.re (Y := [(x, oRD tx nw tr kn me sl), (nw, oDrv nc S (lN (kL (S) 0 40))), (nc, aI yI 48 g), (kn, oKn pk ex), (ex, aI yI 1681 E), (ou, aL yL ov), (tx, oTx sg tl po lo), (sg, aC yC 100 T), (tr, oDrv tc S2 k2), (tc, aI yI 48 g2), (me, oMem rg nx ct), (rg, aD yD 14 f), (sl, aD yD 2 fs), (mo, oMo th a1 a2 a3 ct a4 a5 a6 tl a7 a8), (a1, aI yI 96 S), (a2, aI yI 96 Kp), (a3, aI yI 1344 Hh), (a4, aI yI 192 Sl), (a5, aI yI 2 Sv), (a6, aI yI 100 T), (a7, aI yI 1681 Bd), (a8, aI yI 1681 B2)]) [0, 3, 4, 7, 8, 21, 1, 2, 5, 6, 9, 10, 11, 12, 13, 14, 15, 16, 17, 18, 19, 20] (by decide) rfl
    refine iv_lawF (cx := [(x, oRD tx nw tr kn me sl), (nw, oDrv nc S (lN (kL (S) 0 40))), (nc, aI yI 48 g), (kn, oKn pk ex), (ex, aI yI 1681 E), (ou, aL yL ov)]) (RR := ([(tx, oTx sg tl po lo), (sg, aC yC 100 T), (tr, oDrv tc S2 k2), (tc, aI yI 48 g2), (me, oMem rg nx ct), (rg, aD yD 14 f), (sl, aD yD 2 fs), (mo, oMo th a1 a2 a3 ct a4 a5 a6 tl a7 a8), (a1, aI yI 96 S), (a2, aI yI 96 Kp), (a3, aI yI 1344 Hh), (a4, aI yI 192 Sl), (a5, aI yI 2 Sv), (a6, aI yI 100 T), (a7, aI yI 1681 Bd), (a8, aI yI 1681 B2)] ++ pl)) (wp := fun (u : Int × (Int → Int)) => match u with | (p9, E9) => [(x, oRD tx nw tr kn me sl), (nw, oDrv nc S (lN (kL (S) 0 40))), (nc, aI yI 48 g), (kn, oKn p9 ex), (ex, aI yI 1681 E9), (ou, aL yL ((iI (leastI (FB S (-1)) z1 z2)).toInt64))]) (As := [.ref x, .int (iI z1), .int (iI z2), .ref ou]) (rest := []) (n := 4) ⟨hx, hb, hml, hown, hts⟩ (c_L_least_0 l hla D yI yC yD yL x tx nw tr kn me sl nc S g ex pk E z1 z2 ou ov (by first | assumption | omega | exact ⟨hr1, hr2⟩ | exact fun z q1 q2 => by have := hrt z q1 q2; omega) (by first | assumption | omega | exact ⟨hr1, hr2⟩ | exact fun z q1 q2 => by have := hrt z q1 q2; omega) (by first | assumption | omega | exact ⟨hr1, hr2⟩ | exact fun z q1 q2 => by have := hrt z q1 q2; omega) (hc) _) (vx_cwSW 4 hts gL_law_L_least rfl rfl rfl (by decide +kernel) ⟨Nat.le_of_ble_eq_true rfl, Nat.le_of_ble_eq_true rfl⟩) hK4 hP hD hS hA hB rfl hl.1 rfl (Nat.le_of_ble_eq_true rfl) dL_law_479 ⟨(by show _ ≤ (601024 : Nat); omega), (by show _ ≤ (7293034 : Nat); omega)⟩ (fun r9 u H locs hw hP hD hS => ?_)
    obtain ⟨p9_h, E9_h⟩ := u
    obtain ⟨hr9, hwr9_h⟩ := hw
    subst hr9
    have hP : va_P D vwCl ([(x, oRD tx nw tr kn me sl), (nw, oDrv nc S (lN (kL (S) 0 40))), (nc, aI yI 48 g), (kn, oKn p9_h ex), (ex, aI yI 1681 E9_h), (ou, aL yL ((iI (leastI (FB S (-1)) z1 z2)).toInt64)), (tx, oTx sg tl po lo), (sg, aC yC 100 T), (tr, oDrv tc S2 k2), (tc, aI yI 48 g2), (me, oMem rg nx ct), (rg, aD yD 14 f), (sl, aD yD 2 fs), (mo, oMo th a1 a2 a3 ct a4 a5 a6 tl a7 a8), (a1, aI yI 96 S), (a2, aI yI 96 Kp), (a3, aI yI 1344 Hh), (a4, aI yI 192 Sl), (a5, aI yI 2 Sv), (a6, aI yI 100 T), (a7, aI yI 1681 Bd), (a8, aI yI 1681 B2)] ++ pl) H := hP
    have hD : va_D (fun q : Nat => s.heap.size ≤ q) ([(x, oRD tx nw tr kn me sl), (nw, oDrv nc S (lN (kL (S) 0 40))), (nc, aI yI 48 g), (kn, oKn p9_h ex), (ex, aI yI 1681 E9_h), (ou, aL yL ((iI (leastI (FB S (-1)) z1 z2)).toInt64)), (tx, oTx sg tl po lo), (sg, aC yC 100 T), (tr, oDrv tc S2 k2), (tc, aI yI 48 g2), (me, oMem rg nx ct), (rg, aD yD 14 f), (sl, aD yD 2 fs), (mo, oMo th a1 a2 a3 ct a4 a5 a6 tl a7 a8), (a1, aI yI 96 S), (a2, aI yI 96 Kp), (a3, aI yI 1344 Hh), (a4, aI yI 192 Sl), (a5, aI yI 2 Sv), (a6, aI yI 100 T), (a7, aI yI 1681 Bd), (a8, aI yI 1681 B2)] ++ pl) := hD
    refine lv_istore (lv' := [(5, .int (iI 0)), (0, .ref b), (1, .ref x), (2, .ref mo), (3, .ref ou), (4, .int (iI i))]) hx hb dL_law_482 hl (by decide) rfl (fun ls hl => ?_)
    refine lv_aload_n hx hb dL_law_484 rfl (lv_at hl 3 rfl) ?_
    refine lv_aload_n hx hb dL_law_485 rfl (lv_at hl 1 rfl) ?_
    refine lv_iload hx hb dL_law_486 (lv_at hl 5 rfl) ?_
    refine lv_iconst (v := iI 1) hx hb dL_law_488 (by decide +kernel) ?_
    refine iv_add hx hb dL_law_489 ?_
    refine iv_sld hx hb hX hbl hbA hS hz1 (by omega) dL_law_490 ?_
    refine lv_aload_n hx hb dL_law_491 rfl (lv_at hl 1 rfl) ?_
    refine lv_iload hx hb dL_law_492 (lv_at hl 5 rfl) ?_
    refine lv_iconst (v := iI 2) hx hb dL_law_494 (by decide +kernel) ?_
    refine iv_add hx hb dL_law_495 ?_
    refine iv_sld hx hb hX hbl hbA hS hz2 (by omega) dL_law_496 ?_
    refine iv_rwV (As := [.int (iI z1), .int (iI z2)]) (rest := []) (C := RX5) (n := 2) ⟨hx, hb, hml, hown, hts⟩ (c_X5_least l D yI yC yD mo th ct tl a1 a2 a3 a4 a5 a6 a7 a8 S Bd z1 z2 (by assumption) (by assumption) _) (cwV 2 hts gL_law_X5_least rfl rfl rfl (by decide +kernel) ⟨Nat.le_of_ble_eq_true rfl, Nat.le_of_ble_eq_true rfl⟩) hK hP hD hS hA [13, 14, 20] (by decide) rfl 13 rfl rfl rfl hl.1 rfl (Nat.le_of_ble_eq_true rfl) dL_law_497 ⟨(by show _ ≤ (601024 : Nat); omega), (by show _ ≤ (7293034 : Nat); omega)⟩ (fun _ => rfl) (fun r497 u497 H locs hw497 hP hD hS => ?_)
    obtain ⟨G9497, hu497⟩ : ∃ z, z = u497 := ⟨_, rfl⟩
    subst hu497
    obtain ⟨hr497, -⟩ := hw497
    subst hr497
    have hP : va_P D vwCl ([(x, oRD tx nw tr kn me sl), (nw, oDrv nc S (lN (kL (S) 0 40))), (nc, aI yI 48 g), (kn, oKn p9_h ex), (ex, aI yI 1681 E9_h), (ou, aL yL ((iI (leastI (FB S (-1)) z1 z2)).toInt64)), (tx, oTx sg tl po lo), (sg, aC yC 100 T), (tr, oDrv tc S2 k2), (tc, aI yI 48 g2), (me, oMem rg nx ct), (rg, aD yD 14 f), (sl, aD yD 2 fs), (mo, oMo (whyR S z1 z2) a1 a2 a3 ct a4 a5 a6 tl a7 a8), (a1, aI yI 96 S), (a2, aI yI 96 Kp), (a3, aI yI 1344 Hh), (a4, aI yI 192 Sl), (a5, aI yI 2 Sv), (a6, aI yI 100 T), (a7, aI yI 1681 G9497), (a8, aI yI 1681 B2)] ++ pl) H := hP
    have hD : va_D (fun q : Nat => s.heap.size ≤ q) ([(x, oRD tx nw tr kn me sl), (nw, oDrv nc S (lN (kL (S) 0 40))), (nc, aI yI 48 g), (kn, oKn p9_h ex), (ex, aI yI 1681 E9_h), (ou, aL yL ((iI (leastI (FB S (-1)) z1 z2)).toInt64)), (tx, oTx sg tl po lo), (sg, aC yC 100 T), (tr, oDrv tc S2 k2), (tc, aI yI 48 g2), (me, oMem rg nx ct), (rg, aD yD 14 f), (sl, aD yD 2 fs), (mo, oMo (whyR S z1 z2) a1 a2 a3 ct a4 a5 a6 tl a7 a8), (a1, aI yI 96 S), (a2, aI yI 96 Kp), (a3, aI yI 1344 Hh), (a4, aI yI 192 Sl), (a5, aI yI 2 Sv), (a6, aI yI 100 T), (a7, aI yI 1681 G9497), (a8, aI yI 1681 B2)] ++ pl) := hD
    have hth : (whyR S z1 z2 : Int) = 0 := by first | exact bI_f (not_not_intro hc) | exact bI_t hc | exact hc | rfl
    have hP : va_P D vwCl ([(x, oRD tx nw tr kn me sl), (nw, oDrv nc S (lN (kL (S) 0 40))), (nc, aI yI 48 g), (kn, oKn p9_h ex), (ex, aI yI 1681 E9_h), (ou, aL yL ((iI (leastI (FB S (-1)) z1 z2)).toInt64)), (tx, oTx sg tl po lo), (sg, aC yC 100 T), (tr, oDrv tc S2 k2), (tc, aI yI 48 g2), (me, oMem rg nx ct), (rg, aD yD 14 f), (sl, aD yD 2 fs), (mo, oMo 0 a1 a2 a3 ct a4 a5 a6 tl a7 a8), (a1, aI yI 96 S), (a2, aI yI 96 Kp), (a3, aI yI 1344 Hh), (a4, aI yI 192 Sl), (a5, aI yI 2 Sv), (a6, aI yI 100 T), (a7, aI yI 1681 G9497), (a8, aI yI 1681 B2)] ++ pl) H := hP.cv (by (try simp only [if_pos hc]); (try simp only [hth]))
    have hD : va_D (fun q : Nat => s.heap.size ≤ q) ([(x, oRD tx nw tr kn me sl), (nw, oDrv nc S (lN (kL (S) 0 40))), (nc, aI yI 48 g), (kn, oKn p9_h ex), (ex, aI yI 1681 E9_h), (ou, aL yL ((iI (leastI (FB S (-1)) z1 z2)).toInt64)), (tx, oTx sg tl po lo), (sg, aC yC 100 T), (tr, oDrv tc S2 k2), (tc, aI yI 48 g2), (me, oMem rg nx ct), (rg, aD yD 14 f), (sl, aD yD 2 fs), (mo, oMo 0 a1 a2 a3 ct a4 a5 a6 tl a7 a8), (a1, aI yI 96 S), (a2, aI yI 96 Kp), (a3, aI yI 1344 Hh), (a4, aI yI 192 Sl), (a5, aI yI 2 Sv), (a6, aI yI 100 T), (a7, aI yI 1681 G9497), (a8, aI yI 1681 B2)] ++ pl) := hD.cv (by (try simp only [if_pos hc]); (try simp only [hth]))
    rw [show (if whyR S z1 z2 = 0 then leastI (FB S (-1)) z1 z2 else 0 : Int) = leastI (FB S (-1)) z1 z2 from if_pos hc]
    refine lv_istore (lv' := [(6, .int (iI (leastI (FB S (-1)) z1 z2))), (5, .int (iI 0)), (0, .ref b), (1, .ref x), (2, .ref mo), (3, .ref ou), (4, .int (iI i))]) hx hb dL_law_500 hl (by decide) rfl (fun ls hl => ?_)
    refine lv_aload_n hx hb dL_law_502 rfl (lv_at hl 4 rfl) ?_
    refine iv_roV (As := []) (rest := []) (C := RX5) (n := 0) ⟨hx, hb, hml, hown, hts⟩ (c_X5_thrown l D yI yC yD mo 0 ct tl a1 a2 a3 a4 a5 a6 a7 a8 ) (cwV 0 hts gL_law_X5_thrown rfl rfl rfl (by decide +kernel) ⟨Nat.le_of_ble_eq_true rfl, Nat.le_of_ble_eq_true rfl⟩) hK hP [13] rfl 13 rfl rfl rfl hl.1 rfl (Nat.le_of_ble_eq_true rfl) dL_law_503 ⟨(by show _ ≤ (601024 : Nat); omega), (by show _ ≤ (7293034 : Nat); omega)⟩ ?_
    refine lv_iload hx hb dL_law_506 (lv_at hl 1 rfl) ?_
    refine lv_icmp_eq (x := iI 0) (y := iI 0) (tgt := 513) hx hb dL_law_508 (by decide) (fun c508 => ?_) (fun c508 => ?_)
    · refine lv_iload hx hb dL_law_513 (lv_at hl 1 rfl) ?_
      refine iv_if_ne (a := 0) (tgt := 530) hx hb (by omega) dL_law_515 (by decide) (fun c515 => ?_) (fun c515 => ?_)
      · exact absurd c515 (by omega)
      · refine lv_aload_n hx hb dL_law_518 rfl (lv_at hl 5 rfl) ?_
        refine lv_iconst (v := iI 0) hx hb dL_law_519 (by decide +kernel) ?_
        refine iv_lld hx hb hK4 hP 5 3 rfl rfl dL_law_520 ?_
        refine lv_iload hx hb dL_law_521 (lv_at hl 0 rfl) ?_
        refine lv_i2l (v := (iI (leastI (FB S (-1)) z1 z2)).toInt64) hx hb dL_law_523 rfl ?_
        refine iv_lcmp (z := 0) hx hb (cmp_self _) dL_law_524 ?_
        refine iv_if_eq (a := 0) (tgt := 530) hx hb (by omega) dL_law_525 (by decide) (fun c525 => ?_) (fun c525 => ?_)
        · refine lv_goto (tgt := 1563) hx hb dL_law_530 (by decide) ?_
          have hP9 : va_P D vwCl ([(x, oRD tx nw tr kn me sl), (tx, oTx sg tl po lo), (sg, aC yC 100 T), (nw, oDrv nc S (lN (kL (S) 0 40))), (nc, aI yI 48 g), (tr, oDrv tc S2 k2), (tc, aI yI 48 g2), (kn, oKn p9_h ex), (ex, aI yI 1681 E9_h), (me, oMem rg nx ct), (rg, aD yD 14 f), (sl, aD yD 2 fs), (mo, oMo 0 a1 a2 a3 ct a4 a5 a6 tl a7 a8), (a1, aI yI 96 S), (a2, aI yI 96 Kp), (a3, aI yI 1344 Hh), (a4, aI yI 192 Sl), (a5, aI yI 2 Sv), (a6, aI yI 100 T), (a7, aI yI 1681 G9497), (a8, aI yI 1681 B2), (ou, aL yL ((iI (leastI (FB S (-1)) z1 z2)).toInt64))] ++ pl) _ := hP.re [0, 6, 7, 1, 2, 8, 9, 3, 4, 10, 11, 12, 13, 14, 15, 16, 17, 18, 19, 20, 21, 5] rfl
          have hD9 : va_D (fun q : Nat => s.heap.size ≤ q) ([(x, oRD tx nw tr kn me sl), (tx, oTx sg tl po lo), (sg, aC yC 100 T), (nw, oDrv nc S (lN (kL (S) 0 40))), (nc, aI yI 48 g), (tr, oDrv tc S2 k2), (tc, aI yI 48 g2), (kn, oKn p9_h ex), (ex, aI yI 1681 E9_h), (me, oMem rg nx ct), (rg, aD yD 14 f), (sl, aD yD 2 fs), (mo, oMo 0 a1 a2 a3 ct a4 a5 a6 tl a7 a8), (a1, aI yI 96 S), (a2, aI yI 96 Kp), (a3, aI yI 1344 Hh), (a4, aI yI 192 Sl), (a5, aI yI 2 Sv), (a6, aI yI 100 T), (a7, aI yI 1681 G9497), (a8, aI yI 1681 B2), (ou, aL yL ((iI (leastI (FB S (-1)) z1 z2)).toInt64))] ++ pl) := hD.re [0, 6, 7, 1, 2, 8, 9, 3, 4, 10, 11, 12, 13, 14, 15, 16, 17, 18, 19, 20, 21, 5] (by decide) rfl
          rw [← hplq] at hP9 hD9
          refine W.widen (k := cells + 8) (n := slots + 150) (by omega) (by omega) ?_
          exact K _ _ _ ⟨x, tx, sg, nw, nc, tr, tc, kn, ex, me, rg, sl, mo, a1, a2, a3, a4, a5, a6, a7, a8, ou, T, S, g, S2, g2, E9_h, Kp, Hh, Sl, Sv, G9497, B2, tl, po, lo, p9_h, nx, ct, 0, k2, ((iI (leastI (FB S (-1)) z1 z2)).toInt64), f, fs, en, hP9, hD9, hS, lv_sub hl [2, 3, 4, 5, 6] rfl, hI, hR, htl, hrt, hme, hsv, hfO, hrO, hsO⟩
        · exact absurd c525 (by omega)
    · exact absurd rfl c508
  · refine lv_aload_n hx hb dL_law_465 rfl (lv_at hl 1 rfl) ?_
    refine lv_aload_n hx hb dL_law_466 rfl (lv_at hl 0 rfl) ?_
    refine lv_iload hx hb dL_law_467 (lv_at hl 4 rfl) ?_
    refine lv_iconst (v := iI 1) hx hb dL_law_469 (by decide +kernel) ?_
    refine iv_add hx hb dL_law_470 ?_
    refine iv_sld hx hb hX hbl hbA hS hz1 (by omega) dL_law_471 ?_
    refine lv_aload_n hx hb dL_law_472 rfl (lv_at hl 0 rfl) ?_
    refine lv_iload hx hb dL_law_473 (lv_at hl 4 rfl) ?_
    refine lv_iconst (v := iI 2) hx hb dL_law_475 (by decide +kernel) ?_
    refine iv_add hx hb dL_law_476 ?_
    refine iv_sld hx hb hX hbl hbA hS hz2 (by omega) dL_law_477 ?_
    refine lv_aload_n hx hb dL_law_478 rfl (lv_at hl 3 rfl) ?_
    have hP := hP.re (Y := [(x, oRD tx nw tr kn me sl), (nw, oDrv nc S (lN (kL (S) 0 40))), (nc, aI yI 48 g), (kn, oKn pk ex), (ex, aI yI 1681 E), (ou, aL yL ov), (tx, oTx sg tl po lo), (sg, aC yC 100 T), (tr, oDrv tc S2 k2), (tc, aI yI 48 g2), (me, oMem rg nx ct), (rg, aD yD 14 f), (sl, aD yD 2 fs), (mo, oMo th a1 a2 a3 ct a4 a5 a6 tl a7 a8), (a1, aI yI 96 S), (a2, aI yI 96 Kp), (a3, aI yI 1344 Hh), (a4, aI yI 192 Sl), (a5, aI yI 2 Sv), (a6, aI yI 100 T), (a7, aI yI 1681 Bd), (a8, aI yI 1681 B2)]) [0, 3, 4, 7, 8, 21, 1, 2, 5, 6, 9, 10, 11, 12, 13, 14, 15, 16, 17, 18, 19, 20] rfl
    have hD := hD.re (Y := [(x, oRD tx nw tr kn me sl), (nw, oDrv nc S (lN (kL (S) 0 40))), (nc, aI yI 48 g), (kn, oKn pk ex), (ex, aI yI 1681 E), (ou, aL yL ov), (tx, oTx sg tl po lo), (sg, aC yC 100 T), (tr, oDrv tc S2 k2), (tc, aI yI 48 g2), (me, oMem rg nx ct), (rg, aD yD 14 f), (sl, aD yD 2 fs), (mo, oMo th a1 a2 a3 ct a4 a5 a6 tl a7 a8), (a1, aI yI 96 S), (a2, aI yI 96 Kp), (a3, aI yI 1344 Hh), (a4, aI yI 192 Sl), (a5, aI yI 2 Sv), (a6, aI yI 100 T), (a7, aI yI 1681 Bd), (a8, aI yI 1681 B2)]) [0, 3, 4, 7, 8, 21, 1, 2, 5, 6, 9, 10, 11, 12, 13, 14, 15, 16, 17, 18, 19, 20] (by decide) rfl
    refine iv_lawF (cx := [(x, oRD tx nw tr kn me sl), (nw, oDrv nc S (lN (kL (S) 0 40))), (nc, aI yI 48 g), (kn, oKn pk ex), (ex, aI yI 1681 E), (ou, aL yL ov)]) (RR := ([(tx, oTx sg tl po lo), (sg, aC yC 100 T), (tr, oDrv tc S2 k2), (tc, aI yI 48 g2), (me, oMem rg nx ct), (rg, aD yD 14 f), (sl, aD yD 2 fs), (mo, oMo th a1 a2 a3 ct a4 a5 a6 tl a7 a8), (a1, aI yI 96 S), (a2, aI yI 96 Kp), (a3, aI yI 1344 Hh), (a4, aI yI 192 Sl), (a5, aI yI 2 Sv), (a6, aI yI 100 T), (a7, aI yI 1681 Bd), (a8, aI yI 1681 B2)] ++ pl)) (wp := fun (_ : Unit) => [(x, oRD tx nw tr kn me sl), (nw, oDrv nc S (lN (kL (S) 0 40))), (nc, aI yI 48 g), (kn, oKn pk ex), (ex, aI yI 1681 E), (ou, aL yL ov)]) (As := [.ref x, .int (iI z1), .int (iI z2), .ref ou]) (rest := []) (n := 4) ⟨hx, hb, hml, hown, hts⟩ (c_L_least_1 l hla D yI yC yD yL x tx nw tr kn me sl nc S g ex pk E z1 z2 ou ov (by first | assumption | omega | exact ⟨hr1, hr2⟩ | exact fun z q1 q2 => by have := hrt z q1 q2; omega) (by first | assumption | omega | exact ⟨hr1, hr2⟩ | exact fun z q1 q2 => by have := hrt z q1 q2; omega) (by first | assumption | omega | exact ⟨hr1, hr2⟩ | exact fun z q1 q2 => by have := hrt z q1 q2; omega) (hc) _) (vx_cwSW 4 hts gL_law_L_least rfl rfl rfl (by decide +kernel) ⟨Nat.le_of_ble_eq_true rfl, Nat.le_of_ble_eq_true rfl⟩) hK4 hP hD hS hA hB rfl hl.1 rfl (Nat.le_of_ble_eq_true rfl) dL_law_479 ⟨(by show _ ≤ (601024 : Nat); omega), (by show _ ≤ (7293034 : Nat); omega)⟩ (fun r9 u H locs hw hP hD hS => ?_)
    obtain ⟨hr9, -⟩ := hw
    subst hr9
    have hP : va_P D vwCl ([(x, oRD tx nw tr kn me sl), (nw, oDrv nc S (lN (kL (S) 0 40))), (nc, aI yI 48 g), (kn, oKn pk ex), (ex, aI yI 1681 E), (ou, aL yL ov), (tx, oTx sg tl po lo), (sg, aC yC 100 T), (tr, oDrv tc S2 k2), (tc, aI yI 48 g2), (me, oMem rg nx ct), (rg, aD yD 14 f), (sl, aD yD 2 fs), (mo, oMo th a1 a2 a3 ct a4 a5 a6 tl a7 a8), (a1, aI yI 96 S), (a2, aI yI 96 Kp), (a3, aI yI 1344 Hh), (a4, aI yI 192 Sl), (a5, aI yI 2 Sv), (a6, aI yI 100 T), (a7, aI yI 1681 Bd), (a8, aI yI 1681 B2)] ++ pl) H := hP
    have hD : va_D (fun q : Nat => s.heap.size ≤ q) ([(x, oRD tx nw tr kn me sl), (nw, oDrv nc S (lN (kL (S) 0 40))), (nc, aI yI 48 g), (kn, oKn pk ex), (ex, aI yI 1681 E), (ou, aL yL ov), (tx, oTx sg tl po lo), (sg, aC yC 100 T), (tr, oDrv tc S2 k2), (tc, aI yI 48 g2), (me, oMem rg nx ct), (rg, aD yD 14 f), (sl, aD yD 2 fs), (mo, oMo th a1 a2 a3 ct a4 a5 a6 tl a7 a8), (a1, aI yI 96 S), (a2, aI yI 96 Kp), (a3, aI yI 1344 Hh), (a4, aI yI 192 Sl), (a5, aI yI 2 Sv), (a6, aI yI 100 T), (a7, aI yI 1681 Bd), (a8, aI yI 1681 B2)] ++ pl) := hD
    refine lv_istore (lv' := [(5, .int (iI (whyR S z1 z2))), (0, .ref b), (1, .ref x), (2, .ref mo), (3, .ref ou), (4, .int (iI i))]) hx hb dL_law_482 hl (by decide) rfl (fun ls hl => ?_)
    refine lv_aload_n hx hb dL_law_484 rfl (lv_at hl 3 rfl) ?_
    refine lv_aload_n hx hb dL_law_485 rfl (lv_at hl 1 rfl) ?_
    refine lv_iload hx hb dL_law_486 (lv_at hl 5 rfl) ?_
    refine lv_iconst (v := iI 1) hx hb dL_law_488 (by decide +kernel) ?_
    refine iv_add hx hb dL_law_489 ?_
    refine iv_sld hx hb hX hbl hbA hS hz1 (by omega) dL_law_490 ?_
    refine lv_aload_n hx hb dL_law_491 rfl (lv_at hl 1 rfl) ?_
    refine lv_iload hx hb dL_law_492 (lv_at hl 5 rfl) ?_
    refine lv_iconst (v := iI 2) hx hb dL_law_494 (by decide +kernel) ?_
    refine iv_add hx hb dL_law_495 ?_
    refine iv_sld hx hb hX hbl hbA hS hz2 (by omega) dL_law_496 ?_
    refine iv_rwV (As := [.int (iI z1), .int (iI z2)]) (rest := []) (C := RX5) (n := 2) ⟨hx, hb, hml, hown, hts⟩ (c_X5_least l D yI yC yD mo th ct tl a1 a2 a3 a4 a5 a6 a7 a8 S Bd z1 z2 (by assumption) (by assumption) _) (cwV 2 hts gL_law_X5_least rfl rfl rfl (by decide +kernel) ⟨Nat.le_of_ble_eq_true rfl, Nat.le_of_ble_eq_true rfl⟩) hK hP hD hS hA [13, 14, 20] (by decide) rfl 13 rfl rfl rfl hl.1 rfl (Nat.le_of_ble_eq_true rfl) dL_law_497 ⟨(by show _ ≤ (601024 : Nat); omega), (by show _ ≤ (7293034 : Nat); omega)⟩ (fun _ => rfl) (fun r497 u497 H locs hw497 hP hD hS => ?_)
    obtain ⟨G9497, hu497⟩ : ∃ z, z = u497 := ⟨_, rfl⟩
    subst hu497
    obtain ⟨hr497, -⟩ := hw497
    subst hr497
    have hP : va_P D vwCl ([(x, oRD tx nw tr kn me sl), (nw, oDrv nc S (lN (kL (S) 0 40))), (nc, aI yI 48 g), (kn, oKn pk ex), (ex, aI yI 1681 E), (ou, aL yL ov), (tx, oTx sg tl po lo), (sg, aC yC 100 T), (tr, oDrv tc S2 k2), (tc, aI yI 48 g2), (me, oMem rg nx ct), (rg, aD yD 14 f), (sl, aD yD 2 fs), (mo, oMo (whyR S z1 z2) a1 a2 a3 ct a4 a5 a6 tl a7 a8), (a1, aI yI 96 S), (a2, aI yI 96 Kp), (a3, aI yI 1344 Hh), (a4, aI yI 192 Sl), (a5, aI yI 2 Sv), (a6, aI yI 100 T), (a7, aI yI 1681 G9497), (a8, aI yI 1681 B2)] ++ pl) H := hP
    have hD : va_D (fun q : Nat => s.heap.size ≤ q) ([(x, oRD tx nw tr kn me sl), (nw, oDrv nc S (lN (kL (S) 0 40))), (nc, aI yI 48 g), (kn, oKn pk ex), (ex, aI yI 1681 E), (ou, aL yL ov), (tx, oTx sg tl po lo), (sg, aC yC 100 T), (tr, oDrv tc S2 k2), (tc, aI yI 48 g2), (me, oMem rg nx ct), (rg, aD yD 14 f), (sl, aD yD 2 fs), (mo, oMo (whyR S z1 z2) a1 a2 a3 ct a4 a5 a6 tl a7 a8), (a1, aI yI 96 S), (a2, aI yI 96 Kp), (a3, aI yI 1344 Hh), (a4, aI yI 192 Sl), (a5, aI yI 2 Sv), (a6, aI yI 100 T), (a7, aI yI 1681 G9497), (a8, aI yI 1681 B2)] ++ pl) := hD
    rw [show (if whyR S z1 z2 = 0 then leastI (FB S (-1)) z1 z2 else 0 : Int) = 0 from if_neg hc]
    refine lv_istore (lv' := [(6, .int (iI 0)), (5, .int (iI (whyR S z1 z2))), (0, .ref b), (1, .ref x), (2, .ref mo), (3, .ref ou), (4, .int (iI i))]) hx hb dL_law_500 hl (by decide) rfl (fun ls hl => ?_)
    refine lv_aload_n hx hb dL_law_502 rfl (lv_at hl 4 rfl) ?_
    refine iv_roV (As := []) (rest := []) (C := RX5) (n := 0) ⟨hx, hb, hml, hown, hts⟩ (c_X5_thrown l D yI yC yD mo (whyR S z1 z2) ct tl a1 a2 a3 a4 a5 a6 a7 a8 ) (cwV 0 hts gL_law_X5_thrown rfl rfl rfl (by decide +kernel) ⟨Nat.le_of_ble_eq_true rfl, Nat.le_of_ble_eq_true rfl⟩) hK hP [13] rfl 13 rfl rfl rfl hl.1 rfl (Nat.le_of_ble_eq_true rfl) dL_law_503 ⟨(by show _ ≤ (601024 : Nat); omega), (by show _ ≤ (7293034 : Nat); omega)⟩ ?_
    refine lv_iload hx hb dL_law_506 (lv_at hl 1 rfl) ?_
    refine lv_icmp_eq (x := iI (whyR S z1 z2)) (y := iI (whyR S z1 z2)) (tgt := 513) hx hb dL_law_508 (by decide) (fun c508 => ?_) (fun c508 => ?_)
    · refine lv_iload hx hb dL_law_513 (lv_at hl 1 rfl) ?_
      refine iv_if_ne (a := whyR S z1 z2) (tgt := 530) hx hb (by omega) dL_law_515 (by decide) (fun c515 => ?_) (fun c515 => ?_)
      · refine lv_goto (tgt := 1563) hx hb dL_law_530 (by decide) ?_
        have hP9 : va_P D vwCl ([(x, oRD tx nw tr kn me sl), (tx, oTx sg tl po lo), (sg, aC yC 100 T), (nw, oDrv nc S (lN (kL (S) 0 40))), (nc, aI yI 48 g), (tr, oDrv tc S2 k2), (tc, aI yI 48 g2), (kn, oKn pk ex), (ex, aI yI 1681 E), (me, oMem rg nx ct), (rg, aD yD 14 f), (sl, aD yD 2 fs), (mo, oMo (whyR S z1 z2) a1 a2 a3 ct a4 a5 a6 tl a7 a8), (a1, aI yI 96 S), (a2, aI yI 96 Kp), (a3, aI yI 1344 Hh), (a4, aI yI 192 Sl), (a5, aI yI 2 Sv), (a6, aI yI 100 T), (a7, aI yI 1681 G9497), (a8, aI yI 1681 B2), (ou, aL yL ov)] ++ pl) _ := hP.re [0, 6, 7, 1, 2, 8, 9, 3, 4, 10, 11, 12, 13, 14, 15, 16, 17, 18, 19, 20, 21, 5] rfl
        have hD9 : va_D (fun q : Nat => s.heap.size ≤ q) ([(x, oRD tx nw tr kn me sl), (tx, oTx sg tl po lo), (sg, aC yC 100 T), (nw, oDrv nc S (lN (kL (S) 0 40))), (nc, aI yI 48 g), (tr, oDrv tc S2 k2), (tc, aI yI 48 g2), (kn, oKn pk ex), (ex, aI yI 1681 E), (me, oMem rg nx ct), (rg, aD yD 14 f), (sl, aD yD 2 fs), (mo, oMo (whyR S z1 z2) a1 a2 a3 ct a4 a5 a6 tl a7 a8), (a1, aI yI 96 S), (a2, aI yI 96 Kp), (a3, aI yI 1344 Hh), (a4, aI yI 192 Sl), (a5, aI yI 2 Sv), (a6, aI yI 100 T), (a7, aI yI 1681 G9497), (a8, aI yI 1681 B2), (ou, aL yL ov)] ++ pl) := hD.re [0, 6, 7, 1, 2, 8, 9, 3, 4, 10, 11, 12, 13, 14, 15, 16, 17, 18, 19, 20, 21, 5] (by decide) rfl
        rw [← hplq] at hP9 hD9
        refine W.widen (k := cells + 8) (n := slots + 150) (by omega) (by omega) ?_
        exact K _ _ _ ⟨x, tx, sg, nw, nc, tr, tc, kn, ex, me, rg, sl, mo, a1, a2, a3, a4, a5, a6, a7, a8, ou, T, S, g, S2, g2, E, Kp, Hh, Sl, Sv, G9497, B2, tl, po, lo, pk, nx, ct, (whyR S z1 z2), k2, ov, f, fs, en, hP9, hD9, hS, lv_sub hl [2, 3, 4, 5, 6] rfl, hI, hR, htl, hrt, hme, hsv, hfO, hrO, hsO⟩
      · exfalso; omega
    · exact absurd rfl c508
set_option maxHeartbeats 8000000 in
set_option maxRecDepth 100000 in
theorem lc_most {p : Program} {e : Env} {s : State} {m : MethodId} {below : List Frame} {meth : Method} {c : Code} (l : Launch) (hla : l.stackTraces = false) {b L : Nat} {xs : Nat → Int32} (C0 : lw_At p s m meth c b L xs) (D : va_G) (yI yC yD yL : ClassId) (hK4 : va_K D vwCl (tyl yI yC yD yL) s) (hB : XB (fun q : Nat => s.heap.size ≤ q) s s.heap) {Q : State → Prop} {cells slots : Nat} (hroom : cells + 8 ≤ 601024 ∧ slots + 150 ≤ 7293034) {i : Int} (hi : 0 ≤ i ∧ i + 4 ≤ L ∧ L ≤ 2048) {H : Heap} {locs : List Loc} {ls : Array Slot} (hLI : LI D yI yC yD yL s b i H locs ls) (K : ∀ (H : Heap) (locs : List Loc) (ls : Array Slot), LI D yI yC yD yL s b i H locs ls → W p l e room_1 s m #[Value.ref b] below meth c H locs (cells + 8) (slots + 150) Q (F0 m 1563 ls [])) : W p l e room_1 s m #[Value.ref b] below meth c H locs cells slots Q (F0 m 533 ls []) := by
  obtain ⟨hx, hb, hr, hml, hown, hts, hX, hbl, hlocks, hgv⟩ := id C0
  have hA : ∀ q : Nat, s.heap.size ≤ q → (fun q : Nat => s.heap.size ≤ q) q := fun _ h => h
  have hbA : ¬ (fun q : Nat => s.heap.size ≤ q) b := Nat.not_le.mpr hbl
  have hK : va_K D vwCl (tyz yI yC yD) s := hK4.sub [0, 1, 2] rfl
  obtain ⟨x, tx, sg, nw, nc, tr, tc, kn, ex, me, rg, sl, mo, a1, a2, a3, a4, a5, a6, a7, a8, ou, T, S, g, S2, g2, E, Kp, Hh, Sl, Sv, Bd, B2, tl, po, lo, pk, nx, ct, th, k2, ov, f, fs, en, hP, hD, hS, hl, hI, hR, htl, hrt, hme, hsv, hfO, hrO, hsO⟩ := hLI
  obtain ⟨z1, hz1, hr1⟩ : ∃ z, xs (i + 1).toNat = iI z ∧ inR z := ⟨_, iI_of _, iI_rng _⟩
  obtain ⟨z2, hz2, hr2⟩ : ∃ z, xs (i + 2).toNat = iI z ∧ inR z := ⟨_, iI_of _, iI_rng _⟩
  obtain ⟨z3, hz3, hr3⟩ : ∃ z, xs (i + 3).toNat = iI z ∧ inR z := ⟨_, iI_of _, iI_rng _⟩
  have hpl := hI.pl
  have hna := hI.na
  have hre : 0 ≤ ct ∧ ct ≤ 14 := ⟨hme.2.2.1, hme.2.2.2⟩
  have hrt6 : ∀ z, 0 ≤ z → z < tl → 0 ≤ T z ∧ T z < 65536 := fun z q1 q2 => by have := hrt z q1 q2; omega
  have hr12 : inR z1 ∧ inR z2 := ⟨hr1, hr2⟩
  have hwr := whyR_r (S := S) (a := z1) (b := z2)
  generalize hplq : plE yI en 16 = pl at hP hD
  have hP : va_P D vwCl ([(x, oRD tx nw tr kn me sl), (tx, oTx sg tl po lo), (sg, aC yC 100 T), (nw, oDrv nc S (lN (kL (S) 0 40))), (nc, aI yI 48 g), (tr, oDrv tc S2 k2), (tc, aI yI 48 g2), (kn, oKn pk ex), (ex, aI yI 1681 E), (me, oMem rg nx ct), (rg, aD yD 14 f), (sl, aD yD 2 fs), (mo, oMo th a1 a2 a3 ct a4 a5 a6 tl a7 a8), (a1, aI yI 96 S), (a2, aI yI 96 Kp), (a3, aI yI 1344 Hh), (a4, aI yI 192 Sl), (a5, aI yI 2 Sv), (a6, aI yI 100 T), (a7, aI yI 1681 Bd), (a8, aI yI 1681 B2), (ou, aL yL ov)] ++ pl) H := hP
  by_cases hc : whyR S z1 z2 = 0
  · refine lv_aload_n hx hb dL_law_533 rfl (lv_at hl 1 rfl) ?_
    refine lv_aload_n hx hb dL_law_534 rfl (lv_at hl 0 rfl) ?_
    refine lv_iload hx hb dL_law_535 (lv_at hl 4 rfl) ?_
    refine lv_iconst (v := iI 1) hx hb dL_law_537 (by decide +kernel) ?_
    refine iv_add hx hb dL_law_538 ?_
    refine iv_sld hx hb hX hbl hbA hS hz1 (by omega) dL_law_539 ?_
    refine lv_aload_n hx hb dL_law_540 rfl (lv_at hl 0 rfl) ?_
    refine lv_iload hx hb dL_law_541 (lv_at hl 4 rfl) ?_
    refine lv_iconst (v := iI 2) hx hb dL_law_543 (by decide +kernel) ?_
    refine iv_add hx hb dL_law_544 ?_
    refine iv_sld hx hb hX hbl hbA hS hz2 (by omega) dL_law_545 ?_
    refine lv_aload_n hx hb dL_law_546 rfl (lv_at hl 3 rfl) ?_
    have hP := hP.re (Y := [(x, oRD tx nw tr kn me sl), (nw, oDrv nc S (lN (kL (S) 0 40))), (nc, aI yI 48 g), (kn, oKn pk ex), (ex, aI yI 1681 E), (ou, aL yL ov), (tx, oTx sg tl po lo), (sg, aC yC 100 T), (tr, oDrv tc S2 k2), (tc, aI yI 48 g2), (me, oMem rg nx ct), (rg, aD yD 14 f), (sl, aD yD 2 fs), (mo, oMo th a1 a2 a3 ct a4 a5 a6 tl a7 a8), (a1, aI yI 96 S), (a2, aI yI 96 Kp), (a3, aI yI 1344 Hh), (a4, aI yI 192 Sl), (a5, aI yI 2 Sv), (a6, aI yI 100 T), (a7, aI yI 1681 Bd), (a8, aI yI 1681 B2)]) [0, 3, 4, 7, 8, 21, 1, 2, 5, 6, 9, 10, 11, 12, 13, 14, 15, 16, 17, 18, 19, 20] rfl
    have hD := hD.re (Y := [(x, oRD tx nw tr kn me sl), (nw, oDrv nc S (lN (kL (S) 0 40))), (nc, aI yI 48 g), (kn, oKn pk ex), (ex, aI yI 1681 E), (ou, aL yL ov), (tx, oTx sg tl po lo), (sg, aC yC 100 T), (tr, oDrv tc S2 k2), (tc, aI yI 48 g2), (me, oMem rg nx ct), (rg, aD yD 14 f), (sl, aD yD 2 fs), (mo, oMo th a1 a2 a3 ct a4 a5 a6 tl a7 a8), (a1, aI yI 96 S), (a2, aI yI 96 Kp), (a3, aI yI 1344 Hh), (a4, aI yI 192 Sl), (a5, aI yI 2 Sv), (a6, aI yI 100 T), (a7, aI yI 1681 Bd), (a8, aI yI 1681 B2)]) [0, 3, 4, 7, 8, 21, 1, 2, 5, 6, 9, 10, 11, 12, 13, 14, 15, 16, 17, 18, 19, 20] (by decide) rfl
    refine iv_lawF (cx := [(x, oRD tx nw tr kn me sl), (nw, oDrv nc S (lN (kL (S) 0 40))), (nc, aI yI 48 g), (kn, oKn pk ex), (ex, aI yI 1681 E), (ou, aL yL ov)]) (RR := ([(tx, oTx sg tl po lo), (sg, aC yC 100 T), (tr, oDrv tc S2 k2), (tc, aI yI 48 g2), (me, oMem rg nx ct), (rg, aD yD 14 f), (sl, aD yD 2 fs), (mo, oMo th a1 a2 a3 ct a4 a5 a6 tl a7 a8), (a1, aI yI 96 S), (a2, aI yI 96 Kp), (a3, aI yI 1344 Hh), (a4, aI yI 192 Sl), (a5, aI yI 2 Sv), (a6, aI yI 100 T), (a7, aI yI 1681 Bd), (a8, aI yI 1681 B2)] ++ pl)) (wp := fun (u : Int × (Int → Int)) => match u with | (p9, E9) => [(x, oRD tx nw tr kn me sl), (nw, oDrv nc S (lN (kL (S) 0 40))), (nc, aI yI 48 g), (kn, oKn p9 ex), (ex, aI yI 1681 E9), (ou, aL yL ((iI (mostI (FB S (-1)) z1 z2)).toInt64))]) (As := [.ref x, .int (iI z1), .int (iI z2), .ref ou]) (rest := []) (n := 4) ⟨hx, hb, hml, hown, hts⟩ (c_L_most_0 l hla D yI yC yD yL x tx nw tr kn me sl nc S g ex pk E z1 z2 ou ov (by first | assumption | omega | exact ⟨hr1, hr2⟩ | exact fun z q1 q2 => by have := hrt z q1 q2; omega) (by first | assumption | omega | exact ⟨hr1, hr2⟩ | exact fun z q1 q2 => by have := hrt z q1 q2; omega) (by first | assumption | omega | exact ⟨hr1, hr2⟩ | exact fun z q1 q2 => by have := hrt z q1 q2; omega) (hc) _) (vx_cwSW 4 hts gL_law_L_most rfl rfl rfl (by decide +kernel) ⟨Nat.le_of_ble_eq_true rfl, Nat.le_of_ble_eq_true rfl⟩) hK4 hP hD hS hA hB rfl hl.1 rfl (Nat.le_of_ble_eq_true rfl) dL_law_547 ⟨(by show _ ≤ (601024 : Nat); omega), (by show _ ≤ (7293034 : Nat); omega)⟩ (fun r9 u H locs hw hP hD hS => ?_)
    obtain ⟨p9_h, E9_h⟩ := u
    obtain ⟨hr9, hwr9_h⟩ := hw
    subst hr9
    have hP : va_P D vwCl ([(x, oRD tx nw tr kn me sl), (nw, oDrv nc S (lN (kL (S) 0 40))), (nc, aI yI 48 g), (kn, oKn p9_h ex), (ex, aI yI 1681 E9_h), (ou, aL yL ((iI (mostI (FB S (-1)) z1 z2)).toInt64)), (tx, oTx sg tl po lo), (sg, aC yC 100 T), (tr, oDrv tc S2 k2), (tc, aI yI 48 g2), (me, oMem rg nx ct), (rg, aD yD 14 f), (sl, aD yD 2 fs), (mo, oMo th a1 a2 a3 ct a4 a5 a6 tl a7 a8), (a1, aI yI 96 S), (a2, aI yI 96 Kp), (a3, aI yI 1344 Hh), (a4, aI yI 192 Sl), (a5, aI yI 2 Sv), (a6, aI yI 100 T), (a7, aI yI 1681 Bd), (a8, aI yI 1681 B2)] ++ pl) H := hP
    have hD : va_D (fun q : Nat => s.heap.size ≤ q) ([(x, oRD tx nw tr kn me sl), (nw, oDrv nc S (lN (kL (S) 0 40))), (nc, aI yI 48 g), (kn, oKn p9_h ex), (ex, aI yI 1681 E9_h), (ou, aL yL ((iI (mostI (FB S (-1)) z1 z2)).toInt64)), (tx, oTx sg tl po lo), (sg, aC yC 100 T), (tr, oDrv tc S2 k2), (tc, aI yI 48 g2), (me, oMem rg nx ct), (rg, aD yD 14 f), (sl, aD yD 2 fs), (mo, oMo th a1 a2 a3 ct a4 a5 a6 tl a7 a8), (a1, aI yI 96 S), (a2, aI yI 96 Kp), (a3, aI yI 1344 Hh), (a4, aI yI 192 Sl), (a5, aI yI 2 Sv), (a6, aI yI 100 T), (a7, aI yI 1681 Bd), (a8, aI yI 1681 B2)] ++ pl) := hD
    refine lv_istore (lv' := [(5, .int (iI 0)), (0, .ref b), (1, .ref x), (2, .ref mo), (3, .ref ou), (4, .int (iI i))]) hx hb dL_law_550 hl (by decide) rfl (fun ls hl => ?_)
    refine lv_aload_n hx hb dL_law_552 rfl (lv_at hl 3 rfl) ?_
    refine lv_aload_n hx hb dL_law_553 rfl (lv_at hl 1 rfl) ?_
    refine lv_iload hx hb dL_law_554 (lv_at hl 5 rfl) ?_
    refine lv_iconst (v := iI 1) hx hb dL_law_556 (by decide +kernel) ?_
    refine iv_add hx hb dL_law_557 ?_
    refine iv_sld hx hb hX hbl hbA hS hz1 (by omega) dL_law_558 ?_
    refine lv_aload_n hx hb dL_law_559 rfl (lv_at hl 1 rfl) ?_
    refine lv_iload hx hb dL_law_560 (lv_at hl 5 rfl) ?_
    refine lv_iconst (v := iI 2) hx hb dL_law_562 (by decide +kernel) ?_
    refine iv_add hx hb dL_law_563 ?_
    refine iv_sld hx hb hX hbl hbA hS hz2 (by omega) dL_law_564 ?_
    refine iv_rwV (As := [.int (iI z1), .int (iI z2)]) (rest := []) (C := RX5) (n := 2) ⟨hx, hb, hml, hown, hts⟩ (c_X5_most l D yI yC yD mo th ct tl a1 a2 a3 a4 a5 a6 a7 a8 S Bd z1 z2 (by assumption) (by assumption) _) (cwV 2 hts gL_law_X5_most rfl rfl rfl (by decide +kernel) ⟨Nat.le_of_ble_eq_true rfl, Nat.le_of_ble_eq_true rfl⟩) hK hP hD hS hA [13, 14, 20] (by decide) rfl 13 rfl rfl rfl hl.1 rfl (Nat.le_of_ble_eq_true rfl) dL_law_565 ⟨(by show _ ≤ (601024 : Nat); omega), (by show _ ≤ (7293034 : Nat); omega)⟩ (fun _ => rfl) (fun r565 u565 H locs hw565 hP hD hS => ?_)
    obtain ⟨G9565, hu565⟩ : ∃ z, z = u565 := ⟨_, rfl⟩
    subst hu565
    obtain ⟨hr565, -⟩ := hw565
    subst hr565
    have hP : va_P D vwCl ([(x, oRD tx nw tr kn me sl), (nw, oDrv nc S (lN (kL (S) 0 40))), (nc, aI yI 48 g), (kn, oKn p9_h ex), (ex, aI yI 1681 E9_h), (ou, aL yL ((iI (mostI (FB S (-1)) z1 z2)).toInt64)), (tx, oTx sg tl po lo), (sg, aC yC 100 T), (tr, oDrv tc S2 k2), (tc, aI yI 48 g2), (me, oMem rg nx ct), (rg, aD yD 14 f), (sl, aD yD 2 fs), (mo, oMo (whyR S z1 z2) a1 a2 a3 ct a4 a5 a6 tl a7 a8), (a1, aI yI 96 S), (a2, aI yI 96 Kp), (a3, aI yI 1344 Hh), (a4, aI yI 192 Sl), (a5, aI yI 2 Sv), (a6, aI yI 100 T), (a7, aI yI 1681 G9565), (a8, aI yI 1681 B2)] ++ pl) H := hP
    have hD : va_D (fun q : Nat => s.heap.size ≤ q) ([(x, oRD tx nw tr kn me sl), (nw, oDrv nc S (lN (kL (S) 0 40))), (nc, aI yI 48 g), (kn, oKn p9_h ex), (ex, aI yI 1681 E9_h), (ou, aL yL ((iI (mostI (FB S (-1)) z1 z2)).toInt64)), (tx, oTx sg tl po lo), (sg, aC yC 100 T), (tr, oDrv tc S2 k2), (tc, aI yI 48 g2), (me, oMem rg nx ct), (rg, aD yD 14 f), (sl, aD yD 2 fs), (mo, oMo (whyR S z1 z2) a1 a2 a3 ct a4 a5 a6 tl a7 a8), (a1, aI yI 96 S), (a2, aI yI 96 Kp), (a3, aI yI 1344 Hh), (a4, aI yI 192 Sl), (a5, aI yI 2 Sv), (a6, aI yI 100 T), (a7, aI yI 1681 G9565), (a8, aI yI 1681 B2)] ++ pl) := hD
    have hth : (whyR S z1 z2 : Int) = 0 := by first | exact bI_f (not_not_intro hc) | exact bI_t hc | exact hc | rfl
    have hP : va_P D vwCl ([(x, oRD tx nw tr kn me sl), (nw, oDrv nc S (lN (kL (S) 0 40))), (nc, aI yI 48 g), (kn, oKn p9_h ex), (ex, aI yI 1681 E9_h), (ou, aL yL ((iI (mostI (FB S (-1)) z1 z2)).toInt64)), (tx, oTx sg tl po lo), (sg, aC yC 100 T), (tr, oDrv tc S2 k2), (tc, aI yI 48 g2), (me, oMem rg nx ct), (rg, aD yD 14 f), (sl, aD yD 2 fs), (mo, oMo 0 a1 a2 a3 ct a4 a5 a6 tl a7 a8), (a1, aI yI 96 S), (a2, aI yI 96 Kp), (a3, aI yI 1344 Hh), (a4, aI yI 192 Sl), (a5, aI yI 2 Sv), (a6, aI yI 100 T), (a7, aI yI 1681 G9565), (a8, aI yI 1681 B2)] ++ pl) H := hP.cv (by (try simp only [if_pos hc]); (try simp only [hth]))
    have hD : va_D (fun q : Nat => s.heap.size ≤ q) ([(x, oRD tx nw tr kn me sl), (nw, oDrv nc S (lN (kL (S) 0 40))), (nc, aI yI 48 g), (kn, oKn p9_h ex), (ex, aI yI 1681 E9_h), (ou, aL yL ((iI (mostI (FB S (-1)) z1 z2)).toInt64)), (tx, oTx sg tl po lo), (sg, aC yC 100 T), (tr, oDrv tc S2 k2), (tc, aI yI 48 g2), (me, oMem rg nx ct), (rg, aD yD 14 f), (sl, aD yD 2 fs), (mo, oMo 0 a1 a2 a3 ct a4 a5 a6 tl a7 a8), (a1, aI yI 96 S), (a2, aI yI 96 Kp), (a3, aI yI 1344 Hh), (a4, aI yI 192 Sl), (a5, aI yI 2 Sv), (a6, aI yI 100 T), (a7, aI yI 1681 G9565), (a8, aI yI 1681 B2)] ++ pl) := hD.cv (by (try simp only [if_pos hc]); (try simp only [hth]))
    rw [show (if whyR S z1 z2 = 0 then mostI (FB S (-1)) z1 z2 else 0 : Int) = mostI (FB S (-1)) z1 z2 from if_pos hc]
    refine lv_istore (lv' := [(6, .int (iI (mostI (FB S (-1)) z1 z2))), (5, .int (iI 0)), (0, .ref b), (1, .ref x), (2, .ref mo), (3, .ref ou), (4, .int (iI i))]) hx hb dL_law_568 hl (by decide) rfl (fun ls hl => ?_)
    refine lv_aload_n hx hb dL_law_570 rfl (lv_at hl 4 rfl) ?_
    refine iv_roV (As := []) (rest := []) (C := RX5) (n := 0) ⟨hx, hb, hml, hown, hts⟩ (c_X5_thrown l D yI yC yD mo 0 ct tl a1 a2 a3 a4 a5 a6 a7 a8 ) (cwV 0 hts gL_law_X5_thrown rfl rfl rfl (by decide +kernel) ⟨Nat.le_of_ble_eq_true rfl, Nat.le_of_ble_eq_true rfl⟩) hK hP [13] rfl 13 rfl rfl rfl hl.1 rfl (Nat.le_of_ble_eq_true rfl) dL_law_571 ⟨(by show _ ≤ (601024 : Nat); omega), (by show _ ≤ (7293034 : Nat); omega)⟩ ?_
    refine lv_iload hx hb dL_law_574 (lv_at hl 1 rfl) ?_
    refine lv_icmp_eq (x := iI 0) (y := iI 0) (tgt := 581) hx hb dL_law_576 (by decide) (fun c576 => ?_) (fun c576 => ?_)
    · refine lv_iload hx hb dL_law_581 (lv_at hl 1 rfl) ?_
      refine iv_if_ne (a := 0) (tgt := 598) hx hb (by omega) dL_law_583 (by decide) (fun c583 => ?_) (fun c583 => ?_)
      · exact absurd c583 (by omega)
      · refine lv_aload_n hx hb dL_law_586 rfl (lv_at hl 5 rfl) ?_
        refine lv_iconst (v := iI 0) hx hb dL_law_587 (by decide +kernel) ?_
        refine iv_lld hx hb hK4 hP 5 3 rfl rfl dL_law_588 ?_
        refine lv_iload hx hb dL_law_589 (lv_at hl 0 rfl) ?_
        refine lv_i2l (v := (iI (mostI (FB S (-1)) z1 z2)).toInt64) hx hb dL_law_591 rfl ?_
        refine iv_lcmp (z := 0) hx hb (cmp_self _) dL_law_592 ?_
        refine iv_if_eq (a := 0) (tgt := 598) hx hb (by omega) dL_law_593 (by decide) (fun c593 => ?_) (fun c593 => ?_)
        · refine lv_goto (tgt := 1563) hx hb dL_law_598 (by decide) ?_
          have hP9 : va_P D vwCl ([(x, oRD tx nw tr kn me sl), (tx, oTx sg tl po lo), (sg, aC yC 100 T), (nw, oDrv nc S (lN (kL (S) 0 40))), (nc, aI yI 48 g), (tr, oDrv tc S2 k2), (tc, aI yI 48 g2), (kn, oKn p9_h ex), (ex, aI yI 1681 E9_h), (me, oMem rg nx ct), (rg, aD yD 14 f), (sl, aD yD 2 fs), (mo, oMo 0 a1 a2 a3 ct a4 a5 a6 tl a7 a8), (a1, aI yI 96 S), (a2, aI yI 96 Kp), (a3, aI yI 1344 Hh), (a4, aI yI 192 Sl), (a5, aI yI 2 Sv), (a6, aI yI 100 T), (a7, aI yI 1681 G9565), (a8, aI yI 1681 B2), (ou, aL yL ((iI (mostI (FB S (-1)) z1 z2)).toInt64))] ++ pl) _ := hP.re [0, 6, 7, 1, 2, 8, 9, 3, 4, 10, 11, 12, 13, 14, 15, 16, 17, 18, 19, 20, 21, 5] rfl
          have hD9 : va_D (fun q : Nat => s.heap.size ≤ q) ([(x, oRD tx nw tr kn me sl), (tx, oTx sg tl po lo), (sg, aC yC 100 T), (nw, oDrv nc S (lN (kL (S) 0 40))), (nc, aI yI 48 g), (tr, oDrv tc S2 k2), (tc, aI yI 48 g2), (kn, oKn p9_h ex), (ex, aI yI 1681 E9_h), (me, oMem rg nx ct), (rg, aD yD 14 f), (sl, aD yD 2 fs), (mo, oMo 0 a1 a2 a3 ct a4 a5 a6 tl a7 a8), (a1, aI yI 96 S), (a2, aI yI 96 Kp), (a3, aI yI 1344 Hh), (a4, aI yI 192 Sl), (a5, aI yI 2 Sv), (a6, aI yI 100 T), (a7, aI yI 1681 G9565), (a8, aI yI 1681 B2), (ou, aL yL ((iI (mostI (FB S (-1)) z1 z2)).toInt64))] ++ pl) := hD.re [0, 6, 7, 1, 2, 8, 9, 3, 4, 10, 11, 12, 13, 14, 15, 16, 17, 18, 19, 20, 21, 5] (by decide) rfl
          rw [← hplq] at hP9 hD9
          refine W.widen (k := cells + 8) (n := slots + 150) (by omega) (by omega) ?_
          exact K _ _ _ ⟨x, tx, sg, nw, nc, tr, tc, kn, ex, me, rg, sl, mo, a1, a2, a3, a4, a5, a6, a7, a8, ou, T, S, g, S2, g2, E9_h, Kp, Hh, Sl, Sv, G9565, B2, tl, po, lo, p9_h, nx, ct, 0, k2, ((iI (mostI (FB S (-1)) z1 z2)).toInt64), f, fs, en, hP9, hD9, hS, lv_sub hl [2, 3, 4, 5, 6] rfl, hI, hR, htl, hrt, hme, hsv, hfO, hrO, hsO⟩
        · exact absurd c593 (by omega)
    · exact absurd rfl c576
  · refine lv_aload_n hx hb dL_law_533 rfl (lv_at hl 1 rfl) ?_
    refine lv_aload_n hx hb dL_law_534 rfl (lv_at hl 0 rfl) ?_
    refine lv_iload hx hb dL_law_535 (lv_at hl 4 rfl) ?_
    refine lv_iconst (v := iI 1) hx hb dL_law_537 (by decide +kernel) ?_
    refine iv_add hx hb dL_law_538 ?_
    refine iv_sld hx hb hX hbl hbA hS hz1 (by omega) dL_law_539 ?_
    refine lv_aload_n hx hb dL_law_540 rfl (lv_at hl 0 rfl) ?_
    refine lv_iload hx hb dL_law_541 (lv_at hl 4 rfl) ?_
    refine lv_iconst (v := iI 2) hx hb dL_law_543 (by decide +kernel) ?_
    refine iv_add hx hb dL_law_544 ?_
    refine iv_sld hx hb hX hbl hbA hS hz2 (by omega) dL_law_545 ?_
    refine lv_aload_n hx hb dL_law_546 rfl (lv_at hl 3 rfl) ?_
    have hP := hP.re (Y := [(x, oRD tx nw tr kn me sl), (nw, oDrv nc S (lN (kL (S) 0 40))), (nc, aI yI 48 g), (kn, oKn pk ex), (ex, aI yI 1681 E), (ou, aL yL ov), (tx, oTx sg tl po lo), (sg, aC yC 100 T), (tr, oDrv tc S2 k2), (tc, aI yI 48 g2), (me, oMem rg nx ct), (rg, aD yD 14 f), (sl, aD yD 2 fs), (mo, oMo th a1 a2 a3 ct a4 a5 a6 tl a7 a8), (a1, aI yI 96 S), (a2, aI yI 96 Kp), (a3, aI yI 1344 Hh), (a4, aI yI 192 Sl), (a5, aI yI 2 Sv), (a6, aI yI 100 T), (a7, aI yI 1681 Bd), (a8, aI yI 1681 B2)]) [0, 3, 4, 7, 8, 21, 1, 2, 5, 6, 9, 10, 11, 12, 13, 14, 15, 16, 17, 18, 19, 20] rfl
    have hD := hD.re (Y := [(x, oRD tx nw tr kn me sl), (nw, oDrv nc S (lN (kL (S) 0 40))), (nc, aI yI 48 g), (kn, oKn pk ex), (ex, aI yI 1681 E), (ou, aL yL ov), (tx, oTx sg tl po lo), (sg, aC yC 100 T), (tr, oDrv tc S2 k2), (tc, aI yI 48 g2), (me, oMem rg nx ct), (rg, aD yD 14 f), (sl, aD yD 2 fs), (mo, oMo th a1 a2 a3 ct a4 a5 a6 tl a7 a8), (a1, aI yI 96 S), (a2, aI yI 96 Kp), (a3, aI yI 1344 Hh), (a4, aI yI 192 Sl), (a5, aI yI 2 Sv), (a6, aI yI 100 T), (a7, aI yI 1681 Bd), (a8, aI yI 1681 B2)]) [0, 3, 4, 7, 8, 21, 1, 2, 5, 6, 9, 10, 11, 12, 13, 14, 15, 16, 17, 18, 19, 20] (by decide) rfl
    refine iv_lawF (cx := [(x, oRD tx nw tr kn me sl), (nw, oDrv nc S (lN (kL (S) 0 40))), (nc, aI yI 48 g), (kn, oKn pk ex), (ex, aI yI 1681 E), (ou, aL yL ov)]) (RR := ([(tx, oTx sg tl po lo), (sg, aC yC 100 T), (tr, oDrv tc S2 k2), (tc, aI yI 48 g2), (me, oMem rg nx ct), (rg, aD yD 14 f), (sl, aD yD 2 fs), (mo, oMo th a1 a2 a3 ct a4 a5 a6 tl a7 a8), (a1, aI yI 96 S), (a2, aI yI 96 Kp), (a3, aI yI 1344 Hh), (a4, aI yI 192 Sl), (a5, aI yI 2 Sv), (a6, aI yI 100 T), (a7, aI yI 1681 Bd), (a8, aI yI 1681 B2)] ++ pl)) (wp := fun (_ : Unit) => [(x, oRD tx nw tr kn me sl), (nw, oDrv nc S (lN (kL (S) 0 40))), (nc, aI yI 48 g), (kn, oKn pk ex), (ex, aI yI 1681 E), (ou, aL yL ov)]) (As := [.ref x, .int (iI z1), .int (iI z2), .ref ou]) (rest := []) (n := 4) ⟨hx, hb, hml, hown, hts⟩ (c_L_most_1 l hla D yI yC yD yL x tx nw tr kn me sl nc S g ex pk E z1 z2 ou ov (by first | assumption | omega | exact ⟨hr1, hr2⟩ | exact fun z q1 q2 => by have := hrt z q1 q2; omega) (by first | assumption | omega | exact ⟨hr1, hr2⟩ | exact fun z q1 q2 => by have := hrt z q1 q2; omega) (by first | assumption | omega | exact ⟨hr1, hr2⟩ | exact fun z q1 q2 => by have := hrt z q1 q2; omega) (hc) _) (vx_cwSW 4 hts gL_law_L_most rfl rfl rfl (by decide +kernel) ⟨Nat.le_of_ble_eq_true rfl, Nat.le_of_ble_eq_true rfl⟩) hK4 hP hD hS hA hB rfl hl.1 rfl (Nat.le_of_ble_eq_true rfl) dL_law_547 ⟨(by show _ ≤ (601024 : Nat); omega), (by show _ ≤ (7293034 : Nat); omega)⟩ (fun r9 u H locs hw hP hD hS => ?_)
    obtain ⟨hr9, -⟩ := hw
    subst hr9
    have hP : va_P D vwCl ([(x, oRD tx nw tr kn me sl), (nw, oDrv nc S (lN (kL (S) 0 40))), (nc, aI yI 48 g), (kn, oKn pk ex), (ex, aI yI 1681 E), (ou, aL yL ov), (tx, oTx sg tl po lo), (sg, aC yC 100 T), (tr, oDrv tc S2 k2), (tc, aI yI 48 g2), (me, oMem rg nx ct), (rg, aD yD 14 f), (sl, aD yD 2 fs), (mo, oMo th a1 a2 a3 ct a4 a5 a6 tl a7 a8), (a1, aI yI 96 S), (a2, aI yI 96 Kp), (a3, aI yI 1344 Hh), (a4, aI yI 192 Sl), (a5, aI yI 2 Sv), (a6, aI yI 100 T), (a7, aI yI 1681 Bd), (a8, aI yI 1681 B2)] ++ pl) H := hP
    have hD : va_D (fun q : Nat => s.heap.size ≤ q) ([(x, oRD tx nw tr kn me sl), (nw, oDrv nc S (lN (kL (S) 0 40))), (nc, aI yI 48 g), (kn, oKn pk ex), (ex, aI yI 1681 E), (ou, aL yL ov), (tx, oTx sg tl po lo), (sg, aC yC 100 T), (tr, oDrv tc S2 k2), (tc, aI yI 48 g2), (me, oMem rg nx ct), (rg, aD yD 14 f), (sl, aD yD 2 fs), (mo, oMo th a1 a2 a3 ct a4 a5 a6 tl a7 a8), (a1, aI yI 96 S), (a2, aI yI 96 Kp), (a3, aI yI 1344 Hh), (a4, aI yI 192 Sl), (a5, aI yI 2 Sv), (a6, aI yI 100 T), (a7, aI yI 1681 Bd), (a8, aI yI 1681 B2)] ++ pl) := hD
    refine lv_istore (lv' := [(5, .int (iI (whyR S z1 z2))), (0, .ref b), (1, .ref x), (2, .ref mo), (3, .ref ou), (4, .int (iI i))]) hx hb dL_law_550 hl (by decide) rfl (fun ls hl => ?_)
    refine lv_aload_n hx hb dL_law_552 rfl (lv_at hl 3 rfl) ?_
    refine lv_aload_n hx hb dL_law_553 rfl (lv_at hl 1 rfl) ?_
    refine lv_iload hx hb dL_law_554 (lv_at hl 5 rfl) ?_
    refine lv_iconst (v := iI 1) hx hb dL_law_556 (by decide +kernel) ?_
    refine iv_add hx hb dL_law_557 ?_
    refine iv_sld hx hb hX hbl hbA hS hz1 (by omega) dL_law_558 ?_
    refine lv_aload_n hx hb dL_law_559 rfl (lv_at hl 1 rfl) ?_
    refine lv_iload hx hb dL_law_560 (lv_at hl 5 rfl) ?_
    refine lv_iconst (v := iI 2) hx hb dL_law_562 (by decide +kernel) ?_
    refine iv_add hx hb dL_law_563 ?_
    refine iv_sld hx hb hX hbl hbA hS hz2 (by omega) dL_law_564 ?_
    refine iv_rwV (As := [.int (iI z1), .int (iI z2)]) (rest := []) (C := RX5) (n := 2) ⟨hx, hb, hml, hown, hts⟩ (c_X5_most l D yI yC yD mo th ct tl a1 a2 a3 a4 a5 a6 a7 a8 S Bd z1 z2 (by assumption) (by assumption) _) (cwV 2 hts gL_law_X5_most rfl rfl rfl (by decide +kernel) ⟨Nat.le_of_ble_eq_true rfl, Nat.le_of_ble_eq_true rfl⟩) hK hP hD hS hA [13, 14, 20] (by decide) rfl 13 rfl rfl rfl hl.1 rfl (Nat.le_of_ble_eq_true rfl) dL_law_565 ⟨(by show _ ≤ (601024 : Nat); omega), (by show _ ≤ (7293034 : Nat); omega)⟩ (fun _ => rfl) (fun r565 u565 H locs hw565 hP hD hS => ?_)
    obtain ⟨G9565, hu565⟩ : ∃ z, z = u565 := ⟨_, rfl⟩
    subst hu565
    obtain ⟨hr565, -⟩ := hw565
    subst hr565
    have hP : va_P D vwCl ([(x, oRD tx nw tr kn me sl), (nw, oDrv nc S (lN (kL (S) 0 40))), (nc, aI yI 48 g), (kn, oKn pk ex), (ex, aI yI 1681 E), (ou, aL yL ov), (tx, oTx sg tl po lo), (sg, aC yC 100 T), (tr, oDrv tc S2 k2), (tc, aI yI 48 g2), (me, oMem rg nx ct), (rg, aD yD 14 f), (sl, aD yD 2 fs), (mo, oMo (whyR S z1 z2) a1 a2 a3 ct a4 a5 a6 tl a7 a8), (a1, aI yI 96 S), (a2, aI yI 96 Kp), (a3, aI yI 1344 Hh), (a4, aI yI 192 Sl), (a5, aI yI 2 Sv), (a6, aI yI 100 T), (a7, aI yI 1681 G9565), (a8, aI yI 1681 B2)] ++ pl) H := hP
    have hD : va_D (fun q : Nat => s.heap.size ≤ q) ([(x, oRD tx nw tr kn me sl), (nw, oDrv nc S (lN (kL (S) 0 40))), (nc, aI yI 48 g), (kn, oKn pk ex), (ex, aI yI 1681 E), (ou, aL yL ov), (tx, oTx sg tl po lo), (sg, aC yC 100 T), (tr, oDrv tc S2 k2), (tc, aI yI 48 g2), (me, oMem rg nx ct), (rg, aD yD 14 f), (sl, aD yD 2 fs), (mo, oMo (whyR S z1 z2) a1 a2 a3 ct a4 a5 a6 tl a7 a8), (a1, aI yI 96 S), (a2, aI yI 96 Kp), (a3, aI yI 1344 Hh), (a4, aI yI 192 Sl), (a5, aI yI 2 Sv), (a6, aI yI 100 T), (a7, aI yI 1681 G9565), (a8, aI yI 1681 B2)] ++ pl) := hD
    rw [show (if whyR S z1 z2 = 0 then mostI (FB S (-1)) z1 z2 else 0 : Int) = 0 from if_neg hc]
    refine lv_istore (lv' := [(6, .int (iI 0)), (5, .int (iI (whyR S z1 z2))), (0, .ref b), (1, .ref x), (2, .ref mo), (3, .ref ou), (4, .int (iI i))]) hx hb dL_law_568 hl (by decide) rfl (fun ls hl => ?_)
    refine lv_aload_n hx hb dL_law_570 rfl (lv_at hl 4 rfl) ?_
    refine iv_roV (As := []) (rest := []) (C := RX5) (n := 0) ⟨hx, hb, hml, hown, hts⟩ (c_X5_thrown l D yI yC yD mo (whyR S z1 z2) ct tl a1 a2 a3 a4 a5 a6 a7 a8 ) (cwV 0 hts gL_law_X5_thrown rfl rfl rfl (by decide +kernel) ⟨Nat.le_of_ble_eq_true rfl, Nat.le_of_ble_eq_true rfl⟩) hK hP [13] rfl 13 rfl rfl rfl hl.1 rfl (Nat.le_of_ble_eq_true rfl) dL_law_571 ⟨(by show _ ≤ (601024 : Nat); omega), (by show _ ≤ (7293034 : Nat); omega)⟩ ?_
    refine lv_iload hx hb dL_law_574 (lv_at hl 1 rfl) ?_
    refine lv_icmp_eq (x := iI (whyR S z1 z2)) (y := iI (whyR S z1 z2)) (tgt := 581) hx hb dL_law_576 (by decide) (fun c576 => ?_) (fun c576 => ?_)
    · refine lv_iload hx hb dL_law_581 (lv_at hl 1 rfl) ?_
      refine iv_if_ne (a := whyR S z1 z2) (tgt := 598) hx hb (by omega) dL_law_583 (by decide) (fun c583 => ?_) (fun c583 => ?_)
      · refine lv_goto (tgt := 1563) hx hb dL_law_598 (by decide) ?_
        have hP9 : va_P D vwCl ([(x, oRD tx nw tr kn me sl), (tx, oTx sg tl po lo), (sg, aC yC 100 T), (nw, oDrv nc S (lN (kL (S) 0 40))), (nc, aI yI 48 g), (tr, oDrv tc S2 k2), (tc, aI yI 48 g2), (kn, oKn pk ex), (ex, aI yI 1681 E), (me, oMem rg nx ct), (rg, aD yD 14 f), (sl, aD yD 2 fs), (mo, oMo (whyR S z1 z2) a1 a2 a3 ct a4 a5 a6 tl a7 a8), (a1, aI yI 96 S), (a2, aI yI 96 Kp), (a3, aI yI 1344 Hh), (a4, aI yI 192 Sl), (a5, aI yI 2 Sv), (a6, aI yI 100 T), (a7, aI yI 1681 G9565), (a8, aI yI 1681 B2), (ou, aL yL ov)] ++ pl) _ := hP.re [0, 6, 7, 1, 2, 8, 9, 3, 4, 10, 11, 12, 13, 14, 15, 16, 17, 18, 19, 20, 21, 5] rfl
        have hD9 : va_D (fun q : Nat => s.heap.size ≤ q) ([(x, oRD tx nw tr kn me sl), (tx, oTx sg tl po lo), (sg, aC yC 100 T), (nw, oDrv nc S (lN (kL (S) 0 40))), (nc, aI yI 48 g), (tr, oDrv tc S2 k2), (tc, aI yI 48 g2), (kn, oKn pk ex), (ex, aI yI 1681 E), (me, oMem rg nx ct), (rg, aD yD 14 f), (sl, aD yD 2 fs), (mo, oMo (whyR S z1 z2) a1 a2 a3 ct a4 a5 a6 tl a7 a8), (a1, aI yI 96 S), (a2, aI yI 96 Kp), (a3, aI yI 1344 Hh), (a4, aI yI 192 Sl), (a5, aI yI 2 Sv), (a6, aI yI 100 T), (a7, aI yI 1681 G9565), (a8, aI yI 1681 B2), (ou, aL yL ov)] ++ pl) := hD.re [0, 6, 7, 1, 2, 8, 9, 3, 4, 10, 11, 12, 13, 14, 15, 16, 17, 18, 19, 20, 21, 5] (by decide) rfl
        rw [← hplq] at hP9 hD9
        refine W.widen (k := cells + 8) (n := slots + 150) (by omega) (by omega) ?_
        exact K _ _ _ ⟨x, tx, sg, nw, nc, tr, tc, kn, ex, me, rg, sl, mo, a1, a2, a3, a4, a5, a6, a7, a8, ou, T, S, g, S2, g2, E, Kp, Hh, Sl, Sv, G9565, B2, tl, po, lo, pk, nx, ct, (whyR S z1 z2), k2, ov, f, fs, en, hP9, hD9, hS, lv_sub hl [2, 3, 4, 5, 6] rfl, hI, hR, htl, hrt, hme, hsv, hfO, hrO, hsO⟩
      · exfalso; omega
    · exact absurd rfl c576
