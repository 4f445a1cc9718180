set_option maxHeartbeats 8000000 in
set_option maxRecDepth 100000 in
theorem lc_bestQuestion {p : Program} {e : Env} {s : State} {m : MethodId} {below : List Frame} {meth : Method} {c : Code} (l : Launch) (hla : l.stackTraces = false) {b L : Nat} {xs : Nat → Int32} (C0 : lw_At p s m meth c b L xs) (D : va_G) (yI yC yD yL : ClassId) (hK4 : va_K D vwCl (tyl yI yC yD yL) s) (hB : XB (fun q : Nat => s.heap.size ≤ q) s s.heap) {Q : State → Prop} {cells slots : Nat} (hroom : cells + 8 ≤ 601024 ∧ slots + 150 ≤ 7293034) {i : Int} (hi : 0 ≤ i ∧ i + 4 ≤ L ∧ L ≤ 2048) {H : Heap} {locs : List Loc} {ls : Array Slot} (hLI : LI D yI yC yD yL s b i H locs ls) (K : ∀ (H : Heap) (locs : List Loc) (ls : Array Slot), LI D yI yC yD yL s b i H locs ls → W p l e room_1 s m #[Value.ref b] below meth c H locs (cells + 8) (slots + 150) Q (F0 m 1563 ls [])) : W p l e room_1 s m #[Value.ref b] below meth c H locs cells slots Q (F0 m 1157 ls []) := by
  obtain ⟨hx, hb, hr, hml, hown, hts, hX, hbl, hlocks, hgv⟩ := id C0
  have hA : ∀ q : Nat, s.heap.size ≤ q → (fun q : Nat => s.heap.size ≤ q) q := fun _ h => h
  have hbA : ¬ (fun q : Nat => s.heap.size ≤ q) b := Nat.not_le.mpr hbl
  have hK : va_K D vwCl (tyz yI yC yD) s := hK4.sub [0, 1, 2] rfl
  obtain ⟨x, tx, sg, nw, nc, tr, tc, kn, ex, me, rg, sl, mo, a1, a2, a3, a4, a5, a6, a7, a8, ou, T, S, g, S2, g2, E, Kp, Hh, Sl, Sv, Bd, B2, tl, po, lo, pk, nx, ct, th, k2, ov, f, fs, en, hP, hD, hS, hl, hI, hR, htl, hrt, hme, hsv, hfO, hrO, hsO⟩ := hLI
  obtain ⟨z1, hz1, hr1⟩ : ∃ z, xs (i + 1).toNat = iI z ∧ inR z := ⟨_, iI_of _, iI_rng _⟩
  obtain ⟨z2, hz2, hr2⟩ : ∃ z, xs (i + 2).toNat = iI z ∧ inR z := ⟨_, iI_of _, iI_rng _⟩
  obtain ⟨z3, hz3, hr3⟩ : ∃ z, xs (i + 3).toNat = iI z ∧ inR z := ⟨_, iI_of _, iI_rng _⟩
  have hpl := hI.pl
  have hna := hI.na
  have hre : 0 ≤ ct ∧ ct ≤ 14 := ⟨hme.2.2.1, hme.2.2.2⟩
  have hrt6 : ∀ z, 0 ≤ z → z < tl → 0 ≤ T z ∧ T z < 65536 := fun z q1 q2 => by have := hrt z q1 q2; omega
  have hr12 : inR z1 ∧ inR z2 := ⟨hr1, hr2⟩
  generalize hplq : plE yI en 16 = pl at hP hD
  have hP : va_P D vwCl ([(x, oRD tx nw tr kn me sl), (tx, oTx sg tl po lo), (sg, aC yC 100 T), (nw, oDrv nc S (lN (kL (S) 0 40))), (nc, aI yI 48 g), (tr, oDrv tc S2 k2), (tc, aI yI 48 g2), (kn, oKn pk ex), (ex, aI yI 1681 E), (me, oMem rg nx ct), (rg, aD yD 14 f), (sl, aD yD 2 fs), (mo, oMo th a1 a2 a3 ct a4 a5 a6 tl a7 a8), (a1, aI yI 96 S), (a2, aI yI 96 Kp), (a3, aI yI 1344 Hh), (a4, aI yI 192 Sl), (a5, aI yI 2 Sv), (a6, aI yI 100 T), (a7, aI yI 1681 Bd), (a8, aI yI 1681 B2), (ou, aL yL ov)] ++ pl) H := hP
  refine lv_aload_n hx hb dL_law_1157 rfl (lv_at hl 1 rfl) ?_
  refine iv_rwV (As := []) (rest := []) (C := RX4) (n := 0) ⟨hx, hb, hml, hown, hts⟩ (c_X4_bestQuestion l D yI yC yD x tx nw tr kn me sl nc S g ex pk E (by assumption) (by assumption) _) (cwV 0 hts gL_law_X4_bestQuestion rfl rfl rfl (by decide +kernel) ⟨Nat.le_of_ble_eq_true rfl, Nat.le_of_ble_eq_true rfl⟩) hK hP hD hS hA [0, 3, 4, 7, 8] (by decide) rfl 0 rfl rfl rfl hl.1 rfl (Nat.le_of_ble_eq_true rfl) dL_law_1158 ⟨(by show _ ≤ (601024 : Nat); omega), (by show _ ≤ (7293034 : Nat); omega)⟩ (fun _ => rfl) (fun r1158 u1158 H locs hw1158 hP hD hS => ?_)
  obtain ⟨p91158, E91158⟩ := u1158
  obtain ⟨hr1158, -⟩ := hw1158
  subst hr1158
  have hP : va_P D vwCl ([(x, oRD tx nw tr kn me sl), (tx, oTx sg tl po lo), (sg, aC yC 100 T), (nw, oDrv nc S (lN (kL (S) 0 40))), (nc, aI yI 48 g), (tr, oDrv tc S2 k2), (tc, aI yI 48 g2), (kn, oKn p91158 ex), (ex, aI yI 1681 E91158), (me, oMem rg nx ct), (rg, aD yD 14 f), (sl, aD yD 2 fs), (mo, oMo th a1 a2 a3 ct a4 a5 a6 tl a7 a8), (a1, aI yI 96 S), (a2, aI yI 96 Kp), (a3, aI yI 1344 Hh), (a4, aI yI 192 Sl), (a5, aI yI 2 Sv), (a6, aI yI 100 T), (a7, aI yI 1681 Bd), (a8, aI yI 1681 B2), (ou, aL yL ov)] ++ pl) H := hP
  have hD : va_D (fun q : Nat => s.heap.size ≤ q) ([(x, oRD tx nw tr kn me sl), (tx, oTx sg tl po lo), (sg, aC yC 100 T), (nw, oDrv nc S (lN (kL (S) 0 40))), (nc, aI yI 48 g), (tr, oDrv tc S2 k2), (tc, aI yI 48 g2), (kn, oKn p91158 ex), (ex, aI yI 1681 E91158), (me, oMem rg nx ct), (rg, aD yD 14 f), (sl, aD yD 2 fs), (mo, oMo th a1 a2 a3 ct a4 a5 a6 tl a7 a8), (a1, aI yI 96 S), (a2, aI yI 96 Kp), (a3, aI yI 1344 Hh), (a4, aI yI 192 Sl), (a5, aI yI 2 Sv), (a6, aI yI 100 T), (a7, aI yI 1681 Bd), (a8, aI yI 1681 B2), (ou, aL yL ov)] ++ pl) := hD
  refine lv_aload_n hx hb dL_law_1161 rfl (lv_at hl 2 rfl) ?_
  refine iv_rwV (As := []) (rest := [.int (iI (bestQ S))]) (C := RX5) (n := 0) ⟨hx, hb, hml, hown, hts⟩ (c_X5_bestQuestion l D yI yC yD mo th ct tl a1 a2 a3 a4 a5 a6 a7 a8 S Bd (by assumption) _) (cwV 0 hts gL_law_X5_bestQuestion rfl rfl rfl (by decide +kernel) ⟨Nat.le_of_ble_eq_true rfl, Nat.le_of_ble_eq_true rfl⟩) hK hP hD hS hA [12, 13, 19] (by decide) rfl 12 rfl rfl rfl hl.1 rfl (Nat.le_of_ble_eq_true rfl) dL_law_1162 ⟨(by show _ ≤ (601024 : Nat); omega), (by show _ ≤ (7293034 : Nat); omega)⟩ (fun _ => rfl) (fun r1162 u1162 H locs hw1162 hP hD hS => ?_)
  obtain ⟨G91162, hu1162⟩ : ∃ z, z = u1162 := ⟨_, rfl⟩
  subst hu1162
  obtain ⟨hr1162, -⟩ := hw1162
  subst hr1162
  have hP : va_P D vwCl ([(x, oRD tx nw tr kn me sl), (tx, oTx sg tl po lo), (sg, aC yC 100 T), (nw, oDrv nc S (lN (kL (S) 0 40))), (nc, aI yI 48 g), (tr, oDrv tc S2 k2), (tc, aI yI 48 g2), (kn, oKn p91158 ex), (ex, aI yI 1681 E91158), (me, oMem rg nx ct), (rg, aD yD 14 f), (sl, aD yD 2 fs), (mo, oMo 0 a1 a2 a3 ct a4 a5 a6 tl a7 a8), (a1, aI yI 96 S), (a2, aI yI 96 Kp), (a3, aI yI 1344 Hh), (a4, aI yI 192 Sl), (a5, aI yI 2 Sv), (a6, aI yI 100 T), (a7, aI yI 1681 G91162), (a8, aI yI 1681 B2), (ou, aL yL ov)] ++ pl) H := hP
  have hD : va_D (fun q : Nat => s.heap.size ≤ q) ([(x, oRD tx nw tr kn me sl), (tx, oTx sg tl po lo), (sg, aC yC 100 T), (nw, oDrv nc S (lN (kL (S) 0 40))), (nc, aI yI 48 g), (tr, oDrv tc S2 k2), (tc, aI yI 48 g2), (kn, oKn p91158 ex), (ex, aI yI 1681 E91158), (me, oMem rg nx ct), (rg, aD yD 14 f), (sl, aD yD 2 fs), (mo, oMo 0 a1 a2 a3 ct a4 a5 a6 tl a7 a8), (a1, aI yI 96 S), (a2, aI yI 96 Kp), (a3, aI yI 1344 Hh), (a4, aI yI 192 Sl), (a5, aI yI 2 Sv), (a6, aI yI 100 T), (a7, aI yI 1681 G91162), (a8, aI yI 1681 B2), (ou, aL yL ov)] ++ pl) := hD
  refine lv_icmp_eq (x := iI (bestQ S)) (y := iI (bestQ S)) (tgt := 1563) hx hb dL_law_1165 (by decide) (fun c1165 => ?_) (fun c1165 => ?_)
  · have hP9 : va_P D vwCl ([(x, oRD tx nw tr kn me sl), (tx, oTx sg tl po lo), (sg, aC yC 100 T), (nw, oDrv nc S (lN (kL (S) 0 40))), (nc, aI yI 48 g), (tr, oDrv tc S2 k2), (tc, aI yI 48 g2), (kn, oKn p91158 ex), (ex, aI yI 1681 E91158), (me, oMem rg nx ct), (rg, aD yD 14 f), (sl, aD yD 2 fs), (mo, oMo 0 a1 a2 a3 ct a4 a5 a6 tl a7 a8), (a1, aI yI 96 S), (a2, aI yI 96 Kp), (a3, aI yI 1344 Hh), (a4, aI yI 192 Sl), (a5, aI yI 2 Sv), (a6, aI yI 100 T), (a7, aI yI 1681 G91162), (a8, aI yI 1681 B2), (ou, aL yL ov)] ++ pl) _ := hP.re [0, 1, 2, 3, 4, 5, 6, 7, 8, 9, 10, 11, 12, 13, 14, 15, 16, 17, 18, 19, 20, 21] rfl
    have hD9 : va_D (fun q : Nat => s.heap.size ≤ q) ([(x, oRD tx nw tr kn me sl), (tx, oTx sg tl po lo), (sg, aC yC 100 T), (nw, oDrv nc S (lN (kL (S) 0 40))), (nc, aI yI 48 g), (tr, oDrv tc S2 k2), (tc, aI yI 48 g2), (kn, oKn p91158 ex), (ex, aI yI 1681 E91158), (me, oMem rg nx ct), (rg, aD yD 14 f), (sl, aD yD 2 fs), (mo, oMo 0 a1 a2 a3 ct a4 a5 a6 tl a7 a8), (a1, aI yI 96 S), (a2, aI yI 96 Kp), (a3, aI yI 1344 Hh), (a4, aI yI 192 Sl), (a5, aI yI 2 Sv), (a6, aI yI 100 T), (a7, aI yI 1681 G91162), (a8, aI yI 1681 B2), (ou, aL yL ov)] ++ pl) := hD.re [0, 1, 2, 3, 4, 5, 6, 7, 8, 9, 10, 11, 12, 13, 14, 15, 16, 17, 18, 19, 20, 21] (by decide) rfl
    rw [← hplq] at hP9 hD9
    refine W.widen (k := cells + 8) (n := slots + 150) (by omega) (by omega) ?_
    exact K _ _ _ ⟨x, tx, sg, nw, nc, tr, tc, kn, ex, me, rg, sl, mo, a1, a2, a3, a4, a5, a6, a7, a8, ou, T, S, g, S2, g2, E91158, Kp, Hh, Sl, Sv, G91162, B2, tl, po, lo, p91158, nx, ct, 0, k2, ov, f, fs, en, hP9, hD9, hS, lv_sub hl [0, 1, 2, 3, 4] rfl, hI, hR, htl, hrt, hme, hsv, hfO, hrO, hsO⟩
  · exact absurd rfl c1165
set_option maxHeartbeats 8000000 in
set_option maxRecDepth 100000 in
theorem lc_worst {p : Program} {e : Env} {s : State} {m : MethodId} {below : List Frame} {meth : Method} {c : Code} (l : Launch) (hla : l.stackTraces = false) {b L : Nat} {xs : Nat → Int32} (C0 : lw_At p s m meth c b L xs) (D : va_G) (yI yC yD yL : ClassId) (hK4 : va_K D vwCl (tyl yI yC yD yL) s) (hB : XB (fun q : Nat => s.heap.size ≤ q) s s.heap) {Q : State → Prop} {cells slots : Nat} (hroom : cells + 8 ≤ 601024 ∧ slots + 150 ≤ 7293034) {i : Int} (hi : 0 ≤ i ∧ i + 4 ≤ L ∧ L ≤ 2048) {H : Heap} {locs : List Loc} {ls : Array Slot} (hLI : LI D yI yC yD yL s b i H locs ls) (K : ∀ (H : Heap) (locs : List Loc) (ls : Array Slot), LI D yI yC yD yL s b i H locs ls → W p l e room_1 s m #[Value.ref b] below meth c H locs (cells + 8) (slots + 150) Q (F0 m 1563 ls [])) : W p l e room_1 s m #[Value.ref b] below meth c H locs cells slots Q (F0 m 1170 ls []) := by
  obtain ⟨hx, hb, hr, hml, hown, hts, hX, hbl, hlocks, hgv⟩ := id C0
  have hA : ∀ q : Nat, s.heap.size ≤ q → (fun q : Nat => s.heap.size ≤ q) q := fun _ h => h
  have hbA : ¬ (fun q : Nat => s.heap.size ≤ q) b := Nat.not_le.mpr hbl
  have hK : va_K D vwCl (tyz yI yC yD) s := hK4.sub [0, 1, 2] rfl
  obtain ⟨x, tx, sg, nw, nc, tr, tc, kn, ex, me, rg, sl, mo, a1, a2, a3, a4, a5, a6, a7, a8, ou, T, S, g, S2, g2, E, Kp, Hh, Sl, Sv, Bd, B2, tl, po, lo, pk, nx, ct, th, k2, ov, f, fs, en, hP, hD, hS, hl, hI, hR, htl, hrt, hme, hsv, hfO, hrO, hsO⟩ := hLI
  obtain ⟨z1, hz1, hr1⟩ : ∃ z, xs (i + 1).toNat = iI z ∧ inR z := ⟨_, iI_of _, iI_rng _⟩
  obtain ⟨z2, hz2, hr2⟩ : ∃ z, xs (i + 2).toNat = iI z ∧ inR z := ⟨_, iI_of _, iI_rng _⟩
  obtain ⟨z3, hz3, hr3⟩ : ∃ z, xs (i + 3).toNat = iI z ∧ inR z := ⟨_, iI_of _, iI_rng _⟩
  have hpl := hI.pl
  have hna := hI.na
  have hre : 0 ≤ ct ∧ ct ≤ 14 := ⟨hme.2.2.1, hme.2.2.2⟩
  have hrt6 : ∀ z, 0 ≤ z → z < tl → 0 ≤ T z ∧ T z < 65536 := fun z q1 q2 => by have := hrt z q1 q2; omega
  have hr12 : inR z1 ∧ inR z2 := ⟨hr1, hr2⟩
  have hwr := whyR_r (S := S) (a := z1) (b := z2)
  generalize hplq : plE yI en 16 = pl at hP hD
  have hP : va_P D vwCl ([(x, oRD tx nw tr kn me sl), (tx, oTx sg tl po lo), (sg, aC yC 100 T), (nw, oDrv nc S (lN (kL (S) 0 40))), (nc, aI yI 48 g), (tr, oDrv tc S2 k2), (tc, aI yI 48 g2), (kn, oKn pk ex), (ex, aI yI 1681 E), (me, oMem rg nx ct), (rg, aD yD 14 f), (sl, aD yD 2 fs), (mo, oMo th a1 a2 a3 ct a4 a5 a6 tl a7 a8), (a1, aI yI 96 S), (a2, aI yI 96 Kp), (a3, aI yI 1344 Hh), (a4, aI yI 192 Sl), (a5, aI yI 2 Sv), (a6, aI yI 100 T), (a7, aI yI 1681 Bd), (a8, aI yI 1681 B2), (ou, aL yL ov)] ++ pl) H := hP
  by_cases hc : whyR S z1 z2 = 0
  · refine lv_aload_n hx hb dL_law_1170 rfl (lv_at hl 1 rfl) ?_
    refine lv_aload_n hx hb dL_law_1171 rfl (lv_at hl 0 rfl) ?_
    refine lv_iload hx hb dL_law_1172 (lv_at hl 4 rfl) ?_
    refine lv_iconst (v := iI 1) hx hb dL_law_1174 (by decide +kernel) ?_
    refine iv_add hx hb dL_law_1175 ?_
    refine iv_sld hx hb hX hbl hbA hS hz1 (by omega) dL_law_1176 ?_
    refine lv_aload_n hx hb dL_law_1177 rfl (lv_at hl 0 rfl) ?_
    refine lv_iload hx hb dL_law_1178 (lv_at hl 4 rfl) ?_
    refine lv_iconst (v := iI 2) hx hb dL_law_1180 (by decide +kernel) ?_
    refine iv_add hx hb dL_law_1181 ?_
    refine iv_sld hx hb hX hbl hbA hS hz2 (by omega) dL_law_1182 ?_
    refine lv_aload_n hx hb dL_law_1183 rfl (lv_at hl 3 rfl) ?_
    have hP := hP.re (Y := [(x, oRD tx nw tr kn me sl), (nw, oDrv nc S (lN (kL (S) 0 40))), (nc, aI yI 48 g), (kn, oKn pk ex), (ex, aI yI 1681 E), (ou, aL yL ov), (tx, oTx sg tl po lo), (sg, aC yC 100 T), (tr, oDrv tc S2 k2), (tc, aI yI 48 g2), (me, oMem rg nx ct), (rg, aD yD 14 f), (sl, aD yD 2 fs), (mo, oMo th a1 a2 a3 ct a4 a5 a6 tl a7 a8), (a1, aI yI 96 S), (a2, aI yI 96 Kp), (a3, aI yI 1344 Hh), (a4, aI yI 192 Sl), (a5, aI yI 2 Sv), (a6, aI yI 100 T), (a7, aI yI 1681 Bd), (a8, aI yI 1681 B2)]) [0, 3, 4, 7, 8, 21, 1, 2, 5, 6, 9, 10, 11, 12, 13, 14, 15, 16, 17, 18, 19, 20] rfl
    have hD := hD.re (Y := [(x, oRD tx nw tr kn me sl), (nw, oDrv nc S (lN (kL (S) 0 40))), (nc, aI yI 48 g), (kn, oKn pk ex), (ex, aI yI 1681 E), (ou, aL yL ov), (tx, oTx sg tl po lo), (sg, aC yC 100 T), (tr, oDrv tc S2 k2), (tc, aI yI 48 g2), (me, oMem rg nx ct), (rg, aD yD 14 f), (sl, aD yD 2 fs), (mo, oMo th a1 a2 a3 ct a4 a5 a6 tl a7 a8), (a1, aI yI 96 S), (a2, aI yI 96 Kp), (a3, aI yI 1344 Hh), (a4, aI yI 192 Sl), (a5, aI yI 2 Sv), (a6, aI yI 100 T), (a7, aI yI 1681 Bd), (a8, aI yI 1681 B2)]) [0, 3, 4, 7, 8, 21, 1, 2, 5, 6, 9, 10, 11, 12, 13, 14, 15, 16, 17, 18, 19, 20] (by decide) rfl
    refine iv_lawF (cx := [(x, oRD tx nw tr kn me sl), (nw, oDrv nc S (lN (kL (S) 0 40))), (nc, aI yI 48 g), (kn, oKn pk ex), (ex, aI yI 1681 E), (ou, aL yL ov)]) (RR := ([(tx, oTx sg tl po lo), (sg, aC yC 100 T), (tr, oDrv tc S2 k2), (tc, aI yI 48 g2), (me, oMem rg nx ct), (rg, aD yD 14 f), (sl, aD yD 2 fs), (mo, oMo th a1 a2 a3 ct a4 a5 a6 tl a7 a8), (a1, aI yI 96 S), (a2, aI yI 96 Kp), (a3, aI yI 1344 Hh), (a4, aI yI 192 Sl), (a5, aI yI 2 Sv), (a6, aI yI 100 T), (a7, aI yI 1681 Bd), (a8, aI yI 1681 B2)] ++ pl)) (wp := fun (u : Int × (Int → Int)) => match u with | (p9, E9) => [(x, oRD tx nw tr kn me sl), (nw, oDrv nc S (lN (kL (S) 0 40))), (nc, aI yI 48 g), (kn, oKn p9 ex), (ex, aI yI 1681 E9), (ou, aL yL ((iI (if S 1 ≤ z2 - z1 + 1 then worstQ S z1 z2 else -1)).toInt64))]) (As := [.ref x, .int (iI z1), .int (iI z2), .ref ou]) (rest := []) (n := 4) ⟨hx, hb, hml, hown, hts⟩ (c_L_worst_0 l hla D yI yC yD yL x tx nw tr kn me sl nc S g ex pk E z1 z2 ou ov (by first | assumption | omega | exact ⟨hr1, hr2⟩ | exact fun z q1 q2 => by have := hrt z q1 q2; omega) (by first | assumption | omega | exact ⟨hr1, hr2⟩ | exact fun z q1 q2 => by have := hrt z q1 q2; omega) (by first | assumption | omega | exact ⟨hr1, hr2⟩ | exact fun z q1 q2 => by have := hrt z q1 q2; omega) (hc) _) (vx_cwSW 4 hts gL_law_L_worst rfl rfl rfl (by decide +kernel) ⟨Nat.le_of_ble_eq_true rfl, Nat.le_of_ble_eq_true rfl⟩) hK4 hP hD hS hA hB rfl hl.1 rfl (Nat.le_of_ble_eq_true rfl) dL_law_1184 ⟨(by show _ ≤ (601024 : Nat); omega), (by show _ ≤ (7293034 : Nat); omega)⟩ (fun r9 u H locs hw hP hD hS => ?_)
    obtain ⟨p9_h, E9_h⟩ := u
    obtain ⟨hr9, hwr9_h⟩ := hw
    subst hr9
    have hP : va_P D vwCl ([(x, oRD tx nw tr kn me sl), (nw, oDrv nc S (lN (kL (S) 0 40))), (nc, aI yI 48 g), (kn, oKn p9_h ex), (ex, aI yI 1681 E9_h), (ou, aL yL ((iI (if S 1 ≤ z2 - z1 + 1 then worstQ S z1 z2 else -1)).toInt64)), (tx, oTx sg tl po lo), (sg, aC yC 100 T), (tr, oDrv tc S2 k2), (tc, aI yI 48 g2), (me, oMem rg nx ct), (rg, aD yD 14 f), (sl, aD yD 2 fs), (mo, oMo th a1 a2 a3 ct a4 a5 a6 tl a7 a8), (a1, aI yI 96 S), (a2, aI yI 96 Kp), (a3, aI yI 1344 Hh), (a4, aI yI 192 Sl), (a5, aI yI 2 Sv), (a6, aI yI 100 T), (a7, aI yI 1681 Bd), (a8, aI yI 1681 B2)] ++ pl) H := hP
    have hD : va_D (fun q : Nat => s.heap.size ≤ q) ([(x, oRD tx nw tr kn me sl), (nw, oDrv nc S (lN (kL (S) 0 40))), (nc, aI yI 48 g), (kn, oKn p9_h ex), (ex, aI yI 1681 E9_h), (ou, aL yL ((iI (if S 1 ≤ z2 - z1 + 1 then worstQ S z1 z2 else -1)).toInt64)), (tx, oTx sg tl po lo), (sg, aC yC 100 T), (tr, oDrv tc S2 k2), (tc, aI yI 48 g2), (me, oMem rg nx ct), (rg, aD yD 14 f), (sl, aD yD 2 fs), (mo, oMo th a1 a2 a3 ct a4 a5 a6 tl a7 a8), (a1, aI yI 96 S), (a2, aI yI 96 Kp), (a3, aI yI 1344 Hh), (a4, aI yI 192 Sl), (a5, aI yI 2 Sv), (a6, aI yI 100 T), (a7, aI yI 1681 Bd), (a8, aI yI 1681 B2)] ++ pl) := hD
    refine lv_istore (lv' := [(5, .int (iI 0)), (0, .ref b), (1, .ref x), (2, .ref mo), (3, .ref ou), (4, .int (iI i))]) hx hb dL_law_1187 hl (by decide) rfl (fun ls hl => ?_)
    refine lv_aload_n hx hb dL_law_1189 rfl (lv_at hl 3 rfl) ?_
    refine lv_aload_n hx hb dL_law_1190 rfl (lv_at hl 1 rfl) ?_
    refine lv_iload hx hb dL_law_1191 (lv_at hl 5 rfl) ?_
    refine lv_iconst (v := iI 1) hx hb dL_law_1193 (by decide +kernel) ?_
    refine iv_add hx hb dL_law_1194 ?_
    refine iv_sld hx hb hX hbl hbA hS hz1 (by omega) dL_law_1195 ?_
    refine lv_aload_n hx hb dL_law_1196 rfl (lv_at hl 1 rfl) ?_
    refine lv_iload hx hb dL_law_1197 (lv_at hl 5 rfl) ?_
    refine lv_iconst (v := iI 2) hx hb dL_law_1199 (by decide +kernel) ?_
    refine iv_add hx hb dL_law_1200 ?_
    refine iv_sld hx hb hX hbl hbA hS hz2 (by omega) dL_law_1201 ?_
    refine iv_rwV (As := [.int (iI z1), .int (iI z2)]) (rest := []) (C := RX5) (n := 2) ⟨hx, hb, hml, hown, hts⟩ (c_X5_worst l D yI yC yD mo th ct tl a1 a2 a3 a4 a5 a6 a7 a8 S Bd B2 z1 z2 (by assumption) (by assumption) _) (cwV 2 hts gL_law_X5_worst rfl rfl rfl (by decide +kernel) ⟨Nat.le_of_ble_eq_true rfl, Nat.le_of_ble_eq_true rfl⟩) hK hP hD hS hA [13, 14, 20, 21] (by decide) rfl 13 rfl rfl rfl hl.1 rfl (Nat.le_of_ble_eq_true rfl) dL_law_1202 ⟨(by show _ ≤ (601024 : Nat); omega), (by show _ ≤ (7293034 : Nat); omega)⟩ (fun _ => rfl) (fun r1202 u1202 H locs hw1202 hP hD hS => ?_)
    obtain ⟨G91202, G81202⟩ := u1202
    obtain ⟨hr1202, -⟩ := hw1202
    subst hr1202
    have hP : va_P D vwCl ([(x, oRD tx nw tr kn me sl), (nw, oDrv nc S (lN (kL (S) 0 40))), (nc, aI yI 48 g), (kn, oKn p9_h ex), (ex, aI yI 1681 E9_h), (ou, aL yL ((iI (if S 1 ≤ z2 - z1 + 1 then worstQ S z1 z2 else -1)).toInt64)), (tx, oTx sg tl po lo), (sg, aC yC 100 T), (tr, oDrv tc S2 k2), (tc, aI yI 48 g2), (me, oMem rg nx ct), (rg, aD yD 14 f), (sl, aD yD 2 fs), (mo, oMo (whyR S z1 z2) a1 a2 a3 ct a4 a5 a6 tl a7 a8), (a1, aI yI 96 S), (a2, aI yI 96 Kp), (a3, aI yI 1344 Hh), (a4, aI yI 192 Sl), (a5, aI yI 2 Sv), (a6, aI yI 100 T), (a7, aI yI 1681 G91202), (a8, aI yI 1681 G81202)] ++ pl) H := hP
    have hD : va_D (fun q : Nat => s.heap.size ≤ q) ([(x, oRD tx nw tr kn me sl), (nw, oDrv nc S (lN (kL (S) 0 40))), (nc, aI yI 48 g), (kn, oKn p9_h ex), (ex, aI yI 1681 E9_h), (ou, aL yL ((iI (if S 1 ≤ z2 - z1 + 1 then worstQ S z1 z2 else -1)).toInt64)), (tx, oTx sg tl po lo), (sg, aC yC 100 T), (tr, oDrv tc S2 k2), (tc, aI yI 48 g2), (me, oMem rg nx ct), (rg, aD yD 14 f), (sl, aD yD 2 fs), (mo, oMo (whyR S z1 z2) a1 a2 a3 ct a4 a5 a6 tl a7 a8), (a1, aI yI 96 S), (a2, aI yI 96 Kp), (a3, aI yI 1344 Hh), (a4, aI yI 192 Sl), (a5, aI yI 2 Sv), (a6, aI yI 100 T), (a7, aI yI 1681 G91202), (a8, aI yI 1681 G81202)] ++ pl) := hD
    have hth : (whyR S z1 z2 : Int) = 0 := by first | exact bI_f (not_not_intro hc) | exact bI_t hc | exact hc | rfl
    have hP : va_P D vwCl ([(x, oRD tx nw tr kn me sl), (nw, oDrv nc S (lN (kL (S) 0 40))), (nc, aI yI 48 g), (kn, oKn p9_h ex), (ex, aI yI 1681 E9_h), (ou, aL yL ((iI (if S 1 ≤ z2 - z1 + 1 then worstQ S z1 z2 else -1)).toInt64)), (tx, oTx sg tl po lo), (sg, aC yC 100 T), (tr, oDrv tc S2 k2), (tc, aI yI 48 g2), (me, oMem rg nx ct), (rg, aD yD 14 f), (sl, aD yD 2 fs), (mo, oMo 0 a1 a2 a3 ct a4 a5 a6 tl a7 a8), (a1, aI yI 96 S), (a2, aI yI 96 Kp), (a3, aI yI 1344 Hh), (a4, aI yI 192 Sl), (a5, aI yI 2 Sv), (a6, aI yI 100 T), (a7, aI yI 1681 G91202), (a8, aI yI 1681 G81202)] ++ pl) H := hP.cv (by (try simp only [if_pos hc]); (try simp only [hth]))
    have hD : va_D (fun q : Nat => s.heap.size ≤ q) ([(x, oRD tx nw tr kn me sl), (nw, oDrv nc S (lN (kL (S) 0 40))), (nc, aI yI 48 g), (kn, oKn p9_h ex), (ex, aI yI 1681 E9_h), (ou, aL yL ((iI (if S 1 ≤ z2 - z1 + 1 then worstQ S z1 z2 else -1)).toInt64)), (tx, oTx sg tl po lo), (sg, aC yC 100 T), (tr, oDrv tc S2 k2), (tc, aI yI 48 g2), (me, oMem rg nx ct), (rg, aD yD 14 f), (sl, aD yD 2 fs), (mo, oMo 0 a1 a2 a3 ct a4 a5 a6 tl a7 a8), (a1, aI yI 96 S), (a2, aI yI 96 Kp), (a3, aI yI 1344 Hh), (a4, aI yI 192 Sl), (a5, aI yI 2 Sv), (a6, aI yI 100 T), (a7, aI yI 1681 G91202), (a8, aI yI 1681 G81202)] ++ pl) := hD.cv (by (try simp only [if_pos hc]); (try simp only [hth]))
    rw [show ((if whyR S z1 z2 = 0 then (if S 1 ≤ z2 - z1 + 1 then worstQ S z1 z2 else -1) else 0) : Int) = if S 1 ≤ z2 - z1 + 1 then worstQ S z1 z2 else -1 from if_pos hc]
    refine lv_istore (lv' := [(6, .int (iI (if S 1 ≤ z2 - z1 + 1 then worstQ S z1 z2 else -1))), (5, .int (iI 0)), (0, .ref b), (1, .ref x), (2, .ref mo), (3, .ref ou), (4, .int (iI i))]) hx hb dL_law_1205 hl (by decide) rfl (fun ls hl => ?_)
    refine lv_aload_n hx hb dL_law_1207 rfl (lv_at hl 4 rfl) ?_
    refine iv_roV (As := []) (rest := []) (C := RX5) (n := 0) ⟨hx, hb, hml, hown, hts⟩ (c_X5_thrown l D yI yC yD mo 0 ct tl a1 a2 a3 a4 a5 a6 a7 a8 ) (cwV 0 hts gL_law_X5_thrown rfl rfl rfl (by decide +kernel) ⟨Nat.le_of_ble_eq_true rfl, Nat.le_of_ble_eq_true rfl⟩) hK hP [13] rfl 13 rfl rfl rfl hl.1 rfl (Nat.le_of_ble_eq_true rfl) dL_law_1208 ⟨(by show _ ≤ (601024 : Nat); omega), (by show _ ≤ (7293034 : Nat); omega)⟩ ?_
    refine lv_iload hx hb dL_law_1211 (lv_at hl 1 rfl) ?_
    refine lv_icmp_eq (x := iI 0) (y := iI 0) (tgt := 1218) hx hb dL_law_1213 (by decide) (fun c1213 => ?_) (fun c1213 => ?_)
    · refine lv_iload hx hb dL_law_1218 (lv_at hl 1 rfl) ?_
      refine iv_if_ne (a := 0) (tgt := 1235) hx hb (by omega) dL_law_1220 (by decide) (fun c1220 => ?_) (fun c1220 => ?_)
      · exact absurd c1220 (by omega)
      · refine lv_aload_n hx hb dL_law_1223 rfl (lv_at hl 5 rfl) ?_
        refine lv_iconst (v := iI 0) hx hb dL_law_1224 (by decide +kernel) ?_
        refine iv_lld hx hb hK4 hP 5 3 rfl rfl dL_law_1225 ?_
        refine lv_iload hx hb dL_law_1226 (lv_at hl 0 rfl) ?_
        refine lv_i2l (v := (iI (if S 1 ≤ z2 - z1 + 1 then worstQ S z1 z2 else -1)).toInt64) hx hb dL_law_1228 rfl ?_
        refine iv_lcmp (z := 0) hx hb (cmp_self _) dL_law_1229 ?_
        refine iv_if_eq (a := 0) (tgt := 1235) hx hb (by omega) dL_law_1230 (by decide) (fun c1230 => ?_) (fun c1230 => ?_)
        · refine lv_goto (tgt := 1563) hx hb dL_law_1235 (by decide) ?_
          have hP9 : va_P D vwCl ([(x, oRD tx nw tr kn me sl), (tx, oTx sg tl po lo), (sg, aC yC 100 T), (nw, oDrv nc S (lN (kL (S) 0 40))), (nc, aI yI 48 g), (tr, oDrv tc S2 k2), (tc, aI yI 48 g2), (kn, oKn p9_h ex), (ex, aI yI 1681 E9_h), (me, oMem rg nx ct), (rg, aD yD 14 f), (sl, aD yD 2 fs), (mo, oMo 0 a1 a2 a3 ct a4 a5 a6 tl a7 a8), (a1, aI yI 96 S), (a2, aI yI 96 Kp), (a3, aI yI 1344 Hh), (a4, aI yI 192 Sl), (a5, aI yI 2 Sv), (a6, aI yI 100 T), (a7, aI yI 1681 G91202), (a8, aI yI 1681 G81202), (ou, aL yL ((iI (if S 1 ≤ z2 - z1 + 1 then worstQ S z1 z2 else -1)).toInt64))] ++ pl) _ := hP.re [0, 6, 7, 1, 2, 8, 9, 3, 4, 10, 11, 12, 13, 14, 15, 16, 17, 18, 19, 20, 21, 5] rfl
          have hD9 : va_D (fun q : Nat => s.heap.size ≤ q) ([(x, oRD tx nw tr kn me sl), (tx, oTx sg tl po lo), (sg, aC yC 100 T), (nw, oDrv nc S (lN (kL (S) 0 40))), (nc, aI yI 48 g), (tr, oDrv tc S2 k2), (tc, aI yI 48 g2), (kn, oKn p9_h ex), (ex, aI yI 1681 E9_h), (me, oMem rg nx ct), (rg, aD yD 14 f), (sl, aD yD 2 fs), (mo, oMo 0 a1 a2 a3 ct a4 a5 a6 tl a7 a8), (a1, aI yI 96 S), (a2, aI yI 96 Kp), (a3, aI yI 1344 Hh), (a4, aI yI 192 Sl), (a5, aI yI 2 Sv), (a6, aI yI 100 T), (a7, aI yI 1681 G91202), (a8, aI yI 1681 G81202), (ou, aL yL ((iI (if S 1 ≤ z2 - z1 + 1 then worstQ S z1 z2 else -1)).toInt64))] ++ pl) := hD.re [0, 6, 7, 1, 2, 8, 9, 3, 4, 10, 11, 12, 13, 14, 15, 16, 17, 18, 19, 20, 21, 5] (by decide) rfl
          rw [← hplq] at hP9 hD9
          refine W.widen (k := cells + 8) (n := slots + 150) (by omega) (by omega) ?_
          exact K _ _ _ ⟨x, tx, sg, nw, nc, tr, tc, kn, ex, me, rg, sl, mo, a1, a2, a3, a4, a5, a6, a7, a8, ou, T, S, g, S2, g2, E9_h, Kp, Hh, Sl, Sv, G91202, G81202, tl, po, lo, p9_h, nx, ct, 0, k2, ((iI (if S 1 ≤ z2 - z1 + 1 then worstQ S z1 z2 else -1)).toInt64), f, fs, en, hP9, hD9, hS, lv_sub hl [2, 3, 4, 5, 6] rfl, hI, hR, htl, hrt, hme, hsv, hfO, hrO, hsO⟩
        · exact absurd c1230 (by omega)
    · exact absurd rfl c1213
  · refine lv_aload_n hx hb dL_law_1170 rfl (lv_at hl 1 rfl) ?_
    refine lv_aload_n hx hb dL_law_1171 rfl (lv_at hl 0 rfl) ?_
    refine lv_iload hx hb dL_law_1172 (lv_at hl 4 rfl) ?_
    refine lv_iconst (v := iI 1) hx hb dL_law_1174 (by decide +kernel) ?_
    refine iv_add hx hb dL_law_1175 ?_
    refine iv_sld hx hb hX hbl hbA hS hz1 (by omega) dL_law_1176 ?_
    refine lv_aload_n hx hb dL_law_1177 rfl (lv_at hl 0 rfl) ?_
    refine lv_iload hx hb dL_law_1178 (lv_at hl 4 rfl) ?_
    refine lv_iconst (v := iI 2) hx hb dL_law_1180 (by decide +kernel) ?_
    refine iv_add hx hb dL_law_1181 ?_
    refine iv_sld hx hb hX hbl hbA hS hz2 (by omega) dL_law_1182 ?_
    refine lv_aload_n hx hb dL_law_1183 rfl (lv_at hl 3 rfl) ?_
    have hP := hP.re (Y := [(x, oRD tx nw tr kn me sl), (nw, oDrv nc S (lN (kL (S) 0 40))), (nc, aI yI 48 g), (kn, oKn pk ex), (ex, aI yI 1681 E), (ou, aL yL ov), (tx, oTx sg tl po lo), (sg, aC yC 100 T), (tr, oDrv tc S2 k2), (tc, aI yI 48 g2), (me, oMem rg nx ct), (rg, aD yD 14 f), (sl, aD yD 2 fs), (mo, oMo th a1 a2 a3 ct a4 a5 a6 tl a7 a8), (a1, aI yI 96 S), (a2, aI yI 96 Kp), (a3, aI yI 1344 Hh), (a4, aI yI 192 Sl), (a5, aI yI 2 Sv), (a6, aI yI 100 T), (a7, aI yI 1681 Bd), (a8, aI yI 1681 B2)]) [0, 3, 4, 7, 8, 21, 1, 2, 5, 6, 9, 10, 11, 12, 13, 14, 15, 16, 17, 18, 19, 20] rfl
    have hD := hD.re (Y := [(x, oRD tx nw tr kn me sl), (nw, oDrv nc S (lN (kL (S) 0 40))), (nc, aI yI 48 g), (kn, oKn pk ex), (ex, aI yI 1681 E), (ou, aL yL ov), (tx, oTx sg tl po lo), (sg, aC yC 100 T), (tr, oDrv tc S2 k2), (tc, aI yI 48 g2), (me, oMem rg nx ct), (rg, aD yD 14 f), (sl, aD yD 2 fs), (mo, oMo th a1 a2 a3 ct a4 a5 a6 tl a7 a8), (a1, aI yI 96 S), (a2, aI yI 96 Kp), (a3, aI yI 1344 Hh), (a4, aI yI 192 Sl), (a5, aI yI 2 Sv), (a6, aI yI 100 T), (a7, aI yI 1681 Bd), (a8, aI yI 1681 B2)]) [0, 3, 4, 7, 8, 21, 1, 2, 5, 6, 9, 10, 11, 12, 13, 14, 15, 16, 17, 18, 19, 20] (by decide) rfl
    refine iv_lawF (cx := [(x, oRD tx nw tr kn me sl), (nw, oDrv nc S (lN (kL (S) 0 40))), (nc, aI yI 48 g), (kn, oKn pk ex), (ex, aI yI 1681 E), (ou, aL yL ov)]) (RR := ([(tx, oTx sg tl po lo), (sg, aC yC 100 T), (tr, oDrv tc S2 k2), (tc, aI yI 48 g2), (me, oMem rg nx ct), (rg, aD yD 14 f), (sl, aD yD 2 fs), (mo, oMo th a1 a2 a3 ct a4 a5 a6 tl a7 a8), (a1, aI yI 96 S), (a2, aI yI 96 Kp), (a3, aI yI 1344 Hh), (a4, aI yI 192 Sl), (a5, aI yI 2 Sv), (a6, aI yI 100 T), (a7, aI yI 1681 Bd), (a8, aI yI 1681 B2)] ++ pl)) (wp := fun (_ : Unit) => [(x, oRD tx nw tr kn me sl), (nw, oDrv nc S (lN (kL (S) 0 40))), (nc, aI yI 48 g), (kn, oKn pk ex), (ex, aI yI 1681 E), (ou, aL yL ov)]) (As := [.ref x, .int (iI z1), .int (iI z2), .ref ou]) (rest := []) (n := 4) ⟨hx, hb, hml, hown, hts⟩ (c_L_worst_1 l hla D yI yC yD yL x tx nw tr kn me sl nc S g ex pk E z1 z2 ou ov (by first | assumption | omega | exact ⟨hr1, hr2⟩ | exact fun z q1 q2 => by have := hrt z q1 q2; omega) (by first | assumption | omega | exact ⟨hr1, hr2⟩ | exact fun z q1 q2 => by have := hrt z q1 q2; omega) (by first | assumption | omega | exact ⟨hr1, hr2⟩ | exact fun z q1 q2 => by have := hrt z q1 q2; omega) (hc) _) (vx_cwSW 4 hts gL_law_L_worst rfl rfl rfl (by decide +kernel) ⟨Nat.le_of_ble_eq_true rfl, Nat.le_of_ble_eq_true rfl⟩) hK4 hP hD hS hA hB rfl hl.1 rfl (Nat.le_of_ble_eq_true rfl) dL_law_1184 ⟨(by show _ ≤ (601024 : Nat); omega), (by show _ ≤ (7293034 : Nat); omega)⟩ (fun r9 u H locs hw hP hD hS => ?_)
    obtain ⟨hr9, -⟩ := hw
    subst hr9
    have hP : va_P D vwCl ([(x, oRD tx nw tr kn me sl), (nw, oDrv nc S (lN (kL (S) 0 40))), (nc, aI yI 48 g), (kn, oKn pk ex), (ex, aI yI 1681 E), (ou, aL yL ov), (tx, oTx sg tl po lo), (sg, aC yC 100 T), (tr, oDrv tc S2 k2), (tc, aI yI 48 g2), (me, oMem rg nx ct), (rg, aD yD 14 f), (sl, aD yD 2 fs), (mo, oMo th a1 a2 a3 ct a4 a5 a6 tl a7 a8), (a1, aI yI 96 S), (a2, aI yI 96 Kp), (a3, aI yI 1344 Hh), (a4, aI yI 192 Sl), (a5, aI yI 2 Sv), (a6, aI yI 100 T), (a7, aI yI 1681 Bd), (a8, aI yI 1681 B2)] ++ pl) H := hP
    have hD : va_D (fun q : Nat => s.heap.size ≤ q) ([(x, oRD tx nw tr kn me sl), (nw, oDrv nc S (lN (kL (S) 0 40))), (nc, aI yI 48 g), (kn, oKn pk ex), (ex, aI yI 1681 E), (ou, aL yL ov), (tx, oTx sg tl po lo), (sg, aC yC 100 T), (tr, oDrv tc S2 k2), (tc, aI yI 48 g2), (me, oMem rg nx ct), (rg, aD yD 14 f), (sl, aD yD 2 fs), (mo, oMo th a1 a2 a3 ct a4 a5 a6 tl a7 a8), (a1, aI yI 96 S), (a2, aI yI 96 Kp), (a3, aI yI 1344 Hh), (a4, aI yI 192 Sl), (a5, aI yI 2 Sv), (a6, aI yI 100 T), (a7, aI yI 1681 Bd), (a8, aI yI 1681 B2)] ++ pl) := hD
    refine lv_istore (lv' := [(5, .int (iI (whyR S z1 z2))), (0, .ref b), (1, .ref x), (2, .ref mo), (3, .ref ou), (4, .int (iI i))]) hx hb dL_law_1187 hl (by decide) rfl (fun ls hl => ?_)
    refine lv_aload_n hx hb dL_law_1189 rfl (lv_at hl 3 rfl) ?_
    refine lv_aload_n hx hb dL_law_1190 rfl (lv_at hl 1 rfl) ?_
    refine lv_iload hx hb dL_law_1191 (lv_at hl 5 rfl) ?_
    refine lv_iconst (v := iI 1) hx hb dL_law_1193 (by decide +kernel) ?_
    refine iv_add hx hb dL_law_1194 ?_
    refine iv_sld hx hb hX hbl hbA hS hz1 (by omega) dL_law_1195 ?_
    refine lv_aload_n hx hb dL_law_1196 rfl (lv_at hl 1 rfl) ?_
    refine lv_iload hx hb dL_law_1197 (lv_at hl 5 rfl) ?_
    refine lv_iconst (v := iI 2) hx hb dL_law_1199 (by decide +kernel) ?_
    refine iv_add hx hb dL_law_1200 ?_
    refine iv_sld hx hb hX hbl hbA hS hz2 (by omega) dL_law_1201 ?_
    refine iv_rwV (As := [.int (iI z1), .int (iI z2)]) (rest := []) (C := RX5) (n := 2) ⟨hx, hb, hml, hown, hts⟩ (c_X5_worst l D yI yC yD mo th ct tl a1 a2 a3 a4 a5 a6 a7 a8 S Bd B2 z1 z2 (by assumption) (by assumption) _) (cwV 2 hts gL_law_X5_worst rfl rfl rfl (by decide +kernel) ⟨Nat.le_of_ble_eq_true rfl, Nat.le_of_ble_eq_true rfl⟩) hK hP hD hS hA [13, 14, 20, 21] (by decide) rfl 13 rfl rfl rfl hl.1 rfl (Nat.le_of_ble_eq_true rfl) dL_law_1202 ⟨(by show _ ≤ (601024 : Nat); omega), (by show _ ≤ (7293034 : Nat); omega)⟩ (fun _ => rfl) (fun r1202 u1202 H locs hw1202 hP hD hS => ?_)
    obtain ⟨G91202, G81202⟩ := u1202
    obtain ⟨hr1202, -⟩ := hw1202
    subst hr1202
    have hP : va_P D vwCl ([(x, oRD tx nw tr kn me sl), (nw, oDrv nc S (lN (kL (S) 0 40))), (nc, aI yI 48 g), (kn, oKn pk ex), (ex, aI yI 1681 E), (ou, aL yL ov), (tx, oTx sg tl po lo), (sg, aC yC 100 T), (tr, oDrv tc S2 k2), (tc, aI yI 48 g2), (me, oMem rg nx ct), (rg, aD yD 14 f), (sl, aD yD 2 fs), (mo, oMo (whyR S z1 z2) a1 a2 a3 ct a4 a5 a6 tl a7 a8), (a1, aI yI 96 S), (a2, aI yI 96 Kp), (a3, aI yI 1344 Hh), (a4, aI yI 192 Sl), (a5, aI yI 2 Sv), (a6, aI yI 100 T), (a7, aI yI 1681 G91202), (a8, aI yI 1681 G81202)] ++ pl) H := hP
    have hD : va_D (fun q : Nat => s.heap.size ≤ q) ([(x, oRD tx nw tr kn me sl), (nw, oDrv nc S (lN (kL (S) 0 40))), (nc, aI yI 48 g), (kn, oKn pk ex), (ex, aI yI 1681 E), (ou, aL yL ov), (tx, oTx sg tl po lo), (sg, aC yC 100 T), (tr, oDrv tc S2 k2), (tc, aI yI 48 g2), (me, oMem rg nx ct), (rg, aD yD 14 f), (sl, aD yD 2 fs), (mo, oMo (whyR S z1 z2) a1 a2 a3 ct a4 a5 a6 tl a7 a8), (a1, aI yI 96 S), (a2, aI yI 96 Kp), (a3, aI yI 1344 Hh), (a4, aI yI 192 Sl), (a5, aI yI 2 Sv), (a6, aI yI 100 T), (a7, aI yI 1681 G91202), (a8, aI yI 1681 G81202)] ++ pl) := hD
    rw [show ((if whyR S z1 z2 = 0 then (if S 1 ≤ z2 - z1 + 1 then worstQ S z1 z2 else -1) else 0) : Int) = 0 from if_neg hc]
    refine lv_istore (lv' := [(6, .int (iI 0)), (5, .int (iI (whyR S z1 z2))), (0, .ref b), (1, .ref x), (2, .ref mo), (3, .ref ou), (4, .int (iI i))]) hx hb dL_law_1205 hl (by decide) rfl (fun ls hl => ?_)
    refine lv_aload_n hx hb dL_law_1207 rfl (lv_at hl 4 rfl) ?_
    refine iv_roV (As := []) (rest := []) (C := RX5) (n := 0) ⟨hx, hb, hml, hown, hts⟩ (c_X5_thrown l D yI yC yD mo (whyR S z1 z2) ct tl a1 a2 a3 a4 a5 a6 a7 a8 ) (cwV 0 hts gL_law_X5_thrown rfl rfl rfl (by decide +kernel) ⟨Nat.le_of_ble_eq_true rfl, Nat.le_of_ble_eq_true rfl⟩) hK hP [13] rfl 13 rfl rfl rfl hl.1 rfl (Nat.le_of_ble_eq_true rfl) dL_law_1208 ⟨(by show _ ≤ (601024 : Nat); omega), (by show _ ≤ (7293034 : Nat); omega)⟩ ?_
    refine lv_iload hx hb dL_law_1211 (lv_at hl 1 rfl) ?_
    refine lv_icmp_eq (x := iI (whyR S z1 z2)) (y := iI (whyR S z1 z2)) (tgt := 1218) hx hb dL_law_1213 (by decide) (fun c1213 => ?_) (fun c1213 => ?_)
    · refine lv_iload hx hb dL_law_1218 (lv_at hl 1 rfl) ?_
      refine iv_if_ne (a := whyR S z1 z2) (tgt := 1235) hx hb (by omega) dL_law_1220 (by decide) (fun c1220 => ?_) (fun c1220 => ?_)
      · refine lv_goto (tgt := 1563) hx hb dL_law_1235 (by decide) ?_
        have hP9 : va_P D vwCl ([(x, oRD tx nw tr kn me sl), (tx, oTx sg tl po lo), (sg, aC yC 100 T), (nw, oDrv nc S (lN (kL (S) 0 40))), (nc, aI yI 48 g), (tr, oDrv tc S2 k2), (tc, aI yI 48 g2), (kn, oKn pk ex), (ex, aI yI 1681 E), (me, oMem rg nx ct), (rg, aD yD 14 f), (sl, aD yD 2 fs), (mo, oMo (whyR S z1 z2) a1 a2 a3 ct a4 a5 a6 tl a7 a8), (a1, aI yI 96 S), (a2, aI yI 96 Kp), (a3, aI yI 1344 Hh), (a4, aI yI 192 Sl), (a5, aI yI 2 Sv), (a6, aI yI 100 T), (a7, aI yI 1681 G91202), (a8, aI yI 1681 G81202), (ou, aL yL ov)] ++ pl) _ := hP.re [0, 6, 7, 1, 2, 8, 9, 3, 4, 10, 11, 12, 13, 14, 15, 16, 17, 18, 19, 20, 21, 5] rfl
        have hD9 : va_D (fun q : Nat => s.heap.size ≤ q) ([(x, oRD tx nw tr kn me sl), (tx, oTx sg tl po lo), (sg, aC yC 100 T), (nw, oDrv nc S (lN (kL (S) 0 40))), (nc, aI yI 48 g), (tr, oDrv tc S2 k2), (tc, aI yI 48 g2), (kn, oKn pk ex), (ex, aI yI 1681 E), (me, oMem rg nx ct), (rg, aD yD 14 f), (sl, aD yD 2 fs), (mo, oMo (whyR S z1 z2) a1 a2 a3 ct a4 a5 a6 tl a7 a8), (a1, aI yI 96 S), (a2, aI yI 96 Kp), (a3, aI yI 1344 Hh), (a4, aI yI 192 Sl), (a5, aI yI 2 Sv), (a6, aI yI 100 T), (a7, aI yI 1681 G91202), (a8, aI yI 1681 G81202), (ou, aL yL ov)] ++ pl) := hD.re [0, 6, 7, 1, 2, 8, 9, 3, 4, 10, 11, 12, 13, 14, 15, 16, 17, 18, 19, 20, 21, 5] (by decide) rfl
        rw [← hplq] at hP9 hD9
        refine W.widen (k := cells + 8) (n := slots + 150) (by omega) (by omega) ?_
        exact K _ _ _ ⟨x, tx, sg, nw, nc, tr, tc, kn, ex, me, rg, sl, mo, a1, a2, a3, a4, a5, a6, a7, a8, ou, T, S, g, S2, g2, E, Kp, Hh, Sl, Sv, G91202, G81202, tl, po, lo, pk, nx, ct, (whyR S z1 z2), k2, ov, f, fs, en, hP9, hD9, hS, lv_sub hl [2, 3, 4, 5, 6] rfl, hI, hR, htl, hrt, hme, hsv, hfO, hrO, hsO⟩
      · exfalso; omega
    · exact absurd rfl c1213
set_option maxHeartbeats 8000000 in
set_option maxRecDepth 100000 in
theorem lc_leastWorth {p : Program} {e : Env} {s : State} {m : MethodId} {below : List Frame} {meth : Method} {c : Code} (l : Launch) (hla : l.stackTraces = false) {b L : Nat} {xs : Nat → Int32} (C0 : lw_At p s m meth c b L xs) (D : va_G) (yI yC yD yL : ClassId) (hK4 : va_K D vwCl (tyl yI yC yD yL) s) (hB : XB (fun q : Nat => s.heap.size ≤ q) s s.heap) {Q : State → Prop} {cells slots : Nat} (hroom : cells + 8 ≤ 601024 ∧ slots + 150 ≤ 7293034) {i : Int} (hi : 0 ≤ i ∧ i + 4 ≤ L ∧ L ≤ 2048) {H : Heap} {locs : List Loc} {ls : Array Slot} (hLI : LI D yI yC yD yL s b i H locs ls) (K : ∀ (H : Heap) (locs : List Loc) (ls : Array Slot), LI D yI yC yD yL s b i H locs ls → W p l e room_1 s m #[Value.ref b] below meth c H locs (cells + 8) (slots + 150) Q (F0 m 1563 ls [])) : W p l e room_1 s m #[Value.ref b] below meth c H locs cells slots Q (F0 m 1238 ls []) := by
  obtain ⟨hx, hb, hr, hml, hown, hts, hX, hbl, hlocks, hgv⟩ := id C0
  have hA : ∀ q : Nat, s.heap.size ≤ q → (fun q : Nat => s.heap.size ≤ q) q := fun _ h => h
  have hbA : ¬ (fun q : Nat => s.heap.size ≤ q) b := Nat.not_le.mpr hbl
  have hK : va_K D vwCl (tyz yI yC yD) s := hK4.sub [0, 1, 2] rfl
  obtain ⟨x, tx, sg, nw, nc, tr, tc, kn, ex, me, rg, sl, mo, a1, a2, a3, a4, a5, a6, a7, a8, ou, T, S, g, S2, g2, E, Kp, Hh, Sl, Sv, Bd, B2, tl, po, lo, pk, nx, ct, th, k2, ov, f, fs, en, hP, hD, hS, hl, hI, hR, htl, hrt, hme, hsv, hfO, hrO, hsO⟩ := hLI
  obtain ⟨z1, hz1, hr1⟩ : ∃ z, xs (i + 1).toNat = iI z ∧ inR z := ⟨_, iI_of _, iI_rng _⟩
  obtain ⟨z2, hz2, hr2⟩ : ∃ z, xs (i + 2).toNat = iI z ∧ inR z := ⟨_, iI_of _, iI_rng _⟩
  obtain ⟨z3, hz3, hr3⟩ : ∃ z, xs (i + 3).toNat = iI z ∧ inR z := ⟨_, iI_of _, iI_rng _⟩
  have hpl := hI.pl
  have hna := hI.na
  have hre : 0 ≤ ct ∧ ct ≤ 14 := ⟨hme.2.2.1, hme.2.2.2⟩
  have hrt6 : ∀ z, 0 ≤ z → z < tl → 0 ≤ T z ∧ T z < 65536 := fun z q1 q2 => by have := hrt z q1 q2; omega
  have hr12 : inR z1 ∧ inR z2 := ⟨hr1, hr2⟩
  generalize hplq : plE yI en 16 = pl at hP hD
  have hP : va_P D vwCl ([(x, oRD tx nw tr kn me sl), (tx, oTx sg tl po lo), (sg, aC yC 100 T), (nw, oDrv nc S (lN (kL (S) 0 40))), (nc, aI yI 48 g), (tr, oDrv tc S2 k2), (tc, aI yI 48 g2), (kn, oKn pk ex), (ex, aI yI 1681 E), (me, oMem rg nx ct), (rg, aD yD 14 f), (sl, aD yD 2 fs), (mo, oMo th a1 a2 a3 ct a4 a5 a6 tl a7 a8), (a1, aI yI 96 S), (a2, aI yI 96 Kp), (a3, aI yI 1344 Hh), (a4, aI yI 192 Sl), (a5, aI yI 2 Sv), (a6, aI yI 100 T), (a7, aI yI 1681 Bd), (a8, aI yI 1681 B2), (ou, aL yL ov)] ++ pl) H := hP
  refine lv_aload_n hx hb dL_law_1238 rfl (lv_at hl 1 rfl) ?_
  refine iv_rwV (As := []) (rest := []) (C := RX4) (n := 0) ⟨hx, hb, hml, hown, hts⟩ (c_X4_leastWorth l D yI yC yD x tx nw tr kn me sl nc S g ex pk E (by assumption) (by assumption) _) (cwV 0 hts gL_law_X4_leastWorth rfl rfl rfl (by decide +kernel) ⟨Nat.le_of_ble_eq_true rfl, Nat.le_of_ble_eq_true rfl⟩) hK hP hD hS hA [0, 3, 4, 7, 8] (by decide) rfl 0 rfl rfl rfl hl.1 rfl (Nat.le_of_ble_eq_true rfl) dL_law_1239 ⟨(by show _ ≤ (601024 : Nat); omega), (by show _ ≤ (7293034 : Nat); omega)⟩ (fun _ => rfl) (fun r1239 u1239 H locs hw1239 hP hD hS => ?_)
  obtain ⟨p91239, E91239⟩ := u1239
  obtain ⟨hr1239, -⟩ := hw1239
  subst hr1239
  have hP : va_P D vwCl ([(x, oRD tx nw tr kn me sl), (tx, oTx sg tl po lo), (sg, aC yC 100 T), (nw, oDrv nc S (lN (kL (S) 0 40))), (nc, aI yI 48 g), (tr, oDrv tc S2 k2), (tc, aI yI 48 g2), (kn, oKn p91239 ex), (ex, aI yI 1681 E91239), (me, oMem rg nx ct), (rg, aD yD 14 f), (sl, aD yD 2 fs), (mo, oMo th a1 a2 a3 ct a4 a5 a6 tl a7 a8), (a1, aI yI 96 S), (a2, aI yI 96 Kp), (a3, aI yI 1344 Hh), (a4, aI yI 192 Sl), (a5, aI yI 2 Sv), (a6, aI yI 100 T), (a7, aI yI 1681 Bd), (a8, aI yI 1681 B2), (ou, aL yL ov)] ++ pl) H := hP
  have hD : va_D (fun q : Nat => s.heap.size ≤ q) ([(x, oRD tx nw tr kn me sl), (tx, oTx sg tl po lo), (sg, aC yC 100 T), (nw, oDrv nc S (lN (kL (S) 0 40))), (nc, aI yI 48 g), (tr, oDrv tc S2 k2), (tc, aI yI 48 g2), (kn, oKn p91239 ex), (ex, aI yI 1681 E91239), (me, oMem rg nx ct), (rg, aD yD 14 f), (sl, aD yD 2 fs), (mo, oMo th a1 a2 a3 ct a4 a5 a6 tl a7 a8), (a1, aI yI 96 S), (a2, aI yI 96 Kp), (a3, aI yI 1344 Hh), (a4, aI yI 192 Sl), (a5, aI yI 2 Sv), (a6, aI yI 100 T), (a7, aI yI 1681 Bd), (a8, aI yI 1681 B2), (ou, aL yL ov)] ++ pl) := hD
  refine lv_aload_n hx hb dL_law_1242 rfl (lv_at hl 2 rfl) ?_
  refine iv_rwV (As := []) (rest := [.int (iI (leastW S))]) (C := RX5) (n := 0) ⟨hx, hb, hml, hown, hts⟩ (c_X5_leastWorth l D yI yC yD mo th ct tl a1 a2 a3 a4 a5 a6 a7 a8 S Bd (by assumption) _) (cwV 0 hts gL_law_X5_leastWorth rfl rfl rfl (by decide +kernel) ⟨Nat.le_of_ble_eq_true rfl, Nat.le_of_ble_eq_true rfl⟩) hK hP hD hS hA [12, 13, 19] (by decide) rfl 12 rfl rfl rfl hl.1 rfl (Nat.le_of_ble_eq_true rfl) dL_law_1243 ⟨(by show _ ≤ (601024 : Nat); omega), (by show _ ≤ (7293034 : Nat); omega)⟩ (fun _ => rfl) (fun r1243 u1243 H locs hw1243 hP hD hS => ?_)
  obtain ⟨G91243, hu1243⟩ : ∃ z, z = u1243 := ⟨_, rfl⟩
  subst hu1243
  obtain ⟨hr1243, -⟩ := hw1243
  subst hr1243
  have hP : va_P D vwCl ([(x, oRD tx nw tr kn me sl), (tx, oTx sg tl po lo), (sg, aC yC 100 T), (nw, oDrv nc S (lN (kL (S) 0 40))), (nc, aI yI 48 g), (tr, oDrv tc S2 k2), (tc, aI yI 48 g2), (kn, oKn p91239 ex), (ex, aI yI 1681 E91239), (me, oMem rg nx ct), (rg, aD yD 14 f), (sl, aD yD 2 fs), (mo, oMo 0 a1 a2 a3 ct a4 a5 a6 tl a7 a8), (a1, aI yI 96 S), (a2, aI yI 96 Kp), (a3, aI yI 1344 Hh), (a4, aI yI 192 Sl), (a5, aI yI 2 Sv), (a6, aI yI 100 T), (a7, aI yI 1681 G91243), (a8, aI yI 1681 B2), (ou, aL yL ov)] ++ pl) H := hP
  have hD : va_D (fun q : Nat => s.heap.size ≤ q) ([(x, oRD tx nw tr kn me sl), (tx, oTx sg tl po lo), (sg, aC yC 100 T), (nw, oDrv nc S (lN (kL (S) 0 40))), (nc, aI yI 48 g), (tr, oDrv tc S2 k2), (tc, aI yI 48 g2), (kn, oKn p91239 ex), (ex, aI yI 1681 E91239), (me, oMem rg nx ct), (rg, aD yD 14 f), (sl, aD yD 2 fs), (mo, oMo 0 a1 a2 a3 ct a4 a5 a6 tl a7 a8), (a1, aI yI 96 S), (a2, aI yI 96 Kp), (a3, aI yI 1344 Hh), (a4, aI yI 192 Sl), (a5, aI yI 2 Sv), (a6, aI yI 100 T), (a7, aI yI 1681 G91243), (a8, aI yI 1681 B2), (ou, aL yL ov)] ++ pl) := hD
  refine lv_icmp_eq (x := iI (leastW S)) (y := iI (leastW S)) (tgt := 1563) hx hb dL_law_1246 (by decide) (fun c1246 => ?_) (fun c1246 => ?_)
  · have hP9 : va_P D vwCl ([(x, oRD tx nw tr kn me sl), (tx, oTx sg tl po lo), (sg, aC yC 100 T), (nw, oDrv nc S (lN (kL (S) 0 40))), (nc, aI yI 48 g), (tr, oDrv tc S2 k2), (tc, aI yI 48 g2), (kn, oKn p91239 ex), (ex, aI yI 1681 E91239), (me, oMem rg nx ct), (rg, aD yD 14 f), (sl, aD yD 2 fs), (mo, oMo 0 a1 a2 a3 ct a4 a5 a6 tl a7 a8), (a1, aI yI 96 S), (a2, aI yI 96 Kp), (a3, aI yI 1344 Hh), (a4, aI yI 192 Sl), (a5, aI yI 2 Sv), (a6, aI yI 100 T), (a7, aI yI 1681 G91243), (a8, aI yI 1681 B2), (ou, aL yL ov)] ++ pl) _ := hP.re [0, 1, 2, 3, 4, 5, 6, 7, 8, 9, 10, 11, 12, 13, 14, 15, 16, 17, 18, 19, 20, 21] rfl
    have hD9 : va_D (fun q : Nat => s.heap.size ≤ q) ([(x, oRD tx nw tr kn me sl), (tx, oTx sg tl po lo), (sg, aC yC 100 T), (nw, oDrv nc S (lN (kL (S) 0 40))), (nc, aI yI 48 g), (tr, oDrv tc S2 k2), (tc, aI yI 48 g2), (kn, oKn p91239 ex), (ex, aI yI 1681 E91239), (me, oMem rg nx ct), (rg, aD yD 14 f), (sl, aD yD 2 fs), (mo, oMo 0 a1 a2 a3 ct a4 a5 a6 tl a7 a8), (a1, aI yI 96 S), (a2, aI yI 96 Kp), (a3, aI yI 1344 Hh), (a4, aI yI 192 Sl), (a5, aI yI 2 Sv), (a6, aI yI 100 T), (a7, aI yI 1681 G91243), (a8, aI yI 1681 B2), (ou, aL yL ov)] ++ pl) := hD.re [0, 1, 2, 3, 4, 5, 6, 7, 8, 9, 10, 11, 12, 13, 14, 15, 16, 17, 18, 19, 20, 21] (by decide) rfl
    rw [← hplq] at hP9 hD9
    refine W.widen (k := cells + 8) (n := slots + 150) (by omega) (by omega) ?_
    exact K _ _ _ ⟨x, tx, sg, nw, nc, tr, tc, kn, ex, me, rg, sl, mo, a1, a2, a3, a4, a5, a6, a7, a8, ou, T, S, g, S2, g2, E91239, Kp, Hh, Sl, Sv, G91243, B2, tl, po, lo, p91239, nx, ct, 0, k2, ov, f, fs, en, hP9, hD9, hS, lv_sub hl [0, 1, 2, 3, 4] rfl, hI, hR, htl, hrt, hme, hsv, hfO, hrO, hsO⟩
  · exact absurd rfl c1246
