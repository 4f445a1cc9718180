set_option maxHeartbeats 8000000 in
set_option maxRecDepth 100000 in
theorem lc_runScript {p : Program} {e : Env} {s : State} {m : MethodId} {below : List Frame} {meth : Method} {c : Code} (l : Launch) (hla : l.stackTraces = false) {b L : Nat} {xs : Nat → Int32} (C0 : lw_At p s m meth c b L xs) (D : va_G) (yI yC yD yL : ClassId) (hK4 : va_K D vwCl (tyl yI yC yD yL) s) (hB : XB (fun q : Nat => s.heap.size ≤ q) s s.heap) {Q : State → Prop} {cells slots : Nat} (hroom : cells + 8 ≤ 601024 ∧ slots + 150 ≤ 7293034) {i : Int} (hi : 0 ≤ i ∧ i + 4 ≤ L ∧ L ≤ 2048) {H : Heap} {locs : List Loc} {ls : Array Slot} (hLI : LI D yI yC yD yL s b i H locs ls) (K : ∀ (H : Heap) (locs : List Loc) (ls : Array Slot), LI D yI yC yD yL s b i H locs ls → W p l e room_1 s m #[Value.ref b] below meth c H locs (cells + 8) (slots + 150) Q (F0 m 1563 ls [])) : W p l e room_1 s m #[Value.ref b] below meth c H locs cells slots Q (F0 m 1251 ls []) := by
  obtain ⟨hx, hb, hr, hml, hown, hts, hX, hbl, hlocks, hgv⟩ := id C0
  have hA : ∀ q : Nat, s.heap.size ≤ q → (fun q : Nat => s.heap.size ≤ q) q := fun _ h => h
  have hbA : ¬ (fun q : Nat => s.heap.size ≤ q) b := Nat.not_le.mpr hbl
  have hK : va_K D vwCl (tyz yI yC yD) s := hK4.sub [0, 1, 2] rfl
  obtain ⟨x, tx, sg, nw, nc, tr, tc, kn, ex, me, rg, sl, mo, a1, a2, a3, a4, a5, a6, a7, a8, ou, T, S, g, S2, g2, E, Kp, Hh, Sl, Sv, Bd, B2, tl, po, lo, pk, nx, ct, th, k2, ov, f, fs, en, hP, hD, hS, hl, hI, hR, htl, hrt, hme, hsv, hfO, hrO, hsO⟩ := hLI
  obtain ⟨z1, hz1, hr1⟩ : ∃ z, xs (i + 1).toNat = iI z ∧ inR z := ⟨_, iI_of _, iI_rng _⟩
  obtain ⟨z2, hz2, hr2⟩ : ∃ z, xs (i + 2).toNat = iI z ∧ inR z := ⟨_, iI_of _, iI_rng _⟩
  obtain ⟨z3, hz3, hr3⟩ : ∃ z, xs (i + 3).toNat = iI z ∧ inR z := ⟨_, iI_of _, iI_rng _⟩
  have hpl := hI.pl
  have hna := hI.na
  have hre : 0 ≤ ct ∧ ct ≤ 14 := ⟨hme.2.2.1, hme.2.2.2⟩
  have hrt6 : ∀ z, 0 ≤ z → z < tl → 0 ≤ T z ∧ T z < 65536 := fun z q1 q2 => by have := hrt z q1 q2; omega
  have hr12 : inR z1 ∧ inR z2 := ⟨hr1, hr2⟩
  obtain ⟨xx, hxx⟩ : ∃ v : Int64, v = (((iI z2).toInt64) <<< ((iI 32).toInt64 &&& 63)) ||| (((iI z3).toInt64) &&& 4294967295) := ⟨_, rfl⟩
  generalize hplq : plE yI en 16 = pl at hP hD
  have hP : va_P D vwCl ([(x, oRD tx nw tr kn me sl), (tx, oTx sg tl po lo), (sg, aC yC 100 T), (nw, oDrv nc S (lN (kL (S) 0 40))), (nc, aI yI 48 g), (tr, oDrv tc S2 k2), (tc, aI yI 48 g2), (kn, oKn pk ex), (ex, aI yI 1681 E), (me, oMem rg nx ct), (rg, aD yD 14 f), (sl, aD yD 2 fs), (mo, oMo th a1 a2 a3 ct a4 a5 a6 tl a7 a8), (a1, aI yI 96 S), (a2, aI yI 96 Kp), (a3, aI yI 1344 Hh), (a4, aI yI 192 Sl), (a5, aI yI 2 Sv), (a6, aI yI 100 T), (a7, aI yI 1681 Bd), (a8, aI yI 1681 B2), (ou, aL yL ov)] ++ pl) H := hP
  by_cases hc : (1 ≤ z1 ∧ z1 ≤ 3) ∧ 0 ≤ xx.toInt ∧ xx.toInt < bnd3 z1
  · refine lv_aload_n hx hb dL_law_1251 rfl (lv_at hl 1 rfl) ?_
    refine lv_aload_n hx hb dL_law_1252 rfl (lv_at hl 0 rfl) ?_
    refine lv_iload hx hb dL_law_1253 (lv_at hl 4 rfl) ?_
    refine lv_iconst (v := iI 1) hx hb dL_law_1255 (by decide +kernel) ?_
    refine iv_add hx hb dL_law_1256 ?_
    refine iv_sld hx hb hX hbl hbA hS hz1 (by omega) dL_law_1257 ?_
    refine lv_aload_n hx hb dL_law_1258 rfl (lv_at hl 0 rfl) ?_
    refine lv_iload hx hb dL_law_1259 (lv_at hl 4 rfl) ?_
    refine lv_iconst (v := iI 2) hx hb dL_law_1261 (by decide +kernel) ?_
    refine iv_add hx hb dL_law_1262 ?_
    refine iv_sld hx hb hX hbl hbA hS hz2 (by omega) dL_law_1263 ?_
    refine lv_i2l (v := (iI z2).toInt64) hx hb dL_law_1264 rfl ?_
    refine lv_bipush (v := iI 32) hx hb dL_law_1265 (by decide +kernel) ?_
    refine lv_lshl (v := ((iI z2).toInt64) <<< ((iI 32).toInt64 &&& 63)) hx hb dL_law_1267 rfl ?_
    refine lv_aload_n hx hb dL_law_1268 rfl (lv_at hl 0 rfl) ?_
    refine lv_iload hx hb dL_law_1269 (lv_at hl 4 rfl) ?_
    refine lv_iconst (v := iI 3) hx hb dL_law_1271 (by decide +kernel) ?_
    refine iv_add hx hb dL_law_1272 ?_
    refine iv_sld hx hb hX hbl hbA hS hz3 (by omega) dL_law_1273 ?_
    refine lv_i2l (v := (iI z3).toInt64) hx hb dL_law_1274 rfl ?_
    refine lv_ldc2 (v := 4294967295) hx hb hown (hts (.constantLong RL 165 (4294967295)) (by decide +kernel)) dL_law_1275 ?_
    refine lv_land hx hb dL_law_1278 ?_
    refine lv_lor hx hb dL_law_1279 ?_
    rw [← hxx]
    refine lv_aload_n hx hb dL_law_1280 rfl (lv_at hl 3 rfl) ?_
    have hP := hP.re (Y := [(x, oRD tx nw tr kn me sl), (nw, oDrv nc S (lN (kL (S) 0 40))), (nc, aI yI 48 g), (tr, oDrv tc S2 k2), (tc, aI yI 48 g2), (kn, oKn pk ex), (ex, aI yI 1681 E), (ou, aL yL ov), (tx, oTx sg tl po lo), (sg, aC yC 100 T), (me, oMem rg nx ct), (rg, aD yD 14 f), (sl, aD yD 2 fs), (mo, oMo th a1 a2 a3 ct a4 a5 a6 tl a7 a8), (a1, aI yI 96 S), (a2, aI yI 96 Kp), (a3, aI yI 1344 Hh), (a4, aI yI 192 Sl), (a5, aI yI 2 Sv), (a6, aI yI 100 T), (a7, aI yI 1681 Bd), (a8, aI yI 1681 B2)]) [0, 3, 4, 5, 6, 7, 8, 21, 1, 2, 9, 10, 11, 12, 13, 14, 15, 16, 17, 18, 19, 20] rfl
    have hD := hD.re (Y := [(x, oRD tx nw tr kn me sl), (nw, oDrv nc S (lN (kL (S) 0 40))), (nc, aI yI 48 g), (tr, oDrv tc S2 k2), (tc, aI yI 48 g2), (kn, oKn pk ex), (ex, aI yI 1681 E), (ou, aL yL ov), (tx, oTx sg tl po lo), (sg, aC yC 100 T), (me, oMem rg nx ct), (rg, aD yD 14 f), (sl, aD yD 2 fs), (mo, oMo th a1 a2 a3 ct a4 a5 a6 tl a7 a8), (a1, aI yI 96 S), (a2, aI yI 96 Kp), (a3, aI yI 1344 Hh), (a4, aI yI 192 Sl), (a5, aI yI 2 Sv), (a6, aI yI 100 T), (a7, aI yI 1681 Bd), (a8, aI yI 1681 B2)]) [0, 3, 4, 5, 6, 7, 8, 21, 1, 2, 9, 10, 11, 12, 13, 14, 15, 16, 17, 18, 19, 20] (by decide) rfl
    refine iv_lawF (cx := [(x, oRD tx nw tr kn me sl), (nw, oDrv nc S (lN (kL (S) 0 40))), (nc, aI yI 48 g), (tr, oDrv tc S2 k2), (tc, aI yI 48 g2), (kn, oKn pk ex), (ex, aI yI 1681 E), (ou, aL yL ov)]) (RR := ([(tx, oTx sg tl po lo), (sg, aC yC 100 T), (me, oMem rg nx ct), (rg, aD yD 14 f), (sl, aD yD 2 fs), (mo, oMo th a1 a2 a3 ct a4 a5 a6 tl a7 a8), (a1, aI yI 96 S), (a2, aI yI 96 Kp), (a3, aI yI 1344 Hh), (a4, aI yI 192 Sl), (a5, aI yI 2 Sv), (a6, aI yI 100 T), (a7, aI yI 1681 Bd), (a8, aI yI 1681 B2)] ++ pl)) (wp := fun (u : (Int → Int) × (Int → Int) × Int64 × Int × (Int → Int)) => match u with | (S9, G9, k9, p9, E9) => [(x, oRD tx nw tr kn me sl), (nw, oDrv nc S (lN (kL (S) 0 40))), (nc, aI yI 48 g), (tr, oDrv tc S9 k9), (tc, aI yI 48 G9), (kn, oKn p9 ex), (ex, aI yI 1681 E9), (ou, aL yL ((iI (rsL xx.toInt z1.toNat S 0)).toInt64))]) (As := [.ref x, .int (iI z1), .long xx, .ref ou]) (rest := []) (n := 4) ⟨hx, hb, hml, hown, hts⟩ (c_L_runScript_0 l hla D yI yC yD yL x tx nw tr kn me sl nc S g tc S2 g2 k2 ex pk E z1 xx ou ov (by first | assumption | omega | exact ⟨hr1, hr2⟩ | exact fun z q1 q2 => by have := hrt z q1 q2; omega) (by first | assumption | omega | exact ⟨hr1, hr2⟩ | exact fun z q1 q2 => by have := hrt z q1 q2; omega) (by first | assumption | omega | exact ⟨hr1, hr2⟩ | exact fun z q1 q2 => by have := hrt z q1 q2; omega) (hc) _) (vx_cwSW 4 hts gL_law_L_runScript rfl rfl rfl (by decide +kernel) ⟨Nat.le_of_ble_eq_true rfl, Nat.le_of_ble_eq_true rfl⟩) hK4 hP hD hS hA hB rfl hl.1 rfl (Nat.le_of_ble_eq_true rfl) dL_law_1281 ⟨(by show _ ≤ (601024 : Nat); omega), (by show _ ≤ (7293034 : Nat); omega)⟩ (fun r9 u H locs hw hP hD hS => ?_)
    obtain ⟨S9_h, G9_h, k9_h, p9_h, E9_h⟩ := u
    obtain ⟨hr9, hcs9_h⟩ := hw
    subst hr9
    have hP : va_P D vwCl ([(x, oRD tx nw tr kn me sl), (nw, oDrv nc S (lN (kL (S) 0 40))), (nc, aI yI 48 g), (tr, oDrv tc S9_h k9_h), (tc, aI yI 48 G9_h), (kn, oKn p9_h ex), (ex, aI yI 1681 E9_h), (ou, aL yL ((iI (rsL xx.toInt z1.toNat S 0)).toInt64)), (tx, oTx sg tl po lo), (sg, aC yC 100 T), (me, oMem rg nx ct), (rg, aD yD 14 f), (sl, aD yD 2 fs), (mo, oMo th a1 a2 a3 ct a4 a5 a6 tl a7 a8), (a1, aI yI 96 S), (a2, aI yI 96 Kp), (a3, aI yI 1344 Hh), (a4, aI yI 192 Sl), (a5, aI yI 2 Sv), (a6, aI yI 100 T), (a7, aI yI 1681 Bd), (a8, aI yI 1681 B2)] ++ pl) H := hP
    have hD : va_D (fun q : Nat => s.heap.size ≤ q) ([(x, oRD tx nw tr kn me sl), (nw, oDrv nc S (lN (kL (S) 0 40))), (nc, aI yI 48 g), (tr, oDrv tc S9_h k9_h), (tc, aI yI 48 G9_h), (kn, oKn p9_h ex), (ex, aI yI 1681 E9_h), (ou, aL yL ((iI (rsL xx.toInt z1.toNat S 0)).toInt64)), (tx, oTx sg tl po lo), (sg, aC yC 100 T), (me, oMem rg nx ct), (rg, aD yD 14 f), (sl, aD yD 2 fs), (mo, oMo th a1 a2 a3 ct a4 a5 a6 tl a7 a8), (a1, aI yI 96 S), (a2, aI yI 96 Kp), (a3, aI yI 1344 Hh), (a4, aI yI 192 Sl), (a5, aI yI 2 Sv), (a6, aI yI 100 T), (a7, aI yI 1681 Bd), (a8, aI yI 1681 B2)] ++ pl) := hD
    refine lv_istore (lv' := [(5, .int (iI 0)), (0, .ref b), (1, .ref x), (2, .ref mo), (3, .ref ou), (4, .int (iI i))]) hx hb dL_law_1284 hl (by decide) rfl (fun ls hl => ?_)
    refine lv_aload_n hx hb dL_law_1286 rfl (lv_at hl 3 rfl) ?_
    refine lv_aload_n hx hb dL_law_1287 rfl (lv_at hl 1 rfl) ?_
    refine lv_iload hx hb dL_law_1288 (lv_at hl 5 rfl) ?_
    refine lv_iconst (v := iI 1) hx hb dL_law_1290 (by decide +kernel) ?_
    refine iv_add hx hb dL_law_1291 ?_
    refine iv_sld hx hb hX hbl hbA hS hz1 (by omega) dL_law_1292 ?_
    refine lv_aload_n hx hb dL_law_1293 rfl (lv_at hl 1 rfl) ?_
    refine lv_iload hx hb dL_law_1294 (lv_at hl 5 rfl) ?_
    refine lv_iconst (v := iI 2) hx hb dL_law_1296 (by decide +kernel) ?_
    refine iv_add hx hb dL_law_1297 ?_
    refine iv_sld hx hb hX hbl hbA hS hz2 (by omega) dL_law_1298 ?_
    refine lv_i2l (v := (iI z2).toInt64) hx hb dL_law_1299 rfl ?_
    refine lv_bipush (v := iI 32) hx hb dL_law_1300 (by decide +kernel) ?_
    refine lv_lshl (v := ((iI z2).toInt64) <<< ((iI 32).toInt64 &&& 63)) hx hb dL_law_1302 rfl ?_
    refine lv_aload_n hx hb dL_law_1303 rfl (lv_at hl 1 rfl) ?_
    refine lv_iload hx hb dL_law_1304 (lv_at hl 5 rfl) ?_
    refine lv_iconst (v := iI 3) hx hb dL_law_1306 (by decide +kernel) ?_
    refine iv_add hx hb dL_law_1307 ?_
    refine iv_sld hx hb hX hbl hbA hS hz3 (by omega) dL_law_1308 ?_
    refine lv_i2l (v := (iI z3).toInt64) hx hb dL_law_1309 rfl ?_
    refine lv_ldc2 (v := 4294967295) hx hb hown (hts (.constantLong RL 165 (4294967295)) (by decide +kernel)) dL_law_1310 ?_
    refine lv_land hx hb dL_law_1313 ?_
    refine lv_lor hx hb dL_law_1314 ?_
    rw [← hxx]
    refine iv_rwV (As := [.int (iI z1), .long xx]) (rest := []) (C := RX5) (n := 2) ⟨hx, hb, hml, hown, hts⟩ (c_X5_runScript l D yI yC yD mo th ct tl a1 a2 a3 a4 a5 a6 a7 a8 S Bd Kp z1 xx (by assumption) (by assumption) _) (cwV 2 hts gL_law_X5_runScript rfl rfl rfl (by decide +kernel) ⟨Nat.le_of_ble_eq_true rfl, Nat.le_of_ble_eq_true rfl⟩) hK hP hD hS hA [13, 14, 20, 15] (by decide) rfl 13 rfl rfl rfl hl.1 rfl (Nat.le_of_ble_eq_true rfl) dL_law_1315 ⟨(by show _ ≤ (601024 : Nat); omega), (by show _ ≤ (7293034 : Nat); omega)⟩ (fun _ => rfl) (fun r1315 u1315 H locs hw1315 hP hD hS => ?_)
    obtain ⟨G91315, G81315⟩ := u1315
    obtain ⟨hr1315, -⟩ := hw1315
    subst hr1315
    have hP : va_P D vwCl ([(x, oRD tx nw tr kn me sl), (nw, oDrv nc S (lN (kL (S) 0 40))), (nc, aI yI 48 g), (tr, oDrv tc S9_h k9_h), (tc, aI yI 48 G9_h), (kn, oKn p9_h ex), (ex, aI yI 1681 E9_h), (ou, aL yL ((iI (rsL xx.toInt z1.toNat S 0)).toInt64)), (tx, oTx sg tl po lo), (sg, aC yC 100 T), (me, oMem rg nx ct), (rg, aD yD 14 f), (sl, aD yD 2 fs), (mo, oMo (bI (¬ ((1 ≤ z1 ∧ z1 ≤ 3) ∧ 0 ≤ xx.toInt ∧ xx.toInt < bnd3 z1))) a1 a2 a3 ct a4 a5 a6 tl a7 a8), (a1, aI yI 96 S), (a2, aI yI 96 G81315), (a3, aI yI 1344 Hh), (a4, aI yI 192 Sl), (a5, aI yI 2 Sv), (a6, aI yI 100 T), (a7, aI yI 1681 G91315), (a8, aI yI 1681 B2)] ++ pl) H := hP
    have hD : va_D (fun q : Nat => s.heap.size ≤ q) ([(x, oRD tx nw tr kn me sl), (nw, oDrv nc S (lN (kL (S) 0 40))), (nc, aI yI 48 g), (tr, oDrv tc S9_h k9_h), (tc, aI yI 48 G9_h), (kn, oKn p9_h ex), (ex, aI yI 1681 E9_h), (ou, aL yL ((iI (rsL xx.toInt z1.toNat S 0)).toInt64)), (tx, oTx sg tl po lo), (sg, aC yC 100 T), (me, oMem rg nx ct), (rg, aD yD 14 f), (sl, aD yD 2 fs), (mo, oMo (bI (¬ ((1 ≤ z1 ∧ z1 ≤ 3) ∧ 0 ≤ xx.toInt ∧ xx.toInt < bnd3 z1))) a1 a2 a3 ct a4 a5 a6 tl a7 a8), (a1, aI yI 96 S), (a2, aI yI 96 G81315), (a3, aI yI 1344 Hh), (a4, aI yI 192 Sl), (a5, aI yI 2 Sv), (a6, aI yI 100 T), (a7, aI yI 1681 G91315), (a8, aI yI 1681 B2)] ++ pl) := hD
    have hth : (bI (¬ ((1 ≤ z1 ∧ z1 ≤ 3) ∧ 0 ≤ xx.toInt ∧ xx.toInt < bnd3 z1)) : Int) = 0 := by first | exact bI_f (not_not_intro hc) | exact bI_t hc | exact hc | rfl
    have hP : va_P D vwCl ([(x, oRD tx nw tr kn me sl), (nw, oDrv nc S (lN (kL (S) 0 40))), (nc, aI yI 48 g), (tr, oDrv tc S9_h k9_h), (tc, aI yI 48 G9_h), (kn, oKn p9_h ex), (ex, aI yI 1681 E9_h), (ou, aL yL ((iI (rsL xx.toInt z1.toNat S 0)).toInt64)), (tx, oTx sg tl po lo), (sg, aC yC 100 T), (me, oMem rg nx ct), (rg, aD yD 14 f), (sl, aD yD 2 fs), (mo, oMo 0 a1 a2 a3 ct a4 a5 a6 tl a7 a8), (a1, aI yI 96 S), (a2, aI yI 96 G81315), (a3, aI yI 1344 Hh), (a4, aI yI 192 Sl), (a5, aI yI 2 Sv), (a6, aI yI 100 T), (a7, aI yI 1681 G91315), (a8, aI yI 1681 B2)] ++ pl) H := hP.cv (by (try simp only [if_pos hc]); (try simp only [hth]))
    have hD : va_D (fun q : Nat => s.heap.size ≤ q) ([(x, oRD tx nw tr kn me sl), (nw, oDrv nc S (lN (kL (S) 0 40))), (nc, aI yI 48 g), (tr, oDrv tc S9_h k9_h), (tc, aI yI 48 G9_h), (kn, oKn p9_h ex), (ex, aI yI 1681 E9_h), (ou, aL yL ((iI (rsL xx.toInt z1.toNat S 0)).toInt64)), (tx, oTx sg tl po lo), (sg, aC yC 100 T), (me, oMem rg nx ct), (rg, aD yD 14 f), (sl, aD yD 2 fs), (mo, oMo 0 a1 a2 a3 ct a4 a5 a6 tl a7 a8), (a1, aI yI 96 S), (a2, aI yI 96 G81315), (a3, aI yI 1344 Hh), (a4, aI yI 192 Sl), (a5, aI yI 2 Sv), (a6, aI yI 100 T), (a7, aI yI 1681 G91315), (a8, aI yI 1681 B2)] ++ pl) := hD.cv (by (try simp only [if_pos hc]); (try simp only [hth]))
    rw [show (if (1 ≤ z1 ∧ z1 ≤ 3) ∧ 0 ≤ xx.toInt ∧ xx.toInt < bnd3 z1 then rsL xx.toInt z1.toNat S 0 else 0 : Int) = rsL xx.toInt z1.toNat S 0 from if_pos hc]
    refine lv_istore (lv' := [(6, .int (iI (rsL xx.toInt z1.toNat S 0))), (5, .int (iI 0)), (0, .ref b), (1, .ref x), (2, .ref mo), (3, .ref ou), (4, .int (iI i))]) hx hb dL_law_1318 hl (by decide) rfl (fun ls hl => ?_)
    refine lv_aload_n hx hb dL_law_1320 rfl (lv_at hl 4 rfl) ?_
    refine iv_roV (As := []) (rest := []) (C := RX5) (n := 0) ⟨hx, hb, hml, hown, hts⟩ (c_X5_thrown l D yI yC yD mo 0 ct tl a1 a2 a3 a4 a5 a6 a7 a8 ) (cwV 0 hts gL_law_X5_thrown rfl rfl rfl (by decide +kernel) ⟨Nat.le_of_ble_eq_true rfl, Nat.le_of_ble_eq_true rfl⟩) hK hP [13] rfl 13 rfl rfl rfl hl.1 rfl (Nat.le_of_ble_eq_true rfl) dL_law_1321 ⟨(by show _ ≤ (601024 : Nat); omega), (by show _ ≤ (7293034 : Nat); omega)⟩ ?_
    refine lv_iload hx hb dL_law_1324 (lv_at hl 1 rfl) ?_
    refine lv_icmp_eq (x := iI 0) (y := iI 0) (tgt := 1331) hx hb dL_law_1326 (by decide) (fun c1326 => ?_) (fun c1326 => ?_)
    · refine lv_iload hx hb dL_law_1331 (lv_at hl 1 rfl) ?_
      refine iv_if_ne (a := 0) (tgt := 1348) hx hb (by omega) dL_law_1333 (by decide) (fun c1333 => ?_) (fun c1333 => ?_)
      · exact absurd c1333 (by omega)
      · refine lv_aload_n hx hb dL_law_1336 rfl (lv_at hl 5 rfl) ?_
        refine lv_iconst (v := iI 0) hx hb dL_law_1337 (by decide +kernel) ?_
        refine iv_lld hx hb hK4 hP 7 3 rfl rfl dL_law_1338 ?_
        refine lv_iload hx hb dL_law_1339 (lv_at hl 0 rfl) ?_
        refine lv_i2l (v := (iI (rsL xx.toInt z1.toNat S 0)).toInt64) hx hb dL_law_1341 rfl ?_
        refine iv_lcmp (z := 0) hx hb (cmp_self _) dL_law_1342 ?_
        refine iv_if_eq (a := 0) (tgt := 1348) hx hb (by omega) dL_law_1343 (by decide) (fun c1343 => ?_) (fun c1343 => ?_)
        · refine lv_goto (tgt := 1563) hx hb dL_law_1348 (by decide) ?_
          have hP9 : va_P D vwCl ([(x, oRD tx nw tr kn me sl), (tx, oTx sg tl po lo), (sg, aC yC 100 T), (nw, oDrv nc S (lN (kL (S) 0 40))), (nc, aI yI 48 g), (tr, oDrv tc S9_h k9_h), (tc, aI yI 48 G9_h), (kn, oKn p9_h ex), (ex, aI yI 1681 E9_h), (me, oMem rg nx ct), (rg, aD yD 14 f), (sl, aD yD 2 fs), (mo, oMo 0 a1 a2 a3 ct a4 a5 a6 tl a7 a8), (a1, aI yI 96 S), (a2, aI yI 96 G81315), (a3, aI yI 1344 Hh), (a4, aI yI 192 Sl), (a5, aI yI 2 Sv), (a6, aI yI 100 T), (a7, aI yI 1681 G91315), (a8, aI yI 1681 B2), (ou, aL yL ((iI (rsL xx.toInt z1.toNat S 0)).toInt64))] ++ pl) _ := hP.re [0, 8, 9, 1, 2, 3, 4, 5, 6, 10, 11, 12, 13, 14, 15, 16, 17, 18, 19, 20, 21, 7] rfl
          have hD9 : va_D (fun q : Nat => s.heap.size ≤ q) ([(x, oRD tx nw tr kn me sl), (tx, oTx sg tl po lo), (sg, aC yC 100 T), (nw, oDrv nc S (lN (kL (S) 0 40))), (nc, aI yI 48 g), (tr, oDrv tc S9_h k9_h), (tc, aI yI 48 G9_h), (kn, oKn p9_h ex), (ex, aI yI 1681 E9_h), (me, oMem rg nx ct), (rg, aD yD 14 f), (sl, aD yD 2 fs), (mo, oMo 0 a1 a2 a3 ct a4 a5 a6 tl a7 a8), (a1, aI yI 96 S), (a2, aI yI 96 G81315), (a3, aI yI 1344 Hh), (a4, aI yI 192 Sl), (a5, aI yI 2 Sv), (a6, aI yI 100 T), (a7, aI yI 1681 G91315), (a8, aI yI 1681 B2), (ou, aL yL ((iI (rsL xx.toInt z1.toNat S 0)).toInt64))] ++ pl) := hD.re [0, 8, 9, 1, 2, 3, 4, 5, 6, 10, 11, 12, 13, 14, 15, 16, 17, 18, 19, 20, 21, 7] (by decide) rfl
          rw [← hplq] at hP9 hD9
          refine W.widen (k := cells + 8) (n := slots + 150) (by omega) (by omega) ?_
          exact K _ _ _ ⟨x, tx, sg, nw, nc, tr, tc, kn, ex, me, rg, sl, mo, a1, a2, a3, a4, a5, a6, a7, a8, ou, T, S, g, S9_h, G9_h, E9_h, G81315, Hh, Sl, Sv, G91315, B2, tl, po, lo, p9_h, nx, ct, 0, k9_h, ((iI (rsL xx.toInt z1.toNat S 0)).toInt64), f, fs, en, hP9, hD9, hS, lv_sub hl [2, 3, 4, 5, 6] rfl, hI, hR, htl, hrt, hme, hsv, hfO, hrO, hsO⟩
        · exact absurd c1343 (by omega)
    · exact absurd rfl c1326
  · refine lv_aload_n hx hb dL_law_1251 rfl (lv_at hl 1 rfl) ?_
    refine lv_aload_n hx hb dL_law_1252 rfl (lv_at hl 0 rfl) ?_
    refine lv_iload hx hb dL_law_1253 (lv_at hl 4 rfl) ?_
    refine lv_iconst (v := iI 1) hx hb dL_law_1255 (by decide +kernel) ?_
    refine iv_add hx hb dL_law_1256 ?_
    refine iv_sld hx hb hX hbl hbA hS hz1 (by omega) dL_law_1257 ?_
    refine lv_aload_n hx hb dL_law_1258 rfl (lv_at hl 0 rfl) ?_
    refine lv_iload hx hb dL_law_1259 (lv_at hl 4 rfl) ?_
    refine lv_iconst (v := iI 2) hx hb dL_law_1261 (by decide +kernel) ?_
    refine iv_add hx hb dL_law_1262 ?_
    refine iv_sld hx hb hX hbl hbA hS hz2 (by omega) dL_law_1263 ?_
    refine lv_i2l (v := (iI z2).toInt64) hx hb dL_law_1264 rfl ?_
    refine lv_bipush (v := iI 32) hx hb dL_law_1265 (by decide +kernel) ?_
    refine lv_lshl (v := ((iI z2).toInt64) <<< ((iI 32).toInt64 &&& 63)) hx hb dL_law_1267 rfl ?_
    refine lv_aload_n hx hb dL_law_1268 rfl (lv_at hl 0 rfl) ?_
    refine lv_iload hx hb dL_law_1269 (lv_at hl 4 rfl) ?_
    refine lv_iconst (v := iI 3) hx hb dL_law_1271 (by decide +kernel) ?_
    refine iv_add hx hb dL_law_1272 ?_
    refine iv_sld hx hb hX hbl hbA hS hz3 (by omega) dL_law_1273 ?_
    refine lv_i2l (v := (iI z3).toInt64) hx hb dL_law_1274 rfl ?_
    refine lv_ldc2 (v := 4294967295) hx hb hown (hts (.constantLong RL 165 (4294967295)) (by decide +kernel)) dL_law_1275 ?_
    refine lv_land hx hb dL_law_1278 ?_
    refine lv_lor hx hb dL_law_1279 ?_
    rw [← hxx]
    refine lv_aload_n hx hb dL_law_1280 rfl (lv_at hl 3 rfl) ?_
    have hP := hP.re (Y := [(x, oRD tx nw tr kn me sl), (nw, oDrv nc S (lN (kL (S) 0 40))), (nc, aI yI 48 g), (tr, oDrv tc S2 k2), (tc, aI yI 48 g2), (kn, oKn pk ex), (ex, aI yI 1681 E), (ou, aL yL ov), (tx, oTx sg tl po lo), (sg, aC yC 100 T), (me, oMem rg nx ct), (rg, aD yD 14 f), (sl, aD yD 2 fs), (mo, oMo th a1 a2 a3 ct a4 a5 a6 tl a7 a8), (a1, aI yI 96 S), (a2, aI yI 96 Kp), (a3, aI yI 1344 Hh), (a4, aI yI 192 Sl), (a5, aI yI 2 Sv), (a6, aI yI 100 T), (a7, aI yI 1681 Bd), (a8, aI yI 1681 B2)]) [0, 3, 4, 5, 6, 7, 8, 21, 1, 2, 9, 10, 11, 12, 13, 14, 15, 16, 17, 18, 19, 20] rfl
    have hD := hD.re (Y := [(x, oRD tx nw tr kn me sl), (nw, oDrv nc S (lN (kL (S) 0 40))), (nc, aI yI 48 g), (tr, oDrv tc S2 k2), (tc, aI yI 48 g2), (kn, oKn pk ex), (ex, aI yI 1681 E), (ou, aL yL ov), (tx, oTx sg tl po lo), (sg, aC yC 100 T), (me, oMem rg nx ct), (rg, aD yD 14 f), (sl, aD yD 2 fs), (mo, oMo th a1 a2 a3 ct a4 a5 a6 tl a7 a8), (a1, aI yI 96 S), (a2, aI yI 96 Kp), (a3, aI yI 1344 Hh), (a4, aI yI 192 Sl), (a5, aI yI 2 Sv), (a6, aI yI 100 T), (a7, aI yI 1681 Bd), (a8, aI yI 1681 B2)]) [0, 3, 4, 5, 6, 7, 8, 21, 1, 2, 9, 10, 11, 12, 13, 14, 15, 16, 17, 18, 19, 20] (by decide) rfl
    refine iv_lawF (cx := [(x, oRD tx nw tr kn me sl), (nw, oDrv nc S (lN (kL (S) 0 40))), (nc, aI yI 48 g), (tr, oDrv tc S2 k2), (tc, aI yI 48 g2), (kn, oKn pk ex), (ex, aI yI 1681 E), (ou, aL yL ov)]) (RR := ([(tx, oTx sg tl po lo), (sg, aC yC 100 T), (me, oMem rg nx ct), (rg, aD yD 14 f), (sl, aD yD 2 fs), (mo, oMo th a1 a2 a3 ct a4 a5 a6 tl a7 a8), (a1, aI yI 96 S), (a2, aI yI 96 Kp), (a3, aI yI 1344 Hh), (a4, aI yI 192 Sl), (a5, aI yI 2 Sv), (a6, aI yI 100 T), (a7, aI yI 1681 Bd), (a8, aI yI 1681 B2)] ++ pl)) (wp := fun (_ : Unit) => [(x, oRD tx nw tr kn me sl), (nw, oDrv nc S (lN (kL (S) 0 40))), (nc, aI yI 48 g), (tr, oDrv tc S2 k2), (tc, aI yI 48 g2), (kn, oKn pk ex), (ex, aI yI 1681 E), (ou, aL yL ov)]) (As := [.ref x, .int (iI z1), .long xx, .ref ou]) (rest := []) (n := 4) ⟨hx, hb, hml, hown, hts⟩ (c_L_runScript_1 l hla D yI yC yD yL x tx nw tr kn me sl nc S g tc S2 g2 k2 ex pk E z1 xx ou ov (by first | assumption | omega | exact ⟨hr1, hr2⟩ | exact fun z q1 q2 => by have := hrt z q1 q2; omega) (by first | assumption | omega | exact ⟨hr1, hr2⟩ | exact fun z q1 q2 => by have := hrt z q1 q2; omega) (by first | assumption | omega | exact ⟨hr1, hr2⟩ | exact fun z q1 q2 => by have := hrt z q1 q2; omega) (hc) _) (vx_cwSW 4 hts gL_law_L_runScript rfl rfl rfl (by decide +kernel) ⟨Nat.le_of_ble_eq_true rfl, Nat.le_of_ble_eq_true rfl⟩) hK4 hP hD hS hA hB rfl hl.1 rfl (Nat.le_of_ble_eq_true rfl) dL_law_1281 ⟨(by show _ ≤ (601024 : Nat); omega), (by show _ ≤ (7293034 : Nat); omega)⟩ (fun r9 u H locs hw hP hD hS => ?_)
    obtain ⟨hr9, -⟩ := hw
    subst hr9
    have hP : va_P D vwCl ([(x, oRD tx nw tr kn me sl), (nw, oDrv nc S (lN (kL (S) 0 40))), (nc, aI yI 48 g), (tr, oDrv tc S2 k2), (tc, aI yI 48 g2), (kn, oKn pk ex), (ex, aI yI 1681 E), (ou, aL yL ov), (tx, oTx sg tl po lo), (sg, aC yC 100 T), (me, oMem rg nx ct), (rg, aD yD 14 f), (sl, aD yD 2 fs), (mo, oMo th a1 a2 a3 ct a4 a5 a6 tl a7 a8), (a1, aI yI 96 S), (a2, aI yI 96 Kp), (a3, aI yI 1344 Hh), (a4, aI yI 192 Sl), (a5, aI yI 2 Sv), (a6, aI yI 100 T), (a7, aI yI 1681 Bd), (a8, aI yI 1681 B2)] ++ pl) H := hP
    have hD : va_D (fun q : Nat => s.heap.size ≤ q) ([(x, oRD tx nw tr kn me sl), (nw, oDrv nc S (lN (kL (S) 0 40))), (nc, aI yI 48 g), (tr, oDrv tc S2 k2), (tc, aI yI 48 g2), (kn, oKn pk ex), (ex, aI yI 1681 E), (ou, aL yL ov), (tx, oTx sg tl po lo), (sg, aC yC 100 T), (me, oMem rg nx ct), (rg, aD yD 14 f), (sl, aD yD 2 fs), (mo, oMo th a1 a2 a3 ct a4 a5 a6 tl a7 a8), (a1, aI yI 96 S), (a2, aI yI 96 Kp), (a3, aI yI 1344 Hh), (a4, aI yI 192 Sl), (a5, aI yI 2 Sv), (a6, aI yI 100 T), (a7, aI yI 1681 Bd), (a8, aI yI 1681 B2)] ++ pl) := hD
    refine lv_istore (lv' := [(5, .int (iI 1)), (0, .ref b), (1, .ref x), (2, .ref mo), (3, .ref ou), (4, .int (iI i))]) hx hb dL_law_1284 hl (by decide) rfl (fun ls hl => ?_)
    refine lv_aload_n hx hb dL_law_1286 rfl (lv_at hl 3 rfl) ?_
    refine lv_aload_n hx hb dL_law_1287 rfl (lv_at hl 1 rfl) ?_
    refine lv_iload hx hb dL_law_1288 (lv_at hl 5 rfl) ?_
    refine lv_iconst (v := iI 1) hx hb dL_law_1290 (by decide +kernel) ?_
    refine iv_add hx hb dL_law_1291 ?_
    refine iv_sld hx hb hX hbl hbA hS hz1 (by omega) dL_law_1292 ?_
    refine lv_aload_n hx hb dL_law_1293 rfl (lv_at hl 1 rfl) ?_
    refine lv_iload hx hb dL_law_1294 (lv_at hl 5 rfl) ?_
    refine lv_iconst (v := iI 2) hx hb dL_law_1296 (by decide +kernel) ?_
    refine iv_add hx hb dL_law_1297 ?_
    refine iv_sld hx hb hX hbl hbA hS hz2 (by omega) dL_law_1298 ?_
    refine lv_i2l (v := (iI z2).toInt64) hx hb dL_law_1299 rfl ?_
    refine lv_bipush (v := iI 32) hx hb dL_law_1300 (by decide +kernel) ?_
    refine lv_lshl (v := ((iI z2).toInt64) <<< ((iI 32).toInt64 &&& 63)) hx hb dL_law_1302 rfl ?_
    refine lv_aload_n hx hb dL_law_1303 rfl (lv_at hl 1 rfl) ?_
    refine lv_iload hx hb dL_law_1304 (lv_at hl 5 rfl) ?_
    refine lv_iconst (v := iI 3) hx hb dL_law_1306 (by decide +kernel) ?_
    refine iv_add hx hb dL_law_1307 ?_
    refine iv_sld hx hb hX hbl hbA hS hz3 (by omega) dL_law_1308 ?_
    refine lv_i2l (v := (iI z3).toInt64) hx hb dL_law_1309 rfl ?_
    refine lv_ldc2 (v := 4294967295) hx hb hown (hts (.constantLong RL 165 (4294967295)) (by decide +kernel)) dL_law_1310 ?_
    refine lv_land hx hb dL_law_1313 ?_
    refine lv_lor hx hb dL_law_1314 ?_
    rw [← hxx]
    refine iv_rwV (As := [.int (iI z1), .long xx]) (rest := []) (C := RX5) (n := 2) ⟨hx, hb, hml, hown, hts⟩ (c_X5_runScript l D yI yC yD mo th ct tl a1 a2 a3 a4 a5 a6 a7 a8 S Bd Kp z1 xx (by assumption) (by assumption) _) (cwV 2 hts gL_law_X5_runScript rfl rfl rfl (by decide +kernel) ⟨Nat.le_of_ble_eq_true rfl, Nat.le_of_ble_eq_true rfl⟩) hK hP hD hS hA [13, 14, 20, 15] (by decide) rfl 13 rfl rfl rfl hl.1 rfl (Nat.le_of_ble_eq_true rfl) dL_law_1315 ⟨(by show _ ≤ (601024 : Nat); omega), (by show _ ≤ (7293034 : Nat); omega)⟩ (fun _ => rfl) (fun r1315 u1315 H locs hw1315 hP hD hS => ?_)
    obtain ⟨G91315, G81315⟩ := u1315
    obtain ⟨hr1315, -⟩ := hw1315
    subst hr1315
    have hP : va_P D vwCl ([(x, oRD tx nw tr kn me sl), (nw, oDrv nc S (lN (kL (S) 0 40))), (nc, aI yI 48 g), (tr, oDrv tc S2 k2), (tc, aI yI 48 g2), (kn, oKn pk ex), (ex, aI yI 1681 E), (ou, aL yL ov), (tx, oTx sg tl po lo), (sg, aC yC 100 T), (me, oMem rg nx ct), (rg, aD yD 14 f), (sl, aD yD 2 fs), (mo, oMo (bI (¬ ((1 ≤ z1 ∧ z1 ≤ 3) ∧ 0 ≤ xx.toInt ∧ xx.toInt < bnd3 z1))) a1 a2 a3 ct a4 a5 a6 tl a7 a8), (a1, aI yI 96 S), (a2, aI yI 96 G81315), (a3, aI yI 1344 Hh), (a4, aI yI 192 Sl), (a5, aI yI 2 Sv), (a6, aI yI 100 T), (a7, aI yI 1681 G91315), (a8, aI yI 1681 B2)] ++ pl) H := hP
    have hD : va_D (fun q : Nat => s.heap.size ≤ q) ([(x, oRD tx nw tr kn me sl), (nw, oDrv nc S (lN (kL (S) 0 40))), (nc, aI yI 48 g), (tr, oDrv tc S2 k2), (tc, aI yI 48 g2), (kn, oKn pk ex), (ex, aI yI 1681 E), (ou, aL yL ov), (tx, oTx sg tl po lo), (sg, aC yC 100 T), (me, oMem rg nx ct), (rg, aD yD 14 f), (sl, aD yD 2 fs), (mo, oMo (bI (¬ ((1 ≤ z1 ∧ z1 ≤ 3) ∧ 0 ≤ xx.toInt ∧ xx.toInt < bnd3 z1))) a1 a2 a3 ct a4 a5 a6 tl a7 a8), (a1, aI yI 96 S), (a2, aI yI 96 G81315), (a3, aI yI 1344 Hh), (a4, aI yI 192 Sl), (a5, aI yI 2 Sv), (a6, aI yI 100 T), (a7, aI yI 1681 G91315), (a8, aI yI 1681 B2)] ++ pl) := hD
    have hth : (bI (¬ ((1 ≤ z1 ∧ z1 ≤ 3) ∧ 0 ≤ xx.toInt ∧ xx.toInt < bnd3 z1)) : Int) = 1 := by first | exact bI_f (not_not_intro hc) | exact bI_t hc | exact hc | rfl
    have hP : va_P D vwCl ([(x, oRD tx nw tr kn me sl), (nw, oDrv nc S (lN (kL (S) 0 40))), (nc, aI yI 48 g), (tr, oDrv tc S2 k2), (tc, aI yI 48 g2), (kn, oKn pk ex), (ex, aI yI 1681 E), (ou, aL yL ov), (tx, oTx sg tl po lo), (sg, aC yC 100 T), (me, oMem rg nx ct), (rg, aD yD 14 f), (sl, aD yD 2 fs), (mo, oMo 1 a1 a2 a3 ct a4 a5 a6 tl a7 a8), (a1, aI yI 96 S), (a2, aI yI 96 G81315), (a3, aI yI 1344 Hh), (a4, aI yI 192 Sl), (a5, aI yI 2 Sv), (a6, aI yI 100 T), (a7, aI yI 1681 G91315), (a8, aI yI 1681 B2)] ++ pl) H := hP.cv (by (try simp only [if_neg hc]); (try simp only [hth]))
    have hD : va_D (fun q : Nat => s.heap.size ≤ q) ([(x, oRD tx nw tr kn me sl), (nw, oDrv nc S (lN (kL (S) 0 40))), (nc, aI yI 48 g), (tr, oDrv tc S2 k2), (tc, aI yI 48 g2), (kn, oKn pk ex), (ex, aI yI 1681 E), (ou, aL yL ov), (tx, oTx sg tl po lo), (sg, aC yC 100 T), (me, oMem rg nx ct), (rg, aD yD 14 f), (sl, aD yD 2 fs), (mo, oMo 1 a1 a2 a3 ct a4 a5 a6 tl a7 a8), (a1, aI yI 96 S), (a2, aI yI 96 G81315), (a3, aI yI 1344 Hh), (a4, aI yI 192 Sl), (a5, aI yI 2 Sv), (a6, aI yI 100 T), (a7, aI yI 1681 G91315), (a8, aI yI 1681 B2)] ++ pl) := hD.cv (by (try simp only [if_neg hc]); (try simp only [hth]))
    rw [show (if (1 ≤ z1 ∧ z1 ≤ 3) ∧ 0 ≤ xx.toInt ∧ xx.toInt < bnd3 z1 then rsL xx.toInt z1.toNat S 0 else 0 : Int) = 0 from if_neg hc]
    refine lv_istore (lv' := [(6, .int (iI 0)), (5, .int (iI 1)), (0, .ref b), (1, .ref x), (2, .ref mo), (3, .ref ou), (4, .int (iI i))]) hx hb dL_law_1318 hl (by decide) rfl (fun ls hl => ?_)
    refine lv_aload_n hx hb dL_law_1320 rfl (lv_at hl 4 rfl) ?_
    refine iv_roV (As := []) (rest := []) (C := RX5) (n := 0) ⟨hx, hb, hml, hown, hts⟩ (c_X5_thrown l D yI yC yD mo 1 ct tl a1 a2 a3 a4 a5 a6 a7 a8 ) (cwV 0 hts gL_law_X5_thrown rfl rfl rfl (by decide +kernel) ⟨Nat.le_of_ble_eq_true rfl, Nat.le_of_ble_eq_true rfl⟩) hK hP [13] rfl 13 rfl rfl rfl hl.1 rfl (Nat.le_of_ble_eq_true rfl) dL_law_1321 ⟨(by show _ ≤ (601024 : Nat); omega), (by show _ ≤ (7293034 : Nat); omega)⟩ ?_
    refine lv_iload hx hb dL_law_1324 (lv_at hl 1 rfl) ?_
    refine lv_icmp_eq (x := iI 1) (y := iI 1) (tgt := 1331) hx hb dL_law_1326 (by decide) (fun c1326 => ?_) (fun c1326 => ?_)
    · refine lv_iload hx hb dL_law_1331 (lv_at hl 1 rfl) ?_
      refine iv_if_ne (a := 1) (tgt := 1348) hx hb (by omega) dL_law_1333 (by decide) (fun c1333 => ?_) (fun c1333 => ?_)
      · refine lv_goto (tgt := 1563) hx hb dL_law_1348 (by decide) ?_
        have hP9 : va_P D vwCl ([(x, oRD tx nw tr kn me sl), (tx, oTx sg tl po lo), (sg, aC yC 100 T), (nw, oDrv nc S (lN (kL (S) 0 40))), (nc, aI yI 48 g), (tr, oDrv tc S2 k2), (tc, aI yI 48 g2), (kn, oKn pk ex), (ex, aI yI 1681 E), (me, oMem rg nx ct), (rg, aD yD 14 f), (sl, aD yD 2 fs), (mo, oMo 1 a1 a2 a3 ct a4 a5 a6 tl a7 a8), (a1, aI yI 96 S), (a2, aI yI 96 G81315), (a3, aI yI 1344 Hh), (a4, aI yI 192 Sl), (a5, aI yI 2 Sv), (a6, aI yI 100 T), (a7, aI yI 1681 G91315), (a8, aI yI 1681 B2), (ou, aL yL ov)] ++ pl) _ := hP.re [0, 8, 9, 1, 2, 3, 4, 5, 6, 10, 11, 12, 13, 14, 15, 16, 17, 18, 19, 20, 21, 7] rfl
        have hD9 : va_D (fun q : Nat => s.heap.size ≤ q) ([(x, oRD tx nw tr kn me sl), (tx, oTx sg tl po lo), (sg, aC yC 100 T), (nw, oDrv nc S (lN (kL (S) 0 40))), (nc, aI yI 48 g), (tr, oDrv tc S2 k2), (tc, aI yI 48 g2), (kn, oKn pk ex), (ex, aI yI 1681 E), (me, oMem rg nx ct), (rg, aD yD 14 f), (sl, aD yD 2 fs), (mo, oMo 1 a1 a2 a3 ct a4 a5 a6 tl a7 a8), (a1, aI yI 96 S), (a2, aI yI 96 G81315), (a3, aI yI 1344 Hh), (a4, aI yI 192 Sl), (a5, aI yI 2 Sv), (a6, aI yI 100 T), (a7, aI yI 1681 G91315), (a8, aI yI 1681 B2), (ou, aL yL ov)] ++ pl) := hD.re [0, 8, 9, 1, 2, 3, 4, 5, 6, 10, 11, 12, 13, 14, 15, 16, 17, 18, 19, 20, 21, 7] (by decide) rfl
        rw [← hplq] at hP9 hD9
        refine W.widen (k := cells + 8) (n := slots + 150) (by omega) (by omega) ?_
        exact K _ _ _ ⟨x, tx, sg, nw, nc, tr, tc, kn, ex, me, rg, sl, mo, a1, a2, a3, a4, a5, a6, a7, a8, ou, T, S, g, S2, g2, E, G81315, Hh, Sl, Sv, G91315, B2, tl, po, lo, pk, nx, ct, 1, k2, ov, f, fs, en, hP9, hD9, hS, lv_sub hl [2, 3, 4, 5, 6] rfl, hI, hR, htl, hrt, hme, hsv, hfO, hrO, hsO⟩
      · exact absurd c1333 (by omega)
    · exact absurd rfl c1326
set_option maxHeartbeats 8000000 in
set_option maxRecDepth 100000 in
theorem lc_simulate {p : Program} {e : Env} {s : State} {m : MethodId} {below : List Frame} {meth : Method} {c : Code} (l : Launch) (hla : l.stackTraces = false) {b L : Nat} {xs : Nat → Int32} (C0 : lw_At p s m meth c b L xs) (D : va_G) (yI yC yD yL : ClassId) (hK4 : va_K D vwCl (tyl yI yC yD yL) s) (hB : XB (fun q : Nat => s.heap.size ≤ q) s s.heap) {Q : State → Prop} {cells slots : Nat} (hroom : cells + 8 ≤ 601024 ∧ slots + 150 ≤ 7293034) {i : Int} (hi : 0 ≤ i ∧ i + 4 ≤ L ∧ L ≤ 2048) {H : Heap} {locs : List Loc} {ls : Array Slot} (hLI : LI D yI yC yD yL s b i H locs ls) (K : ∀ (H : Heap) (locs : List Loc) (ls : Array Slot), LI D yI yC yD yL s b i H locs ls → W p l e room_1 s m #[Value.ref b] below meth c H locs (cells + 8) (slots + 150) Q (F0 m 1563 ls [])) : W p l e room_1 s m #[Value.ref b] below meth c H locs cells slots Q (F0 m 1351 ls []) := by
  obtain ⟨hx, hb, hr, hml, hown, hts, hX, hbl, hlocks, hgv⟩ := id C0
  have hA : ∀ q : Nat, s.heap.size ≤ q → (fun q : Nat => s.heap.size ≤ q) q := fun _ h => h
  have hbA : ¬ (fun q : Nat => s.heap.size ≤ q) b := Nat.not_le.mpr hbl
  have hK : va_K D vwCl (tyz yI yC yD) s := hK4.sub [0, 1, 2] rfl
  obtain ⟨x, tx, sg, nw, nc, tr, tc, kn, ex, me, rg, sl, mo, a1, a2, a3, a4, a5, a6, a7, a8, ou, T, S, g, S2, g2, E, Kp, Hh, Sl, Sv, Bd, B2, tl, po, lo, pk, nx, ct, th, k2, ov, f, fs, en, hP, hD, hS, hl, hI, hR, htl, hrt, hme, hsv, hfO, hrO, hsO⟩ := hLI
  obtain ⟨z1, hz1, hr1⟩ : ∃ z, xs (i + 1).toNat = iI z ∧ inR z := ⟨_, iI_of _, iI_rng _⟩
  obtain ⟨z2, hz2, hr2⟩ : ∃ z, xs (i + 2).toNat = iI z ∧ inR z := ⟨_, iI_of _, iI_rng _⟩
  obtain ⟨z3, hz3, hr3⟩ : ∃ z, xs (i + 3).toNat = iI z ∧ inR z := ⟨_, iI_of _, iI_rng _⟩
  have hpl := hI.pl
  have hna := hI.na
  have hre : 0 ≤ ct ∧ ct ≤ 14 := ⟨hme.2.2.1, hme.2.2.2⟩
  have hrt6 : ∀ z, 0 ≤ z → z < tl → 0 ≤ T z ∧ T z < 65536 := fun z q1 q2 => by have := hrt z q1 q2; omega
  have hr12 : inR z1 ∧ inR z2 := ⟨hr1, hr2⟩
  obtain ⟨xx, hxx⟩ : ∃ v : Int64, v = (((iI z1).toInt64) <<< ((iI 32).toInt64 &&& 63)) ||| (((iI z2).toInt64) &&& 4294967295) := ⟨_, rfl⟩
  generalize hplq : plE yI en 16 = pl at hP hD
  have hP : va_P D vwCl ([(x, oRD tx nw tr kn me sl), (tx, oTx sg tl po lo), (sg, aC yC 100 T), (nw, oDrv nc S (lN (kL (S) 0 40))), (nc, aI yI 48 g), (tr, oDrv tc S2 k2), (tc, aI yI 48 g2), (kn, oKn pk ex), (ex, aI yI 1681 E), (me, oMem rg nx ct), (rg, aD yD 14 f), (sl, aD yD 2 fs), (mo, oMo th a1 a2 a3 ct a4 a5 a6 tl a7 a8), (a1, aI yI 96 S), (a2, aI yI 96 Kp), (a3, aI yI 1344 Hh), (a4, aI yI 192 Sl), (a5, aI yI 2 Sv), (a6, aI yI 100 T), (a7, aI yI 1681 Bd), (a8, aI yI 1681 B2), (ou, aL yL ov)] ++ pl) H := hP
  by_cases hc : 1 ≤ z3 ∧ z3 ≤ 30
  · refine lv_aload_n hx hb dL_law_1351 rfl (lv_at hl 1 rfl) ?_
    refine lv_aload_n hx hb dL_law_1352 rfl (lv_at hl 0 rfl) ?_
    refine lv_iload hx hb dL_law_1353 (lv_at hl 4 rfl) ?_
    refine lv_iconst (v := iI 1) hx hb dL_law_1355 (by decide +kernel) ?_
    refine iv_add hx hb dL_law_1356 ?_
    refine iv_sld hx hb hX hbl hbA hS hz1 (by omega) dL_law_1357 ?_
    refine lv_i2l (v := (iI z1).toInt64) hx hb dL_law_1358 rfl ?_
    refine lv_bipush (v := iI 32) hx hb dL_law_1359 (by decide +kernel) ?_
    refine lv_lshl (v := ((iI z1).toInt64) <<< ((iI 32).toInt64 &&& 63)) hx hb dL_law_1361 rfl ?_
    refine lv_aload_n hx hb dL_law_1362 rfl (lv_at hl 0 rfl) ?_
    refine lv_iload hx hb dL_law_1363 (lv_at hl 4 rfl) ?_
    refine lv_iconst (v := iI 2) hx hb dL_law_1365 (by decide +kernel) ?_
    refine iv_add hx hb dL_law_1366 ?_
    refine iv_sld hx hb hX hbl hbA hS hz2 (by omega) dL_law_1367 ?_
    refine lv_i2l (v := (iI z2).toInt64) hx hb dL_law_1368 rfl ?_
    refine lv_ldc2 (v := 4294967295) hx hb hown (hts (.constantLong RL 165 (4294967295)) (by decide +kernel)) dL_law_1369 ?_
    refine lv_land hx hb dL_law_1372 ?_
    refine lv_lor hx hb dL_law_1373 ?_
    rw [← hxx]
    refine lv_aload_n hx hb dL_law_1374 rfl (lv_at hl 0 rfl) ?_
    refine lv_iload hx hb dL_law_1375 (lv_at hl 4 rfl) ?_
    refine lv_iconst (v := iI 3) hx hb dL_law_1377 (by decide +kernel) ?_
    refine iv_add hx hb dL_law_1378 ?_
    refine iv_sld hx hb hX hbl hbA hS hz3 (by omega) dL_law_1379 ?_
    refine lv_aload_n hx hb dL_law_1380 rfl (lv_at hl 3 rfl) ?_
    have hP := hP.re (Y := [(x, oRD tx nw tr kn me sl), (nw, oDrv nc S (lN (kL (S) 0 40))), (nc, aI yI 48 g), (tr, oDrv tc S2 k2), (tc, aI yI 48 g2), (kn, oKn pk ex), (ex, aI yI 1681 E), (ou, aL yL ov), (tx, oTx sg tl po lo), (sg, aC yC 100 T), (me, oMem rg nx ct), (rg, aD yD 14 f), (sl, aD yD 2 fs), (mo, oMo th a1 a2 a3 ct a4 a5 a6 tl a7 a8), (a1, aI yI 96 S), (a2, aI yI 96 Kp), (a3, aI yI 1344 Hh), (a4, aI yI 192 Sl), (a5, aI yI 2 Sv), (a6, aI yI 100 T), (a7, aI yI 1681 Bd), (a8, aI yI 1681 B2)]) [0, 3, 4, 5, 6, 7, 8, 21, 1, 2, 9, 10, 11, 12, 13, 14, 15, 16, 17, 18, 19, 20] rfl
    have hD := hD.re (Y := [(x, oRD tx nw tr kn me sl), (nw, oDrv nc S (lN (kL (S) 0 40))), (nc, aI yI 48 g), (tr, oDrv tc S2 k2), (tc, aI yI 48 g2), (kn, oKn pk ex), (ex, aI yI 1681 E), (ou, aL yL ov), (tx, oTx sg tl po lo), (sg, aC yC 100 T), (me, oMem rg nx ct), (rg, aD yD 14 f), (sl, aD yD 2 fs), (mo, oMo th a1 a2 a3 ct a4 a5 a6 tl a7 a8), (a1, aI yI 96 S), (a2, aI yI 96 Kp), (a3, aI yI 1344 Hh), (a4, aI yI 192 Sl), (a5, aI yI 2 Sv), (a6, aI yI 100 T), (a7, aI yI 1681 Bd), (a8, aI yI 1681 B2)]) [0, 3, 4, 5, 6, 7, 8, 21, 1, 2, 9, 10, 11, 12, 13, 14, 15, 16, 17, 18, 19, 20] (by decide) rfl
    refine iv_lawF (cx := [(x, oRD tx nw tr kn me sl), (nw, oDrv nc S (lN (kL (S) 0 40))), (nc, aI yI 48 g), (tr, oDrv tc S2 k2), (tc, aI yI 48 g2), (kn, oKn pk ex), (ex, aI yI 1681 E), (ou, aL yL ov)]) (RR := ([(tx, oTx sg tl po lo), (sg, aC yC 100 T), (me, oMem rg nx ct), (rg, aD yD 14 f), (sl, aD yD 2 fs), (mo, oMo th a1 a2 a3 ct a4 a5 a6 tl a7 a8), (a1, aI yI 96 S), (a2, aI yI 96 Kp), (a3, aI yI 1344 Hh), (a4, aI yI 192 Sl), (a5, aI yI 2 Sv), (a6, aI yI 100 T), (a7, aI yI 1681 Bd), (a8, aI yI 1681 B2)] ++ pl)) (wp := fun (u : (Int → Int) × (Int → Int) × Int64 × Int × (Int → Int)) => match u with | (S9, G9, k9, p9, E9) => [(x, oRD tx nw tr kn me sl), (nw, oDrv nc S (lN (kL (S) 0 40))), (nc, aI yI 48 g), (tr, oDrv tc S9 k9), (tc, aI yI 48 G9), (kn, oKn p9 ex), (ex, aI yI 1681 E9), (ou, aL yL ((iI (simQ S (simL z3.toNat xx S))).toInt64))]) (As := [.ref x, .long xx, .int (iI z3), .ref ou]) (rest := []) (n := 4) ⟨hx, hb, hml, hown, hts⟩ (c_L_simulate_0 l hla D yI yC yD yL x tx nw tr kn me sl nc S g tc S2 g2 k2 ex pk E xx z3 ou ov (by first | assumption | omega | exact ⟨hr1, hr2⟩ | exact fun z q1 q2 => by have := hrt z q1 q2; omega) (by first | assumption | omega | exact ⟨hr1, hr2⟩ | exact fun z q1 q2 => by have := hrt z q1 q2; omega) (by first | assumption | omega | exact ⟨hr1, hr2⟩ | exact fun z q1 q2 => by have := hrt z q1 q2; omega) (hc) _) (vx_cwSW 4 hts gL_law_L_simulate rfl rfl rfl (by decide +kernel) ⟨Nat.le_of_ble_eq_true rfl, Nat.le_of_ble_eq_true rfl⟩) hK4 hP hD hS hA hB rfl hl.1 rfl (Nat.le_of_ble_eq_true rfl) dL_law_1381 ⟨(by show _ ≤ (601024 : Nat); omega), (by show _ ≤ (7293034 : Nat); omega)⟩ (fun r9 u H locs hw hP hD hS => ?_)
    obtain ⟨S9_h, G9_h, k9_h, p9_h, E9_h⟩ := u
    obtain ⟨hr9, hcq9_h⟩ := hw
    subst hr9
    have hP : va_P D vwCl ([(x, oRD tx nw tr kn me sl), (nw, oDrv nc S (lN (kL (S) 0 40))), (nc, aI yI 48 g), (tr, oDrv tc S9_h k9_h), (tc, aI yI 48 G9_h), (kn, oKn p9_h ex), (ex, aI yI 1681 E9_h), (ou, aL yL ((iI (simQ S (simL z3.toNat xx S))).toInt64)), (tx, oTx sg tl po lo), (sg, aC yC 100 T), (me, oMem rg nx ct), (rg, aD yD 14 f), (sl, aD yD 2 fs), (mo, oMo th a1 a2 a3 ct a4 a5 a6 tl a7 a8), (a1, aI yI 96 S), (a2, aI yI 96 Kp), (a3, aI yI 1344 Hh), (a4, aI yI 192 Sl), (a5, aI yI 2 Sv), (a6, aI yI 100 T), (a7, aI yI 1681 Bd), (a8, aI yI 1681 B2)] ++ pl) H := hP
    have hD : va_D (fun q : Nat => s.heap.size ≤ q) ([(x, oRD tx nw tr kn me sl), (nw, oDrv nc S (lN (kL (S) 0 40))), (nc, aI yI 48 g), (tr, oDrv tc S9_h k9_h), (tc, aI yI 48 G9_h), (kn, oKn p9_h ex), (ex, aI yI 1681 E9_h), (ou, aL yL ((iI (simQ S (simL z3.toNat xx S))).toInt64)), (tx, oTx sg tl po lo), (sg, aC yC 100 T), (me, oMem rg nx ct), (rg, aD yD 14 f), (sl, aD yD 2 fs), (mo, oMo th a1 a2 a3 ct a4 a5 a6 tl a7 a8), (a1, aI yI 96 S), (a2, aI yI 96 Kp), (a3, aI yI 1344 Hh), (a4, aI yI 192 Sl), (a5, aI yI 2 Sv), (a6, aI yI 100 T), (a7, aI yI 1681 Bd), (a8, aI yI 1681 B2)] ++ pl) := hD
    refine lv_istore (lv' := [(5, .int (iI 0)), (0, .ref b), (1, .ref x), (2, .ref mo), (3, .ref ou), (4, .int (iI i))]) hx hb dL_law_1384 hl (by decide) rfl (fun ls hl => ?_)
    refine lv_aload_n hx hb dL_law_1386 rfl (lv_at hl 3 rfl) ?_
    refine lv_aload_n hx hb dL_law_1387 rfl (lv_at hl 1 rfl) ?_
    refine lv_iload hx hb dL_law_1388 (lv_at hl 5 rfl) ?_
    refine lv_iconst (v := iI 1) hx hb dL_law_1390 (by decide +kernel) ?_
    refine iv_add hx hb dL_law_1391 ?_
    refine iv_sld hx hb hX hbl hbA hS hz1 (by omega) dL_law_1392 ?_
    refine lv_i2l (v := (iI z1).toInt64) hx hb dL_law_1393 rfl ?_
    refine lv_bipush (v := iI 32) hx hb dL_law_1394 (by decide +kernel) ?_
    refine lv_lshl (v := ((iI z1).toInt64) <<< ((iI 32).toInt64 &&& 63)) hx hb dL_law_1396 rfl ?_
    refine lv_aload_n hx hb dL_law_1397 rfl (lv_at hl 1 rfl) ?_
    refine lv_iload hx hb dL_law_1398 (lv_at hl 5 rfl) ?_
    refine lv_iconst (v := iI 2) hx hb dL_law_1400 (by decide +kernel) ?_
    refine iv_add hx hb dL_law_1401 ?_
    refine iv_sld hx hb hX hbl hbA hS hz2 (by omega) dL_law_1402 ?_
    refine lv_i2l (v := (iI z2).toInt64) hx hb dL_law_1403 rfl ?_
    refine lv_ldc2 (v := 4294967295) hx hb hown (hts (.constantLong RL 165 (4294967295)) (by decide +kernel)) dL_law_1404 ?_
    refine lv_land hx hb dL_law_1407 ?_
    refine lv_lor hx hb dL_law_1408 ?_
    rw [← hxx]
    refine lv_aload_n hx hb dL_law_1409 rfl (lv_at hl 1 rfl) ?_
    refine lv_iload hx hb dL_law_1410 (lv_at hl 5 rfl) ?_
    refine lv_iconst (v := iI 3) hx hb dL_law_1412 (by decide +kernel) ?_
    refine iv_add hx hb dL_law_1413 ?_
    refine iv_sld hx hb hX hbl hbA hS hz3 (by omega) dL_law_1414 ?_
    refine iv_rwV (As := [.long xx, .int (iI z3)]) (rest := []) (C := RX5) (n := 2) ⟨hx, hb, hml, hown, hts⟩ (c_X5_simulate l D yI yC yD mo th ct tl a1 a2 a3 a4 a5 a6 a7 a8 S Bd Kp xx z3 (by assumption) (by assumption) _) (cwV 2 hts gL_law_X5_simulate rfl rfl rfl (by decide +kernel) ⟨Nat.le_of_ble_eq_true rfl, Nat.le_of_ble_eq_true rfl⟩) hK hP hD hS hA [13, 14, 20, 15] (by decide) rfl 13 rfl rfl rfl hl.1 rfl (Nat.le_of_ble_eq_true rfl) dL_law_1415 ⟨(by show _ ≤ (601024 : Nat); omega), (by show _ ≤ (7293034 : Nat); omega)⟩ (fun _ => rfl) (fun r1415 u1415 H locs hw1415 hP hD hS => ?_)
    obtain ⟨G91415, G81415⟩ := u1415
    obtain ⟨hr1415, -⟩ := hw1415
    subst hr1415
    have hP : va_P D vwCl ([(x, oRD tx nw tr kn me sl), (nw, oDrv nc S (lN (kL (S) 0 40))), (nc, aI yI 48 g), (tr, oDrv tc S9_h k9_h), (tc, aI yI 48 G9_h), (kn, oKn p9_h ex), (ex, aI yI 1681 E9_h), (ou, aL yL ((iI (simQ S (simL z3.toNat xx S))).toInt64)), (tx, oTx sg tl po lo), (sg, aC yC 100 T), (me, oMem rg nx ct), (rg, aD yD 14 f), (sl, aD yD 2 fs), (mo, oMo (bI (¬ (1 ≤ z3 ∧ z3 ≤ 30))) a1 a2 a3 ct a4 a5 a6 tl a7 a8), (a1, aI yI 96 S), (a2, aI yI 96 G81415), (a3, aI yI 1344 Hh), (a4, aI yI 192 Sl), (a5, aI yI 2 Sv), (a6, aI yI 100 T), (a7, aI yI 1681 G91415), (a8, aI yI 1681 B2)] ++ pl) H := hP
    have hD : va_D (fun q : Nat => s.heap.size ≤ q) ([(x, oRD tx nw tr kn me sl), (nw, oDrv nc S (lN (kL (S) 0 40))), (nc, aI yI 48 g), (tr, oDrv tc S9_h k9_h), (tc, aI yI 48 G9_h), (kn, oKn p9_h ex), (ex, aI yI 1681 E9_h), (ou, aL yL ((iI (simQ S (simL z3.toNat xx S))).toInt64)), (tx, oTx sg tl po lo), (sg, aC yC 100 T), (me, oMem rg nx ct), (rg, aD yD 14 f), (sl, aD yD 2 fs), (mo, oMo (bI (¬ (1 ≤ z3 ∧ z3 ≤ 30))) a1 a2 a3 ct a4 a5 a6 tl a7 a8), (a1, aI yI 96 S), (a2, aI yI 96 G81415), (a3, aI yI 1344 Hh), (a4, aI yI 192 Sl), (a5, aI yI 2 Sv), (a6, aI yI 100 T), (a7, aI yI 1681 G91415), (a8, aI yI 1681 B2)] ++ pl) := hD
    have hth : (bI (¬ (1 ≤ z3 ∧ z3 ≤ 30)) : Int) = 0 := by first | exact bI_f (not_not_intro hc) | exact bI_t hc | exact hc | rfl
    have hP : va_P D vwCl ([(x, oRD tx nw tr kn me sl), (nw, oDrv nc S (lN (kL (S) 0 40))), (nc, aI yI 48 g), (tr, oDrv tc S9_h k9_h), (tc, aI yI 48 G9_h), (kn, oKn p9_h ex), (ex, aI yI 1681 E9_h), (ou, aL yL ((iI (simQ S (simL z3.toNat xx S))).toInt64)), (tx, oTx sg tl po lo), (sg, aC yC 100 T), (me, oMem rg nx ct), (rg, aD yD 14 f), (sl, aD yD 2 fs), (mo, oMo 0 a1 a2 a3 ct a4 a5 a6 tl a7 a8), (a1, aI yI 96 S), (a2, aI yI 96 G81415), (a3, aI yI 1344 Hh), (a4, aI yI 192 Sl), (a5, aI yI 2 Sv), (a6, aI yI 100 T), (a7, aI yI 1681 G91415), (a8, aI yI 1681 B2)] ++ pl) H := hP.cv (by (try simp only [if_pos hc]); (try simp only [hth]))
    have hD : va_D (fun q : Nat => s.heap.size ≤ q) ([(x, oRD tx nw tr kn me sl), (nw, oDrv nc S (lN (kL (S) 0 40))), (nc, aI yI 48 g), (tr, oDrv tc S9_h k9_h), (tc, aI yI 48 G9_h), (kn, oKn p9_h ex), (ex, aI yI 1681 E9_h), (ou, aL yL ((iI (simQ S (simL z3.toNat xx S))).toInt64)), (tx, oTx sg tl po lo), (sg, aC yC 100 T), (me, oMem rg nx ct), (rg, aD yD 14 f), (sl, aD yD 2 fs), (mo, oMo 0 a1 a2 a3 ct a4 a5 a6 tl a7 a8), (a1, aI yI 96 S), (a2, aI yI 96 G81415), (a3, aI yI 1344 Hh), (a4, aI yI 192 Sl), (a5, aI yI 2 Sv), (a6, aI yI 100 T), (a7, aI yI 1681 G91415), (a8, aI yI 1681 B2)] ++ pl) := hD.cv (by (try simp only [if_pos hc]); (try simp only [hth]))
    rw [show (if 1 ≤ z3 ∧ z3 ≤ 30 then simQ S (simL z3.toNat xx S) else 0 : Int) = simQ S (simL z3.toNat xx S) from if_pos hc]
    refine lv_istore (lv' := [(6, .int (iI (simQ S (simL z3.toNat xx S)))), (5, .int (iI 0)), (0, .ref b), (1, .ref x), (2, .ref mo), (3, .ref ou), (4, .int (iI i))]) hx hb dL_law_1418 hl (by decide) rfl (fun ls hl => ?_)
    refine lv_aload_n hx hb dL_law_1420 rfl (lv_at hl 4 rfl) ?_
    refine iv_roV (As := []) (rest := []) (C := RX5) (n := 0) ⟨hx, hb, hml, hown, hts⟩ (c_X5_thrown l D yI yC yD mo 0 ct tl a1 a2 a3 a4 a5 a6 a7 a8 ) (cwV 0 hts gL_law_X5_thrown rfl rfl rfl (by decide +kernel) ⟨Nat.le_of_ble_eq_true rfl, Nat.le_of_ble_eq_true rfl⟩) hK hP [13] rfl 13 rfl rfl rfl hl.1 rfl (Nat.le_of_ble_eq_true rfl) dL_law_1421 ⟨(by show _ ≤ (601024 : Nat); omega), (by show _ ≤ (7293034 : Nat); omega)⟩ ?_
    refine lv_iload hx hb dL_law_1424 (lv_at hl 1 rfl) ?_
    refine lv_icmp_eq (x := iI 0) (y := iI 0) (tgt := 1431) hx hb dL_law_1426 (by decide) (fun c1426 => ?_) (fun c1426 => ?_)
    · refine lv_iload hx hb dL_law_1431 (lv_at hl 1 rfl) ?_
      refine iv_if_ne (a := 0) (tgt := 1448) hx hb (by omega) dL_law_1433 (by decide) (fun c1433 => ?_) (fun c1433 => ?_)
      · exact absurd c1433 (by omega)
      · refine lv_aload_n hx hb dL_law_1436 rfl (lv_at hl 5 rfl) ?_
        refine lv_iconst (v := iI 0) hx hb dL_law_1437 (by decide +kernel) ?_
        refine iv_lld hx hb hK4 hP 7 3 rfl rfl dL_law_1438 ?_
        refine lv_iload hx hb dL_law_1439 (lv_at hl 0 rfl) ?_
        refine lv_i2l (v := (iI (simQ S (simL z3.toNat xx S))).toInt64) hx hb dL_law_1441 rfl ?_
        refine iv_lcmp (z := 0) hx hb (cmp_self _) dL_law_1442 ?_
        refine iv_if_eq (a := 0) (tgt := 1448) hx hb (by omega) dL_law_1443 (by decide) (fun c1443 => ?_) (fun c1443 => ?_)
        · refine lv_goto (tgt := 1563) hx hb dL_law_1448 (by decide) ?_
          have hP9 : va_P D vwCl ([(x, oRD tx nw tr kn me sl), (tx, oTx sg tl po lo), (sg, aC yC 100 T), (nw, oDrv nc S (lN (kL (S) 0 40))), (nc, aI yI 48 g), (tr, oDrv tc S9_h k9_h), (tc, aI yI 48 G9_h), (kn, oKn p9_h ex), (ex, aI yI 1681 E9_h), (me, oMem rg nx ct), (rg, aD yD 14 f), (sl, aD yD 2 fs), (mo, oMo 0 a1 a2 a3 ct a4 a5 a6 tl a7 a8), (a1, aI yI 96 S), (a2, aI yI 96 G81415), (a3, aI yI 1344 Hh), (a4, aI yI 192 Sl), (a5, aI yI 2 Sv), (a6, aI yI 100 T), (a7, aI yI 1681 G91415), (a8, aI yI 1681 B2), (ou, aL yL ((iI (simQ S (simL z3.toNat xx S))).toInt64))] ++ pl) _ := hP.re [0, 8, 9, 1, 2, 3, 4, 5, 6, 10, 11, 12, 13, 14, 15, 16, 17, 18, 19, 20, 21, 7] rfl
          have hD9 : va_D (fun q : Nat => s.heap.size ≤ q) ([(x, oRD tx nw tr kn me sl), (tx, oTx sg tl po lo), (sg, aC yC 100 T), (nw, oDrv nc S (lN (kL (S) 0 40))), (nc, aI yI 48 g), (tr, oDrv tc S9_h k9_h), (tc, aI yI 48 G9_h), (kn, oKn p9_h ex), (ex, aI yI 1681 E9_h), (me, oMem rg nx ct), (rg, aD yD 14 f), (sl, aD yD 2 fs), (mo, oMo 0 a1 a2 a3 ct a4 a5 a6 tl a7 a8), (a1, aI yI 96 S), (a2, aI yI 96 G81415), (a3, aI yI 1344 Hh), (a4, aI yI 192 Sl), (a5, aI yI 2 Sv), (a6, aI yI 100 T), (a7, aI yI 1681 G91415), (a8, aI yI 1681 B2), (ou, aL yL ((iI (simQ S (simL z3.toNat xx S))).toInt64))] ++ pl) := hD.re [0, 8, 9, 1, 2, 3, 4, 5, 6, 10, 11, 12, 13, 14, 15, 16, 17, 18, 19, 20, 21, 7] (by decide) rfl
          rw [← hplq] at hP9 hD9
          refine W.widen (k := cells + 8) (n := slots + 150) (by omega) (by omega) ?_
          exact K _ _ _ ⟨x, tx, sg, nw, nc, tr, tc, kn, ex, me, rg, sl, mo, a1, a2, a3, a4, a5, a6, a7, a8, ou, T, S, g, S9_h, G9_h, E9_h, G81415, Hh, Sl, Sv, G91415, B2, tl, po, lo, p9_h, nx, ct, 0, k9_h, ((iI (simQ S (simL z3.toNat xx S))).toInt64), f, fs, en, hP9, hD9, hS, lv_sub hl [2, 3, 4, 5, 6] rfl, hI, hR, htl, hrt, hme, hsv, hfO, hrO, hsO⟩
        · exact absurd c1443 (by omega)
    · exact absurd rfl c1426
  · refine lv_aload_n hx hb dL_law_1351 rfl (lv_at hl 1 rfl) ?_
    refine lv_aload_n hx hb dL_law_1352 rfl (lv_at hl 0 rfl) ?_
    refine lv_iload hx hb dL_law_1353 (lv_at hl 4 rfl) ?_
    refine lv_iconst (v := iI 1) hx hb dL_law_1355 (by decide +kernel) ?_
    refine iv_add hx hb dL_law_1356 ?_
    refine iv_sld hx hb hX hbl hbA hS hz1 (by omega) dL_law_1357 ?_
    refine lv_i2l (v := (iI z1).toInt64) hx hb dL_law_1358 rfl ?_
    refine lv_bipush (v := iI 32) hx hb dL_law_1359 (by decide +kernel) ?_
    refine lv_lshl (v := ((iI z1).toInt64) <<< ((iI 32).toInt64 &&& 63)) hx hb dL_law_1361 rfl ?_
    refine lv_aload_n hx hb dL_law_1362 rfl (lv_at hl 0 rfl) ?_
    refine lv_iload hx hb dL_law_1363 (lv_at hl 4 rfl) ?_
    refine lv_iconst (v := iI 2) hx hb dL_law_1365 (by decide +kernel) ?_
    refine iv_add hx hb dL_law_1366 ?_
    refine iv_sld hx hb hX hbl hbA hS hz2 (by omega) dL_law_1367 ?_
    refine lv_i2l (v := (iI z2).toInt64) hx hb dL_law_1368 rfl ?_
    refine lv_ldc2 (v := 4294967295) hx hb hown (hts (.constantLong RL 165 (4294967295)) (by decide +kernel)) dL_law_1369 ?_
    refine lv_land hx hb dL_law_1372 ?_
    refine lv_lor hx hb dL_law_1373 ?_
    rw [← hxx]
    refine lv_aload_n hx hb dL_law_1374 rfl (lv_at hl 0 rfl) ?_
    refine lv_iload hx hb dL_law_1375 (lv_at hl 4 rfl) ?_
    refine lv_iconst (v := iI 3) hx hb dL_law_1377 (by decide +kernel) ?_
    refine iv_add hx hb dL_law_1378 ?_
    refine iv_sld hx hb hX hbl hbA hS hz3 (by omega) dL_law_1379 ?_
    refine lv_aload_n hx hb dL_law_1380 rfl (lv_at hl 3 rfl) ?_
    have hP := hP.re (Y := [(x, oRD tx nw tr kn me sl), (nw, oDrv nc S (lN (kL (S) 0 40))), (nc, aI yI 48 g), (tr, oDrv tc S2 k2), (tc, aI yI 48 g2), (kn, oKn pk ex), (ex, aI yI 1681 E), (ou, aL yL ov), (tx, oTx sg tl po lo), (sg, aC yC 100 T), (me, oMem rg nx ct), (rg, aD yD 14 f), (sl, aD yD 2 fs), (mo, oMo th a1 a2 a3 ct a4 a5 a6 tl a7 a8), (a1, aI yI 96 S), (a2, aI yI 96 Kp), (a3, aI yI 1344 Hh), (a4, aI yI 192 Sl), (a5, aI yI 2 Sv), (a6, aI yI 100 T), (a7, aI yI 1681 Bd), (a8, aI yI 1681 B2)]) [0, 3, 4, 5, 6, 7, 8, 21, 1, 2, 9, 10, 11, 12, 13, 14, 15, 16, 17, 18, 19, 20] rfl
    have hD := hD.re (Y := [(x, oRD tx nw tr kn me sl), (nw, oDrv nc S (lN (kL (S) 0 40))), (nc, aI yI 48 g), (tr, oDrv tc S2 k2), (tc, aI yI 48 g2), (kn, oKn pk ex), (ex, aI yI 1681 E), (ou, aL yL ov), (tx, oTx sg tl po lo), (sg, aC yC 100 T), (me, oMem rg nx ct), (rg, aD yD 14 f), (sl, aD yD 2 fs), (mo, oMo th a1 a2 a3 ct a4 a5 a6 tl a7 a8), (a1, aI yI 96 S), (a2, aI yI 96 Kp), (a3, aI yI 1344 Hh), (a4, aI yI 192 Sl), (a5, aI yI 2 Sv), (a6, aI yI 100 T), (a7, aI yI 1681 Bd), (a8, aI yI 1681 B2)]) [0, 3, 4, 5, 6, 7, 8, 21, 1, 2, 9, 10, 11, 12, 13, 14, 15, 16, 17, 18, 19, 20] (by decide) rfl
    refine iv_lawF (cx := [(x, oRD tx nw tr kn me sl), (nw, oDrv nc S (lN (kL (S) 0 40))), (nc, aI yI 48 g), (tr, oDrv tc S2 k2), (tc, aI yI 48 g2), (kn, oKn pk ex), (ex, aI yI 1681 E), (ou, aL yL ov)]) (RR := ([(tx, oTx sg tl po lo), (sg, aC yC 100 T), (me, oMem rg nx ct), (rg, aD yD 14 f), (sl, aD yD 2 fs), (mo, oMo th a1 a2 a3 ct a4 a5 a6 tl a7 a8), (a1, aI yI 96 S), (a2, aI yI 96 Kp), (a3, aI yI 1344 Hh), (a4, aI yI 192 Sl), (a5, aI yI 2 Sv), (a6, aI yI 100 T), (a7, aI yI 1681 Bd), (a8, aI yI 1681 B2)] ++ pl)) (wp := fun (_ : Unit) => [(x, oRD tx nw tr kn me sl), (nw, oDrv nc S (lN (kL (S) 0 40))), (nc, aI yI 48 g), (tr, oDrv tc S2 k2), (tc, aI yI 48 g2), (kn, oKn pk ex), (ex, aI yI 1681 E), (ou, aL yL ov)]) (As := [.ref x, .long xx, .int (iI z3), .ref ou]) (rest := []) (n := 4) ⟨hx, hb, hml, hown, hts⟩ (c_L_simulate_1 l hla D yI yC yD yL x tx nw tr kn me sl nc S g tc S2 g2 k2 ex pk E xx z3 ou ov (by first | assumption | omega | exact ⟨hr1, hr2⟩ | exact fun z q1 q2 => by have := hrt z q1 q2; omega) (by first | assumption | omega | exact ⟨hr1, hr2⟩ | exact fun z q1 q2 => by have := hrt z q1 q2; omega) (by first | assumption | omega | exact ⟨hr1, hr2⟩ | exact fun z q1 q2 => by have := hrt z q1 q2; omega) (hc) _) (vx_cwSW 4 hts gL_law_L_simulate rfl rfl rfl (by decide +kernel) ⟨Nat.le_of_ble_eq_true rfl, Nat.le_of_ble_eq_true rfl⟩) hK4 hP hD hS hA hB rfl hl.1 rfl (Nat.le_of_ble_eq_true rfl) dL_law_1381 ⟨(by show _ ≤ (601024 : Nat); omega), (by show _ ≤ (7293034 : Nat); omega)⟩ (fun r9 u H locs hw hP hD hS => ?_)
    obtain ⟨hr9, -⟩ := hw
    subst hr9
    have hP : va_P D vwCl ([(x, oRD tx nw tr kn me sl), (nw, oDrv nc S (lN (kL (S) 0 40))), (nc, aI yI 48 g), (tr, oDrv tc S2 k2), (tc, aI yI 48 g2), (kn, oKn pk ex), (ex, aI yI 1681 E), (ou, aL yL ov), (tx, oTx sg tl po lo), (sg, aC yC 100 T), (me, oMem rg nx ct), (rg, aD yD 14 f), (sl, aD yD 2 fs), (mo, oMo th a1 a2 a3 ct a4 a5 a6 tl a7 a8), (a1, aI yI 96 S), (a2, aI yI 96 Kp), (a3, aI yI 1344 Hh), (a4, aI yI 192 Sl), (a5, aI yI 2 Sv), (a6, aI yI 100 T), (a7, aI yI 1681 Bd), (a8, aI yI 1681 B2)] ++ pl) H := hP
    have hD : va_D (fun q : Nat => s.heap.size ≤ q) ([(x, oRD tx nw tr kn me sl), (nw, oDrv nc S (lN (kL (S) 0 40))), (nc, aI yI 48 g), (tr, oDrv tc S2 k2), (tc, aI yI 48 g2), (kn, oKn pk ex), (ex, aI yI 1681 E), (ou, aL yL ov), (tx, oTx sg tl po lo), (sg, aC yC 100 T), (me, oMem rg nx ct), (rg, aD yD 14 f), (sl, aD yD 2 fs), (mo, oMo th a1 a2 a3 ct a4 a5 a6 tl a7 a8), (a1, aI yI 96 S), (a2, aI yI 96 Kp), (a3, aI yI 1344 Hh), (a4, aI yI 192 Sl), (a5, aI yI 2 Sv), (a6, aI yI 100 T), (a7, aI yI 1681 Bd), (a8, aI yI 1681 B2)] ++ pl) := hD
    refine lv_istore (lv' := [(5, .int (iI 1)), (0, .ref b), (1, .ref x), (2, .ref mo), (3, .ref ou), (4, .int (iI i))]) hx hb dL_law_1384 hl (by decide) rfl (fun ls hl => ?_)
    refine lv_aload_n hx hb dL_law_1386 rfl (lv_at hl 3 rfl) ?_
    refine lv_aload_n hx hb dL_law_1387 rfl (lv_at hl 1 rfl) ?_
    refine lv_iload hx hb dL_law_1388 (lv_at hl 5 rfl) ?_
    refine lv_iconst (v := iI 1) hx hb dL_law_1390 (by decide +kernel) ?_
    refine iv_add hx hb dL_law_1391 ?_
    refine iv_sld hx hb hX hbl hbA hS hz1 (by omega) dL_law_1392 ?_
    refine lv_i2l (v := (iI z1).toInt64) hx hb dL_law_1393 rfl ?_
    refine lv_bipush (v := iI 32) hx hb dL_law_1394 (by decide +kernel) ?_
    refine lv_lshl (v := ((iI z1).toInt64) <<< ((iI 32).toInt64 &&& 63)) hx hb dL_law_1396 rfl ?_
    refine lv_aload_n hx hb dL_law_1397 rfl (lv_at hl 1 rfl) ?_
    refine lv_iload hx hb dL_law_1398 (lv_at hl 5 rfl) ?_
    refine lv_iconst (v := iI 2) hx hb dL_law_1400 (by decide +kernel) ?_
    refine iv_add hx hb dL_law_1401 ?_
    refine iv_sld hx hb hX hbl hbA hS hz2 (by omega) dL_law_1402 ?_
    refine lv_i2l (v := (iI z2).toInt64) hx hb dL_law_1403 rfl ?_
    refine lv_ldc2 (v := 4294967295) hx hb hown (hts (.constantLong RL 165 (4294967295)) (by decide +kernel)) dL_law_1404 ?_
    refine lv_land hx hb dL_law_1407 ?_
    refine lv_lor hx hb dL_law_1408 ?_
    rw [← hxx]
    refine lv_aload_n hx hb dL_law_1409 rfl (lv_at hl 1 rfl) ?_
    refine lv_iload hx hb dL_law_1410 (lv_at hl 5 rfl) ?_
    refine lv_iconst (v := iI 3) hx hb dL_law_1412 (by decide +kernel) ?_
    refine iv_add hx hb dL_law_1413 ?_
    refine iv_sld hx hb hX hbl hbA hS hz3 (by omega) dL_law_1414 ?_
    refine iv_rwV (As := [.long xx, .int (iI z3)]) (rest := []) (C := RX5) (n := 2) ⟨hx, hb, hml, hown, hts⟩ (c_X5_simulate l D yI yC yD mo th ct tl a1 a2 a3 a4 a5 a6 a7 a8 S Bd Kp xx z3 (by assumption) (by assumption) _) (cwV 2 hts gL_law_X5_simulate rfl rfl rfl (by decide +kernel) ⟨Nat.le_of_ble_eq_true rfl, Nat.le_of_ble_eq_true rfl⟩) hK hP hD hS hA [13, 14, 20, 15] (by decide) rfl 13 rfl rfl rfl hl.1 rfl (Nat.le_of_ble_eq_true rfl) dL_law_1415 ⟨(by show _ ≤ (601024 : Nat); omega), (by show _ ≤ (7293034 : Nat); omega)⟩ (fun _ => rfl) (fun r1415 u1415 H locs hw1415 hP hD hS => ?_)
    obtain ⟨G91415, G81415⟩ := u1415
    obtain ⟨hr1415, -⟩ := hw1415
    subst hr1415
    have hP : va_P D vwCl ([(x, oRD tx nw tr kn me sl), (nw, oDrv nc S (lN (kL (S) 0 40))), (nc, aI yI 48 g), (tr, oDrv tc S2 k2), (tc, aI yI 48 g2), (kn, oKn pk ex), (ex, aI yI 1681 E), (ou, aL yL ov), (tx, oTx sg tl po lo), (sg, aC yC 100 T), (me, oMem rg nx ct), (rg, aD yD 14 f), (sl, aD yD 2 fs), (mo, oMo (bI (¬ (1 ≤ z3 ∧ z3 ≤ 30))) a1 a2 a3 ct a4 a5 a6 tl a7 a8), (a1, aI yI 96 S), (a2, aI yI 96 G81415), (a3, aI yI 1344 Hh), (a4, aI yI 192 Sl), (a5, aI yI 2 Sv), (a6, aI yI 100 T), (a7, aI yI 1681 G91415), (a8, aI yI 1681 B2)] ++ pl) H := hP
    have hD : va_D (fun q : Nat => s.heap.size ≤ q) ([(x, oRD tx nw tr kn me sl), (nw, oDrv nc S (lN (kL (S) 0 40))), (nc, aI yI 48 g), (tr, oDrv tc S2 k2), (tc, aI yI 48 g2), (kn, oKn pk ex), (ex, aI yI 1681 E), (ou, aL yL ov), (tx, oTx sg tl po lo), (sg, aC yC 100 T), (me, oMem rg nx ct), (rg, aD yD 14 f), (sl, aD yD 2 fs), (mo, oMo (bI (¬ (1 ≤ z3 ∧ z3 ≤ 30))) a1 a2 a3 ct a4 a5 a6 tl a7 a8), (a1, aI yI 96 S), (a2, aI yI 96 G81415), (a3, aI yI 1344 Hh), (a4, aI yI 192 Sl), (a5, aI yI 2 Sv), (a6, aI yI 100 T), (a7, aI yI 1681 G91415), (a8, aI yI 1681 B2)] ++ pl) := hD
    have hth : (bI (¬ (1 ≤ z3 ∧ z3 ≤ 30)) : Int) = 1 := by first | exact bI_f (not_not_intro hc) | exact bI_t hc | exact hc | rfl
    have hP : va_P D vwCl ([(x, oRD tx nw tr kn me sl), (nw, oDrv nc S (lN (kL (S) 0 40))), (nc, aI yI 48 g), (tr, oDrv tc S2 k2), (tc, aI yI 48 g2), (kn, oKn pk ex), (ex, aI yI 1681 E), (ou, aL yL ov), (tx, oTx sg tl po lo), (sg, aC yC 100 T), (me, oMem rg nx ct), (rg, aD yD 14 f), (sl, aD yD 2 fs), (mo, oMo 1 a1 a2 a3 ct a4 a5 a6 tl a7 a8), (a1, aI yI 96 S), (a2, aI yI 96 G81415), (a3, aI yI 1344 Hh), (a4, aI yI 192 Sl), (a5, aI yI 2 Sv), (a6, aI yI 100 T), (a7, aI yI 1681 G91415), (a8, aI yI 1681 B2)] ++ pl) H := hP.cv (by (try simp only [if_neg hc]); (try simp only [hth]))
    have hD : va_D (fun q : Nat => s.heap.size ≤ q) ([(x, oRD tx nw tr kn me sl), (nw, oDrv nc S (lN (kL (S) 0 40))), (nc, aI yI 48 g), (tr, oDrv tc S2 k2), (tc, aI yI 48 g2), (kn, oKn pk ex), (ex, aI yI 1681 E), (ou, aL yL ov), (tx, oTx sg tl po lo), (sg, aC yC 100 T), (me, oMem rg nx ct), (rg, aD yD 14 f), (sl, aD yD 2 fs), (mo, oMo 1 a1 a2 a3 ct a4 a5 a6 tl a7 a8), (a1, aI yI 96 S), (a2, aI yI 96 G81415), (a3, aI yI 1344 Hh), (a4, aI yI 192 Sl), (a5, aI yI 2 Sv), (a6, aI yI 100 T), (a7, aI yI 1681 G91415), (a8, aI yI 1681 B2)] ++ pl) := hD.cv (by (try simp only [if_neg hc]); (try simp only [hth]))
    rw [show (if 1 ≤ z3 ∧ z3 ≤ 30 then simQ S (simL z3.toNat xx S) else 0 : Int) = 0 from if_neg hc]
    refine lv_istore (lv' := [(6, .int (iI 0)), (5, .int (iI 1)), (0, .ref b), (1, .ref x), (2, .ref mo), (3, .ref ou), (4, .int (iI i))]) hx hb dL_law_1418 hl (by decide) rfl (fun ls hl => ?_)
    refine lv_aload_n hx hb dL_law_1420 rfl (lv_at hl 4 rfl) ?_
    refine iv_roV (As := []) (rest := []) (C := RX5) (n := 0) ⟨hx, hb, hml, hown, hts⟩ (c_X5_thrown l D yI yC yD mo 1 ct tl a1 a2 a3 a4 a5 a6 a7 a8 ) (cwV 0 hts gL_law_X5_thrown rfl rfl rfl (by decide +kernel) ⟨Nat.le_of_ble_eq_true rfl, Nat.le_of_ble_eq_true rfl⟩) hK hP [13] rfl 13 rfl rfl rfl hl.1 rfl (Nat.le_of_ble_eq_true rfl) dL_law_1421 ⟨(by show _ ≤ (601024 : Nat); omega), (by show _ ≤ (7293034 : Nat); omega)⟩ ?_
    refine lv_iload hx hb dL_law_1424 (lv_at hl 1 rfl) ?_
    refine lv_icmp_eq (x := iI 1) (y := iI 1) (tgt := 1431) hx hb dL_law_1426 (by decide) (fun c1426 => ?_) (fun c1426 => ?_)
    · refine lv_iload hx hb dL_law_1431 (lv_at hl 1 rfl) ?_
      refine iv_if_ne (a := 1) (tgt := 1448) hx hb (by omega) dL_law_1433 (by decide) (fun c1433 => ?_) (fun c1433 => ?_)
      · refine lv_goto (tgt := 1563) hx hb dL_law_1448 (by decide) ?_
        have hP9 : va_P D vwCl ([(x, oRD tx nw tr kn me sl), (tx, oTx sg tl po lo), (sg, aC yC 100 T), (nw, oDrv nc S (lN (kL (S) 0 40))), (nc, aI yI 48 g), (tr, oDrv tc S2 k2), (tc, aI yI 48 g2), (kn, oKn pk ex), (ex, aI yI 1681 E), (me, oMem rg nx ct), (rg, aD yD 14 f), (sl, aD yD 2 fs), (mo, oMo 1 a1 a2 a3 ct a4 a5 a6 tl a7 a8), (a1, aI yI 96 S), (a2, aI yI 96 G81415), (a3, aI yI 1344 Hh), (a4, aI yI 192 Sl), (a5, aI yI 2 Sv), (a6, aI yI 100 T), (a7, aI yI 1681 G91415), (a8, aI yI 1681 B2), (ou, aL yL ov)] ++ pl) _ := hP.re [0, 8, 9, 1, 2, 3, 4, 5, 6, 10, 11, 12, 13, 14, 15, 16, 17, 18, 19, 20, 21, 7] rfl
        have hD9 : va_D (fun q : Nat => s.heap.size ≤ q) ([(x, oRD tx nw tr kn me sl), (tx, oTx sg tl po lo), (sg, aC yC 100 T), (nw, oDrv nc S (lN (kL (S) 0 40))), (nc, aI yI 48 g), (tr, oDrv tc S2 k2), (tc, aI yI 48 g2), (kn, oKn pk ex), (ex, aI yI 1681 E), (me, oMem rg nx ct), (rg, aD yD 14 f), (sl, aD yD 2 fs), (mo, oMo 1 a1 a2 a3 ct a4 a5 a6 tl a7 a8), (a1, aI yI 96 S), (a2, aI yI 96 G81415), (a3, aI yI 1344 Hh), (a4, aI yI 192 Sl), (a5, aI yI 2 Sv), (a6, aI yI 100 T), (a7, aI yI 1681 G91415), (a8, aI yI 1681 B2), (ou, aL yL ov)] ++ pl) := hD.re [0, 8, 9, 1, 2, 3, 4, 5, 6, 10, 11, 12, 13, 14, 15, 16, 17, 18, 19, 20, 21, 7] (by decide) rfl
        rw [← hplq] at hP9 hD9
        refine W.widen (k := cells + 8) (n := slots + 150) (by omega) (by omega) ?_
        exact K _ _ _ ⟨x, tx, sg, nw, nc, tr, tc, kn, ex, me, rg, sl, mo, a1, a2, a3, a4, a5, a6, a7, a8, ou, T, S, g, S2, g2, E, G81415, Hh, Sl, Sv, G91415, B2, tl, po, lo, pk, nx, ct, 1, k2, ov, f, fs, en, hP9, hD9, hS, lv_sub hl [2, 3, 4, 5, 6] rfl, hI, hR, htl, hrt, hme, hsv, hfO, hrO, hsO⟩
      · exact absurd c1433 (by omega)
    · exact absurd rfl c1426
set_option maxHeartbeats 8000000 in
set_option maxRecDepth 100000 in
theorem lc_save {p : Program} {e : Env} {s : State} {m : MethodId} {below : List Frame} {meth : Method} {c : Code} (l : Launch) (hla : l.stackTraces = false) {b L : Nat} {xs : Nat → Int32} (C0 : lw_At p s m meth c b L xs) (D : va_G) (yI yC yD yL : ClassId) (hK4 : va_K D vwCl (tyl yI yC yD yL) s) (hB : XB (fun q : Nat => s.heap.size ≤ q) s s.heap) {Q : State → Prop} {cells slots : Nat} (hroom : cells + 8 ≤ 601024 ∧ slots + 150 ≤ 7293034) {i : Int} (hi : 0 ≤ i ∧ i + 4 ≤ L ∧ L ≤ 2048) {H : Heap} {locs : List Loc} {ls : Array Slot} (hLI : LI D yI yC yD yL s b i H locs ls) (K : ∀ (H : Heap) (locs : List Loc) (ls : Array Slot), LI D yI yC yD yL s b i H locs ls → W p l e room_1 s m #[Value.ref b] below meth c H locs (cells + 8) (slots + 150) Q (F0 m 1563 ls [])) : W p l e room_1 s m #[Value.ref b] below meth c H locs cells slots Q (F0 m 1451 ls []) := by
  obtain ⟨hx, hb, hr, hml, hown, hts, hX, hbl, hlocks, hgv⟩ := id C0
  have hA : ∀ q : Nat, s.heap.size ≤ q → (fun q : Nat => s.heap.size ≤ q) q := fun _ h => h
  have hbA : ¬ (fun q : Nat => s.heap.size ≤ q) b := Nat.not_le.mpr hbl
  have hK : va_K D vwCl (tyz yI yC yD) s := hK4.sub [0, 1, 2] rfl
  obtain ⟨x, tx, sg, nw, nc, tr, tc, kn, ex, me, rg, sl, mo, a1, a2, a3, a4, a5, a6, a7, a8, ou, T, S, g, S2, g2, E, Kp, Hh, Sl, Sv, Bd, B2, tl, po, lo, pk, nx, ct, th, k2, ov, f, fs, en, hP, hD, hS, hl, hI, hR, htl, hrt, hme, hsv, hfO, hrO, hsO⟩ := hLI
  obtain ⟨z1, hz1, hr1⟩ : ∃ z, xs (i + 1).toNat = iI z ∧ inR z := ⟨_, iI_of _, iI_rng _⟩
  obtain ⟨z2, hz2, hr2⟩ : ∃ z, xs (i + 2).toNat = iI z ∧ inR z := ⟨_, iI_of _, iI_rng _⟩
  obtain ⟨z3, hz3, hr3⟩ : ∃ z, xs (i + 3).toNat = iI z ∧ inR z := ⟨_, iI_of _, iI_rng _⟩
  have hpl := hI.pl
  have hna := hI.na
  have hre : 0 ≤ ct ∧ ct ≤ 14 := ⟨hme.2.2.1, hme.2.2.2⟩
  have hrt6 : ∀ z, 0 ≤ z → z < tl → 0 ≤ T z ∧ T z < 65536 := fun z q1 q2 => by have := hrt z q1 q2; omega
  have hr12 : inR z1 ∧ inR z2 := ⟨hr1, hr2⟩
  generalize hplq : plE yI en 16 = pl at hP hD
  have hP : va_P D vwCl ([(x, oRD tx nw tr kn me sl), (tx, oTx sg tl po lo), (sg, aC yC 100 T), (nw, oDrv nc S (lN (kL (S) 0 40))), (nc, aI yI 48 g), (tr, oDrv tc S2 k2), (tc, aI yI 48 g2), (kn, oKn pk ex), (ex, aI yI 1681 E), (me, oMem rg nx ct), (rg, aD yD 14 f), (sl, aD yD 2 fs), (mo, oMo th a1 a2 a3 ct a4 a5 a6 tl a7 a8), (a1, aI yI 96 S), (a2, aI yI 96 Kp), (a3, aI yI 1344 Hh), (a4, aI yI 192 Sl), (a5, aI yI 2 Sv), (a6, aI yI 100 T), (a7, aI yI 1681 Bd), (a8, aI yI 1681 B2), (ou, aL yL ov)] ++ pl) H := hP
  by_cases hc : 0 ≤ z1 ∧ z1 < 2
  · obtain ⟨A1, A2, hs1, hs2⟩ := plE_split (yI := yI) (en := en) (j := 14 + z1.toNat) 16 (by omega)
    rcases he : en (14 + z1.toNat) with _ | ⟨q, qc, Sq, gq⟩
    · have hf9 : fs z1.toNat = none := (hfO.2 z1.toNat (by omega)).trans (by rw [he]; rfl)
      rw [← hplq, hs1, he] at hP hD
      have hP : va_P D vwCl ([(x, oRD tx nw tr kn me sl), (tx, oTx sg tl po lo), (sg, aC yC 100 T), (nw, oDrv nc S (lN (kL (S) 0 40))), (nc, aI yI 48 g), (tr, oDrv tc S2 k2), (tc, aI yI 48 g2), (kn, oKn pk ex), (ex, aI yI 1681 E), (me, oMem rg nx ct), (rg, aD yD 14 f), (sl, aD yD 2 fs), (mo, oMo th a1 a2 a3 ct a4 a5 a6 tl a7 a8), (a1, aI yI 96 S), (a2, aI yI 96 Kp), (a3, aI yI 1344 Hh), (a4, aI yI 192 Sl), (a5, aI yI 2 Sv), (a6, aI yI 100 T), (a7, aI yI 1681 Bd), (a8, aI yI 1681 B2), (ou, aL yL ov)] ++ (A1 ++ A2)) H := hP
      have hD : va_D (fun q : Nat => s.heap.size ≤ q) ([(x, oRD tx nw tr kn me sl), (tx, oTx sg tl po lo), (sg, aC yC 100 T), (nw, oDrv nc S (lN (kL (S) 0 40))), (nc, aI yI 48 g), (tr, oDrv tc S2 k2), (tc, aI yI 48 g2), (kn, oKn pk ex), (ex, aI yI 1681 E), (me, oMem rg nx ct), (rg, aD yD 14 f), (sl, aD yD 2 fs), (mo, oMo th a1 a2 a3 ct a4 a5 a6 tl a7 a8), (a1, aI yI 96 S), (a2, aI yI 96 Kp), (a3, aI yI 1344 Hh), (a4, aI yI 192 Sl), (a5, aI yI 2 Sv), (a6, aI yI 100 T), (a7, aI yI 1681 Bd), (a8, aI yI 1681 B2), (ou, aL yL ov)] ++ (A1 ++ A2)) := hD
      refine lv_aload_n hx hb dL_law_1451 rfl (lv_at hl 1 rfl) ?_
      refine lv_aload_n hx hb dL_law_1452 rfl (lv_at hl 0 rfl) ?_
      refine lv_iload hx hb dL_law_1453 (lv_at hl 4 rfl) ?_
      refine lv_iconst (v := iI 1) hx hb dL_law_1455 (by decide +kernel) ?_
      refine iv_add hx hb dL_law_1456 ?_
      refine iv_sld hx hb hX hbl hbA hS hz1 (by omega) dL_law_1457 ?_
      refine lv_aload_n hx hb dL_law_1458 rfl (lv_at hl 3 rfl) ?_
      have hP := hP.re (Y := [(x, oRD tx nw tr kn me sl), (nw, oDrv nc S (lN (kL (S) 0 40))), (nc, aI yI 48 g), (sl, aD yD 2 fs), (ou, aL yL ov), (tx, oTx sg tl po lo), (sg, aC yC 100 T), (tr, oDrv tc S2 k2), (tc, aI yI 48 g2), (kn, oKn pk ex), (ex, aI yI 1681 E), (me, oMem rg nx ct), (rg, aD yD 14 f), (mo, oMo th a1 a2 a3 ct a4 a5 a6 tl a7 a8), (a1, aI yI 96 S), (a2, aI yI 96 Kp), (a3, aI yI 1344 Hh), (a4, aI yI 192 Sl), (a5, aI yI 2 Sv), (a6, aI yI 100 T), (a7, aI yI 1681 Bd), (a8, aI yI 1681 B2)]) [0, 3, 4, 11, 21, 1, 2, 5, 6, 7, 8, 9, 10, 12, 13, 14, 15, 16, 17, 18, 19, 20] rfl
      have hD := hD.re (Y := [(x, oRD tx nw tr kn me sl), (nw, oDrv nc S (lN (kL (S) 0 40))), (nc, aI yI 48 g), (sl, aD yD 2 fs), (ou, aL yL ov), (tx, oTx sg tl po lo), (sg, aC yC 100 T), (tr, oDrv tc S2 k2), (tc, aI yI 48 g2), (kn, oKn pk ex), (ex, aI yI 1681 E), (me, oMem rg nx ct), (rg, aD yD 14 f), (mo, oMo th a1 a2 a3 ct a4 a5 a6 tl a7 a8), (a1, aI yI 96 S), (a2, aI yI 96 Kp), (a3, aI yI 1344 Hh), (a4, aI yI 192 Sl), (a5, aI yI 2 Sv), (a6, aI yI 100 T), (a7, aI yI 1681 Bd), (a8, aI yI 1681 B2)]) [0, 3, 4, 11, 21, 1, 2, 5, 6, 7, 8, 9, 10, 12, 13, 14, 15, 16, 17, 18, 19, 20] (by decide) rfl
      refine iv_lawF (cx := [(x, oRD tx nw tr kn me sl), (nw, oDrv nc S (lN (kL (S) 0 40))), (nc, aI yI 48 g), (sl, aD yD 2 fs), (ou, aL yL ov)]) (RR := ([(tx, oTx sg tl po lo), (sg, aC yC 100 T), (tr, oDrv tc S2 k2), (tc, aI yI 48 g2), (kn, oKn pk ex), (ex, aI yI 1681 E), (me, oMem rg nx ct), (rg, aD yD 14 f), (mo, oMo th a1 a2 a3 ct a4 a5 a6 tl a7 a8), (a1, aI yI 96 S), (a2, aI yI 96 Kp), (a3, aI yI 1344 Hh), (a4, aI yI 192 Sl), (a5, aI yI 2 Sv), (a6, aI yI 100 T), (a7, aI yI 1681 Bd), (a8, aI yI 1681 B2)] ++ (A1 ++ A2))) (wp := fun (u : Nat × Nat) => match u with | (q, qc) => [(x, oRD tx nw tr kn me sl), (nw, oDrv nc S (lN (kL (S) 0 40))), (nc, aI yI 48 g), (sl, aD yD 2 (va_up fs z1.toNat (some q))), (q, oDrv qc S (lN (kL (S) 0 40))), (qc, aI yI 48 g), (ou, aL yL ((iI (S 4)).toInt64))]) (As := [.ref x, .int (iI z1), .ref ou]) (rest := []) (n := 3) ⟨hx, hb, hml, hown, hts⟩ (c_L_save_n_0 l hla D yI yC yD yL x tx nw tr kn me sl nc S g fs z1 ou ov (by first | assumption | omega | exact ⟨hr1, hr2⟩ | exact fun z q1 q2 => by have := hrt z q1 q2; omega) (fun _ => hf9) (hc) _) (vx_cwSW 3 hts gL_law_L_save rfl rfl rfl (by decide +kernel) ⟨Nat.le_of_ble_eq_true rfl, Nat.le_of_ble_eq_true rfl⟩) hK4 hP hD hS hA hB rfl hl.1 rfl (Nat.le_of_ble_eq_true rfl) dL_law_1459 ⟨(by show _ ≤ (601024 : Nat); omega), (by show _ ≤ (7293034 : Nat); omega)⟩ (fun r9 u H locs hw hP hD hS => ?_)
      obtain ⟨q_h, qc_h⟩ := u
      obtain ⟨hr9, hps9_h⟩ := hw
      subst hr9
      have hP : va_P D vwCl ([(x, oRD tx nw tr kn me sl), (nw, oDrv nc S (lN (kL (S) 0 40))), (nc, aI yI 48 g), (sl, aD yD 2 (va_up fs z1.toNat (some q_h))), (q_h, oDrv qc_h S (lN (kL (S) 0 40))), (qc_h, aI yI 48 g), (ou, aL yL ((iI (S 4)).toInt64)), (tx, oTx sg tl po lo), (sg, aC yC 100 T), (tr, oDrv tc S2 k2), (tc, aI yI 48 g2), (kn, oKn pk ex), (ex, aI yI 1681 E), (me, oMem rg nx ct), (rg, aD yD 14 f), (mo, oMo th a1 a2 a3 ct a4 a5 a6 tl a7 a8), (a1, aI yI 96 S), (a2, aI yI 96 Kp), (a3, aI yI 1344 Hh), (a4, aI yI 192 Sl), (a5, aI yI 2 Sv), (a6, aI yI 100 T), (a7, aI yI 1681 Bd), (a8, aI yI 1681 B2)] ++ (A1 ++ A2)) H := hP
      have hD : va_D (fun q : Nat => s.heap.size ≤ q) ([(x, oRD tx nw tr kn me sl), (nw, oDrv nc S (lN (kL (S) 0 40))), (nc, aI yI 48 g), (sl, aD yD 2 (va_up fs z1.toNat (some q_h))), (q_h, oDrv qc_h S (lN (kL (S) 0 40))), (qc_h, aI yI 48 g), (ou, aL yL ((iI (S 4)).toInt64)), (tx, oTx sg tl po lo), (sg, aC yC 100 T), (tr, oDrv tc S2 k2), (tc, aI yI 48 g2), (kn, oKn pk ex), (ex, aI yI 1681 E), (me, oMem rg nx ct), (rg, aD yD 14 f), (mo, oMo th a1 a2 a3 ct a4 a5 a6 tl a7 a8), (a1, aI yI 96 S), (a2, aI yI 96 Kp), (a3, aI yI 1344 Hh), (a4, aI yI 192 Sl), (a5, aI yI 2 Sv), (a6, aI yI 100 T), (a7, aI yI 1681 Bd), (a8, aI yI 1681 B2)] ++ (A1 ++ A2)) := hD
      refine lv_istore (lv' := [(5, .int (iI 0)), (0, .ref b), (1, .ref x), (2, .ref mo), (3, .ref ou), (4, .int (iI i))]) hx hb dL_law_1462 hl (by decide) rfl (fun ls hl => ?_)
      refine lv_aload_n hx hb dL_law_1464 rfl (lv_at hl 3 rfl) ?_
      refine lv_aload_n hx hb dL_law_1465 rfl (lv_at hl 1 rfl) ?_
      refine lv_iload hx hb dL_law_1466 (lv_at hl 5 rfl) ?_
      refine lv_iconst (v := iI 1) hx hb dL_law_1468 (by decide +kernel) ?_
      refine iv_add hx hb dL_law_1469 ?_
      refine iv_sld hx hb hX hbl hbA hS hz1 (by omega) dL_law_1470 ?_
      refine iv_rwV (As := [.int (iI z1)]) (rest := []) (C := RX5) (n := 1) ⟨hx, hb, hml, hown, hts⟩ (c_X5_save l D yI yC yD mo th ct tl a1 a2 a3 a4 a5 a6 a7 a8 S Sl Sv z1 (by assumption) (by assumption) _) (cwV 1 hts gL_law_X5_save rfl rfl rfl (by decide +kernel) ⟨Nat.le_of_ble_eq_true rfl, Nat.le_of_ble_eq_true rfl⟩) hK hP hD hS hA [15, 16, 19, 20] (by decide) rfl 15 rfl rfl rfl hl.1 rfl (Nat.le_of_ble_eq_true rfl) dL_law_1471 ⟨(by show _ ≤ (601024 : Nat); omega), (by show _ ≤ (7293034 : Nat); omega)⟩ (fun _ => rfl) (fun r1471 u1471 H locs hw1471 hP hD hS => ?_)
      obtain ⟨hr1471, -⟩ := hw1471
      subst hr1471
      have hP : va_P D vwCl ([(x, oRD tx nw tr kn me sl), (nw, oDrv nc S (lN (kL (S) 0 40))), (nc, aI yI 48 g), (sl, aD yD 2 (va_up fs z1.toNat (some q_h))), (q_h, oDrv qc_h S (lN (kL (S) 0 40))), (qc_h, aI yI 48 g), (ou, aL yL ((iI (S 4)).toInt64)), (tx, oTx sg tl po lo), (sg, aC yC 100 T), (tr, oDrv tc S2 k2), (tc, aI yI 48 g2), (kn, oKn pk ex), (ex, aI yI 1681 E), (me, oMem rg nx ct), (rg, aD yD 14 f), (mo, oMo (bI (¬ (0 ≤ z1 ∧ z1 < 2))) a1 a2 a3 ct a4 a5 a6 tl a7 a8), (a1, aI yI 96 S), (a2, aI yI 96 Kp), (a3, aI yI 1344 Hh), (a4, aI yI 192 (if 0 ≤ z1 ∧ z1 < 2 then cpy S Sl 0 (96 * z1) else Sl)), (a5, aI yI 2 (if 0 ≤ z1 ∧ z1 < 2 then up Sv z1 1 else Sv)), (a6, aI yI 100 T), (a7, aI yI 1681 Bd), (a8, aI yI 1681 B2)] ++ (A1 ++ A2)) H := hP
      have hD : va_D (fun q : Nat => s.heap.size ≤ q) ([(x, oRD tx nw tr kn me sl), (nw, oDrv nc S (lN (kL (S) 0 40))), (nc, aI yI 48 g), (sl, aD yD 2 (va_up fs z1.toNat (some q_h))), (q_h, oDrv qc_h S (lN (kL (S) 0 40))), (qc_h, aI yI 48 g), (ou, aL yL ((iI (S 4)).toInt64)), (tx, oTx sg tl po lo), (sg, aC yC 100 T), (tr, oDrv tc S2 k2), (tc, aI yI 48 g2), (kn, oKn pk ex), (ex, aI yI 1681 E), (me, oMem rg nx ct), (rg, aD yD 14 f), (mo, oMo (bI (¬ (0 ≤ z1 ∧ z1 < 2))) a1 a2 a3 ct a4 a5 a6 tl a7 a8), (a1, aI yI 96 S), (a2, aI yI 96 Kp), (a3, aI yI 1344 Hh), (a4, aI yI 192 (if 0 ≤ z1 ∧ z1 < 2 then cpy S Sl 0 (96 * z1) else Sl)), (a5, aI yI 2 (if 0 ≤ z1 ∧ z1 < 2 then up Sv z1 1 else Sv)), (a6, aI yI 100 T), (a7, aI yI 1681 Bd), (a8, aI yI 1681 B2)] ++ (A1 ++ A2)) := hD
      have hth : (bI (¬ (0 ≤ z1 ∧ z1 < 2)) : Int) = 0 := by first | exact bI_f (not_not_intro hc) | exact bI_t hc | exact hc | rfl
      have hP : va_P D vwCl ([(x, oRD tx nw tr kn me sl), (nw, oDrv nc S (lN (kL (S) 0 40))), (nc, aI yI 48 g), (sl, aD yD 2 (va_up fs z1.toNat (some q_h))), (q_h, oDrv qc_h S (lN (kL (S) 0 40))), (qc_h, aI yI 48 g), (ou, aL yL ((iI (S 4)).toInt64)), (tx, oTx sg tl po lo), (sg, aC yC 100 T), (tr, oDrv tc S2 k2), (tc, aI yI 48 g2), (kn, oKn pk ex), (ex, aI yI 1681 E), (me, oMem rg nx ct), (rg, aD yD 14 f), (mo, oMo 0 a1 a2 a3 ct a4 a5 a6 tl a7 a8), (a1, aI yI 96 S), (a2, aI yI 96 Kp), (a3, aI yI 1344 Hh), (a4, aI yI 192 (cpy S Sl 0 (96 * z1))), (a5, aI yI 2 (up Sv z1 1)), (a6, aI yI 100 T), (a7, aI yI 1681 Bd), (a8, aI yI 1681 B2)] ++ (A1 ++ A2)) H := hP.cv (by (try simp only [if_pos hc]); (try simp only [hth]))
      have hD : va_D (fun q : Nat => s.heap.size ≤ q) ([(x, oRD tx nw tr kn me sl), (nw, oDrv nc S (lN (kL (S) 0 40))), (nc, aI yI 48 g), (sl, aD yD 2 (va_up fs z1.toNat (some q_h))), (q_h, oDrv qc_h S (lN (kL (S) 0 40))), (qc_h, aI yI 48 g), (ou, aL yL ((iI (S 4)).toInt64)), (tx, oTx sg tl po lo), (sg, aC yC 100 T), (tr, oDrv tc S2 k2), (tc, aI yI 48 g2), (kn, oKn pk ex), (ex, aI yI 1681 E), (me, oMem rg nx ct), (rg, aD yD 14 f), (mo, oMo 0 a1 a2 a3 ct a4 a5 a6 tl a7 a8), (a1, aI yI 96 S), (a2, aI yI 96 Kp), (a3, aI yI 1344 Hh), (a4, aI yI 192 (cpy S Sl 0 (96 * z1))), (a5, aI yI 2 (up Sv z1 1)), (a6, aI yI 100 T), (a7, aI yI 1681 Bd), (a8, aI yI 1681 B2)] ++ (A1 ++ A2)) := hD.cv (by (try simp only [if_pos hc]); (try simp only [hth]))
      rw [show (if 0 ≤ z1 ∧ z1 < 2 then S 4 else 0 : Int) = S 4 from if_pos hc]
      refine lv_istore (lv' := [(6, .int (iI (S 4))), (5, .int (iI 0)), (0, .ref b), (1, .ref x), (2, .ref mo), (3, .ref ou), (4, .int (iI i))]) hx hb dL_law_1474 hl (by decide) rfl (fun ls hl => ?_)
      refine lv_aload_n hx hb dL_law_1476 rfl (lv_at hl 4 rfl) ?_
      refine iv_roV (As := []) (rest := []) (C := RX5) (n := 0) ⟨hx, hb, hml, hown, hts⟩ (c_X5_thrown l D yI yC yD mo 0 ct tl a1 a2 a3 a4 a5 a6 a7 a8 ) (cwV 0 hts gL_law_X5_thrown rfl rfl rfl (by decide +kernel) ⟨Nat.le_of_ble_eq_true rfl, Nat.le_of_ble_eq_true rfl⟩) hK hP [15] rfl 15 rfl rfl rfl hl.1 rfl (Nat.le_of_ble_eq_true rfl) dL_law_1477 ⟨(by show _ ≤ (601024 : Nat); omega), (by show _ ≤ (7293034 : Nat); omega)⟩ ?_
      refine lv_iload hx hb dL_law_1480 (lv_at hl 1 rfl) ?_
      refine lv_icmp_eq (x := iI 0) (y := iI 0) (tgt := 1487) hx hb dL_law_1482 (by decide) (fun c1482 => ?_) (fun c1482 => ?_)
      · refine lv_iload hx hb dL_law_1487 (lv_at hl 1 rfl) ?_
        refine iv_if_ne (a := 0) (tgt := 1504) hx hb (by omega) dL_law_1489 (by decide) (fun c1489 => ?_) (fun c1489 => ?_)
        · exact absurd c1489 (by omega)
        · refine lv_aload_n hx hb dL_law_1492 rfl (lv_at hl 5 rfl) ?_
          refine lv_iconst (v := iI 0) hx hb dL_law_1493 (by decide +kernel) ?_
          refine iv_lld hx hb hK4 hP 6 3 rfl rfl dL_law_1494 ?_
          refine lv_iload hx hb dL_law_1495 (lv_at hl 0 rfl) ?_
          refine lv_i2l (v := (iI (S 4)).toInt64) hx hb dL_law_1497 rfl ?_
          refine iv_lcmp (z := 0) hx hb (cmp_self _) dL_law_1498 ?_
          refine iv_if_eq (a := 0) (tgt := 1504) hx hb (by omega) dL_law_1499 (by decide) (fun c1499 => ?_) (fun c1499 => ?_)
          · refine lv_goto (tgt := 1563) hx hb dL_law_1504 (by decide) ?_
            have hP8 : va_P D vwCl ([(x, oRD tx nw tr kn me sl), (tx, oTx sg tl po lo), (sg, aC yC 100 T), (nw, oDrv nc S (lN (kL (S) 0 40))), (nc, aI yI 48 g), (tr, oDrv tc S2 k2), (tc, aI yI 48 g2), (kn, oKn pk ex), (ex, aI yI 1681 E), (me, oMem rg nx ct), (rg, aD yD 14 f), (sl, aD yD 2 (va_up fs z1.toNat (some q_h))), (mo, oMo 0 a1 a2 a3 ct a4 a5 a6 tl a7 a8), (a1, aI yI 96 S), (a2, aI yI 96 Kp), (a3, aI yI 1344 Hh), (a4, aI yI 192 (cpy S Sl 0 (96 * z1))), (a5, aI yI 2 (up Sv z1 1)), (a6, aI yI 100 T), (a7, aI yI 1681 Bd), (a8, aI yI 1681 B2), (ou, aL yL ((iI (S 4)).toInt64)), (q_h, oDrv qc_h S (lN (kL (S) 0 40))), (qc_h, aI yI 48 g)] ++ (A1 ++ A2)) _ := hP.re [0, 7, 8, 1, 2, 9, 10, 11, 12, 13, 14, 3, 15, 16, 17, 18, 19, 20, 21, 22, 23, 6, 4, 5] rfl
            have hD8 : va_D (fun q : Nat => s.heap.size ≤ q) ([(x, oRD tx nw tr kn me sl), (tx, oTx sg tl po lo), (sg, aC yC 100 T), (nw, oDrv nc S (lN (kL (S) 0 40))), (nc, aI yI 48 g), (tr, oDrv tc S2 k2), (tc, aI yI 48 g2), (kn, oKn pk ex), (ex, aI yI 1681 E), (me, oMem rg nx ct), (rg, aD yD 14 f), (sl, aD yD 2 (va_up fs z1.toNat (some q_h))), (mo, oMo 0 a1 a2 a3 ct a4 a5 a6 tl a7 a8), (a1, aI yI 96 S), (a2, aI yI 96 Kp), (a3, aI yI 1344 Hh), (a4, aI yI 192 (cpy S Sl 0 (96 * z1))), (a5, aI yI 2 (up Sv z1 1)), (a6, aI yI 100 T), (a7, aI yI 1681 Bd), (a8, aI yI 1681 B2), (ou, aL yL ((iI (S 4)).toInt64)), (q_h, oDrv qc_h S (lN (kL (S) 0 40))), (qc_h, aI yI 48 g)] ++ (A1 ++ A2)) := hD.re [0, 7, 8, 1, 2, 9, 10, 11, 12, 13, 14, 3, 15, 16, 17, 18, 19, 20, 21, 22, 23, 6, 4, 5] (by decide) rfl
            have hP8 : va_P D vwCl (([(x, oRD tx nw tr kn me sl), (tx, oTx sg tl po lo), (sg, aC yC 100 T), (nw, oDrv nc S (lN (kL (S) 0 40))), (nc, aI yI 48 g), (tr, oDrv tc S2 k2), (tc, aI yI 48 g2), (kn, oKn pk ex), (ex, aI yI 1681 E), (me, oMem rg nx ct), (rg, aD yD 14 f), (sl, aD yD 2 (va_up fs z1.toNat (some q_h))), (mo, oMo 0 a1 a2 a3 ct a4 a5 a6 tl a7 a8), (a1, aI yI 96 S), (a2, aI yI 96 Kp), (a3, aI yI 1344 Hh), (a4, aI yI 192 (cpy S Sl 0 (96 * z1))), (a5, aI yI 2 (up Sv z1 1)), (a6, aI yI 100 T), (a7, aI yI 1681 Bd), (a8, aI yI 1681 B2), (ou, aL yL ((iI (S 4)).toInt64))] ++ eC yI (some (q_h, qc_h, S, g))) ++ (A1 ++ A2)) _ := hP8
            have hD8 : va_D (fun q : Nat => s.heap.size ≤ q) (([(x, oRD tx nw tr kn me sl), (tx, oTx sg tl po lo), (sg, aC yC 100 T), (nw, oDrv nc S (lN (kL (S) 0 40))), (nc, aI yI 48 g), (tr, oDrv tc S2 k2), (tc, aI yI 48 g2), (kn, oKn pk ex), (ex, aI yI 1681 E), (me, oMem rg nx ct), (rg, aD yD 14 f), (sl, aD yD 2 (va_up fs z1.toNat (some q_h))), (mo, oMo 0 a1 a2 a3 ct a4 a5 a6 tl a7 a8), (a1, aI yI 96 S), (a2, aI yI 96 Kp), (a3, aI yI 1344 Hh), (a4, aI yI 192 (cpy S Sl 0 (96 * z1))), (a5, aI yI 2 (up Sv z1 1)), (a6, aI yI 100 T), (a7, aI yI 1681 Bd), (a8, aI yI 1681 B2), (ou, aL yL ((iI (S 4)).toInt64))] ++ eC yI (some (q_h, qc_h, S, g))) ++ (A1 ++ A2)) := hD8
            have hP9 := hP8.perm mid_perm.symm
            have hD9 := va_D.perm mid_perm.symm hD8
            rw [← hs2 (some (q_h, qc_h, S, g))] at hP9 hD9
            refine W.widen (k := cells + 8) (n := slots + 150) (by omega) (by omega) ?_
            exact K _ _ _ ⟨x, tx, sg, nw, nc, tr, tc, kn, ex, me, rg, sl, mo, a1, a2, a3, a4, a5, a6, a7, a8, ou, T, S, g, S2, g2, E, Kp, Hh, (cpy S Sl 0 (96 * z1)), (up Sv z1 1), Bd, B2, tl, po, lo, pk, nx, ct, 0, k2, ((iI (S 4)).toInt64), f, (va_up fs z1.toNat (some q_h)), (enU en (14 + z1.toNat) (q_h, qc_h, S, g)), hP9, hD9, hS, lv_sub hl [2, 3, 4, 5, 6] rfl, hI, hR, htl, hrt, hme, (hsv_up hsv), (fO_slot hfO (by omega) (q_h, qc_h, S, g)), (rO_slot hrO ⟨hme.1, hme.2.1, hme.2.2.2⟩ _), (sO_save hsO hc hI hR)⟩
          · exact absurd c1499 (by omega)
      · exact absurd rfl c1482
    · have hf9 : fs z1.toNat = some q := (hfO.2 z1.toNat (by omega)).trans (by rw [he]; rfl)
      rw [← hplq, hs1, he] at hP hD
      have hP := hP.perm mid_perm
      have hD := va_D.perm mid_perm hD
      have hP : va_P D vwCl ([(x, oRD tx nw tr kn me sl), (tx, oTx sg tl po lo), (sg, aC yC 100 T), (nw, oDrv nc S (lN (kL (S) 0 40))), (nc, aI yI 48 g), (tr, oDrv tc S2 k2), (tc, aI yI 48 g2), (kn, oKn pk ex), (ex, aI yI 1681 E), (me, oMem rg nx ct), (rg, aD yD 14 f), (sl, aD yD 2 fs), (mo, oMo th a1 a2 a3 ct a4 a5 a6 tl a7 a8), (a1, aI yI 96 S), (a2, aI yI 96 Kp), (a3, aI yI 1344 Hh), (a4, aI yI 192 Sl), (a5, aI yI 2 Sv), (a6, aI yI 100 T), (a7, aI yI 1681 Bd), (a8, aI yI 1681 B2), (ou, aL yL ov), (q, oDrv qc Sq (lN (kL (Sq) 0 40))), (qc, aI yI 48 gq)] ++ (A1 ++ A2)) H := hP
      have hD : va_D (fun q : Nat => s.heap.size ≤ q) ([(x, oRD tx nw tr kn me sl), (tx, oTx sg tl po lo), (sg, aC yC 100 T), (nw, oDrv nc S (lN (kL (S) 0 40))), (nc, aI yI 48 g), (tr, oDrv tc S2 k2), (tc, aI yI 48 g2), (kn, oKn pk ex), (ex, aI yI 1681 E), (me, oMem rg nx ct), (rg, aD yD 14 f), (sl, aD yD 2 fs), (mo, oMo th a1 a2 a3 ct a4 a5 a6 tl a7 a8), (a1, aI yI 96 S), (a2, aI yI 96 Kp), (a3, aI yI 1344 Hh), (a4, aI yI 192 Sl), (a5, aI yI 2 Sv), (a6, aI yI 100 T), (a7, aI yI 1681 Bd), (a8, aI yI 1681 B2), (ou, aL yL ov), (q, oDrv qc Sq (lN (kL (Sq) 0 40))), (qc, aI yI 48 gq)] ++ (A1 ++ A2)) := hD
      refine lv_aload_n hx hb dL_law_1451 rfl (lv_at hl 1 rfl) ?_
      refine lv_aload_n hx hb dL_law_1452 rfl (lv_at hl 0 rfl) ?_
      refine lv_iload hx hb dL_law_1453 (lv_at hl 4 rfl) ?_
      refine lv_iconst (v := iI 1) hx hb dL_law_1455 (by decide +kernel) ?_
      refine iv_add hx hb dL_law_1456 ?_
      refine iv_sld hx hb hX hbl hbA hS hz1 (by omega) dL_law_1457 ?_
      refine lv_aload_n hx hb dL_law_1458 rfl (lv_at hl 3 rfl) ?_
      have hP := hP.re (Y := [(x, oRD tx nw tr kn me sl), (nw, oDrv nc S (lN (kL (S) 0 40))), (nc, aI yI 48 g), (sl, aD yD 2 fs), (q, oDrv qc Sq (lN (kL (Sq) 0 40))), (qc, aI yI 48 gq), (ou, aL yL ov), (tx, oTx sg tl po lo), (sg, aC yC 100 T), (tr, oDrv tc S2 k2), (tc, aI yI 48 g2), (kn, oKn pk ex), (ex, aI yI 1681 E), (me, oMem rg nx ct), (rg, aD yD 14 f), (mo, oMo th a1 a2 a3 ct a4 a5 a6 tl a7 a8), (a1, aI yI 96 S), (a2, aI yI 96 Kp), (a3, aI yI 1344 Hh), (a4, aI yI 192 Sl), (a5, aI yI 2 Sv), (a6, aI yI 100 T), (a7, aI yI 1681 Bd), (a8, aI yI 1681 B2)]) [0, 3, 4, 11, 22, 23, 21, 1, 2, 5, 6, 7, 8, 9, 10, 12, 13, 14, 15, 16, 17, 18, 19, 20] rfl
      have hD := hD.re (Y := [(x, oRD tx nw tr kn me sl), (nw, oDrv nc S (lN (kL (S) 0 40))), (nc, aI yI 48 g), (sl, aD yD 2 fs), (q, oDrv qc Sq (lN (kL (Sq) 0 40))), (qc, aI yI 48 gq), (ou, aL yL ov), (tx, oTx sg tl po lo), (sg, aC yC 100 T), (tr, oDrv tc S2 k2), (tc, aI yI 48 g2), (kn, oKn pk ex), (ex, aI yI 1681 E), (me, oMem rg nx ct), (rg, aD yD 14 f), (mo, oMo th a1 a2 a3 ct a4 a5 a6 tl a7 a8), (a1, aI yI 96 S), (a2, aI yI 96 Kp), (a3, aI yI 1344 Hh), (a4, aI yI 192 Sl), (a5, aI yI 2 Sv), (a6, aI yI 100 T), (a7, aI yI 1681 Bd), (a8, aI yI 1681 B2)]) [0, 3, 4, 11, 22, 23, 21, 1, 2, 5, 6, 7, 8, 9, 10, 12, 13, 14, 15, 16, 17, 18, 19, 20] (by decide) rfl
      refine iv_lawF (cx := [(x, oRD tx nw tr kn me sl), (nw, oDrv nc S (lN (kL (S) 0 40))), (nc, aI yI 48 g), (sl, aD yD 2 fs), (q, oDrv qc Sq (lN (kL (Sq) 0 40))), (qc, aI yI 48 gq), (ou, aL yL ov)]) (RR := ([(tx, oTx sg tl po lo), (sg, aC yC 100 T), (tr, oDrv tc S2 k2), (tc, aI yI 48 g2), (kn, oKn pk ex), (ex, aI yI 1681 E), (me, oMem rg nx ct), (rg, aD yD 14 f), (mo, oMo th a1 a2 a3 ct a4 a5 a6 tl a7 a8), (a1, aI yI 96 S), (a2, aI yI 96 Kp), (a3, aI yI 1344 Hh), (a4, aI yI 192 Sl), (a5, aI yI 2 Sv), (a6, aI yI 100 T), (a7, aI yI 1681 Bd), (a8, aI yI 1681 B2)] ++ (A1 ++ A2))) (wp := fun (_ : Unit) => [(x, oRD tx nw tr kn me sl), (nw, oDrv nc S (lN (kL (S) 0 40))), (nc, aI yI 48 g), (sl, aD yD 2 fs), (q, oDrv qc S (lN (kL (S) 0 40))), (qc, aI yI 48 g), (ou, aL yL ((iI (S 4)).toInt64))]) (As := [.ref x, .int (iI z1), .ref ou]) (rest := []) (n := 3) ⟨hx, hb, hml, hown, hts⟩ (c_L_save_y_0 l hla D yI yC yD yL x tx nw tr kn me sl nc S g fs z1 q qc Sq gq (lN (kL (Sq) 0 40)) ou ov (by first | assumption | omega | exact ⟨hr1, hr2⟩ | exact fun z q1 q2 => by have := hrt z q1 q2; omega) (hf9) (hc) _) (vx_cwSW 3 hts gL_law_L_save rfl rfl rfl (by decide +kernel) ⟨Nat.le_of_ble_eq_true rfl, Nat.le_of_ble_eq_true rfl⟩) hK4 hP hD hS hA hB rfl hl.1 rfl (Nat.le_of_ble_eq_true rfl) dL_law_1459 ⟨(by show _ ≤ (601024 : Nat); omega), (by show _ ≤ (7293034 : Nat); omega)⟩ (fun r9 u H locs hw hP hD hS => ?_)
      obtain ⟨hr9, hps9_h⟩ := hw
      subst hr9
      have hP : va_P D vwCl ([(x, oRD tx nw tr kn me sl), (nw, oDrv nc S (lN (kL (S) 0 40))), (nc, aI yI 48 g), (sl, aD yD 2 fs), (q, oDrv qc S (lN (kL (S) 0 40))), (qc, aI yI 48 g), (ou, aL yL ((iI (S 4)).toInt64)), (tx, oTx sg tl po lo), (sg, aC yC 100 T), (tr, oDrv tc S2 k2), (tc, aI yI 48 g2), (kn, oKn pk ex), (ex, aI yI 1681 E), (me, oMem rg nx ct), (rg, aD yD 14 f), (mo, oMo th a1 a2 a3 ct a4 a5 a6 tl a7 a8), (a1, aI yI 96 S), (a2, aI yI 96 Kp), (a3, aI yI 1344 Hh), (a4, aI yI 192 Sl), (a5, aI yI 2 Sv), (a6, aI yI 100 T), (a7, aI yI 1681 Bd), (a8, aI yI 1681 B2)] ++ (A1 ++ A2)) H := hP
      have hD : va_D (fun q : Nat => s.heap.size ≤ q) ([(x, oRD tx nw tr kn me sl), (nw, oDrv nc S (lN (kL (S) 0 40))), (nc, aI yI 48 g), (sl, aD yD 2 fs), (q, oDrv qc S (lN (kL (S) 0 40))), (qc, aI yI 48 g), (ou, aL yL ((iI (S 4)).toInt64)), (tx, oTx sg tl po lo), (sg, aC yC 100 T), (tr, oDrv tc S2 k2), (tc, aI yI 48 g2), (kn, oKn pk ex), (ex, aI yI 1681 E), (me, oMem rg nx ct), (rg, aD yD 14 f), (mo, oMo th a1 a2 a3 ct a4 a5 a6 tl a7 a8), (a1, aI yI 96 S), (a2, aI yI 96 Kp), (a3, aI yI 1344 Hh), (a4, aI yI 192 Sl), (a5, aI yI 2 Sv), (a6, aI yI 100 T), (a7, aI yI 1681 Bd), (a8, aI yI 1681 B2)] ++ (A1 ++ A2)) := hD
      refine lv_istore (lv' := [(5, .int (iI 0)), (0, .ref b), (1, .ref x), (2, .ref mo), (3, .ref ou), (4, .int (iI i))]) hx hb dL_law_1462 hl (by decide) rfl (fun ls hl => ?_)
      refine lv_aload_n hx hb dL_law_1464 rfl (lv_at hl 3 rfl) ?_
      refine lv_aload_n hx hb dL_law_1465 rfl (lv_at hl 1 rfl) ?_
      refine lv_iload hx hb dL_law_1466 (lv_at hl 5 rfl) ?_
      refine lv_iconst (v := iI 1) hx hb dL_law_1468 (by decide +kernel) ?_
      refine iv_add hx hb dL_law_1469 ?_
      refine iv_sld hx hb hX hbl hbA hS hz1 (by omega) dL_law_1470 ?_
      refine iv_rwV (As := [.int (iI z1)]) (rest := []) (C := RX5) (n := 1) ⟨hx, hb, hml, hown, hts⟩ (c_X5_save l D yI yC yD mo th ct tl a1 a2 a3 a4 a5 a6 a7 a8 S Sl Sv z1 (by assumption) (by assumption) _) (cwV 1 hts gL_law_X5_save rfl rfl rfl (by decide +kernel) ⟨Nat.le_of_ble_eq_true rfl, Nat.le_of_ble_eq_true rfl⟩) hK hP hD hS hA [15, 16, 19, 20] (by decide) rfl 15 rfl rfl rfl hl.1 rfl (Nat.le_of_ble_eq_true rfl) dL_law_1471 ⟨(by show _ ≤ (601024 : Nat); omega), (by show _ ≤ (7293034 : Nat); omega)⟩ (fun _ => rfl) (fun r1471 u1471 H locs hw1471 hP hD hS => ?_)
      obtain ⟨hr1471, -⟩ := hw1471
      subst hr1471
      have hP : va_P D vwCl ([(x, oRD tx nw tr kn me sl), (nw, oDrv nc S (lN (kL (S) 0 40))), (nc, aI yI 48 g), (sl, aD yD 2 fs), (q, oDrv qc S (lN (kL (S) 0 40))), (qc, aI yI 48 g), (ou, aL yL ((iI (S 4)).toInt64)), (tx, oTx sg tl po lo), (sg, aC yC 100 T), (tr, oDrv tc S2 k2), (tc, aI yI 48 g2), (kn, oKn pk ex), (ex, aI yI 1681 E), (me, oMem rg nx ct), (rg, aD yD 14 f), (mo, oMo (bI (¬ (0 ≤ z1 ∧ z1 < 2))) a1 a2 a3 ct a4 a5 a6 tl a7 a8), (a1, aI yI 96 S), (a2, aI yI 96 Kp), (a3, aI yI 1344 Hh), (a4, aI yI 192 (if 0 ≤ z1 ∧ z1 < 2 then cpy S Sl 0 (96 * z1) else Sl)), (a5, aI yI 2 (if 0 ≤ z1 ∧ z1 < 2 then up Sv z1 1 else Sv)), (a6, aI yI 100 T), (a7, aI yI 1681 Bd), (a8, aI yI 1681 B2)] ++ (A1 ++ A2)) H := hP
      have hD : va_D (fun q : Nat => s.heap.size ≤ q) ([(x, oRD tx nw tr kn me sl), (nw, oDrv nc S (lN (kL (S) 0 40))), (nc, aI yI 48 g), (sl, aD yD 2 fs), (q, oDrv qc S (lN (kL (S) 0 40))), (qc, aI yI 48 g), (ou, aL yL ((iI (S 4)).toInt64)), (tx, oTx sg tl po lo), (sg, aC yC 100 T), (tr, oDrv tc S2 k2), (tc, aI yI 48 g2), (kn, oKn pk ex), (ex, aI yI 1681 E), (me, oMem rg nx ct), (rg, aD yD 14 f), (mo, oMo (bI (¬ (0 ≤ z1 ∧ z1 < 2))) a1 a2 a3 ct a4 a5 a6 tl a7 a8), (a1, aI yI 96 S), (a2, aI yI 96 Kp), (a3, aI yI 1344 Hh), (a4, aI yI 192 (if 0 ≤ z1 ∧ z1 < 2 then cpy S Sl 0 (96 * z1) else Sl)), (a5, aI yI 2 (if 0 ≤ z1 ∧ z1 < 2 then up Sv z1 1 else Sv)), (a6, aI yI 100 T), (a7, aI yI 1681 Bd), (a8, aI yI 1681 B2)] ++ (A1 ++ A2)) := hD
      have hth : (bI (¬ (0 ≤ z1 ∧ z1 < 2)) : Int) = 0 := by first | exact bI_f (not_not_intro hc) | exact bI_t hc | exact hc | rfl
      have hP : va_P D vwCl ([(x, oRD tx nw tr kn me sl), (nw, oDrv nc S (lN (kL (S) 0 40))), (nc, aI yI 48 g), (sl, aD yD 2 fs), (q, oDrv qc S (lN (kL (S) 0 40))), (qc, aI yI 48 g), (ou, aL yL ((iI (S 4)).toInt64)), (tx, oTx sg tl po lo), (sg, aC yC 100 T), (tr, oDrv tc S2 k2), (tc, aI yI 48 g2), (kn, oKn pk ex), (ex, aI yI 1681 E), (me, oMem rg nx ct), (rg, aD yD 14 f), (mo, oMo 0 a1 a2 a3 ct a4 a5 a6 tl a7 a8), (a1, aI yI 96 S), (a2, aI yI 96 Kp), (a3, aI yI 1344 Hh), (a4, aI yI 192 (cpy S Sl 0 (96 * z1))), (a5, aI yI 2 (up Sv z1 1)), (a6, aI yI 100 T), (a7, aI yI 1681 Bd), (a8, aI yI 1681 B2)] ++ (A1 ++ A2)) H := hP.cv (by (try simp only [if_pos hc]); (try simp only [hth]))
      have hD : va_D (fun q : Nat => s.heap.size ≤ q) ([(x, oRD tx nw tr kn me sl), (nw, oDrv nc S (lN (kL (S) 0 40))), (nc, aI yI 48 g), (sl, aD yD 2 fs), (q, oDrv qc S (lN (kL (S) 0 40))), (qc, aI yI 48 g), (ou, aL yL ((iI (S 4)).toInt64)), (tx, oTx sg tl po lo), (sg, aC yC 100 T), (tr, oDrv tc S2 k2), (tc, aI yI 48 g2), (kn, oKn pk ex), (ex, aI yI 1681 E), (me, oMem rg nx ct), (rg, aD yD 14 f), (mo, oMo 0 a1 a2 a3 ct a4 a5 a6 tl a7 a8), (a1, aI yI 96 S), (a2, aI yI 96 Kp), (a3, aI yI 1344 Hh), (a4, aI yI 192 (cpy S Sl 0 (96 * z1))), (a5, aI yI 2 (up Sv z1 1)), (a6, aI yI 100 T), (a7, aI yI 1681 Bd), (a8, aI yI 1681 B2)] ++ (A1 ++ A2)) := hD.cv (by (try simp only [if_pos hc]); (try simp only [hth]))
      rw [show (if 0 ≤ z1 ∧ z1 < 2 then S 4 else 0 : Int) = S 4 from if_pos hc]
      refine lv_istore (lv' := [(6, .int (iI (S 4))), (5, .int (iI 0)), (0, .ref b), (1, .ref x), (2, .ref mo), (3, .ref ou), (4, .int (iI i))]) hx hb dL_law_1474 hl (by decide) rfl (fun ls hl => ?_)
      refine lv_aload_n hx hb dL_law_1476 rfl (lv_at hl 4 rfl) ?_
      refine iv_roV (As := []) (rest := []) (C := RX5) (n := 0) ⟨hx, hb, hml, hown, hts⟩ (c_X5_thrown l D yI yC yD mo 0 ct tl a1 a2 a3 a4 a5 a6 a7 a8 ) (cwV 0 hts gL_law_X5_thrown rfl rfl rfl (by decide +kernel) ⟨Nat.le_of_ble_eq_true rfl, Nat.le_of_ble_eq_true rfl⟩) hK hP [15] rfl 15 rfl rfl rfl hl.1 rfl (Nat.le_of_ble_eq_true rfl) dL_law_1477 ⟨(by show _ ≤ (601024 : Nat); omega), (by show _ ≤ (7293034 : Nat); omega)⟩ ?_
      refine lv_iload hx hb dL_law_1480 (lv_at hl 1 rfl) ?_
      refine lv_icmp_eq (x := iI 0) (y := iI 0) (tgt := 1487) hx hb dL_law_1482 (by decide) (fun c1482 => ?_) (fun c1482 => ?_)
      · refine lv_iload hx hb dL_law_1487 (lv_at hl 1 rfl) ?_
        refine iv_if_ne (a := 0) (tgt := 1504) hx hb (by omega) dL_law_1489 (by decide) (fun c1489 => ?_) (fun c1489 => ?_)
        · exact absurd c1489 (by omega)
        · refine lv_aload_n hx hb dL_law_1492 rfl (lv_at hl 5 rfl) ?_
          refine lv_iconst (v := iI 0) hx hb dL_law_1493 (by decide +kernel) ?_
          refine iv_lld hx hb hK4 hP 6 3 rfl rfl dL_law_1494 ?_
          refine lv_iload hx hb dL_law_1495 (lv_at hl 0 rfl) ?_
          refine lv_i2l (v := (iI (S 4)).toInt64) hx hb dL_law_1497 rfl ?_
          refine iv_lcmp (z := 0) hx hb (cmp_self _) dL_law_1498 ?_
          refine iv_if_eq (a := 0) (tgt := 1504) hx hb (by omega) dL_law_1499 (by decide) (fun c1499 => ?_) (fun c1499 => ?_)
          · refine lv_goto (tgt := 1563) hx hb dL_law_1504 (by decide) ?_
            have hP8 : va_P D vwCl ([(x, oRD tx nw tr kn me sl), (tx, oTx sg tl po lo), (sg, aC yC 100 T), (nw, oDrv nc S (lN (kL (S) 0 40))), (nc, aI yI 48 g), (tr, oDrv tc S2 k2), (tc, aI yI 48 g2), (kn, oKn pk ex), (ex, aI yI 1681 E), (me, oMem rg nx ct), (rg, aD yD 14 f), (sl, aD yD 2 fs), (mo, oMo 0 a1 a2 a3 ct a4 a5 a6 tl a7 a8), (a1, aI yI 96 S), (a2, aI yI 96 Kp), (a3, aI yI 1344 Hh), (a4, aI yI 192 (cpy S Sl 0 (96 * z1))), (a5, aI yI 2 (up Sv z1 1)), (a6, aI yI 100 T), (a7, aI yI 1681 Bd), (a8, aI yI 1681 B2), (ou, aL yL ((iI (S 4)).toInt64)), (q, oDrv qc S (lN (kL (S) 0 40))), (qc, aI yI 48 g)] ++ (A1 ++ A2)) _ := hP.re [0, 7, 8, 1, 2, 9, 10, 11, 12, 13, 14, 3, 15, 16, 17, 18, 19, 20, 21, 22, 23, 6, 4, 5] rfl
            have hD8 : va_D (fun q : Nat => s.heap.size ≤ q) ([(x, oRD tx nw tr kn me sl), (tx, oTx sg tl po lo), (sg, aC yC 100 T), (nw, oDrv nc S (lN (kL (S) 0 40))), (nc, aI yI 48 g), (tr, oDrv tc S2 k2), (tc, aI yI 48 g2), (kn, oKn pk ex), (ex, aI yI 1681 E), (me, oMem rg nx ct), (rg, aD yD 14 f), (sl, aD yD 2 fs), (mo, oMo 0 a1 a2 a3 ct a4 a5 a6 tl a7 a8), (a1, aI yI 96 S), (a2, aI yI 96 Kp), (a3, aI yI 1344 Hh), (a4, aI yI 192 (cpy S Sl 0 (96 * z1))), (a5, aI yI 2 (up Sv z1 1)), (a6, aI yI 100 T), (a7, aI yI 1681 Bd), (a8, aI yI 1681 B2), (ou, aL yL ((iI (S 4)).toInt64)), (q, oDrv qc S (lN (kL (S) 0 40))), (qc, aI yI 48 g)] ++ (A1 ++ A2)) := hD.re [0, 7, 8, 1, 2, 9, 10, 11, 12, 13, 14, 3, 15, 16, 17, 18, 19, 20, 21, 22, 23, 6, 4, 5] (by decide) rfl
            have hP8 : va_P D vwCl (([(x, oRD tx nw tr kn me sl), (tx, oTx sg tl po lo), (sg, aC yC 100 T), (nw, oDrv nc S (lN (kL (S) 0 40))), (nc, aI yI 48 g), (tr, oDrv tc S2 k2), (tc, aI yI 48 g2), (kn, oKn pk ex), (ex, aI yI 1681 E), (me, oMem rg nx ct), (rg, aD yD 14 f), (sl, aD yD 2 fs), (mo, oMo 0 a1 a2 a3 ct a4 a5 a6 tl a7 a8), (a1, aI yI 96 S), (a2, aI yI 96 Kp), (a3, aI yI 1344 Hh), (a4, aI yI 192 (cpy S Sl 0 (96 * z1))), (a5, aI yI 2 (up Sv z1 1)), (a6, aI yI 100 T), (a7, aI yI 1681 Bd), (a8, aI yI 1681 B2), (ou, aL yL ((iI (S 4)).toInt64))] ++ eC yI (some (q, qc, S, g))) ++ (A1 ++ A2)) _ := hP8
            have hD8 : va_D (fun q : Nat => s.heap.size ≤ q) (([(x, oRD tx nw tr kn me sl), (tx, oTx sg tl po lo), (sg, aC yC 100 T), (nw, oDrv nc S (lN (kL (S) 0 40))), (nc, aI yI 48 g), (tr, oDrv tc S2 k2), (tc, aI yI 48 g2), (kn, oKn pk ex), (ex, aI yI 1681 E), (me, oMem rg nx ct), (rg, aD yD 14 f), (sl, aD yD 2 fs), (mo, oMo 0 a1 a2 a3 ct a4 a5 a6 tl a7 a8), (a1, aI yI 96 S), (a2, aI yI 96 Kp), (a3, aI yI 1344 Hh), (a4, aI yI 192 (cpy S Sl 0 (96 * z1))), (a5, aI yI 2 (up Sv z1 1)), (a6, aI yI 100 T), (a7, aI yI 1681 Bd), (a8, aI yI 1681 B2), (ou, aL yL ((iI (S 4)).toInt64))] ++ eC yI (some (q, qc, S, g))) ++ (A1 ++ A2)) := hD8
            have hP9 := hP8.perm mid_perm.symm
            have hD9 := va_D.perm mid_perm.symm hD8
            rw [← hs2 (some (q, qc, S, g))] at hP9 hD9
            refine W.widen (k := cells + 8) (n := slots + 150) (by omega) (by omega) ?_
            exact K _ _ _ ⟨x, tx, sg, nw, nc, tr, tc, kn, ex, me, rg, sl, mo, a1, a2, a3, a4, a5, a6, a7, a8, ou, T, S, g, S2, g2, E, Kp, Hh, (cpy S Sl 0 (96 * z1)), (up Sv z1 1), Bd, B2, tl, po, lo, pk, nx, ct, 0, k2, ((iI (S 4)).toInt64), f, fs, (enU en (14 + z1.toNat) (q, qc, S, g)), hP9, hD9, hS, lv_sub hl [2, 3, 4, 5, 6] rfl, hI, hR, htl, hrt, hme, (hsv_up hsv), (fO_slot_y hfO (by omega) hf9), (rO_slot hrO ⟨hme.1, hme.2.1, hme.2.2.2⟩ _), (sO_save hsO hc hI hR)⟩
          · exact absurd c1499 (by omega)
      · exact absurd rfl c1482
  · refine lv_aload_n hx hb dL_law_1451 rfl (lv_at hl 1 rfl) ?_
    refine lv_aload_n hx hb dL_law_1452 rfl (lv_at hl 0 rfl) ?_
    refine lv_iload hx hb dL_law_1453 (lv_at hl 4 rfl) ?_
    refine lv_iconst (v := iI 1) hx hb dL_law_1455 (by decide +kernel) ?_
    refine iv_add hx hb dL_law_1456 ?_
    refine iv_sld hx hb hX hbl hbA hS hz1 (by omega) dL_law_1457 ?_
    refine lv_aload_n hx hb dL_law_1458 rfl (lv_at hl 3 rfl) ?_
    have hP := hP.re (Y := [(x, oRD tx nw tr kn me sl), (nw, oDrv nc S (lN (kL (S) 0 40))), (nc, aI yI 48 g), (sl, aD yD 2 fs), (ou, aL yL ov), (tx, oTx sg tl po lo), (sg, aC yC 100 T), (tr, oDrv tc S2 k2), (tc, aI yI 48 g2), (kn, oKn pk ex), (ex, aI yI 1681 E), (me, oMem rg nx ct), (rg, aD yD 14 f), (mo, oMo th a1 a2 a3 ct a4 a5 a6 tl a7 a8), (a1, aI yI 96 S), (a2, aI yI 96 Kp), (a3, aI yI 1344 Hh), (a4, aI yI 192 Sl), (a5, aI yI 2 Sv), (a6, aI yI 100 T), (a7, aI yI 1681 Bd), (a8, aI yI 1681 B2)]) [0, 3, 4, 11, 21, 1, 2, 5, 6, 7, 8, 9, 10, 12, 13, 14, 15, 16, 17, 18, 19, 20] rfl
    have hD := hD.re (Y := [(x, oRD tx nw tr kn me sl), (nw, oDrv nc S (lN (kL (S) 0 40))), (nc, aI yI 48 g), (sl, aD yD 2 fs), (ou, aL yL ov), (tx, oTx sg tl po lo), (sg, aC yC 100 T), (tr, oDrv tc S2 k2), (tc, aI yI 48 g2), (kn, oKn pk ex), (ex, aI yI 1681 E), (me, oMem rg nx ct), (rg, aD yD 14 f), (mo, oMo th a1 a2 a3 ct a4 a5 a6 tl a7 a8), (a1, aI yI 96 S), (a2, aI yI 96 Kp), (a3, aI yI 1344 Hh), (a4, aI yI 192 Sl), (a5, aI yI 2 Sv), (a6, aI yI 100 T), (a7, aI yI 1681 Bd), (a8, aI yI 1681 B2)]) [0, 3, 4, 11, 21, 1, 2, 5, 6, 7, 8, 9, 10, 12, 13, 14, 15, 16, 17, 18, 19, 20] (by decide) rfl
    refine iv_lawF (cx := [(x, oRD tx nw tr kn me sl), (nw, oDrv nc S (lN (kL (S) 0 40))), (nc, aI yI 48 g), (sl, aD yD 2 fs), (ou, aL yL ov)]) (RR := ([(tx, oTx sg tl po lo), (sg, aC yC 100 T), (tr, oDrv tc S2 k2), (tc, aI yI 48 g2), (kn, oKn pk ex), (ex, aI yI 1681 E), (me, oMem rg nx ct), (rg, aD yD 14 f), (mo, oMo th a1 a2 a3 ct a4 a5 a6 tl a7 a8), (a1, aI yI 96 S), (a2, aI yI 96 Kp), (a3, aI yI 1344 Hh), (a4, aI yI 192 Sl), (a5, aI yI 2 Sv), (a6, aI yI 100 T), (a7, aI yI 1681 Bd), (a8, aI yI 1681 B2)] ++ pl)) (wp := fun (_ : Unit) => [(x, oRD tx nw tr kn me sl), (nw, oDrv nc S (lN (kL (S) 0 40))), (nc, aI yI 48 g), (sl, aD yD 2 fs), (ou, aL yL ov)]) (As := [.ref x, .int (iI z1), .ref ou]) (rest := []) (n := 3) ⟨hx, hb, hml, hown, hts⟩ (c_L_save_n_1 l hla D yI yC yD yL x tx nw tr kn me sl nc S g fs z1 ou ov (by first | assumption | omega | exact ⟨hr1, hr2⟩ | exact fun z q1 q2 => by have := hrt z q1 q2; omega) (fun z => absurd z hc) (hc) _) (vx_cwSW 3 hts gL_law_L_save rfl rfl rfl (by decide +kernel) ⟨Nat.le_of_ble_eq_true rfl, Nat.le_of_ble_eq_true rfl⟩) hK4 hP hD hS hA hB rfl hl.1 rfl (Nat.le_of_ble_eq_true rfl) dL_law_1459 ⟨(by show _ ≤ (601024 : Nat); omega), (by show _ ≤ (7293034 : Nat); omega)⟩ (fun r9 u H locs hw hP hD hS => ?_)
    obtain ⟨hr9, -⟩ := hw
    subst hr9
    have hP : va_P D vwCl ([(x, oRD tx nw tr kn me sl), (nw, oDrv nc S (lN (kL (S) 0 40))), (nc, aI yI 48 g), (sl, aD yD 2 fs), (ou, aL yL ov), (tx, oTx sg tl po lo), (sg, aC yC 100 T), (tr, oDrv tc S2 k2), (tc, aI yI 48 g2), (kn, oKn pk ex), (ex, aI yI 1681 E), (me, oMem rg nx ct), (rg, aD yD 14 f), (mo, oMo th a1 a2 a3 ct a4 a5 a6 tl a7 a8), (a1, aI yI 96 S), (a2, aI yI 96 Kp), (a3, aI yI 1344 Hh), (a4, aI yI 192 Sl), (a5, aI yI 2 Sv), (a6, aI yI 100 T), (a7, aI yI 1681 Bd), (a8, aI yI 1681 B2)] ++ pl) H := hP
    have hD : va_D (fun q : Nat => s.heap.size ≤ q) ([(x, oRD tx nw tr kn me sl), (nw, oDrv nc S (lN (kL (S) 0 40))), (nc, aI yI 48 g), (sl, aD yD 2 fs), (ou, aL yL ov), (tx, oTx sg tl po lo), (sg, aC yC 100 T), (tr, oDrv tc S2 k2), (tc, aI yI 48 g2), (kn, oKn pk ex), (ex, aI yI 1681 E), (me, oMem rg nx ct), (rg, aD yD 14 f), (mo, oMo th a1 a2 a3 ct a4 a5 a6 tl a7 a8), (a1, aI yI 96 S), (a2, aI yI 96 Kp), (a3, aI yI 1344 Hh), (a4, aI yI 192 Sl), (a5, aI yI 2 Sv), (a6, aI yI 100 T), (a7, aI yI 1681 Bd), (a8, aI yI 1681 B2)] ++ pl) := hD
    refine lv_istore (lv' := [(5, .int (iI 1)), (0, .ref b), (1, .ref x), (2, .ref mo), (3, .ref ou), (4, .int (iI i))]) hx hb dL_law_1462 hl (by decide) rfl (fun ls hl => ?_)
    refine lv_aload_n hx hb dL_law_1464 rfl (lv_at hl 3 rfl) ?_
    refine lv_aload_n hx hb dL_law_1465 rfl (lv_at hl 1 rfl) ?_
    refine lv_iload hx hb dL_law_1466 (lv_at hl 5 rfl) ?_
    refine lv_iconst (v := iI 1) hx hb dL_law_1468 (by decide +kernel) ?_
    refine iv_add hx hb dL_law_1469 ?_
    refine iv_sld hx hb hX hbl hbA hS hz1 (by omega) dL_law_1470 ?_
    refine iv_rwV (As := [.int (iI z1)]) (rest := []) (C := RX5) (n := 1) ⟨hx, hb, hml, hown, hts⟩ (c_X5_save l D yI yC yD mo th ct tl a1 a2 a3 a4 a5 a6 a7 a8 S Sl Sv z1 (by assumption) (by assumption) _) (cwV 1 hts gL_law_X5_save rfl rfl rfl (by decide +kernel) ⟨Nat.le_of_ble_eq_true rfl, Nat.le_of_ble_eq_true rfl⟩) hK hP hD hS hA [13, 14, 17, 18] (by decide) rfl 13 rfl rfl rfl hl.1 rfl (Nat.le_of_ble_eq_true rfl) dL_law_1471 ⟨(by show _ ≤ (601024 : Nat); omega), (by show _ ≤ (7293034 : Nat); omega)⟩ (fun _ => rfl) (fun r1471 u1471 H locs hw1471 hP hD hS => ?_)
    obtain ⟨hr1471, -⟩ := hw1471
    subst hr1471
    have hP : va_P D vwCl ([(x, oRD tx nw tr kn me sl), (nw, oDrv nc S (lN (kL (S) 0 40))), (nc, aI yI 48 g), (sl, aD yD 2 fs), (ou, aL yL ov), (tx, oTx sg tl po lo), (sg, aC yC 100 T), (tr, oDrv tc S2 k2), (tc, aI yI 48 g2), (kn, oKn pk ex), (ex, aI yI 1681 E), (me, oMem rg nx ct), (rg, aD yD 14 f), (mo, oMo (bI (¬ (0 ≤ z1 ∧ z1 < 2))) a1 a2 a3 ct a4 a5 a6 tl a7 a8), (a1, aI yI 96 S), (a2, aI yI 96 Kp), (a3, aI yI 1344 Hh), (a4, aI yI 192 (if 0 ≤ z1 ∧ z1 < 2 then cpy S Sl 0 (96 * z1) else Sl)), (a5, aI yI 2 (if 0 ≤ z1 ∧ z1 < 2 then up Sv z1 1 else Sv)), (a6, aI yI 100 T), (a7, aI yI 1681 Bd), (a8, aI yI 1681 B2)] ++ pl) H := hP
    have hD : va_D (fun q : Nat => s.heap.size ≤ q) ([(x, oRD tx nw tr kn me sl), (nw, oDrv nc S (lN (kL (S) 0 40))), (nc, aI yI 48 g), (sl, aD yD 2 fs), (ou, aL yL ov), (tx, oTx sg tl po lo), (sg, aC yC 100 T), (tr, oDrv tc S2 k2), (tc, aI yI 48 g2), (kn, oKn pk ex), (ex, aI yI 1681 E), (me, oMem rg nx ct), (rg, aD yD 14 f), (mo, oMo (bI (¬ (0 ≤ z1 ∧ z1 < 2))) a1 a2 a3 ct a4 a5 a6 tl a7 a8), (a1, aI yI 96 S), (a2, aI yI 96 Kp), (a3, aI yI 1344 Hh), (a4, aI yI 192 (if 0 ≤ z1 ∧ z1 < 2 then cpy S Sl 0 (96 * z1) else Sl)), (a5, aI yI 2 (if 0 ≤ z1 ∧ z1 < 2 then up Sv z1 1 else Sv)), (a6, aI yI 100 T), (a7, aI yI 1681 Bd), (a8, aI yI 1681 B2)] ++ pl) := hD
    have hth : (bI (¬ (0 ≤ z1 ∧ z1 < 2)) : Int) = 1 := by first | exact bI_f (not_not_intro hc) | exact bI_t hc | exact hc | rfl
    have hP : va_P D vwCl ([(x, oRD tx nw tr kn me sl), (nw, oDrv nc S (lN (kL (S) 0 40))), (nc, aI yI 48 g), (sl, aD yD 2 fs), (ou, aL yL ov), (tx, oTx sg tl po lo), (sg, aC yC 100 T), (tr, oDrv tc S2 k2), (tc, aI yI 48 g2), (kn, oKn pk ex), (ex, aI yI 1681 E), (me, oMem rg nx ct), (rg, aD yD 14 f), (mo, oMo 1 a1 a2 a3 ct a4 a5 a6 tl a7 a8), (a1, aI yI 96 S), (a2, aI yI 96 Kp), (a3, aI yI 1344 Hh), (a4, aI yI 192 Sl), (a5, aI yI 2 Sv), (a6, aI yI 100 T), (a7, aI yI 1681 Bd), (a8, aI yI 1681 B2)] ++ pl) H := hP.cv (by (try simp only [if_neg hc]); (try simp only [hth]))
    have hD : va_D (fun q : Nat => s.heap.size ≤ q) ([(x, oRD tx nw tr kn me sl), (nw, oDrv nc S (lN (kL (S) 0 40))), (nc, aI yI 48 g), (sl, aD yD 2 fs), (ou, aL yL ov), (tx, oTx sg tl po lo), (sg, aC yC 100 T), (tr, oDrv tc S2 k2), (tc, aI yI 48 g2), (kn, oKn pk ex), (ex, aI yI 1681 E), (me, oMem rg nx ct), (rg, aD yD 14 f), (mo, oMo 1 a1 a2 a3 ct a4 a5 a6 tl a7 a8), (a1, aI yI 96 S), (a2, aI yI 96 Kp), (a3, aI yI 1344 Hh), (a4, aI yI 192 Sl), (a5, aI yI 2 Sv), (a6, aI yI 100 T), (a7, aI yI 1681 Bd), (a8, aI yI 1681 B2)] ++ pl) := hD.cv (by (try simp only [if_neg hc]); (try simp only [hth]))
    rw [show (if 0 ≤ z1 ∧ z1 < 2 then S 4 else 0 : Int) = 0 from if_neg hc]
    refine lv_istore (lv' := [(6, .int (iI 0)), (5, .int (iI 1)), (0, .ref b), (1, .ref x), (2, .ref mo), (3, .ref ou), (4, .int (iI i))]) hx hb dL_law_1474 hl (by decide) rfl (fun ls hl => ?_)
    refine lv_aload_n hx hb dL_law_1476 rfl (lv_at hl 4 rfl) ?_
    refine iv_roV (As := []) (rest := []) (C := RX5) (n := 0) ⟨hx, hb, hml, hown, hts⟩ (c_X5_thrown l D yI yC yD mo 1 ct tl a1 a2 a3 a4 a5 a6 a7 a8 ) (cwV 0 hts gL_law_X5_thrown rfl rfl rfl (by decide +kernel) ⟨Nat.le_of_ble_eq_true rfl, Nat.le_of_ble_eq_true rfl⟩) hK hP [13] rfl 13 rfl rfl rfl hl.1 rfl (Nat.le_of_ble_eq_true rfl) dL_law_1477 ⟨(by show _ ≤ (601024 : Nat); omega), (by show _ ≤ (7293034 : Nat); omega)⟩ ?_
    refine lv_iload hx hb dL_law_1480 (lv_at hl 1 rfl) ?_
    refine lv_icmp_eq (x := iI 1) (y := iI 1) (tgt := 1487) hx hb dL_law_1482 (by decide) (fun c1482 => ?_) (fun c1482 => ?_)
    · refine lv_iload hx hb dL_law_1487 (lv_at hl 1 rfl) ?_
      refine iv_if_ne (a := 1) (tgt := 1504) hx hb (by omega) dL_law_1489 (by decide) (fun c1489 => ?_) (fun c1489 => ?_)
      · refine lv_goto (tgt := 1563) hx hb dL_law_1504 (by decide) ?_
        have hP9 : va_P D vwCl ([(x, oRD tx nw tr kn me sl), (tx, oTx sg tl po lo), (sg, aC yC 100 T), (nw, oDrv nc S (lN (kL (S) 0 40))), (nc, aI yI 48 g), (tr, oDrv tc S2 k2), (tc, aI yI 48 g2), (kn, oKn pk ex), (ex, aI yI 1681 E), (me, oMem rg nx ct), (rg, aD yD 14 f), (sl, aD yD 2 fs), (mo, oMo 1 a1 a2 a3 ct a4 a5 a6 tl a7 a8), (a1, aI yI 96 S), (a2, aI yI 96 Kp), (a3, aI yI 1344 Hh), (a4, aI yI 192 Sl), (a5, aI yI 2 Sv), (a6, aI yI 100 T), (a7, aI yI 1681 Bd), (a8, aI yI 1681 B2), (ou, aL yL ov)] ++ pl) _ := hP.re [0, 5, 6, 1, 2, 7, 8, 9, 10, 11, 12, 3, 13, 14, 15, 16, 17, 18, 19, 20, 21, 4] rfl
        have hD9 : va_D (fun q : Nat => s.heap.size ≤ q) ([(x, oRD tx nw tr kn me sl), (tx, oTx sg tl po lo), (sg, aC yC 100 T), (nw, oDrv nc S (lN (kL (S) 0 40))), (nc, aI yI 48 g), (tr, oDrv tc S2 k2), (tc, aI yI 48 g2), (kn, oKn pk ex), (ex, aI yI 1681 E), (me, oMem rg nx ct), (rg, aD yD 14 f), (sl, aD yD 2 fs), (mo, oMo 1 a1 a2 a3 ct a4 a5 a6 tl a7 a8), (a1, aI yI 96 S), (a2, aI yI 96 Kp), (a3, aI yI 1344 Hh), (a4, aI yI 192 Sl), (a5, aI yI 2 Sv), (a6, aI yI 100 T), (a7, aI yI 1681 Bd), (a8, aI yI 1681 B2), (ou, aL yL ov)] ++ pl) := hD.re [0, 5, 6, 1, 2, 7, 8, 9, 10, 11, 12, 3, 13, 14, 15, 16, 17, 18, 19, 20, 21, 4] (by decide) rfl
        rw [← hplq] at hP9 hD9
        refine W.widen (k := cells + 8) (n := slots + 150) (by omega) (by omega) ?_
        exact K _ _ _ ⟨x, tx, sg, nw, nc, tr, tc, kn, ex, me, rg, sl, mo, a1, a2, a3, a4, a5, a6, a7, a8, ou, T, S, g, S2, g2, E, Kp, Hh, Sl, Sv, Bd, B2, tl, po, lo, pk, nx, ct, 1, k2, ov, f, fs, en, hP9, hD9, hS, lv_sub hl [2, 3, 4, 5, 6] rfl, hI, hR, htl, hrt, hme, hsv, hfO, hrO, hsO⟩
      · exact absurd c1489 (by omega)
    · exact absurd rfl c1482
