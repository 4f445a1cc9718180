set_option maxHeartbeats 8000000 in
set_option maxRecDepth 100000 in
theorem lq_same {p : Program} {e : Env} {s : State} {m : MethodId} {below : List Frame} {meth : Method} {c : Code} (l : Launch) (hla : l.stackTraces = false) {b L : Nat} {xs : Nat → Int32} (C0 : lw_At p s m meth c b L xs) (D : va_G) (yI yC yD yL : ClassId) (hK : va_K D vwCl (tyl yI yC yD yL) s) (A : Nat → Prop) (hA : ∀ q : Nat, s.heap.size ≤ q → A q) (hB : XB A s s.heap) {Q : State → Prop} {cells slots : Nat} (hroom : cells + 8 ≤ 600130 ∧ slots + 150 ≤ 7301079) {i z : Int} (hi : 0 ≤ i ∧ i ≤ 13) {H : Heap} {locs : List Loc} {ls : Array Slot} (hLI : LI D yI yC yD yL s A b i (i + 1) [] H locs ls) (K : ∀ (H : Heap) (locs : List Loc) (ls : Array Slot), LI D yI yC yD yL s A b i (i + 1) [] H locs ls → W p l e room_1 s m #[Value.ref b] below meth c H locs cells slots Q (F0 m 580 ls [])) : W p l e room_1 s m #[Value.ref b] below meth c H locs cells slots Q (F0 m 563 ls []) := by
  obtain ⟨hx, hb, hr, hml, hown, hts, hX, hbl, hlocks, hgv⟩ := id C0
  have hKz : va_K D vwCl (tyz yI yC yD) s := hK.sub [0, 1, 2] rfl
  obtain ⟨x, tx, nw, tr, kn, me, sl, nc, ex, rg, qa, aa, sa, ga, so, S, g, E, gl, fA, fS, pk, nx, ct, F, f, fs, en, hP, hD, hS, hl, hI, hR, hRl, h9, h6, hme, hfO⟩ := hLI
  have hl : lv_has ls 14 [(0, .ref b), (1, .ref x), (2, .ref qa), (3, .ref aa), (4, .ref sa), (5, .ref ga), (6, .ref so), (7, .int (iI i))] := hl
  generalize hplq : plE yI en 16 = pl at hP hD
  have hP : va_P D vwCl ([(x, oRD tx nw tr kn me sl), (nw, oDrv nc S (lN (kL (S) 0 40))), (nc, aI yI 48 g), (me, oMem rg nx ct), (rg, aD yD 14 f), (kn, oKn pk ex), (ex, aI yI 1681 E), (qa, aI yI 9 (qS S)), (aa, aI yI 48 gl), (sa, aJ yL 16 F), (ga, aI yI 12 fA), (so, aI yI 12 fS)] ++ pl) _ := hP
  have hD : va_D A ([(x, oRD tx nw tr kn me sl), (nw, oDrv nc S (lN (kL (S) 0 40))), (nc, aI yI 48 g), (me, oMem rg nx ct), (rg, aD yD 14 f), (kn, oKn pk ex), (ex, aI yI 1681 E), (qa, aI yI 9 (qS S)), (aa, aI yI 48 gl), (sa, aJ yL 16 F), (ga, aI yI 12 fA), (so, aI yI 12 fS)] ++ pl) := hD
  have hpl := hI.pl
  have hna := hI.na
  have hse := hI.se
  have hwi := hI.wi
  have hfe := hI.fe
  have hna := hI.na
  have hwi := hI.wi
  have hse := hI.se
  have hfe := hI.fe
  refine lv_aload_n hx hb dL_law_563 rfl (lv_at hl 1 rfl) ?_
  refine lv_aload_n hx hb dL_law_564 rfl (lv_at hl 2 rfl) ?_
  refine lv_aload_n hx hb dL_law_565 rfl (lv_at hl 3 rfl) ?_
  refine lv_aload hx hb dL_law_566 (lv_at hl 4 rfl) ?_
  refine lv_aload hx hb dL_law_568 (lv_at hl 5 rfl) ?_
  refine lv_aload hx hb dL_law_570 (lv_at hl 6 rfl) ?_
  refine iv_rwS (As := [.ref x, .ref qa, .ref aa, .ref sa, .ref ga, .ref so]) (rest := []) (n := 6) ⟨hx, hb, hml, hown, hts⟩ (c_L_same l D yI yC yD yL x tx nw tr kn me sl nc S g ex pk E qa aa sa ga so gl F fA fS (hI) (hR) (hRl) (h9) (by omega) _) (va_cwS 6 hts gL_law_L_same rfl rfl rfl (by decide +kernel) ⟨Nat.le_of_ble_eq_true rfl, Nat.le_of_ble_eq_true rfl⟩) hK hP hD hS hA [0, 1, 2, 5, 6, 7, 8, 9, 10, 11] (by decide) rfl rfl hl.1 rfl (Nat.le_of_ble_eq_true rfl) dL_law_572 ⟨(by show _ ≤ (600130 : Nat); omega), (by show _ ≤ (7301079 : Nat); omega)⟩ (fun _ => rfl) (fun r572 u572 H locs hw572 hP hD hS => ?_)
  obtain ⟨p9572, E9572, F9572, gA9572, gS9572⟩ := u572
  obtain ⟨hr572, -⟩ := hw572
  subst hr572
  have hP : va_P D vwCl ([(x, oRD tx nw tr kn me sl), (nw, oDrv nc S (lN (kL (S) 0 40))), (nc, aI yI 48 g), (me, oMem rg nx ct), (rg, aD yD 14 f), (kn, oKn p9572 ex), (ex, aI yI 1681 E9572), (qa, aI yI 9 (qS S)), (aa, aI yI 48 gl), (sa, aJ yL 16 F9572), (ga, aI yI 12 gA9572), (so, aI yI 12 gS9572)] ++ pl) H := hP
  have hD : va_D A ([(x, oRD tx nw tr kn me sl), (nw, oDrv nc S (lN (kL (S) 0 40))), (nc, aI yI 48 g), (me, oMem rg nx ct), (rg, aD yD 14 f), (kn, oKn p9572 ex), (ex, aI yI 1681 E9572), (qa, aI yI 9 (qS S)), (aa, aI yI 48 gl), (sa, aJ yL 16 F9572), (ga, aI yI 12 gA9572), (so, aI yI 12 gS9572)] ++ pl) := hD
  refine iv_if_ne (a := 1) (tgt := 580) hx hb (by omega) dL_law_575 (by decide) (fun c575 => ?_) (fun c575 => ?_)
  · rw [← hplq] at hP hD
    refine K _ _ _ ?_
    refine ⟨x, tx, nw, tr, kn, me, sl, nc, ex, rg, qa, aa, sa, ga, so, S, g, E9572, gl, gA9572, gS9572, p9572, nx, ct, F9572, f, fs, en, ?_⟩
    refine ⟨hP, hD, hS, lv_sub hl [0, 1, 2, 3, 4, 5, 6, 7] rfl, (hI), (hR), (hRl), (h9), (h6), (hme), (hfO)⟩
  · exact absurd c575 (by omega)
