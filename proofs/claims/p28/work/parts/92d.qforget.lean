set_option maxHeartbeats 8000000 in
set_option maxRecDepth 100000 in
theorem lq_forget {p : Program} {e : Env} {s : State} {m : MethodId} {below : List Frame} {meth : Method} {c : Code} (l : Launch) (hla : l.stackTraces = false) {b L : Nat} {xs : Nat → Int32} (C0 : lw_At p s m meth c b L xs) (D : va_G) (yI yC yD yL : ClassId) (hK : va_K D vwCl (tyl yI yC yD yL) s) (A : Nat → Prop) (hA : ∀ q : Nat, s.heap.size ≤ q → A q) (hB : XB A s s.heap) {Q : State → Prop} {cells slots : Nat} (hroom : cells + 8 ≤ 600130 ∧ slots + 150 ≤ 7301079) {i z : Int} (hi : 0 ≤ i ∧ i ≤ 13) {H : Heap} {locs : List Loc} {ls : Array Slot} (hLI : LI D yI yC yD yL s A b i i [(8, .int (iI z))] H locs ls) (K : ∀ (H : Heap) (locs : List Loc) (ls : Array Slot), LI D yI yC yD yL s A b i (i + 1) [] H locs ls → W p l e room_1 s m #[Value.ref b] below meth c H locs (cells + 8) (slots + 150) Q (F0 m 563 ls [])) : W p l e room_1 s m #[Value.ref b] below meth c H locs cells slots Q (F0 m 524 ls []) := by
  obtain ⟨hx, hb, hr, hml, hown, hts, hX, hbl, hlocks, hgv⟩ := id C0
  have hKz : va_K D vwCl (tyz yI yC yD) s := hK.sub [0, 1, 2] rfl
  obtain ⟨x, tx, nw, tr, kn, me, sl, nc, ex, rg, qa, aa, sa, ga, so, S, g, E, gl, fA, fS, pk, nx, ct, F, f, fs, en, hP, hD, hS, hl, hI, hR, hRl, h9, h6, hme, hfO⟩ := hLI
  have hl : lv_has ls 14 [(0, .ref b), (1, .ref x), (2, .ref qa), (3, .ref aa), (4, .ref sa), (5, .ref ga), (6, .ref so), (7, .int (iI i)), (8, .int (iI z))] := hl
  generalize hplq : plE yI en 16 = pl at hP hD
  have hP : va_P D vwCl ([(x, oRD tx nw tr kn me sl), (nw, oDrv nc S (lN (kL (S) 0 40))), (nc, aI yI 48 g), (me, oMem rg nx ct), (rg, aD yD 14 f), (kn, oKn pk ex), (ex, aI yI 1681 E), (qa, aI yI 9 (qS S)), (aa, aI yI 48 gl), (sa, aJ yL 16 F), (ga, aI yI 12 fA), (so, aI yI 12 fS)] ++ pl) _ := hP
  have hD : va_D A ([(x, oRD tx nw tr kn me sl), (nw, oDrv nc S (lN (kL (S) 0 40))), (nc, aI yI 48 g), (me, oMem rg nx ct), (rg, aD yD 14 f), (kn, oKn pk ex), (ex, aI yI 1681 E), (qa, aI yI 9 (qS S)), (aa, aI yI 48 gl), (sa, aJ yL 16 F), (ga, aI yI 12 fA), (so, aI yI 12 fS)] ++ pl) := hD
  have hpl := hI.pl
  have hna := hI.na
  have hse := hI.se
  have hwi := hI.wi
  have hfe := hI.fe
  have hna := hI.na
  have hwi := hI.wi
  have hse := hI.se
  have hfe := hI.fe
  refine lv_aload_n hx hb dL_law_524 rfl (lv_at hl 2 rfl) ?_
  refine lv_iconst (v := iI 4) hx hb dL_law_525 (by decide +kernel) ?_
  refine iv_aldE hx hb hK hP 7 0 rfl rfl (z := 4) (w := S 4) (by first | exact qS_n (by omega) | exact up_s | rfl) (by omega) (by omega) (by omega) dL_law_526 ?_
  refine iv_if_le (a := S 4) (tgt := 563) hx hb (by omega) dL_law_527 (by decide) (fun c527 => ?_) (fun c527 => ?_)
  · refine W.widen (k := cells + 8) (n := slots + 150) (by omega) (by omega) ?_
    rw [← hplq] at hP hD
    refine K _ _ _ ?_
    refine ⟨x, tx, nw, tr, kn, me, sl, nc, ex, rg, qa, aa, sa, ga, so, S, g, E, gl, fA, fS, pk, nx, ct, F, f, fs, en, ?_⟩
    refine ⟨hP, hD, hS, lv_sub hl [0, 1, 2, 3, 4, 5, 6, 7] rfl, (hI), (hR), (hRl), (h9), (by omega), (hme), (hfO)⟩
  · refine lv_iload hx hb dL_law_530 (lv_at hl 8 rfl) ?_
    refine lv_iconst (v := iI 3) hx hb dL_law_532 (by decide +kernel) ?_
    refine lv_ishr hx hb dL_law_533 ?_
    rw [isr_i z 3]
    refine lv_aload_n hx hb dL_law_534 rfl (lv_at hl 2 rfl) ?_
    refine lv_iconst (v := iI 4) hx hb dL_law_535 (by decide +kernel) ?_
    refine iv_aldE hx hb hK hP 7 0 rfl rfl (z := 4) (w := S 4) (by first | exact qS_n (by omega) | exact up_s | rfl) (by omega) (by omega) (by omega) dL_law_536 ?_
    refine iv_roS (As := [.int (iI (isr z 3)), .int (iI (S 4))]) (rest := []) (n := 2) ⟨hx, hb, hml, hown, hts⟩ (c_L_low l D yI yC yD yL (isr z 3) (S 4) (by omega)) (va_cwS 2 hts gL_law_L_low rfl rfl rfl (by decide +kernel) ⟨Nat.le_of_ble_eq_true rfl, Nat.le_of_ble_eq_true rfl⟩) hK hP [] rfl rfl hl.1 rfl (Nat.le_of_ble_eq_true rfl) dL_law_537 ⟨(by show _ ≤ (600130 : Nat); omega), (by show _ ≤ (7301079 : Nat); omega)⟩ ?_
    obtain ⟨x10, hx10⟩ : ∃ nv_, nv_ = (lowV (isr z 3) (S 4)) := ⟨_, rfl⟩
    rw [← hx10]
    have hrx10 : 0 ≤ x10 ∧ x10 < S 4 := by rw [hx10]; exact lowV_r (by omega)
    refine lv_istore (lv' := [(10, .int (iI x10)), (0, .ref b), (1, .ref x), (2, .ref qa), (3, .ref aa), (4, .ref sa), (5, .ref ga), (6, .ref so), (7, .int (iI i)), (8, .int (iI z))]) hx hb dL_law_540 hl (by decide) rfl (fun ls hl => ?_)
    refine lv_iload hx hb dL_law_542 (lv_at hl 0 rfl) ?_
    refine lv_aload_n hx hb dL_law_544 rfl (lv_at hl 3 rfl) ?_
    refine lv_aload_n hx hb dL_law_545 rfl (lv_at hl 4 rfl) ?_
    refine iv_rwSv (As := [.int (iI x10), .ref qa, .ref aa]) (rest := []) (n := 3) ⟨hx, hb, hml, hown, hts⟩ (c_L_drop l D yI yC yD yL qa aa S gl x10 (by omega) (hRl) (by omega) _) (va_cwS 3 hts gL_law_L_drop rfl rfl rfl (by decide +kernel) ⟨Nat.le_of_ble_eq_true rfl, Nat.le_of_ble_eq_true rfl⟩) hK hP hD hS hA [7, 8] (by decide) rfl rfl hl.1 rfl (Nat.le_of_ble_eq_true rfl) dL_law_546 ⟨(by show _ ≤ (600130 : Nat); omega), (by show _ ≤ (7301079 : Nat); omega)⟩ (fun _ => by simp only [List.map_cons, List.map_nil]) (fun u546 H locs hw546 hP hD hS => ?_)
    obtain ⟨G9546, hu546⟩ : ∃ z, z = u546 := ⟨_, rfl⟩
    subst hu546
    have hR9_546 := hw546
    have hP : va_P D vwCl ([(x, oRD tx nw tr kn me sl), (nw, oDrv nc S (lN (kL (S) 0 40))), (nc, aI yI 48 g), (me, oMem rg nx ct), (rg, aD yD 14 f), (kn, oKn pk ex), (ex, aI yI 1681 E), (qa, aI yI 9 (qS (forget1 S x10))), (aa, aI yI 48 G9546), (sa, aJ yL 16 F), (ga, aI yI 12 fA), (so, aI yI 12 fS)] ++ pl) H := hP
    have hD : va_D A ([(x, oRD tx nw tr kn me sl), (nw, oDrv nc S (lN (kL (S) 0 40))), (nc, aI yI 48 g), (me, oMem rg nx ct), (rg, aD yD 14 f), (kn, oKn pk ex), (ex, aI yI 1681 E), (qa, aI yI 9 (qS (forget1 S x10))), (aa, aI yI 48 G9546), (sa, aJ yL 16 F), (ga, aI yI 12 fA), (so, aI yI 12 fS)] ++ pl) := hD
    refine lv_aload_n hx hb dL_law_549 rfl (lv_at hl 2 rfl) ?_
    refine lv_iload hx hb dL_law_550 (lv_at hl 0 rfl) ?_
    obtain ⟨A1, A2, hs1, hs2⟩ := plE_split (yI := yI) (en := en) (j := nx.toNat) 16 (by omega)
    rw [← hplq, hs1] at hP hD
    have hP := va_P.perm (show va_P D vwCl (([(x, oRD tx nw tr kn me sl), (nw, oDrv nc S (lN (kL (S) 0 40))), (nc, aI yI 48 g), (me, oMem rg nx ct), (rg, aD yD 14 f)] ++ [(kn, oKn pk ex), (ex, aI yI 1681 E), (qa, aI yI 9 (qS (forget1 S x10))), (aa, aI yI 48 G9546), (sa, aJ yL 16 F), (ga, aI yI 12 fA), (so, aI yI 12 fS)]) ++ (A1 ++ (eC yI (en nx.toNat) ++ A2))) _ from hP) mid2
    have hD := va_D.perm mid2 (show va_D A (([(x, oRD tx nw tr kn me sl), (nw, oDrv nc S (lN (kL (S) 0 40))), (nc, aI yI 48 g), (me, oMem rg nx ct), (rg, aD yD 14 f)] ++ [(kn, oKn pk ex), (ex, aI yI 1681 E), (qa, aI yI 9 (qS (forget1 S x10))), (aa, aI yI 48 G9546), (sa, aJ yL 16 F), (ga, aI yI 12 fA), (so, aI yI 12 fS)]) ++ (A1 ++ (eC yI (en nx.toNat) ++ A2))) from hD)
    refine iv_lxV (wc := ([(x, oRD tx nw tr kn me sl), (nw, oDrv nc S (lN (kL (S) 0 40))), (nc, aI yI 48 g), (me, oMem rg nx ct), (rg, aD yD 14 f)] ++ eC yI (en nx.toNat))) (wr := ([(kn, oKn pk ex), (ex, aI yI 1681 E), (qa, aI yI 9 (qS (forget1 S x10))), (aa, aI yI 48 G9546), (sa, aJ yL 16 F), (ga, aI yI 12 fA), (so, aI yI 12 fS)] ++ (A1 ++ A2))) (wp := fun (u : Nat × Nat × (Int → Int)) => match u with | (q9, qc9, G9) => [(x, oRD tx nw tr kn me sl), (nw, oDrv nc (forget1 S x10) (lN (kL (forget1 S x10) 0 40))), (nc, aI yI 48 G9), (me, oMem rg (if nx + 1 < 14 then nx + 1 else 0) (min (ct + 1) 14)), (rg, aD yD 14 (va_up f nx.toNat (some q9))), (q9, oDrv qc9 S (lN (kL (S) 0 40))), (qc9, aI yI 48 g)]) (As := [.int (iI x10)]) (rest := []) (C := RX4) (n := 1) ⟨hx, hb, hml, hown, hts⟩ (c_X4_forget l hla D yI yC yD x tx nw tr kn me sl nc S g rg f nx ct (eC yI (en nx.toNat)) x10 (hI) (hR) (hme) (wq_of hfO (by omega)) (⟨by omega, by omega⟩) _) (cwV 1 hts gL_law_X4_forget rfl rfl rfl (by decide +kernel) ⟨Nat.le_of_ble_eq_true rfl, Nat.le_of_ble_eq_true rfl⟩) hKz hP hD hS hA hB rfl rfl (fun u t h => by obtain ⟨q9, qc9, G9⟩ := u; exact h) (fun _ => rfl) rfl hl.1 rfl (Nat.le_of_ble_eq_true rfl) dL_law_552 ⟨(by show _ ≤ (600130 : Nat); omega), (by show _ ≤ (7301079 : Nat); omega)⟩ (fun E9 ce9 ox9 ux H locs hxe hP hD hS hc8 hv8 hcl8 => by exfalso; obtain ⟨_, h⟩ := hxe; omega) (fun r9 u H locs hw hP hD hS => ?_)
    obtain ⟨q9, qc9, G9⟩ := u
    obtain ⟨hr9, hpx9, hR9⟩ := hw
    subst hr9
    have hP := va_P.perm (show va_P D vwCl (([(x, oRD tx nw tr kn me sl), (nw, oDrv nc (forget1 S x10) (lN (kL (forget1 S x10) 0 40))), (nc, aI yI 48 G9), (me, oMem rg (if nx + 1 < 14 then nx + 1 else 0) (min (ct + 1) 14)), (rg, aD yD 14 (va_up f nx.toNat (some q9)))] ++ [(q9, oDrv qc9 S (lN (kL (S) 0 40))), (qc9, aI yI 48 g)]) ++ ([(kn, oKn pk ex), (ex, aI yI 1681 E), (qa, aI yI 9 (qS (forget1 S x10))), (aa, aI yI 48 G9546), (sa, aJ yL 16 F), (ga, aI yI 12 fA), (so, aI yI 12 fS)] ++ (A1 ++ A2))) _ from hP) mid2.symm
    have hD := va_D.perm mid2.symm (show va_D A (([(x, oRD tx nw tr kn me sl), (nw, oDrv nc (forget1 S x10) (lN (kL (forget1 S x10) 0 40))), (nc, aI yI 48 G9), (me, oMem rg (if nx + 1 < 14 then nx + 1 else 0) (min (ct + 1) 14)), (rg, aD yD 14 (va_up f nx.toNat (some q9)))] ++ [(q9, oDrv qc9 S (lN (kL (S) 0 40))), (qc9, aI yI 48 g)]) ++ ([(kn, oKn pk ex), (ex, aI yI 1681 E), (qa, aI yI 9 (qS (forget1 S x10))), (aa, aI yI 48 G9546), (sa, aJ yL 16 F), (ga, aI yI 12 fA), (so, aI yI 12 fS)] ++ (A1 ++ A2))) from hD)
    have hP : va_P D vwCl ([(x, oRD tx nw tr kn me sl), (nw, oDrv nc (forget1 S x10) (lN (kL (forget1 S x10) 0 40))), (nc, aI yI 48 G9), (me, oMem rg (if nx + 1 < 14 then nx + 1 else 0) (min (ct + 1) 14)), (rg, aD yD 14 (va_up f nx.toNat (some q9))), (kn, oKn pk ex), (ex, aI yI 1681 E), (qa, aI yI 9 (qS (forget1 S x10))), (aa, aI yI 48 G9546), (sa, aJ yL 16 F), (ga, aI yI 12 fA), (so, aI yI 12 fS)] ++ (A1 ++ (eC yI (some (q9, qc9, S, g)) ++ A2))) H := hP
    have hD : va_D A ([(x, oRD tx nw tr kn me sl), (nw, oDrv nc (forget1 S x10) (lN (kL (forget1 S x10) 0 40))), (nc, aI yI 48 G9), (me, oMem rg (if nx + 1 < 14 then nx + 1 else 0) (min (ct + 1) 14)), (rg, aD yD 14 (va_up f nx.toNat (some q9))), (kn, oKn pk ex), (ex, aI yI 1681 E), (qa, aI yI 9 (qS (forget1 S x10))), (aa, aI yI 48 G9546), (sa, aJ yL 16 F), (ga, aI yI 12 fA), (so, aI yI 12 fS)] ++ (A1 ++ (eC yI (some (q9, qc9, S, g)) ++ A2))) := hD
    rw [← hs2 (some (q9, qc9, S, g))] at hP hD
    have hP : va_P D vwCl ([(x, oRD tx nw tr kn me sl), (nw, oDrv nc (forget1 S x10) (lN (kL (forget1 S x10) 0 40))), (nc, aI yI 48 G9), (me, oMem rg (if nx + 1 < 14 then nx + 1 else 0) (min (ct + 1) 14)), (rg, aD yD 14 (va_up f nx.toNat (some q9))), (kn, oKn pk ex), (ex, aI yI 1681 E), (qa, aI yI 9 (qS (forget1 S x10))), (aa, aI yI 48 G9546), (sa, aJ yL 16 F), (ga, aI yI 12 fA), (so, aI yI 12 fS)] ++ plE yI (enU en nx.toNat (q9, qc9, S, g)) 16) _ := hP
    have hD : va_D A ([(x, oRD tx nw tr kn me sl), (nw, oDrv nc (forget1 S x10) (lN (kL (forget1 S x10) 0 40))), (nc, aI yI 48 G9), (me, oMem rg (if nx + 1 < 14 then nx + 1 else 0) (min (ct + 1) 14)), (rg, aD yD 14 (va_up f nx.toNat (some q9))), (kn, oKn pk ex), (ex, aI yI 1681 E), (qa, aI yI 9 (qS (forget1 S x10))), (aa, aI yI 48 G9546), (sa, aJ yL 16 F), (ga, aI yI 12 fA), (so, aI yI 12 fS)] ++ plE yI (enU en nx.toNat (q9, qc9, S, g)) 16) := hD
    generalize hplq2 : plE yI (enU en nx.toNat (q9, qc9, S, g)) 16 = pl2 at hP hD
    have hP : va_P D vwCl ([(x, oRD tx nw tr kn me sl), (nw, oDrv nc (forget1 S x10) (lN (kL (forget1 S x10) 0 40))), (nc, aI yI 48 G9), (me, oMem rg (if nx + 1 < 14 then nx + 1 else 0) (min (ct + 1) 14)), (rg, aD yD 14 (va_up f nx.toNat (some q9))), (kn, oKn pk ex), (ex, aI yI 1681 E), (qa, aI yI 9 (qS (forget1 S x10))), (aa, aI yI 48 G9546), (sa, aJ yL 16 F), (ga, aI yI 12 fA), (so, aI yI 12 fS)] ++ pl2) H := hP
    have hD : va_D A ([(x, oRD tx nw tr kn me sl), (nw, oDrv nc (forget1 S x10) (lN (kL (forget1 S x10) 0 40))), (nc, aI yI 48 G9), (me, oMem rg (if nx + 1 < 14 then nx + 1 else 0) (min (ct + 1) 14)), (rg, aD yD 14 (va_up f nx.toNat (some q9))), (kn, oKn pk ex), (ex, aI yI 1681 E), (qa, aI yI 9 (qS (forget1 S x10))), (aa, aI yI 48 G9546), (sa, aJ yL 16 F), (ga, aI yI 12 fA), (so, aI yI 12 fS)] ++ pl2) := hD
    refine lv_aload_n hx hb dL_law_555 rfl (lv_at hl 3 rfl) ?_
    refine lv_iconst (v := iI 4) hx hb dL_law_556 (by decide +kernel) ?_
    refine iv_aldE hx hb hK hP 7 0 rfl rfl (z := 4) (w := (forget1 S x10) 4) (by first | exact qS_n (by omega) | exact up_s | rfl) (by omega) (by omega) (by omega) dL_law_557 ?_
    refine lv_icmp_eq (x := iI (S 4 - 1)) (y := iI ((forget1 S x10) 4)) (tgt := 563) hx hb dL_law_558 (by decide) (fun c558 => ?_) (fun c558 => ?_)
    · rw [← hplq2] at hP hD
      refine K _ _ _ ?_
      refine ⟨x, tx, nw, tr, kn, me, sl, nc, ex, rg, qa, aa, sa, ga, so, (forget1 S x10), G9, E, G9546, fA, fS, pk, (if nx + 1 < 14 then nx + 1 else 0), (min (ct + 1) 14), F, (va_up f nx.toNat (some q9)), fs, (enU en nx.toNat (q9, qc9, S, g)), ?_⟩
      refine ⟨hP, hD, hS, lv_sub hl [1, 2, 3, 4, 5, 6, 7, 8] rfl, (inv_forget1 hI (by omega)), (hR9), (hR9_546), (by rw [forget1_k (by omega) (by omega) (by omega) (by omega)]; exact h9), (by rw [forget1_k (by omega) (by omega) (by omega) (by omega)]; omega), (by refine ⟨?_, ?_, by omega, by omega⟩ <;> split <;> omega), (fO_ring hfO (by omega) (q9, qc9, S, g))⟩
    · exact absurd rfl c558
