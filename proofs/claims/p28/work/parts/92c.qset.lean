theorem qs_set1 {S : Int → Int} {w v : Int} (hw : 0 ≤ w ∧ w ≤ 2) (h : w = 1 → S 2 = v) : ∀ z, 0 ≤ z → z < 9 → up (qS S) (1 + w) v z = qS (setg S w v) z := by
  intro z h0 h1
  have e : setg S w v = up S (1 + w) v := if_neg (fun q => q.2 (by rw [q.1]; exact h q.1))
  by_cases e8 : z = 8
  · have hk := kL_setg (S := S) (v := v) hw
    rw [e8, up_n (by omega), qS_8, qS_8, hk]
  · rw [qS_n e8, e]
    unfold up
    split
    · rfl
    · exact qS_n e8
theorem qs_set2 {S : Int → Int} {w v : Int} (hw : w = 1) (h : S 2 ≠ v) : ∀ z, 0 ≤ z → z < 9 → up (up (up (qS S) 7 (S 7 + S 4)) 4 0) (1 + w) v z = qS (setg S w v) z := by
  intro z h0 h1
  subst hw
  have e : setg S 1 v = forgetA (up S (1 + 1) v) := if_pos ⟨rfl, h⟩
  by_cases e8 : z = 8
  · have hk := kL_setg (S := S) (w := 1) (v := v) (by omega)
    rw [e8, up_n (by omega), up_n (by omega), up_n (by omega), qS_8, qS_8, hk]
  · rw [qS_n e8, e]
    unfold forgetA up
    by_cases e2 : z = 1 + 1
    · rw [if_pos e2, if_neg (by omega), if_neg (by omega), if_pos e2]
    · rw [if_neg e2]
      by_cases e4 : z = 4
      · rw [if_pos e4, if_pos e4]
      · rw [if_neg e4, if_neg e4]
        by_cases e7 : z = 7
        · rw [if_pos e7, if_pos e7, if_neg (by omega), if_neg (by omega)]
        · rw [if_neg e7, if_neg e7, if_neg e2, qS_n e8]
theorem setg_6 {S : Int → Int} {w v : Int} (h : 0 ≤ w ∧ w ≤ 2) : setg S w v 6 = S 6 := by
  unfold setg
  split
  · rw [forgetA_k (by omega) (by omega), up_n (by omega)]
  · rw [up_n (by omega)]
set_option maxHeartbeats 8000000 in
set_option maxRecDepth 100000 in
theorem lq_set {p : Program} {e : Env} {s : State} {m : MethodId} {below : List Frame} {meth : Method} {c : Code} (l : Launch) (hla : l.stackTraces = false) {b L : Nat} {xs : Nat → Int32} (C0 : lw_At p s m meth c b L xs) (D : va_G) (yI yC yD yL : ClassId) (hK : va_K D vwCl (tyl yI yC yD yL) s) (A : Nat → Prop) (hA : ∀ q : Nat, s.heap.size ≤ q → A q) (hB : XB A s s.heap) {Q : State → Prop} {cells slots : Nat} (hroom : cells + 8 ≤ 600130 ∧ slots + 150 ≤ 7301079) {i z : Int} (hi : 0 ≤ i ∧ i ≤ 13) {H : Heap} {locs : List Loc} {ls : Array Slot} (hLI : LI D yI yC yD yL s A b i i [(8, .int (iI z))] H locs ls) (K : ∀ (H : Heap) (locs : List Loc) (ls : Array Slot), LI D yI yC yD yL s A b i (i + 1) [] H locs ls → W p l e room_1 s m #[Value.ref b] below meth c H locs (cells + 8) (slots + 150) Q (F0 m 563 ls [])) : W p l e room_1 s m #[Value.ref b] below meth c H locs cells slots Q (F0 m 410 ls []) := by
  obtain ⟨hx, hb, hr, hml, hown, hts, hX, hbl, hlocks, hgv⟩ := id C0
  have hKz : va_K D vwCl (tyz yI yC yD) s := hK.sub [0, 1, 2] rfl
  obtain ⟨x, tx, nw, tr, kn, me, sl, nc, ex, rg, qa, aa, sa, ga, so, S, g, E, gl, fA, fS, pk, nx, ct, F, f, fs, en, hP, hD, hS, hl, hI, hR, hRl, h9, h6, hme, hfO⟩ := hLI
  have hl : lv_has ls 14 [(0, .ref b), (1, .ref x), (2, .ref qa), (3, .ref aa), (4, .ref sa), (5, .ref ga), (6, .ref so), (7, .int (iI i)), (8, .int (iI z))] := hl
  generalize hplq : plE yI en 16 = pl at hP hD
  have hP : va_P D vwCl ([(x, oRD tx nw tr kn me sl), (nw, oDrv nc S (lN (kL (S) 0 40))), (nc, aI yI 48 g), (me, oMem rg nx ct), (rg, aD yD 14 f), (kn, oKn pk ex), (ex, aI yI 1681 E), (qa, aI yI 9 (qS S)), (aa, aI yI 48 gl), (sa, aJ yL 16 F), (ga, aI yI 12 fA), (so, aI yI 12 fS)] ++ pl) _ := hP
  have hD : va_D A ([(x, oRD tx nw tr kn me sl), (nw, oDrv nc S (lN (kL (S) 0 40))), (nc, aI yI 48 g), (me, oMem rg nx ct), (rg, aD yD 14 f), (kn, oKn pk ex), (ex, aI yI 1681 E), (qa, aI yI 9 (qS S)), (aa, aI yI 48 gl), (sa, aJ yL 16 F), (ga, aI yI 12 fA), (so, aI yI 12 fS)] ++ pl) := hD
  have hpl := hI.pl
  have hna := hI.na
  have hse := hI.se
  have hwi := hI.wi
  have hfe := hI.fe
  have hna := hI.na
  have hwi := hI.wi
  have hse := hI.se
  have hfe := hI.fe
  refine lv_iload hx hb dL_law_410 (lv_at hl 8 rfl) ?_
  refine lv_iconst (v := iI 3) hx hb dL_law_412 (by decide +kernel) ?_
  refine lv_ishr hx hb dL_law_413 ?_
  rw [isr_i z 3]
  refine lv_iconst (v := iI 3) hx hb dL_law_414 (by decide +kernel) ?_
  refine iv_roS (As := [.int (iI (isr z 3)), .int (iI 3)]) (rest := []) (n := 2) ⟨hx, hb, hml, hown, hts⟩ (c_L_low l D yI yC yD yL (isr z 3) 3 (by omega)) (va_cwS 2 hts gL_law_L_low rfl rfl rfl (by decide +kernel) ⟨Nat.le_of_ble_eq_true rfl, Nat.le_of_ble_eq_true rfl⟩) hK hP [] rfl rfl hl.1 rfl (Nat.le_of_ble_eq_true rfl) dL_law_415 ⟨(by show _ ≤ (600130 : Nat); omega), (by show _ ≤ (7301079 : Nat); omega)⟩ ?_
  obtain ⟨x10, hx10⟩ : ∃ nv_, nv_ = (lowV (isr z 3) 3) := ⟨_, rfl⟩
  rw [← hx10]
  have hrx10 : 0 ≤ x10 ∧ x10 < 3 := by rw [hx10]; exact lowV_r (by omega)
  refine lv_istore (lv' := [(10, .int (iI x10)), (0, .ref b), (1, .ref x), (2, .ref qa), (3, .ref aa), (4, .ref sa), (5, .ref ga), (6, .ref so), (7, .int (iI i)), (8, .int (iI z))]) hx hb dL_law_418 hl (by decide) rfl (fun ls hl => ?_)
  refine iv_join (I := fun (qq : Int) H locs ls => match qq with | yv => (okS x10 yv) ∧ va_P D vwCl ([(x, oRD tx nw tr kn me sl), (nw, oDrv nc S (lN (kL (S) 0 40))), (nc, aI yI 48 g), (me, oMem rg nx ct), (rg, aD yD 14 f), (kn, oKn pk ex), (ex, aI yI 1681 E), (qa, aI yI 9 (qS S)), (aa, aI yI 48 gl), (sa, aJ yL 16 F), (ga, aI yI 12 fA), (so, aI yI 12 fS)] ++ pl) H ∧ va_D A ([(x, oRD tx nw tr kn me sl), (nw, oDrv nc S (lN (kL (S) 0 40))), (nc, aI yI 48 g), (me, oMem rg nx ct), (rg, aD yD 14 f), (kn, oKn pk ex), (ex, aI yI 1681 E), (qa, aI yI 9 (qS S)), (aa, aI yI 48 gl), (sa, aJ yL 16 F), (ga, aI yI 12 fA), (so, aI yI 12 fS)] ++ pl) ∧ va_S A s.heap H locs ∧ lv_has ls 14 [(10, .int (iI x10)), (0, .ref b), (1, .ref x), (2, .ref qa), (3, .ref aa), (4, .ref sa), (5, .ref ga), (6, .ref so), (7, .int (iI i)), (8, .int (iI z))]) (sx := fun (qq : Int) => match qq with | yv => [.int (iI yv)]) (pcj := 464) ?_ (fun J464 => ?_)
  · intro yv H locs ls hI
    obtain ⟨hok, hP, hD, hS, hl⟩ := hI
    refine lv_istore (lv' := [(11, .int (iI yv)), (10, .int (iI x10)), (0, .ref b), (1, .ref x), (2, .ref qa), (3, .ref aa), (4, .ref sa), (5, .ref ga), (6, .ref so), (7, .int (iI i)), (8, .int (iI z))]) hx hb dL_law_464 hl (by decide) rfl (fun ls hl => ?_)
    have hqs : qS S (1 + x10) = S (1 + x10) := qS_n (by omega)
    have hss := set_h2 hI hok
    refine lv_aload_n hx hb dL_law_466 rfl (lv_at hl 3 rfl) ?_
    refine lv_iload hx hb dL_law_467 (lv_at hl 1 rfl) ?_
    refine lv_iload hx hb dL_law_469 (lv_at hl 0 rfl) ?_
    obtain ⟨A1, A2, hs1, hs2⟩ := plE_split (yI := yI) (en := en) (j := nx.toNat) 16 (by omega)
    rw [← hplq, hs1] at hP hD
    have hP := va_P.perm (show va_P D vwCl (([(x, oRD tx nw tr kn me sl), (nw, oDrv nc S (lN (kL (S) 0 40))), (nc, aI yI 48 g), (me, oMem rg nx ct), (rg, aD yD 14 f)] ++ [(kn, oKn pk ex), (ex, aI yI 1681 E), (qa, aI yI 9 (qS S)), (aa, aI yI 48 gl), (sa, aJ yL 16 F), (ga, aI yI 12 fA), (so, aI yI 12 fS)]) ++ (A1 ++ (eC yI (en nx.toNat) ++ A2))) _ from hP) mid2
    have hD := va_D.perm mid2 (show va_D A (([(x, oRD tx nw tr kn me sl), (nw, oDrv nc S (lN (kL (S) 0 40))), (nc, aI yI 48 g), (me, oMem rg nx ct), (rg, aD yD 14 f)] ++ [(kn, oKn pk ex), (ex, aI yI 1681 E), (qa, aI yI 9 (qS S)), (aa, aI yI 48 gl), (sa, aJ yL 16 F), (ga, aI yI 12 fA), (so, aI yI 12 fS)]) ++ (A1 ++ (eC yI (en nx.toNat) ++ A2))) from hD)
    refine iv_lxV (wc := ([(x, oRD tx nw tr kn me sl), (nw, oDrv nc S (lN (kL (S) 0 40))), (nc, aI yI 48 g), (me, oMem rg nx ct), (rg, aD yD 14 f)] ++ eC yI (en nx.toNat))) (wr := ([(kn, oKn pk ex), (ex, aI yI 1681 E), (qa, aI yI 9 (qS S)), (aa, aI yI 48 gl), (sa, aJ yL 16 F), (ga, aI yI 12 fA), (so, aI yI 12 fS)] ++ (A1 ++ A2))) (wp := fun (u : Nat × Nat) => match u with | (q9, qc9) => [(x, oRD tx nw tr kn me sl), (nw, oDrv nc (setg S x10 yv) (lN (kL (setg S x10 yv) 0 40))), (nc, aI yI 48 g), (me, oMem rg (if nx + 1 < 14 then nx + 1 else 0) (min (ct + 1) 14)), (rg, aD yD 14 (va_up f nx.toNat (some q9))), (q9, oDrv qc9 S (lN (kL (S) 0 40))), (qc9, aI yI 48 g)]) (As := [.int (iI x10), .int (iI yv)]) (rest := []) (C := RX4) (n := 2) ⟨hx, hb, hml, hown, hts⟩ (c_X4_set l hla D yI yC yD x tx nw tr kn me sl nc S g rg f nx ct (eC yI (en nx.toNat)) x10 yv (hI) (hR) (hme) (wq_of hfO (by omega)) (⟨⟨by omega, by omega⟩, (set_h2 hI hok).1⟩) _) (cwV 2 hts gL_law_X4_set rfl rfl rfl (by decide +kernel) ⟨Nat.le_of_ble_eq_true rfl, Nat.le_of_ble_eq_true rfl⟩) hKz hP hD hS hA hB rfl rfl (fun u t h => by obtain ⟨q9, qc9⟩ := u; exact h) (fun _ => rfl) rfl hl.1 rfl (Nat.le_of_ble_eq_true rfl) dL_law_471 ⟨(by show _ ≤ (600130 : Nat); omega), (by show _ ≤ (7301079 : Nat); omega)⟩ (fun E9 ce9 ox9 ux H locs hxe hP hD hS hc8 hv8 hcl8 => by exfalso; obtain ⟨_, h⟩ := hxe; exact h hok) (fun r9 u H locs hw hP hD hS => ?_)
    obtain ⟨q9, qc9⟩ := u
    obtain ⟨hr9, hpx9, hR9⟩ := hw
    subst hr9
    have hP := va_P.perm (show va_P D vwCl (([(x, oRD tx nw tr kn me sl), (nw, oDrv nc (setg S x10 yv) (lN (kL (setg S x10 yv) 0 40))), (nc, aI yI 48 g), (me, oMem rg (if nx + 1 < 14 then nx + 1 else 0) (min (ct + 1) 14)), (rg, aD yD 14 (va_up f nx.toNat (some q9)))] ++ [(q9, oDrv qc9 S (lN (kL (S) 0 40))), (qc9, aI yI 48 g)]) ++ ([(kn, oKn pk ex), (ex, aI yI 1681 E), (qa, aI yI 9 (qS S)), (aa, aI yI 48 gl), (sa, aJ yL 16 F), (ga, aI yI 12 fA), (so, aI yI 12 fS)] ++ (A1 ++ A2))) _ from hP) mid2.symm
    have hD := va_D.perm mid2.symm (show va_D A (([(x, oRD tx nw tr kn me sl), (nw, oDrv nc (setg S x10 yv) (lN (kL (setg S x10 yv) 0 40))), (nc, aI yI 48 g), (me, oMem rg (if nx + 1 < 14 then nx + 1 else 0) (min (ct + 1) 14)), (rg, aD yD 14 (va_up f nx.toNat (some q9)))] ++ [(q9, oDrv qc9 S (lN (kL (S) 0 40))), (qc9, aI yI 48 g)]) ++ ([(kn, oKn pk ex), (ex, aI yI 1681 E), (qa, aI yI 9 (qS S)), (aa, aI yI 48 gl), (sa, aJ yL 16 F), (ga, aI yI 12 fA), (so, aI yI 12 fS)] ++ (A1 ++ A2))) from hD)
    have hP : va_P D vwCl ([(x, oRD tx nw tr kn me sl), (nw, oDrv nc (setg S x10 yv) (lN (kL (setg S x10 yv) 0 40))), (nc, aI yI 48 g), (me, oMem rg (if nx + 1 < 14 then nx + 1 else 0) (min (ct + 1) 14)), (rg, aD yD 14 (va_up f nx.toNat (some q9))), (kn, oKn pk ex), (ex, aI yI 1681 E), (qa, aI yI 9 (qS S)), (aa, aI yI 48 gl), (sa, aJ yL 16 F), (ga, aI yI 12 fA), (so, aI yI 12 fS)] ++ (A1 ++ (eC yI (some (q9, qc9, S, g)) ++ A2))) H := hP
    have hD : va_D A ([(x, oRD tx nw tr kn me sl), (nw, oDrv nc (setg S x10 yv) (lN (kL (setg S x10 yv) 0 40))), (nc, aI yI 48 g), (me, oMem rg (if nx + 1 < 14 then nx + 1 else 0) (min (ct + 1) 14)), (rg, aD yD 14 (va_up f nx.toNat (some q9))), (kn, oKn pk ex), (ex, aI yI 1681 E), (qa, aI yI 9 (qS S)), (aa, aI yI 48 gl), (sa, aJ yL 16 F), (ga, aI yI 12 fA), (so, aI yI 12 fS)] ++ (A1 ++ (eC yI (some (q9, qc9, S, g)) ++ A2))) := hD
    rw [← hs2 (some (q9, qc9, S, g))] at hP hD
    have hP : va_P D vwCl ([(x, oRD tx nw tr kn me sl), (nw, oDrv nc (setg S x10 yv) (lN (kL (setg S x10 yv) 0 40))), (nc, aI yI 48 g), (me, oMem rg (if nx + 1 < 14 then nx + 1 else 0) (min (ct + 1) 14)), (rg, aD yD 14 (va_up f nx.toNat (some q9))), (kn, oKn pk ex), (ex, aI yI 1681 E), (qa, aI yI 9 (qS S)), (aa, aI yI 48 gl), (sa, aJ yL 16 F), (ga, aI yI 12 fA), (so, aI yI 12 fS)] ++ plE yI (enU en nx.toNat (q9, qc9, S, g)) 16) _ := hP
    have hD : va_D A ([(x, oRD tx nw tr kn me sl), (nw, oDrv nc (setg S x10 yv) (lN (kL (setg S x10 yv) 0 40))), (nc, aI yI 48 g), (me, oMem rg (if nx + 1 < 14 then nx + 1 else 0) (min (ct + 1) 14)), (rg, aD yD 14 (va_up f nx.toNat (some q9))), (kn, oKn pk ex), (ex, aI yI 1681 E), (qa, aI yI 9 (qS S)), (aa, aI yI 48 gl), (sa, aJ yL 16 F), (ga, aI yI 12 fA), (so, aI yI 12 fS)] ++ plE yI (enU en nx.toNat (q9, qc9, S, g)) 16) := hD
    generalize hplq2 : plE yI (enU en nx.toNat (q9, qc9, S, g)) 16 = pl2 at hP hD
    have hP : va_P D vwCl ([(x, oRD tx nw tr kn me sl), (nw, oDrv nc (setg S x10 yv) (lN (kL (setg S x10 yv) 0 40))), (nc, aI yI 48 g), (me, oMem rg (if nx + 1 < 14 then nx + 1 else 0) (min (ct + 1) 14)), (rg, aD yD 14 (va_up f nx.toNat (some q9))), (kn, oKn pk ex), (ex, aI yI 1681 E), (qa, aI yI 9 (qS S)), (aa, aI yI 48 gl), (sa, aJ yL 16 F), (ga, aI yI 12 fA), (so, aI yI 12 fS)] ++ pl2) H := hP
    have hD : va_D A ([(x, oRD tx nw tr kn me sl), (nw, oDrv nc (setg S x10 yv) (lN (kL (setg S x10 yv) 0 40))), (nc, aI yI 48 g), (me, oMem rg (if nx + 1 < 14 then nx + 1 else 0) (min (ct + 1) 14)), (rg, aD yD 14 (va_up f nx.toNat (some q9))), (kn, oKn pk ex), (ex, aI yI 1681 E), (qa, aI yI 9 (qS S)), (aa, aI yI 48 gl), (sa, aJ yL 16 F), (ga, aI yI 12 fA), (so, aI yI 12 fS)] ++ pl2) := hD
    refine lv_aload_n hx hb dL_law_474 rfl (lv_at hl 4 rfl) ?_
    refine lv_iconst (v := iI 1) hx hb dL_law_475 (by decide +kernel) ?_
    refine lv_iload hx hb dL_law_476 (lv_at hl 1 rfl) ?_
    refine iv_add hx hb dL_law_478 ?_
    refine iv_ald hx hb hK hP 7 0 rfl rfl (z := 1 + x10) (by omega) (by omega) (by omega) dL_law_479 ?_
    refine lv_icmp_eq (x := iI (S (1 + x10))) (y := iI ((qS S) (1 + x10))) (tgt := 485) hx hb dL_law_480 (by decide) (fun c480 => ?_) (fun c480 => ?_)
    · refine lv_iload hx hb dL_law_485 (lv_at hl 1 rfl) ?_
      refine lv_iconst (v := iI 1) hx hb dL_law_487 (by decide +kernel) ?_
      refine iv_icmp_ne (a := x10) (b := 1) (tgt := 513) hx hb (by omega) (by omega) dL_law_488 (by decide) (fun c488 => ?_) (fun c488 => ?_)
      · refine lv_aload_n hx hb dL_law_513 rfl (lv_at hl 4 rfl) ?_
        refine lv_iconst (v := iI 1) hx hb dL_law_514 (by decide +kernel) ?_
        refine lv_iload hx hb dL_law_515 (lv_at hl 1 rfl) ?_
        refine iv_add hx hb dL_law_517 ?_
        refine lv_iload hx hb dL_law_518 (lv_at hl 0 rfl) ?_
        refine iv_ast hx hb hK hP hD hS 7 0 rfl rfl (z := 1 + x10) (v := yv) (by omega) (by omega) (by omega) dL_law_520 (fun H locs hP hD hS => ?_)
        have hP : va_P D vwCl ([(x, oRD tx nw tr kn me sl), (nw, oDrv nc (setg S x10 yv) (lN (kL (setg S x10 yv) 0 40))), (nc, aI yI 48 g), (me, oMem rg (if nx + 1 < 14 then nx + 1 else 0) (min (ct + 1) 14)), (rg, aD yD 14 (va_up f nx.toNat (some q9))), (kn, oKn pk ex), (ex, aI yI 1681 E), (qa, aI yI 9 (up (qS S) (1 + x10) yv)), (aa, aI yI 48 gl), (sa, aJ yL 16 F), (ga, aI yI 12 fA), (so, aI yI 12 fS)] ++ pl2) H := hP
        have hD : va_D A ([(x, oRD tx nw tr kn me sl), (nw, oDrv nc (setg S x10 yv) (lN (kL (setg S x10 yv) 0 40))), (nc, aI yI 48 g), (me, oMem rg (if nx + 1 < 14 then nx + 1 else 0) (min (ct + 1) 14)), (rg, aD yD 14 (va_up f nx.toNat (some q9))), (kn, oKn pk ex), (ex, aI yI 1681 E), (qa, aI yI 9 (up (qS S) (1 + x10) yv)), (aa, aI yI 48 gl), (sa, aJ yL 16 F), (ga, aI yI 12 fA), (so, aI yI 12 fS)] ++ pl2) := hD
        have hP := va_P.arr hP 7 (g := qS (setg S x10 yv)) rfl (qs_set1 (by omega) (by omega))
        have hD : va_D A ([(x, oRD tx nw tr kn me sl), (nw, oDrv nc (setg S x10 yv) (lN (kL (setg S x10 yv) 0 40))), (nc, aI yI 48 g), (me, oMem rg (if nx + 1 < 14 then nx + 1 else 0) (min (ct + 1) 14)), (rg, aD yD 14 (va_up f nx.toNat (some q9))), (kn, oKn pk ex), (ex, aI yI 1681 E), (qa, aI yI 9 (qS (setg S x10 yv))), (aa, aI yI 48 gl), (sa, aJ yL 16 F), (ga, aI yI 12 fA), (so, aI yI 12 fS)] ++ pl2) := hD.set (p := 7) rfl
        have hP : va_P D vwCl ([(x, oRD tx nw tr kn me sl), (nw, oDrv nc (setg S x10 yv) (lN (kL (setg S x10 yv) 0 40))), (nc, aI yI 48 g), (me, oMem rg (if nx + 1 < 14 then nx + 1 else 0) (min (ct + 1) 14)), (rg, aD yD 14 (va_up f nx.toNat (some q9))), (kn, oKn pk ex), (ex, aI yI 1681 E), (qa, aI yI 9 (qS (setg S x10 yv))), (aa, aI yI 48 gl), (sa, aJ yL 16 F), (ga, aI yI 12 fA), (so, aI yI 12 fS)] ++ pl2) _ := hP
        refine lv_goto (tgt := 563) hx hb dL_law_521 (by decide) ?_
        rw [← hplq2] at hP hD
        refine K _ _ _ ?_
        refine ⟨x, tx, nw, tr, kn, me, sl, nc, ex, rg, qa, aa, sa, ga, so, (setg S x10 yv), g, E, gl, fA, fS, pk, (if nx + 1 < 14 then nx + 1 else 0), (min (ct + 1) 14), F, (va_up f nx.toNat (some q9)), fs, (enU en nx.toNat (q9, qc9, S, g)), ?_⟩
        refine ⟨hP, hD, hS, lv_sub hl [2, 3, 4, 5, 6, 7, 8, 9] rfl, (inv_setg hI hok), (hR9), (rc_setg hRl (by omega)), (by rw [setg_0 (by omega)]; exact h9), (by rw [setg_6 (by omega)]; omega), (by refine ⟨?_, ?_, by omega, by omega⟩ <;> split <;> omega), (fO_ring hfO (by omega) (q9, qc9, S, g))⟩
      · refine lv_iload hx hb dL_law_491 (lv_at hl 0 rfl) ?_
        refine lv_aload_n hx hb dL_law_493 rfl (lv_at hl 4 rfl) ?_
        refine lv_iconst (v := iI 2) hx hb dL_law_494 (by decide +kernel) ?_
        refine iv_aldE hx hb hK hP 7 0 rfl rfl (z := 2) (w := S 2) (by first | exact qS_n (by omega) | exact up_s | rfl) (by omega) (by omega) (by omega) dL_law_495 ?_
        refine iv_icmp_eq (a := yv) (b := S 2) (tgt := 513) hx hb (by have := hok; omega) (by have := hok; omega) dL_law_496 (by decide) (fun c496 => ?_) (fun c496 => ?_)
        · refine lv_aload_n hx hb dL_law_513 rfl (lv_at hl 4 rfl) ?_
          refine lv_iconst (v := iI 1) hx hb dL_law_514 (by decide +kernel) ?_
          refine lv_iload hx hb dL_law_515 (lv_at hl 1 rfl) ?_
          refine iv_add hx hb dL_law_517 ?_
          refine lv_iload hx hb dL_law_518 (lv_at hl 0 rfl) ?_
          refine iv_ast hx hb hK hP hD hS 7 0 rfl rfl (z := 1 + x10) (v := yv) (by omega) (by omega) (by omega) dL_law_520 (fun H locs hP hD hS => ?_)
          have hP : va_P D vwCl ([(x, oRD tx nw tr kn me sl), (nw, oDrv nc (setg S x10 yv) (lN (kL (setg S x10 yv) 0 40))), (nc, aI yI 48 g), (me, oMem rg (if nx + 1 < 14 then nx + 1 else 0) (min (ct + 1) 14)), (rg, aD yD 14 (va_up f nx.toNat (some q9))), (kn, oKn pk ex), (ex, aI yI 1681 E), (qa, aI yI 9 (up (qS S) (1 + x10) yv)), (aa, aI yI 48 gl), (sa, aJ yL 16 F), (ga, aI yI 12 fA), (so, aI yI 12 fS)] ++ pl2) H := hP
          have hD : va_D A ([(x, oRD tx nw tr kn me sl), (nw, oDrv nc (setg S x10 yv) (lN (kL (setg S x10 yv) 0 40))), (nc, aI yI 48 g), (me, oMem rg (if nx + 1 < 14 then nx + 1 else 0) (min (ct + 1) 14)), (rg, aD yD 14 (va_up f nx.toNat (some q9))), (kn, oKn pk ex), (ex, aI yI 1681 E), (qa, aI yI 9 (up (qS S) (1 + x10) yv)), (aa, aI yI 48 gl), (sa, aJ yL 16 F), (ga, aI yI 12 fA), (so, aI yI 12 fS)] ++ pl2) := hD
          have hP := va_P.arr hP 7 (g := qS (setg S x10 yv)) rfl (qs_set1 (by omega) (by omega))
          have hD : va_D A ([(x, oRD tx nw tr kn me sl), (nw, oDrv nc (setg S x10 yv) (lN (kL (setg S x10 yv) 0 40))), (nc, aI yI 48 g), (me, oMem rg (if nx + 1 < 14 then nx + 1 else 0) (min (ct + 1) 14)), (rg, aD yD 14 (va_up f nx.toNat (some q9))), (kn, oKn pk ex), (ex, aI yI 1681 E), (qa, aI yI 9 (qS (setg S x10 yv))), (aa, aI yI 48 gl), (sa, aJ yL 16 F), (ga, aI yI 12 fA), (so, aI yI 12 fS)] ++ pl2) := hD.set (p := 7) rfl
          have hP : va_P D vwCl ([(x, oRD tx nw tr kn me sl), (nw, oDrv nc (setg S x10 yv) (lN (kL (setg S x10 yv) 0 40))), (nc, aI yI 48 g), (me, oMem rg (if nx + 1 < 14 then nx + 1 else 0) (min (ct + 1) 14)), (rg, aD yD 14 (va_up f nx.toNat (some q9))), (kn, oKn pk ex), (ex, aI yI 1681 E), (qa, aI yI 9 (qS (setg S x10 yv))), (aa, aI yI 48 gl), (sa, aJ yL 16 F), (ga, aI yI 12 fA), (so, aI yI 12 fS)] ++ pl2) _ := hP
          refine lv_goto (tgt := 563) hx hb dL_law_521 (by decide) ?_
          rw [← hplq2] at hP hD
          refine K _ _ _ ?_
          refine ⟨x, tx, nw, tr, kn, me, sl, nc, ex, rg, qa, aa, sa, ga, so, (setg S x10 yv), g, E, gl, fA, fS, pk, (if nx + 1 < 14 then nx + 1 else 0), (min (ct + 1) 14), F, (va_up f nx.toNat (some q9)), fs, (enU en nx.toNat (q9, qc9, S, g)), ?_⟩
          refine ⟨hP, hD, hS, lv_sub hl [2, 3, 4, 5, 6, 7, 8, 9] rfl, (inv_setg hI hok), (hR9), (rc_setg hRl (by omega)), (by rw [setg_0 (by omega)]; exact h9), (by rw [setg_6 (by omega)]; omega), (by refine ⟨?_, ?_, by omega, by omega⟩ <;> split <;> omega), (fO_ring hfO (by omega) (q9, qc9, S, g))⟩
        · refine lv_aload_n hx hb dL_law_499 rfl (lv_at hl 4 rfl) ?_
          refine lv_bipush (v := iI 7) hx hb dL_law_500 (by decide +kernel) ?_
          refine lv_dup2_11 hx hb dL_law_502 rfl rfl ?_
          refine iv_aldE hx hb hK hP 7 0 rfl rfl (z := 7) (w := S 7) (by first | exact qS_n (by omega) | exact up_s | rfl) (by omega) (by omega) (by omega) dL_law_503 ?_
          refine lv_aload_n hx hb dL_law_504 rfl (lv_at hl 4 rfl) ?_
          refine lv_iconst (v := iI 4) hx hb dL_law_505 (by decide +kernel) ?_
          refine iv_aldE hx hb hK hP 7 0 rfl rfl (z := 4) (w := S 4) (by first | exact qS_n (by omega) | exact up_s | rfl) (by omega) (by omega) (by omega) dL_law_506 ?_
          refine iv_add hx hb dL_law_507 ?_
          refine iv_ast hx hb hK hP hD hS 7 0 rfl rfl (z := 7) (v := S 7 + (S 4)) (by omega) (by omega) (by omega) dL_law_508 (fun H locs hP hD hS => ?_)
          have hP : va_P D vwCl ([(x, oRD tx nw tr kn me sl), (nw, oDrv nc (setg S x10 yv) (lN (kL (setg S x10 yv) 0 40))), (nc, aI yI 48 g), (me, oMem rg (if nx + 1 < 14 then nx + 1 else 0) (min (ct + 1) 14)), (rg, aD yD 14 (va_up f nx.toNat (some q9))), (kn, oKn pk ex), (ex, aI yI 1681 E), (qa, aI yI 9 (up (qS S) 7 (S 7 + (S 4)))), (aa, aI yI 48 gl), (sa, aJ yL 16 F), (ga, aI yI 12 fA), (so, aI yI 12 fS)] ++ pl2) H := hP
          have hD : va_D A ([(x, oRD tx nw tr kn me sl), (nw, oDrv nc (setg S x10 yv) (lN (kL (setg S x10 yv) 0 40))), (nc, aI yI 48 g), (me, oMem rg (if nx + 1 < 14 then nx + 1 else 0) (min (ct + 1) 14)), (rg, aD yD 14 (va_up f nx.toNat (some q9))), (kn, oKn pk ex), (ex, aI yI 1681 E), (qa, aI yI 9 (up (qS S) 7 (S 7 + (S 4)))), (aa, aI yI 48 gl), (sa, aJ yL 16 F), (ga, aI yI 12 fA), (so, aI yI 12 fS)] ++ pl2) := hD
          refine lv_aload_n hx hb dL_law_509 rfl (lv_at hl 4 rfl) ?_
          refine lv_iconst (v := iI 4) hx hb dL_law_510 (by decide +kernel) ?_
          refine lv_iconst (v := iI 0) hx hb dL_law_511 (by decide +kernel) ?_
          refine iv_ast hx hb hK hP hD hS 7 0 rfl rfl (z := 4) (v := 0) (by omega) (by omega) (by omega) dL_law_512 (fun H locs hP hD hS => ?_)
          have hP : va_P D vwCl ([(x, oRD tx nw tr kn me sl), (nw, oDrv nc (setg S x10 yv) (lN (kL (setg S x10 yv) 0 40))), (nc, aI yI 48 g), (me, oMem rg (if nx + 1 < 14 then nx + 1 else 0) (min (ct + 1) 14)), (rg, aD yD 14 (va_up f nx.toNat (some q9))), (kn, oKn pk ex), (ex, aI yI 1681 E), (qa, aI yI 9 (up (up (qS S) 7 (S 7 + (S 4))) 4 0)), (aa, aI yI 48 gl), (sa, aJ yL 16 F), (ga, aI yI 12 fA), (so, aI yI 12 fS)] ++ pl2) H := hP
          have hD : va_D A ([(x, oRD tx nw tr kn me sl), (nw, oDrv nc (setg S x10 yv) (lN (kL (setg S x10 yv) 0 40))), (nc, aI yI 48 g), (me, oMem rg (if nx + 1 < 14 then nx + 1 else 0) (min (ct + 1) 14)), (rg, aD yD 14 (va_up f nx.toNat (some q9))), (kn, oKn pk ex), (ex, aI yI 1681 E), (qa, aI yI 9 (up (up (qS S) 7 (S 7 + (S 4))) 4 0)), (aa, aI yI 48 gl), (sa, aJ yL 16 F), (ga, aI yI 12 fA), (so, aI yI 12 fS)] ++ pl2) := hD
          refine lv_aload_n hx hb dL_law_513 rfl (lv_at hl 4 rfl) ?_
          refine lv_iconst (v := iI 1) hx hb dL_law_514 (by decide +kernel) ?_
          refine lv_iload hx hb dL_law_515 (lv_at hl 1 rfl) ?_
          refine iv_add hx hb dL_law_517 ?_
          refine lv_iload hx hb dL_law_518 (lv_at hl 0 rfl) ?_
          refine iv_ast hx hb hK hP hD hS 7 0 rfl rfl (z := 1 + x10) (v := yv) (by omega) (by omega) (by omega) dL_law_520 (fun H locs hP hD hS => ?_)
          have hP : va_P D vwCl ([(x, oRD tx nw tr kn me sl), (nw, oDrv nc (setg S x10 yv) (lN (kL (setg S x10 yv) 0 40))), (nc, aI yI 48 g), (me, oMem rg (if nx + 1 < 14 then nx + 1 else 0) (min (ct + 1) 14)), (rg, aD yD 14 (va_up f nx.toNat (some q9))), (kn, oKn pk ex), (ex, aI yI 1681 E), (qa, aI yI 9 (up (up (up (qS S) 7 (S 7 + (S 4))) 4 0) (1 + x10) yv)), (aa, aI yI 48 gl), (sa, aJ yL 16 F), (ga, aI yI 12 fA), (so, aI yI 12 fS)] ++ pl2) H := hP
          have hD : va_D A ([(x, oRD tx nw tr kn me sl), (nw, oDrv nc (setg S x10 yv) (lN (kL (setg S x10 yv) 0 40))), (nc, aI yI 48 g), (me, oMem rg (if nx + 1 < 14 then nx + 1 else 0) (min (ct + 1) 14)), (rg, aD yD 14 (va_up f nx.toNat (some q9))), (kn, oKn pk ex), (ex, aI yI 1681 E), (qa, aI yI 9 (up (up (up (qS S) 7 (S 7 + (S 4))) 4 0) (1 + x10) yv)), (aa, aI yI 48 gl), (sa, aJ yL 16 F), (ga, aI yI 12 fA), (so, aI yI 12 fS)] ++ pl2) := hD
          have hP := va_P.arr hP 7 (g := qS (setg S x10 yv)) rfl (qs_set2 (by omega) (by omega))
          have hD : va_D A ([(x, oRD tx nw tr kn me sl), (nw, oDrv nc (setg S x10 yv) (lN (kL (setg S x10 yv) 0 40))), (nc, aI yI 48 g), (me, oMem rg (if nx + 1 < 14 then nx + 1 else 0) (min (ct + 1) 14)), (rg, aD yD 14 (va_up f nx.toNat (some q9))), (kn, oKn pk ex), (ex, aI yI 1681 E), (qa, aI yI 9 (qS (setg S x10 yv))), (aa, aI yI 48 gl), (sa, aJ yL 16 F), (ga, aI yI 12 fA), (so, aI yI 12 fS)] ++ pl2) := hD.set (p := 7) rfl
          have hP : va_P D vwCl ([(x, oRD tx nw tr kn me sl), (nw, oDrv nc (setg S x10 yv) (lN (kL (setg S x10 yv) 0 40))), (nc, aI yI 48 g), (me, oMem rg (if nx + 1 < 14 then nx + 1 else 0) (min (ct + 1) 14)), (rg, aD yD 14 (va_up f nx.toNat (some q9))), (kn, oKn pk ex), (ex, aI yI 1681 E), (qa, aI yI 9 (qS (setg S x10 yv))), (aa, aI yI 48 gl), (sa, aJ yL 16 F), (ga, aI yI 12 fA), (so, aI yI 12 fS)] ++ pl2) _ := hP
          refine lv_goto (tgt := 563) hx hb dL_law_521 (by decide) ?_
          rw [← hplq2] at hP hD
          refine K _ _ _ ?_
          refine ⟨x, tx, nw, tr, kn, me, sl, nc, ex, rg, qa, aa, sa, ga, so, (setg S x10 yv), g, E, gl, fA, fS, pk, (if nx + 1 < 14 then nx + 1 else 0), (min (ct + 1) 14), F, (va_up f nx.toNat (some q9)), fs, (enU en nx.toNat (q9, qc9, S, g)), ?_⟩
          refine ⟨hP, hD, hS, lv_sub hl [2, 3, 4, 5, 6, 7, 8, 9] rfl, (inv_setg hI hok), (hR9), (rc_setg hRl (by omega)), (by rw [setg_0 (by omega)]; exact h9), (by rw [setg_6 (by omega)]; omega), (by refine ⟨?_, ?_, by omega, by omega⟩ <;> split <;> omega), (fO_ring hfO (by omega) (q9, qc9, S, g))⟩
    · exact absurd (congrArg iI hqs.symm) c480
  · refine lv_iload hx hb dL_law_420 (lv_at hl 0 rfl) ?_
    refine iv_if_ne (a := x10) (tgt := 438) hx hb (by omega) dL_law_422 (by decide) (fun c422 => ?_) (fun c422 => ?_)
    · refine lv_iload hx hb dL_law_438 (lv_at hl 0 rfl) ?_
      refine lv_iconst (v := iI 1) hx hb dL_law_440 (by decide +kernel) ?_
      refine iv_icmp_ne (a := x10) (b := 1) (tgt := 455) hx hb (by omega) (by omega) dL_law_441 (by decide) (fun c441 => ?_) (fun c441 => ?_)
      · refine lv_iload hx hb dL_law_455 (lv_at hl 9 rfl) ?_
        refine lv_iconst (v := iI 5) hx hb dL_law_457 (by decide +kernel) ?_
        refine lv_ishr hx hb dL_law_458 ?_
        rw [isr_i z 5]
        refine lv_bipush (v := iI 10) hx hb dL_law_459 (by decide +kernel) ?_
        refine iv_roS (As := [.int (iI (isr z 5)), .int (iI 10)]) (rest := []) (n := 2) ⟨hx, hb, hml, hown, hts⟩ (c_L_low l D yI yC yD yL (isr z 5) 10 (by omega)) (va_cwS 2 hts gL_law_L_low rfl rfl rfl (by decide +kernel) ⟨Nat.le_of_ble_eq_true rfl, Nat.le_of_ble_eq_true rfl⟩) hK hP [] rfl rfl hl.1 rfl (Nat.le_of_ble_eq_true rfl) dL_law_461 ⟨(by show _ ≤ (600130 : Nat); omega), (by show _ ≤ (7301079 : Nat); omega)⟩ ?_
        exact J464 (lowV (isr z 5) 10) _ _ ⟨by (show _ ∨ _ ∨ _); first | omega | (have hl9 := lowV_r (v := isr z 5) (n := 10) (by omega); omega), hP, hD, hS, lv_sub hl [0, 1, 2, 3, 4, 5, 6, 7, 8, 9] rfl⟩
      · refine lv_iload hx hb dL_law_444 (lv_at hl 9 rfl) ?_
        refine lv_iconst (v := iI 5) hx hb dL_law_446 (by decide +kernel) ?_
        refine lv_ishr hx hb dL_law_447 ?_
        rw [isr_i z 5]
        refine lv_iconst (v := iI 5) hx hb dL_law_448 (by decide +kernel) ?_
        refine iv_roS (As := [.int (iI (isr z 5)), .int (iI 5)]) (rest := []) (n := 2) ⟨hx, hb, hml, hown, hts⟩ (c_L_low l D yI yC yD yL (isr z 5) 5 (by omega)) (va_cwS 2 hts gL_law_L_low rfl rfl rfl (by decide +kernel) ⟨Nat.le_of_ble_eq_true rfl, Nat.le_of_ble_eq_true rfl⟩) hK hP [] rfl rfl hl.1 rfl (Nat.le_of_ble_eq_true rfl) dL_law_449 ⟨(by show _ ≤ (600130 : Nat); omega), (by show _ ≤ (7301079 : Nat); omega)⟩ ?_
        obtain ⟨l2, hl2⟩ : ∃ nv_, nv_ = (lowV (isr z 5) 5) := ⟨_, rfl⟩
        rw [← hl2]
        have hrl2 : 0 ≤ l2 ∧ l2 < 5 := by rw [hl2]; exact lowV_r (by omega)
        refine lv_goto (tgt := 464) hx hb dL_law_452 (by decide) ?_
        exact J464 (l2) _ _ ⟨by (show _ ∨ _ ∨ _); first | omega | (have hl9 := lowV_r (v := isr z 5) (n := 10) (by omega); omega), hP, hD, hS, lv_sub hl [0, 1, 2, 3, 4, 5, 6, 7, 8, 9] rfl⟩
    · refine lv_iconst (v := iI 1) hx hb dL_law_425 (by decide +kernel) ?_
      refine lv_iload hx hb dL_law_426 (lv_at hl 9 rfl) ?_
      refine lv_iconst (v := iI 5) hx hb dL_law_428 (by decide +kernel) ?_
      refine lv_ishr hx hb dL_law_429 ?_
      rw [isr_i z 5]
      refine lv_iconst (v := iI 5) hx hb dL_law_430 (by decide +kernel) ?_
      refine iv_roS (As := [.int (iI (isr z 5)), .int (iI 5)]) (rest := [.int (iI 1)]) (n := 2) ⟨hx, hb, hml, hown, hts⟩ (c_L_low l D yI yC yD yL (isr z 5) 5 (by omega)) (va_cwS 2 hts gL_law_L_low rfl rfl rfl (by decide +kernel) ⟨Nat.le_of_ble_eq_true rfl, Nat.le_of_ble_eq_true rfl⟩) hK hP [] rfl rfl hl.1 rfl (Nat.le_of_ble_eq_true rfl) dL_law_431 ⟨(by show _ ≤ (600130 : Nat); omega), (by show _ ≤ (7301079 : Nat); omega)⟩ ?_
      obtain ⟨l1, hl1⟩ : ∃ nv_, nv_ = (lowV (isr z 5) 5) := ⟨_, rfl⟩
      rw [← hl1]
      have hrl1 : 0 ≤ l1 ∧ l1 < 5 := by rw [hl1]; exact lowV_r (by omega)
      refine iv_add hx hb dL_law_434 ?_
      refine lv_goto (tgt := 464) hx hb dL_law_435 (by decide) ?_
      exact J464 (1 + l1) _ _ ⟨by (show _ ∨ _ ∨ _); first | omega | (have hl9 := lowV_r (v := isr z 5) (n := 10) (by omega); omega), hP, hD, hS, lv_sub hl [0, 1, 2, 3, 4, 5, 6, 7, 8, 9] rfl⟩
