theorem wl_s1 {i k : Int} {n : Nat} {T : Int → Int} (hn : 1 ≤ n) (hk : k = (n : Int) - 1) (h : an T k 0 ≤ i ∧ i ≤ an T k 1) : wloop i n T = wloop i (n - 1) (forget1 T k) := by
  obtain ⟨m, rfl⟩ : ∃ m, n = m + 1 := ⟨n - 1, by omega⟩
  have e : k = (m : Int) := by omega
  rw [e] at h ⊢
  show wloop i m (if an T m 0 ≤ i ∧ i ≤ an T m 1 then forget1 T m else T) = _
  rw [if_pos h]
  rfl
theorem wl_s0 {i k : Int} {n : Nat} {T : Int → Int} (hn : 1 ≤ n) (hk : k = (n : Int) - 1) (h : ¬ (an T k 0 ≤ i ∧ i ≤ an T k 1)) : wloop i n T = wloop i (n - 1) T := by
  obtain ⟨m, rfl⟩ : ∃ m, n = m + 1 := ⟨n - 1, by omega⟩
  have e : k = (m : Int) := by omega
  rw [e] at h
  show wloop i m (if an T m 0 ≤ i ∧ i ≤ an T m 1 then forget1 T m else T) = _
  rw [if_neg h]
  rfl
theorem qs_flip {S : Int → Int} {i v : Int} (hi : 0 ≤ i) : ∀ z, 0 ≤ z → z < 9 → up (qS S) 8 ((kL (up S (8 + i) v) 0 40 : Nat) : Int) z = qS (up S (8 + i) v) z := by
  intro z h0 h1
  by_cases e : z = 8
  · rw [e, up_s, qS_8]
  · rw [up_n e, qS_n e, qS_n e, up_n (by omega)]
set_option maxHeartbeats 8000000 in
set_option maxRecDepth 100000 in
theorem lq_write {p : Program} {e : Env} {s : State} {m : MethodId} {below : List Frame} {meth : Method} {c : Code} (l : Launch) (hla : l.stackTraces = false) {b L : Nat} {xs : Nat → Int32} (C0 : lw_At p s m meth c b L xs) (D : va_G) (yI yC yD yL : ClassId) (hK : va_K D vwCl (tyl yI yC yD yL) s) (A : Nat → Prop) (hA : ∀ q : Nat, s.heap.size ≤ q → A q) (hB : XB A s s.heap) {Q : State → Prop} {cells slots : Nat} (hroom : cells + 8 ≤ 600130 ∧ slots + 150 ≤ 7301079) {i z : Int} (hi : 0 ≤ i ∧ i ≤ 13) {H : Heap} {locs : List Loc} {ls : Array Slot} (hLI : LI D yI yC yD yL s A b i i [(8, .int (iI z))] H locs ls) (K : ∀ (H : Heap) (locs : List Loc) (ls : Array Slot), LI D yI yC yD yL s A b i (i + 1) [] H locs ls → W p l e room_1 s m #[Value.ref b] below meth c H locs (cells + 8) (slots + 150) Q (F0 m 563 ls [])) : W p l e room_1 s m #[Value.ref b] below meth c H locs cells slots Q (F0 m 261 ls []) := by
  obtain ⟨hx, hb, hr, hml, hown, hts, hX, hbl, hlocks, hgv⟩ := id C0
  have hKz : va_K D vwCl (tyz yI yC yD) s := hK.sub [0, 1, 2] rfl
  obtain ⟨x, tx, nw, tr, kn, me, sl, nc, ex, rg, qa, aa, sa, ga, so, S, g, E, gl, fA, fS, pk, nx, ct, F, f, fs, en, hP, hD, hS, hl, hI, hR, hRl, h9, h6, hme, hfO⟩ := hLI
  have hl : lv_has ls 14 [(0, .ref b), (1, .ref x), (2, .ref qa), (3, .ref aa), (4, .ref sa), (5, .ref ga), (6, .ref so), (7, .int (iI i)), (8, .int (iI z))] := hl
  generalize hplq : plE yI en 16 = pl at hP hD
  have hP : va_P D vwCl ([(x, oRD tx nw tr kn me sl), (nw, oDrv nc S (lN (kL (S) 0 40))), (nc, aI yI 48 g), (me, oMem rg nx ct), (rg, aD yD 14 f), (kn, oKn pk ex), (ex, aI yI 1681 E), (qa, aI yI 9 (qS S)), (aa, aI yI 48 gl), (sa, aJ yL 16 F), (ga, aI yI 12 fA), (so, aI yI 12 fS)] ++ pl) _ := hP
  have hD : va_D A ([(x, oRD tx nw tr kn me sl), (nw, oDrv nc S (lN (kL (S) 0 40))), (nc, aI yI 48 g), (me, oMem rg nx ct), (rg, aD yD 14 f), (kn, oKn pk ex), (ex, aI yI 1681 E), (qa, aI yI 9 (qS S)), (aa, aI yI 48 gl), (sa, aJ yL 16 F), (ga, aI yI 12 fA), (so, aI yI 12 fS)] ++ pl) := hD
  have hpl := hI.pl
  have hna := hI.na
  have hse := hI.se
  have hwi := hI.wi
  have hfe := hI.fe
  have hna := hI.na
  have hwi := hI.wi
  have hse := hI.se
  have hfe := hI.fe
  refine lv_iload hx hb dL_law_261 (lv_at hl 8 rfl) ?_
  refine lv_iconst (v := iI 3) hx hb dL_law_263 (by decide +kernel) ?_
  refine lv_ishr hx hb dL_law_264 ?_
  rw [isr_i z 3]
  refine lv_aload_n hx hb dL_law_265 rfl (lv_at hl 2 rfl) ?_
  refine lv_iconst (v := iI 0) hx hb dL_law_266 (by decide +kernel) ?_
  refine iv_aldE hx hb hK hP 7 0 rfl rfl (z := 0) (w := S 0) (by first | exact qS_n (by omega) | exact up_s | rfl) (by omega) (by omega) (by omega) dL_law_267 ?_
  refine iv_roS (As := [.int (iI (isr z 3)), .int (iI (S 0))]) (rest := []) (n := 2) ⟨hx, hb, hml, hown, hts⟩ (c_L_low l D yI yC yD yL (isr z 3) (S 0) (by omega)) (va_cwS 2 hts gL_law_L_low rfl rfl rfl (by decide +kernel) ⟨Nat.le_of_ble_eq_true rfl, Nat.le_of_ble_eq_true rfl⟩) hK hP [] rfl rfl hl.1 rfl (Nat.le_of_ble_eq_true rfl) dL_law_268 ⟨(by show _ ≤ (600130 : Nat); omega), (by show _ ≤ (7301079 : Nat); omega)⟩ ?_
  obtain ⟨x10, hx10⟩ : ∃ nv_, nv_ = (lowV (isr z 3) (S 0)) := ⟨_, rfl⟩
  rw [← hx10]
  have hrx10 : 0 ≤ x10 ∧ x10 < S 0 := by rw [hx10]; exact lowV_r (by omega)
  refine lv_istore (lv' := [(10, .int (iI x10)), (0, .ref b), (1, .ref x), (2, .ref qa), (3, .ref aa), (4, .ref sa), (5, .ref ga), (6, .ref so), (7, .int (iI i)), (8, .int (iI z))]) hx hb dL_law_271 hl (by decide) rfl (fun ls hl => ?_)
  refine iv_join (I := fun (qq : Int) H locs ls => match qq with | yv => (0 ≤ yv ∧ yv ≤ 1) ∧ va_P D vwCl ([(x, oRD tx nw tr kn me sl), (nw, oDrv nc S (lN (kL (S) 0 40))), (nc, aI yI 48 g), (me, oMem rg nx ct), (rg, aD yD 14 f), (kn, oKn pk ex), (ex, aI yI 1681 E), (qa, aI yI 9 (qS S)), (aa, aI yI 48 gl), (sa, aJ yL 16 F), (ga, aI yI 12 fA), (so, aI yI 12 fS)] ++ pl) H ∧ va_D A ([(x, oRD tx nw tr kn me sl), (nw, oDrv nc S (lN (kL (S) 0 40))), (nc, aI yI 48 g), (me, oMem rg nx ct), (rg, aD yD 14 f), (kn, oKn pk ex), (ex, aI yI 1681 E), (qa, aI yI 9 (qS S)), (aa, aI yI 48 gl), (sa, aJ yL 16 F), (ga, aI yI 12 fA), (so, aI yI 12 fS)] ++ pl) ∧ va_S A s.heap H locs ∧ lv_has ls 14 [(10, .int (iI x10)), (0, .ref b), (1, .ref x), (2, .ref qa), (3, .ref aa), (4, .ref sa), (5, .ref ga), (6, .ref so), (7, .int (iI i)), (8, .int (iI z))]) (sx := fun (qq : Int) => match qq with | yv => [.int (iI yv)]) (pcj := 291) ?_ (fun J291 => ?_)
  · intro yv H locs ls hI
    obtain ⟨hyv, hP, hD, hS, hl⟩ := hI
    refine lv_istore (lv' := [(11, .int (iI yv)), (10, .int (iI x10)), (0, .ref b), (1, .ref x), (2, .ref qa), (3, .ref aa), (4, .ref sa), (5, .ref ga), (6, .ref so), (7, .int (iI i)), (8, .int (iI z))]) hx hb dL_law_291 hl (by decide) rfl (fun ls hl => ?_)
    refine lv_iconst (v := iI 0) hx hb dL_law_293 (by decide +kernel) ?_
    refine lv_istore (lv' := [(12, .int (iI 0)), (11, .int (iI yv)), (10, .int (iI x10)), (0, .ref b), (1, .ref x), (2, .ref qa), (3, .ref aa), (4, .ref sa), (5, .ref ga), (6, .ref so), (7, .int (iI i)), (8, .int (iI z))]) hx hb dL_law_294 hl (by decide) rfl (fun ls hl => ?_)
    have hki := hI.key (j := x10) (by omega) (by omega)
    refine iv_join (I := fun (qq : Int) H locs ls => match qq with | yk => (yk = S (8 + x10)) ∧ va_P D vwCl ([(x, oRD tx nw tr kn me sl), (nw, oDrv nc S (lN (kL (S) 0 40))), (nc, aI yI 48 g), (me, oMem rg nx ct), (rg, aD yD 14 f), (kn, oKn pk ex), (ex, aI yI 1681 E), (qa, aI yI 9 (qS S)), (aa, aI yI 48 gl), (sa, aJ yL 16 F), (ga, aI yI 12 fA), (so, aI yI 12 fS)] ++ pl) H ∧ va_D A ([(x, oRD tx nw tr kn me sl), (nw, oDrv nc S (lN (kL (S) 0 40))), (nc, aI yI 48 g), (me, oMem rg nx ct), (rg, aD yD 14 f), (kn, oKn pk ex), (ex, aI yI 1681 E), (qa, aI yI 9 (qS S)), (aa, aI yI 48 gl), (sa, aJ yL 16 F), (ga, aI yI 12 fA), (so, aI yI 12 fS)] ++ pl) ∧ va_S A s.heap H locs ∧ lv_has ls 14 [(12, .int (iI 0)), (11, .int (iI yv)), (10, .int (iI x10)), (0, .ref b), (1, .ref x), (2, .ref qa), (3, .ref aa), (4, .ref sa), (5, .ref ga), (6, .ref so), (7, .int (iI i)), (8, .int (iI z))]) (sx := fun (qq : Int) => match qq with | yk => [.int (iI yk)]) (pcj := 314) ?_ (fun J314 => ?_)
    · intro yk H locs ls hI
      obtain ⟨hyk, hP, hD, hS, hl⟩ := hI
      refine lv_iload hx hb dL_law_314 (lv_at hl 1 rfl) ?_
      refine iv_icmp_eq (a := yk) (b := yv) (tgt := 385) hx hb (by omega) (by omega) dL_law_316 (by decide) (fun c316 => ?_) (fun c316 => ?_)
      · have hwr : wr S x10 yv = S := if_pos (by omega)
        have hP := va_P.arr hP 7 (g := qS (wr S x10 yv)) rfl (fun z9 _ _ => by rw [hwr])
        have hD : va_D A ([(x, oRD tx nw tr kn me sl), (nw, oDrv nc S (lN (kL (S) 0 40))), (nc, aI yI 48 g), (me, oMem rg nx ct), (rg, aD yD 14 f), (kn, oKn pk ex), (ex, aI yI 1681 E), (qa, aI yI 9 (qS (wr S x10 yv))), (aa, aI yI 48 gl), (sa, aJ yL 16 F), (ga, aI yI 12 fA), (so, aI yI 12 fS)] ++ pl) := hD.set (p := 7) rfl
        have hP : va_P D vwCl ([(x, oRD tx nw tr kn me sl), (nw, oDrv nc S (lN (kL (S) 0 40))), (nc, aI yI 48 g), (me, oMem rg nx ct), (rg, aD yD 14 f), (kn, oKn pk ex), (ex, aI yI 1681 E), (qa, aI yI 9 (qS (wr S x10 yv))), (aa, aI yI 48 gl), (sa, aJ yL 16 F), (ga, aI yI 12 fA), (so, aI yI 12 fS)] ++ pl) _ := hP
        have hRw : Rc (wr S x10 yv) gl := by rw [hwr]; exact hRl
        have hmw : (0 : Int) = S 4 - wr S x10 yv 4 := by rw [hwr]; omega
        refine lv_aload_n hx hb dL_law_385 rfl (lv_at hl 4 rfl) ?_
        refine lv_iload hx hb dL_law_386 (lv_at hl 2 rfl) ?_
        refine lv_iload hx hb dL_law_388 (lv_at hl 1 rfl) ?_
        obtain ⟨A1, A2, hs1, hs2⟩ := plE_split (yI := yI) (en := en) (j := nx.toNat) 16 (by omega)
        rw [← hplq, hs1] at hP hD
        have hP := va_P.perm (show va_P D vwCl (([(x, oRD tx nw tr kn me sl), (nw, oDrv nc S (lN (kL (S) 0 40))), (nc, aI yI 48 g), (me, oMem rg nx ct), (rg, aD yD 14 f)] ++ [(kn, oKn pk ex), (ex, aI yI 1681 E), (qa, aI yI 9 (qS (wr S x10 yv))), (aa, aI yI 48 gl), (sa, aJ yL 16 F), (ga, aI yI 12 fA), (so, aI yI 12 fS)]) ++ (A1 ++ (eC yI (en nx.toNat) ++ A2))) _ from hP) mid2
        have hD := va_D.perm mid2 (show va_D A (([(x, oRD tx nw tr kn me sl), (nw, oDrv nc S (lN (kL (S) 0 40))), (nc, aI yI 48 g), (me, oMem rg nx ct), (rg, aD yD 14 f)] ++ [(kn, oKn pk ex), (ex, aI yI 1681 E), (qa, aI yI 9 (qS (wr S x10 yv))), (aa, aI yI 48 gl), (sa, aJ yL 16 F), (ga, aI yI 12 fA), (so, aI yI 12 fS)]) ++ (A1 ++ (eC yI (en nx.toNat) ++ A2))) from hD)
        refine iv_lxV (wc := ([(x, oRD tx nw tr kn me sl), (nw, oDrv nc S (lN (kL (S) 0 40))), (nc, aI yI 48 g), (me, oMem rg nx ct), (rg, aD yD 14 f)] ++ eC yI (en nx.toNat))) (wr := ([(kn, oKn pk ex), (ex, aI yI 1681 E), (qa, aI yI 9 (qS (wr S x10 yv))), (aa, aI yI 48 gl), (sa, aJ yL 16 F), (ga, aI yI 12 fA), (so, aI yI 12 fS)] ++ (A1 ++ A2))) (wp := fun (u : Nat × Nat × (Int → Int)) => match u with | (q9, qc9, G9) => [(x, oRD tx nw tr kn me sl), (nw, oDrv nc (wr S x10 yv) (lN (kL (wr S x10 yv) 0 40))), (nc, aI yI 48 G9), (me, oMem rg (if nx + 1 < 14 then nx + 1 else 0) (min (ct + 1) 14)), (rg, aD yD 14 (va_up f nx.toNat (some q9))), (q9, oDrv qc9 S (lN (kL (S) 0 40))), (qc9, aI yI 48 g)]) (As := [.int (iI x10), .int (iI yv)]) (rest := []) (C := RX4) (n := 2) ⟨hx, hb, hml, hown, hts⟩ (c_X4_write l hla D yI yC yD x tx nw tr kn me sl nc S g rg f nx ct (eC yI (en nx.toNat)) x10 yv (hI) (hR) (hme) (wq_of hfO (by omega)) (⟨by omega, by omega⟩) (by omega) _) (cwV 2 hts gL_law_X4_write rfl rfl rfl (by decide +kernel) ⟨Nat.le_of_ble_eq_true rfl, Nat.le_of_ble_eq_true rfl⟩) hKz hP hD hS hA hB rfl rfl (fun u t h => by obtain ⟨q9, qc9, G9⟩ := u; exact h) (fun _ => rfl) rfl hl.1 rfl (Nat.le_of_ble_eq_true rfl) dL_law_390 ⟨(by show _ ≤ (600130 : Nat); omega), (by show _ ≤ (7301079 : Nat); omega)⟩ (fun E9 ce9 ox9 ux H locs hxe hP hD hS hc8 hv8 hcl8 => by exfalso; obtain ⟨_, h⟩ := hxe; omega) (fun r9 u H locs hw hP hD hS => ?_)
        obtain ⟨q9, qc9, G9⟩ := u
        obtain ⟨hr9, hpx9, hR9⟩ := hw
        subst hr9
        have hP := va_P.perm (show va_P D vwCl (([(x, oRD tx nw tr kn me sl), (nw, oDrv nc (wr S x10 yv) (lN (kL (wr S x10 yv) 0 40))), (nc, aI yI 48 G9), (me, oMem rg (if nx + 1 < 14 then nx + 1 else 0) (min (ct + 1) 14)), (rg, aD yD 14 (va_up f nx.toNat (some q9)))] ++ [(q9, oDrv qc9 S (lN (kL (S) 0 40))), (qc9, aI yI 48 g)]) ++ ([(kn, oKn pk ex), (ex, aI yI 1681 E), (qa, aI yI 9 (qS (wr S x10 yv))), (aa, aI yI 48 gl), (sa, aJ yL 16 F), (ga, aI yI 12 fA), (so, aI yI 12 fS)] ++ (A1 ++ A2))) _ from hP) mid2.symm
        have hD := va_D.perm mid2.symm (show va_D A (([(x, oRD tx nw tr kn me sl), (nw, oDrv nc (wr S x10 yv) (lN (kL (wr S x10 yv) 0 40))), (nc, aI yI 48 G9), (me, oMem rg (if nx + 1 < 14 then nx + 1 else 0) (min (ct + 1) 14)), (rg, aD yD 14 (va_up f nx.toNat (some q9)))] ++ [(q9, oDrv qc9 S (lN (kL (S) 0 40))), (qc9, aI yI 48 g)]) ++ ([(kn, oKn pk ex), (ex, aI yI 1681 E), (qa, aI yI 9 (qS (wr S x10 yv))), (aa, aI yI 48 gl), (sa, aJ yL 16 F), (ga, aI yI 12 fA), (so, aI yI 12 fS)] ++ (A1 ++ A2))) from hD)
        have hP : va_P D vwCl ([(x, oRD tx nw tr kn me sl), (nw, oDrv nc (wr S x10 yv) (lN (kL (wr S x10 yv) 0 40))), (nc, aI yI 48 G9), (me, oMem rg (if nx + 1 < 14 then nx + 1 else 0) (min (ct + 1) 14)), (rg, aD yD 14 (va_up f nx.toNat (some q9))), (kn, oKn pk ex), (ex, aI yI 1681 E), (qa, aI yI 9 (qS (wr S x10 yv))), (aa, aI yI 48 gl), (sa, aJ yL 16 F), (ga, aI yI 12 fA), (so, aI yI 12 fS)] ++ (A1 ++ (eC yI (some (q9, qc9, S, g)) ++ A2))) H := hP
        have hD : va_D A ([(x, oRD tx nw tr kn me sl), (nw, oDrv nc (wr S x10 yv) (lN (kL (wr S x10 yv) 0 40))), (nc, aI yI 48 G9), (me, oMem rg (if nx + 1 < 14 then nx + 1 else 0) (min (ct + 1) 14)), (rg, aD yD 14 (va_up f nx.toNat (some q9))), (kn, oKn pk ex), (ex, aI yI 1681 E), (qa, aI yI 9 (qS (wr S x10 yv))), (aa, aI yI 48 gl), (sa, aJ yL 16 F), (ga, aI yI 12 fA), (so, aI yI 12 fS)] ++ (A1 ++ (eC yI (some (q9, qc9, S, g)) ++ A2))) := hD
        rw [← hs2 (some (q9, qc9, S, g))] at hP hD
        have hP : va_P D vwCl ([(x, oRD tx nw tr kn me sl), (nw, oDrv nc (wr S x10 yv) (lN (kL (wr S x10 yv) 0 40))), (nc, aI yI 48 G9), (me, oMem rg (if nx + 1 < 14 then nx + 1 else 0) (min (ct + 1) 14)), (rg, aD yD 14 (va_up f nx.toNat (some q9))), (kn, oKn pk ex), (ex, aI yI 1681 E), (qa, aI yI 9 (qS (wr S x10 yv))), (aa, aI yI 48 gl), (sa, aJ yL 16 F), (ga, aI yI 12 fA), (so, aI yI 12 fS)] ++ plE yI (enU en nx.toNat (q9, qc9, S, g)) 16) _ := hP
        have hD : va_D A ([(x, oRD tx nw tr kn me sl), (nw, oDrv nc (wr S x10 yv) (lN (kL (wr S x10 yv) 0 40))), (nc, aI yI 48 G9), (me, oMem rg (if nx + 1 < 14 then nx + 1 else 0) (min (ct + 1) 14)), (rg, aD yD 14 (va_up f nx.toNat (some q9))), (kn, oKn pk ex), (ex, aI yI 1681 E), (qa, aI yI 9 (qS (wr S x10 yv))), (aa, aI yI 48 gl), (sa, aJ yL 16 F), (ga, aI yI 12 fA), (so, aI yI 12 fS)] ++ plE yI (enU en nx.toNat (q9, qc9, S, g)) 16) := hD
        generalize hplq2 : plE yI (enU en nx.toNat (q9, qc9, S, g)) 16 = pl2 at hP hD
        have hP : va_P D vwCl ([(x, oRD tx nw tr kn me sl), (nw, oDrv nc (wr S x10 yv) (lN (kL (wr S x10 yv) 0 40))), (nc, aI yI 48 G9), (me, oMem rg (if nx + 1 < 14 then nx + 1 else 0) (min (ct + 1) 14)), (rg, aD yD 14 (va_up f nx.toNat (some q9))), (kn, oKn pk ex), (ex, aI yI 1681 E), (qa, aI yI 9 (qS (wr S x10 yv))), (aa, aI yI 48 gl), (sa, aJ yL 16 F), (ga, aI yI 12 fA), (so, aI yI 12 fS)] ++ pl2) H := hP
        have hD : va_D A ([(x, oRD tx nw tr kn me sl), (nw, oDrv nc (wr S x10 yv) (lN (kL (wr S x10 yv) 0 40))), (nc, aI yI 48 G9), (me, oMem rg (if nx + 1 < 14 then nx + 1 else 0) (min (ct + 1) 14)), (rg, aD yD 14 (va_up f nx.toNat (some q9))), (kn, oKn pk ex), (ex, aI yI 1681 E), (qa, aI yI 9 (qS (wr S x10 yv))), (aa, aI yI 48 gl), (sa, aJ yL 16 F), (ga, aI yI 12 fA), (so, aI yI 12 fS)] ++ pl2) := hD
        refine lv_iload hx hb dL_law_393 (lv_at hl 0 rfl) ?_
        refine iv_icmp_eq (a := S 4 - wr S x10 yv 4) (b := 0) (tgt := 400) hx hb (by omega) (by omega) dL_law_395 (by decide) (fun c395 => ?_) (fun c395 => ?_)
        · refine lv_goto (tgt := 563) hx hb dL_law_400 (by decide) ?_
          rw [← hplq2] at hP hD
          refine K _ _ _ ?_
          refine ⟨x, tx, nw, tr, kn, me, sl, nc, ex, rg, qa, aa, sa, ga, so, (wr S x10 yv), G9, E, gl, fA, fS, pk, (if nx + 1 < 14 then nx + 1 else 0), (min (ct + 1) 14), F, (va_up f nx.toNat (some q9)), fs, (enU en nx.toNat (q9, qc9, S, g)), ?_⟩
          refine ⟨hP, hD, hS, lv_sub hl [3, 4, 5, 6, 7, 8, 9, 10] rfl, (inv_wr hI (by omega) (by omega)), (hR9), (hRw), (by rw [wr_0 hI (by omega) (by omega)]; exact h9), (by rw [(wr_all hI (i := x10) (v := yv) (by omega) (by omega)).2 6 (by omega) (by omega) (by omega) (by omega), up_n (by omega)]; omega), (by refine ⟨?_, ?_, by omega, by omega⟩ <;> split <;> omega), (fO_ring hfO (by omega) (q9, qc9, S, g))⟩
        · exact absurd hmw.symm c395
      · have hvv : yv = 1 - S (8 + x10) := by omega
        have hkn : 0 ≤ kL S 0 40 ∧ kL S 0 40 < 512 := ⟨Nat.zero_le _, kq_lt hI h9⟩
        refine lv_aload_n hx hb dL_law_319 rfl (lv_at hl 5 rfl) ?_
        refine lv_bipush (v := iI 8) hx hb dL_law_320 (by decide +kernel) ?_
        refine lv_dup2_11 hx hb dL_law_322 rfl rfl ?_
        refine iv_aldE hx hb hK hP 7 0 rfl rfl (z := 8) (w := ((kL S 0 40 : Nat) : Int)) (qS_8) (by omega) (by omega) (by omega) dL_law_323 ?_
        refine lv_iconst (v := iI 1) hx hb dL_law_324 (by decide +kernel) ?_
        refine lv_iload hx hb dL_law_325 (lv_at hl 2 rfl) ?_
        refine lv_ishl hx hb dL_law_327 ?_
        rw [isl_i 1 x10]
        refine lv_ixor hx hb dL_law_328 ?_
        rw [ixr_i ((kL S 0 40 : Nat) : Int) (isl 1 x10)]
        rw [show (ixr ((kL S 0 40 : Nat) : Int) (isl 1 x10) : Int) = ((kL (up S (8 + x10) yv) 0 40 : Nat) : Int) from (kq_flip hI h9 (by omega) hvv)]
        refine iv_ast hx hb hK hP hD hS 7 0 rfl rfl (z := 8) (v := ((kL (up S (8 + x10) yv) 0 40 : Nat) : Int)) (by omega) (by omega) (by omega) dL_law_329 (fun H locs hP hD hS => ?_)
        have hP : va_P D vwCl ([(x, oRD tx nw tr kn me sl), (nw, oDrv nc S (lN (kL (S) 0 40))), (nc, aI yI 48 g), (me, oMem rg nx ct), (rg, aD yD 14 f), (kn, oKn pk ex), (ex, aI yI 1681 E), (qa, aI yI 9 (up (qS S) 8 ((kL (up S (8 + x10) yv) 0 40 : Nat) : Int))), (aa, aI yI 48 gl), (sa, aJ yL 16 F), (ga, aI yI 12 fA), (so, aI yI 12 fS)] ++ pl) H := hP
        have hD : va_D A ([(x, oRD tx nw tr kn me sl), (nw, oDrv nc S (lN (kL (S) 0 40))), (nc, aI yI 48 g), (me, oMem rg nx ct), (rg, aD yD 14 f), (kn, oKn pk ex), (ex, aI yI 1681 E), (qa, aI yI 9 (up (qS S) 8 ((kL (up S (8 + x10) yv) 0 40 : Nat) : Int))), (aa, aI yI 48 gl), (sa, aJ yL 16 F), (ga, aI yI 12 fA), (so, aI yI 12 fS)] ++ pl) := hD
        have hP := va_P.arr hP 7 (g := qS (up S (8 + x10) yv)) rfl (qs_flip (by omega))
        have hD : va_D A ([(x, oRD tx nw tr kn me sl), (nw, oDrv nc S (lN (kL (S) 0 40))), (nc, aI yI 48 g), (me, oMem rg nx ct), (rg, aD yD 14 f), (kn, oKn pk ex), (ex, aI yI 1681 E), (qa, aI yI 9 (qS (up S (8 + x10) yv))), (aa, aI yI 48 gl), (sa, aJ yL 16 F), (ga, aI yI 12 fA), (so, aI yI 12 fS)] ++ pl) := hD.set (p := 7) rfl
        have hP : va_P D vwCl ([(x, oRD tx nw tr kn me sl), (nw, oDrv nc S (lN (kL (S) 0 40))), (nc, aI yI 48 g), (me, oMem rg nx ct), (rg, aD yD 14 f), (kn, oKn pk ex), (ex, aI yI 1681 E), (qa, aI yI 9 (qS (up S (8 + x10) yv))), (aa, aI yI 48 gl), (sa, aJ yL 16 F), (ga, aI yI 12 fA), (so, aI yI 12 fS)] ++ pl) _ := hP
        refine lv_aload_n hx hb dL_law_330 rfl (lv_at hl 5 rfl) ?_
        refine lv_iconst (v := iI 4) hx hb dL_law_331 (by decide +kernel) ?_
        refine iv_aldE hx hb hK hP 7 0 rfl rfl (z := 4) (w := (up S (8 + x10) yv) 4) (by first | exact qS_n (by omega) | exact up_s | rfl) (by omega) (by omega) (by omega) dL_law_332 ?_
        rw [show ((up S (8 + x10) yv) 4 : Int) = S 4 from up_n (by omega)]
        refine lv_iconst (v := iI 1) hx hb dL_law_333 (by decide +kernel) ?_
        refine iv_sub hx hb dL_law_334 ?_
        refine lv_istore (lv' := [(13, .int (iI (S 4 - 1))), (12, .int (iI 0)), (11, .int (iI yv)), (10, .int (iI x10)), (0, .ref b), (1, .ref x), (2, .ref qa), (3, .ref aa), (4, .ref sa), (5, .ref ga), (6, .ref so), (7, .int (iI i)), (8, .int (iI z))]) hx hb dL_law_335 hl (by decide) rfl (fun ls hl => ?_)
        refine iv_loop (I := fun (qq : Nat × (Int → Int) × (Int → Int) × Int × Int) H locs ls => match qq with | (nn, T9, G8, x12, x13) => (x13 = (nn : Int) - 1) ∧ ((nn : Int) ≤ S 4) ∧ (wloop x10 nn T9 = wloop x10 (S 4).toNat (up S (8 + x10) yv)) ∧ ((nn : Int) ≤ T9 4 ∧ T9 4 ≤ 12) ∧ (x12 = S 4 - T9 4) ∧ (Rc T9 G8) ∧ (∀ j : Int, 0 ≤ j → j < nn → an T9 j 0 = an S j 0 ∧ an T9 j 1 = an S j 1) ∧ va_P D vwCl ([(x, oRD tx nw tr kn me sl), (nw, oDrv nc S (lN (kL (S) 0 40))), (nc, aI yI 48 g), (me, oMem rg nx ct), (rg, aD yD 14 f), (kn, oKn pk ex), (ex, aI yI 1681 E), (qa, aI yI 9 (qS T9)), (aa, aI yI 48 G8), (sa, aJ yL 16 F), (ga, aI yI 12 fA), (so, aI yI 12 fS)] ++ pl) H ∧ va_D A ([(x, oRD tx nw tr kn me sl), (nw, oDrv nc S (lN (kL (S) 0 40))), (nc, aI yI 48 g), (me, oMem rg nx ct), (rg, aD yD 14 f), (kn, oKn pk ex), (ex, aI yI 1681 E), (qa, aI yI 9 (qS T9)), (aa, aI yI 48 G8), (sa, aJ yL 16 F), (ga, aI yI 12 fA), (so, aI yI 12 fS)] ++ pl) ∧ va_S A s.heap H locs ∧ lv_has ls 14 [(13, .int (iI x13)), (12, .int (iI x12)), (11, .int (iI yv)), (10, .int (iI x10)), (0, .ref b), (1, .ref x), (2, .ref qa), (3, .ref aa), (4, .ref sa), (5, .ref ga), (6, .ref so), (7, .int (iI i)), (8, .int (iI z))]) (μ := fun (qq : Nat × (Int → Int) × (Int → Int) × Int × Int) => match qq with | (nn, T9, G8, x12, x13) => nn) ((S 4).toNat, (up S (8 + x10) yv), gl, 0, S 4 - 1) ?_ ?_
        · exact ⟨by omega, by omega, rfl, by rw [up_n (by omega)]; omega, by rw [up_n (by omega)]; omega, rc_up hRl (by omega), fun j q0 q1 => ⟨an_up0 (by omega), an_up0 (by omega)⟩, hP, hD, hS, lv_sub hl [0, 1, 2, 3, 4, 5, 6, 7, 8, 9, 10, 11, 12] rfl⟩
        · intro qq H locs ls hI ih337
          obtain ⟨nn, T9, G8, x12, x13⟩ := qq
          obtain ⟨hnn, hnS, hT, hT4, hx12, hRT, hAn, hP, hD, hS, hl⟩ := hI
          refine lv_iload hx hb dL_law_337 (lv_at hl 0 rfl) ?_
          refine iv_if_lt (a := x13) (tgt := 385) hx hb (by omega) dL_law_339 (by decide) (fun c339 => ?_) (fun c339 => ?_)
          · have hn0 : nn = 0 := by omega
            have hwr : wr S x10 yv = T9 := wr_eq (by omega) hT hn0
            have hP := va_P.arr hP 7 (g := qS (wr S x10 yv)) rfl (fun z9 _ _ => by rw [hwr])
            have hD : va_D A ([(x, oRD tx nw tr kn me sl), (nw, oDrv nc S (lN (kL (S) 0 40))), (nc, aI yI 48 g), (me, oMem rg nx ct), (rg, aD yD 14 f), (kn, oKn pk ex), (ex, aI yI 1681 E), (qa, aI yI 9 (qS (wr S x10 yv))), (aa, aI yI 48 G8), (sa, aJ yL 16 F), (ga, aI yI 12 fA), (so, aI yI 12 fS)] ++ pl) := hD.set (p := 7) rfl
            have hP : va_P D vwCl ([(x, oRD tx nw tr kn me sl), (nw, oDrv nc S (lN (kL (S) 0 40))), (nc, aI yI 48 g), (me, oMem rg nx ct), (rg, aD yD 14 f), (kn, oKn pk ex), (ex, aI yI 1681 E), (qa, aI yI 9 (qS (wr S x10 yv))), (aa, aI yI 48 G8), (sa, aJ yL 16 F), (ga, aI yI 12 fA), (so, aI yI 12 fS)] ++ pl) _ := hP
            have hRw : Rc (wr S x10 yv) G8 := by rw [hwr]; exact hRT
            have hmw : x12 = S 4 - wr S x10 yv 4 := by rw [hwr]; exact hx12
            refine lv_aload_n hx hb dL_law_385 rfl (lv_at hl 5 rfl) ?_
            refine lv_iload hx hb dL_law_386 (lv_at hl 3 rfl) ?_
            refine lv_iload hx hb dL_law_388 (lv_at hl 2 rfl) ?_
            obtain ⟨A1, A2, hs1, hs2⟩ := plE_split (yI := yI) (en := en) (j := nx.toNat) 16 (by omega)
            rw [← hplq, hs1] at hP hD
            have hP := va_P.perm (show va_P D vwCl (([(x, oRD tx nw tr kn me sl), (nw, oDrv nc S (lN (kL (S) 0 40))), (nc, aI yI 48 g), (me, oMem rg nx ct), (rg, aD yD 14 f)] ++ [(kn, oKn pk ex), (ex, aI yI 1681 E), (qa, aI yI 9 (qS (wr S x10 yv))), (aa, aI yI 48 G8), (sa, aJ yL 16 F), (ga, aI yI 12 fA), (so, aI yI 12 fS)]) ++ (A1 ++ (eC yI (en nx.toNat) ++ A2))) _ from hP) mid2
            have hD := va_D.perm mid2 (show va_D A (([(x, oRD tx nw tr kn me sl), (nw, oDrv nc S (lN (kL (S) 0 40))), (nc, aI yI 48 g), (me, oMem rg nx ct), (rg, aD yD 14 f)] ++ [(kn, oKn pk ex), (ex, aI yI 1681 E), (qa, aI yI 9 (qS (wr S x10 yv))), (aa, aI yI 48 G8), (sa, aJ yL 16 F), (ga, aI yI 12 fA), (so, aI yI 12 fS)]) ++ (A1 ++ (eC yI (en nx.toNat) ++ A2))) from hD)
            refine iv_lxV (wc := ([(x, oRD tx nw tr kn me sl), (nw, oDrv nc S (lN (kL (S) 0 40))), (nc, aI yI 48 g), (me, oMem rg nx ct), (rg, aD yD 14 f)] ++ eC yI (en nx.toNat))) (wr := ([(kn, oKn pk ex), (ex, aI yI 1681 E), (qa, aI yI 9 (qS (wr S x10 yv))), (aa, aI yI 48 G8), (sa, aJ yL 16 F), (ga, aI yI 12 fA), (so, aI yI 12 fS)] ++ (A1 ++ A2))) (wp := fun (u : Nat × Nat × (Int → Int)) => match u with | (q9, qc9, G9) => [(x, oRD tx nw tr kn me sl), (nw, oDrv nc (wr S x10 yv) (lN (kL (wr S x10 yv) 0 40))), (nc, aI yI 48 G9), (me, oMem rg (if nx + 1 < 14 then nx + 1 else 0) (min (ct + 1) 14)), (rg, aD yD 14 (va_up f nx.toNat (some q9))), (q9, oDrv qc9 S (lN (kL (S) 0 40))), (qc9, aI yI 48 g)]) (As := [.int (iI x10), .int (iI yv)]) (rest := []) (C := RX4) (n := 2) ⟨hx, hb, hml, hown, hts⟩ (c_X4_write l hla D yI yC yD x tx nw tr kn me sl nc S g rg f nx ct (eC yI (en nx.toNat)) x10 yv (hI) (hR) (hme) (wq_of hfO (by omega)) (⟨by omega, by omega⟩) (by omega) _) (cwV 2 hts gL_law_X4_write rfl rfl rfl (by decide +kernel) ⟨Nat.le_of_ble_eq_true rfl, Nat.le_of_ble_eq_true rfl⟩) hKz hP hD hS hA hB rfl rfl (fun u t h => by obtain ⟨q9, qc9, G9⟩ := u; exact h) (fun _ => rfl) rfl hl.1 rfl (Nat.le_of_ble_eq_true rfl) dL_law_390 ⟨(by show _ ≤ (600130 : Nat); omega), (by show _ ≤ (7301079 : Nat); omega)⟩ (fun E9 ce9 ox9 ux H locs hxe hP hD hS hc8 hv8 hcl8 => by exfalso; obtain ⟨_, h⟩ := hxe; omega) (fun r9 u H locs hw hP hD hS => ?_)
            obtain ⟨q9, qc9, G9⟩ := u
            obtain ⟨hr9, hpx9, hR9⟩ := hw
            subst hr9
            have hP := va_P.perm (show va_P D vwCl (([(x, oRD tx nw tr kn me sl), (nw, oDrv nc (wr S x10 yv) (lN (kL (wr S x10 yv) 0 40))), (nc, aI yI 48 G9), (me, oMem rg (if nx + 1 < 14 then nx + 1 else 0) (min (ct + 1) 14)), (rg, aD yD 14 (va_up f nx.toNat (some q9)))] ++ [(q9, oDrv qc9 S (lN (kL (S) 0 40))), (qc9, aI yI 48 g)]) ++ ([(kn, oKn pk ex), (ex, aI yI 1681 E), (qa, aI yI 9 (qS (wr S x10 yv))), (aa, aI yI 48 G8), (sa, aJ yL 16 F), (ga, aI yI 12 fA), (so, aI yI 12 fS)] ++ (A1 ++ A2))) _ from hP) mid2.symm
            have hD := va_D.perm mid2.symm (show va_D A (([(x, oRD tx nw tr kn me sl), (nw, oDrv nc (wr S x10 yv) (lN (kL (wr S x10 yv) 0 40))), (nc, aI yI 48 G9), (me, oMem rg (if nx + 1 < 14 then nx + 1 else 0) (min (ct + 1) 14)), (rg, aD yD 14 (va_up f nx.toNat (some q9)))] ++ [(q9, oDrv qc9 S (lN (kL (S) 0 40))), (qc9, aI yI 48 g)]) ++ ([(kn, oKn pk ex), (ex, aI yI 1681 E), (qa, aI yI 9 (qS (wr S x10 yv))), (aa, aI yI 48 G8), (sa, aJ yL 16 F), (ga, aI yI 12 fA), (so, aI yI 12 fS)] ++ (A1 ++ A2))) from hD)
            have hP : va_P D vwCl ([(x, oRD tx nw tr kn me sl), (nw, oDrv nc (wr S x10 yv) (lN (kL (wr S x10 yv) 0 40))), (nc, aI yI 48 G9), (me, oMem rg (if nx + 1 < 14 then nx + 1 else 0) (min (ct + 1) 14)), (rg, aD yD 14 (va_up f nx.toNat (some q9))), (kn, oKn pk ex), (ex, aI yI 1681 E), (qa, aI yI 9 (qS (wr S x10 yv))), (aa, aI yI 48 G8), (sa, aJ yL 16 F), (ga, aI yI 12 fA), (so, aI yI 12 fS)] ++ (A1 ++ (eC yI (some (q9, qc9, S, g)) ++ A2))) H := hP
            have hD : va_D A ([(x, oRD tx nw tr kn me sl), (nw, oDrv nc (wr S x10 yv) (lN (kL (wr S x10 yv) 0 40))), (nc, aI yI 48 G9), (me, oMem rg (if nx + 1 < 14 then nx + 1 else 0) (min (ct + 1) 14)), (rg, aD yD 14 (va_up f nx.toNat (some q9))), (kn, oKn pk ex), (ex, aI yI 1681 E), (qa, aI yI 9 (qS (wr S x10 yv))), (aa, aI yI 48 G8), (sa, aJ yL 16 F), (ga, aI yI 12 fA), (so, aI yI 12 fS)] ++ (A1 ++ (eC yI (some (q9, qc9, S, g)) ++ A2))) := hD
            rw [← hs2 (some (q9, qc9, S, g))] at hP hD
            have hP : va_P D vwCl ([(x, oRD tx nw tr kn me sl), (nw, oDrv nc (wr S x10 yv) (lN (kL (wr S x10 yv) 0 40))), (nc, aI yI 48 G9), (me, oMem rg (if nx + 1 < 14 then nx + 1 else 0) (min (ct + 1) 14)), (rg, aD yD 14 (va_up f nx.toNat (some q9))), (kn, oKn pk ex), (ex, aI yI 1681 E), (qa, aI yI 9 (qS (wr S x10 yv))), (aa, aI yI 48 G8), (sa, aJ yL 16 F), (ga, aI yI 12 fA), (so, aI yI 12 fS)] ++ plE yI (enU en nx.toNat (q9, qc9, S, g)) 16) _ := hP
            have hD : va_D A ([(x, oRD tx nw tr kn me sl), (nw, oDrv nc (wr S x10 yv) (lN (kL (wr S x10 yv) 0 40))), (nc, aI yI 48 G9), (me, oMem rg (if nx + 1 < 14 then nx + 1 else 0) (min (ct + 1) 14)), (rg, aD yD 14 (va_up f nx.toNat (some q9))), (kn, oKn pk ex), (ex, aI yI 1681 E), (qa, aI yI 9 (qS (wr S x10 yv))), (aa, aI yI 48 G8), (sa, aJ yL 16 F), (ga, aI yI 12 fA), (so, aI yI 12 fS)] ++ plE yI (enU en nx.toNat (q9, qc9, S, g)) 16) := hD
            generalize hplq2 : plE yI (enU en nx.toNat (q9, qc9, S, g)) 16 = pl2 at hP hD
            have hP : va_P D vwCl ([(x, oRD tx nw tr kn me sl), (nw, oDrv nc (wr S x10 yv) (lN (kL (wr S x10 yv) 0 40))), (nc, aI yI 48 G9), (me, oMem rg (if nx + 1 < 14 then nx + 1 else 0) (min (ct + 1) 14)), (rg, aD yD 14 (va_up f nx.toNat (some q9))), (kn, oKn pk ex), (ex, aI yI 1681 E), (qa, aI yI 9 (qS (wr S x10 yv))), (aa, aI yI 48 G8), (sa, aJ yL 16 F), (ga, aI yI 12 fA), (so, aI yI 12 fS)] ++ pl2) H := hP
            have hD : va_D A ([(x, oRD tx nw tr kn me sl), (nw, oDrv nc (wr S x10 yv) (lN (kL (wr S x10 yv) 0 40))), (nc, aI yI 48 G9), (me, oMem rg (if nx + 1 < 14 then nx + 1 else 0) (min (ct + 1) 14)), (rg, aD yD 14 (va_up f nx.toNat (some q9))), (kn, oKn pk ex), (ex, aI yI 1681 E), (qa, aI yI 9 (qS (wr S x10 yv))), (aa, aI yI 48 G8), (sa, aJ yL 16 F), (ga, aI yI 12 fA), (so, aI yI 12 fS)] ++ pl2) := hD
            refine lv_iload hx hb dL_law_393 (lv_at hl 1 rfl) ?_
            refine iv_icmp_eq (a := S 4 - wr S x10 yv 4) (b := x12) (tgt := 400) hx hb (by omega) (by omega) dL_law_395 (by decide) (fun c395 => ?_) (fun c395 => ?_)
            · refine lv_goto (tgt := 563) hx hb dL_law_400 (by decide) ?_
              rw [← hplq2] at hP hD
              refine K _ _ _ ?_
              refine ⟨x, tx, nw, tr, kn, me, sl, nc, ex, rg, qa, aa, sa, ga, so, (wr S x10 yv), G9, E, G8, fA, fS, pk, (if nx + 1 < 14 then nx + 1 else 0), (min (ct + 1) 14), F, (va_up f nx.toNat (some q9)), fs, (enU en nx.toNat (q9, qc9, S, g)), ?_⟩
              refine ⟨hP, hD, hS, lv_sub hl [4, 5, 6, 7, 8, 9, 10, 11] rfl, (inv_wr hI (by omega) (by omega)), (hR9), (hRw), (by rw [wr_0 hI (by omega) (by omega)]; exact h9), (by rw [(wr_all hI (i := x10) (v := yv) (by omega) (by omega)).2 6 (by omega) (by omega) (by omega) (by omega), up_n (by omega)]; omega), (by refine ⟨?_, ?_, by omega, by omega⟩ <;> split <;> omega), (fO_ring hfO (by omega) (q9, qc9, S, g))⟩
            · exact absurd hmw.symm c395
          · have ha := hI.ans (i := x13) (by omega) (by omega)
            obtain ⟨hA0, hA1⟩ := hAn x13 (by omega) (by omega)
            have r0 : G8 (4 * x13) = an T9 x13 0 := by rw [show 4 * x13 = x13 * 4 + 0 by omega]; exact hRT x13 0 (by omega) (by omega) (by omega) (by omega)
            have r1 : G8 (4 * x13 + 1) = an T9 x13 1 := by rw [show 4 * x13 + 1 = x13 * 4 + 1 by omega]; exact hRT x13 1 (by omega) (by omega) (by omega) (by omega)
            refine lv_aload_n hx hb dL_law_342 rfl (lv_at hl 7 rfl) ?_
            refine lv_iconst (v := iI 4) hx hb dL_law_343 (by decide +kernel) ?_
            refine lv_iload hx hb dL_law_344 (lv_at hl 0 rfl) ?_
            refine iv_mul hx hb dL_law_346 ?_
            refine iv_ald hx hb hK hP 8 0 rfl rfl (z := 4 * x13) (by omega) (by omega) (by omega) dL_law_347 ?_
            refine lv_iload hx hb dL_law_348 (lv_at hl 3 rfl) ?_
            refine iv_icmp_gt (a := G8 (4 * x13)) (b := x10) (tgt := 379) hx hb (by omega) (by omega) dL_law_350 (by decide) (fun c350 => ?_) (fun c350 => ?_)
            · refine iv_inc (lv' := [(13, .int (iI (x13 + (-1)))), (12, .int (iI x12)), (11, .int (iI yv)), (10, .int (iI x10)), (0, .ref b), (1, .ref x), (2, .ref qa), (3, .ref aa), (4, .ref sa), (5, .ref ga), (6, .ref so), (7, .int (iI i)), (8, .int (iI z))]) hx hb dL_law_379 hl (k := 0) rfl (by decide) rfl (fun ls hl => ?_)
              refine lv_goto (tgt := 337) hx hb dL_law_382 (by decide) ?_
              refine ih337 (nn - 1, T9, G8, x12, x13 + (-1)) _ _ (by show ((nn - 1) : Nat) < nn; omega) ?_
              exact ⟨by omega, by omega, by first | exact (wl_s1 (by omega) (by omega) (by omega)).symm.trans hT | exact (wl_s0 (by omega) (by omega) (by omega)).symm.trans hT, by first | omega | (show _ ≤ T9 4 - 1 ∧ T9 4 - 1 ≤ 12; omega), by first | omega | (show _ = S 4 - (T9 4 - 1); omega), by first | assumption | exact hR9_373, fun j q0 q1 => by first | exact hAn j q0 (by omega) | (rw [an_forget (by omega) (by omega), an_forget (by omega) (by omega)]; exact hAn j q0 (by omega)), hP, hD, hS, lv_sub hl [0, 1, 2, 3, 4, 5, 6, 7, 8, 9, 10, 11, 12] rfl⟩
            · refine lv_aload_n hx hb dL_law_353 rfl (lv_at hl 7 rfl) ?_
              refine lv_iconst (v := iI 4) hx hb dL_law_354 (by decide +kernel) ?_
              refine lv_iload hx hb dL_law_355 (lv_at hl 0 rfl) ?_
              refine iv_mul hx hb dL_law_357 ?_
              refine lv_iconst (v := iI 1) hx hb dL_law_358 (by decide +kernel) ?_
              refine iv_add hx hb dL_law_359 ?_
              refine iv_ald hx hb hK hP 8 0 rfl rfl (z := 4 * x13 + 1) (by omega) (by omega) (by omega) dL_law_360 ?_
              refine lv_iload hx hb dL_law_361 (lv_at hl 3 rfl) ?_
              refine iv_icmp_ge (a := G8 (4 * x13 + 1)) (b := x10) (tgt := 369) hx hb (by omega) (by omega) dL_law_363 (by decide) (fun c363 => ?_) (fun c363 => ?_)
              · refine lv_iload hx hb dL_law_369 (lv_at hl 0 rfl) ?_
                refine lv_aload_n hx hb dL_law_371 rfl (lv_at hl 6 rfl) ?_
                refine lv_aload_n hx hb dL_law_372 rfl (lv_at hl 7 rfl) ?_
                refine iv_rwSv (As := [.int (iI x13), .ref qa, .ref aa]) (rest := []) (n := 3) ⟨hx, hb, hml, hown, hts⟩ (c_L_drop l D yI yC yD yL qa aa T9 G8 x13 (by omega) (hRT) (by omega) _) (va_cwS 3 hts gL_law_L_drop rfl rfl rfl (by decide +kernel) ⟨Nat.le_of_ble_eq_true rfl, Nat.le_of_ble_eq_true rfl⟩) hK hP hD hS hA [7, 8] (by decide) rfl rfl hl.1 rfl (Nat.le_of_ble_eq_true rfl) dL_law_373 ⟨(by show _ ≤ (600130 : Nat); omega), (by show _ ≤ (7301079 : Nat); omega)⟩ (fun _ => by simp only [List.map_cons, List.map_nil]) (fun u373 H locs hw373 hP hD hS => ?_)
                obtain ⟨G9373, hu373⟩ : ∃ z, z = u373 := ⟨_, rfl⟩
                subst hu373
                have hR9_373 := hw373
                have hP : va_P D vwCl ([(x, oRD tx nw tr kn me sl), (nw, oDrv nc S (lN (kL (S) 0 40))), (nc, aI yI 48 g), (me, oMem rg nx ct), (rg, aD yD 14 f), (kn, oKn pk ex), (ex, aI yI 1681 E), (qa, aI yI 9 (qS (forget1 T9 x13))), (aa, aI yI 48 G9373), (sa, aJ yL 16 F), (ga, aI yI 12 fA), (so, aI yI 12 fS)] ++ pl) H := hP
                have hD : va_D A ([(x, oRD tx nw tr kn me sl), (nw, oDrv nc S (lN (kL (S) 0 40))), (nc, aI yI 48 g), (me, oMem rg nx ct), (rg, aD yD 14 f), (kn, oKn pk ex), (ex, aI yI 1681 E), (qa, aI yI 9 (qS (forget1 T9 x13))), (aa, aI yI 48 G9373), (sa, aJ yL 16 F), (ga, aI yI 12 fA), (so, aI yI 12 fS)] ++ pl) := hD
                refine iv_inc (lv' := [(12, .int (iI (x12 + 1))), (13, .int (iI x13)), (11, .int (iI yv)), (10, .int (iI x10)), (0, .ref b), (1, .ref x), (2, .ref qa), (3, .ref aa), (4, .ref sa), (5, .ref ga), (6, .ref so), (7, .int (iI i)), (8, .int (iI z))]) hx hb dL_law_376 hl (k := 1) rfl (by decide) rfl (fun ls hl => ?_)
                refine iv_inc (lv' := [(13, .int (iI (x13 + (-1)))), (12, .int (iI (x12 + 1))), (11, .int (iI yv)), (10, .int (iI x10)), (0, .ref b), (1, .ref x), (2, .ref qa), (3, .ref aa), (4, .ref sa), (5, .ref ga), (6, .ref so), (7, .int (iI i)), (8, .int (iI z))]) hx hb dL_law_379 hl (k := 1) rfl (by decide) rfl (fun ls hl => ?_)
                refine lv_goto (tgt := 337) hx hb dL_law_382 (by decide) ?_
                refine ih337 (nn - 1, (forget1 T9 x13), G9373, x12 + 1, x13 + (-1)) _ _ (by show ((nn - 1) : Nat) < nn; omega) ?_
                exact ⟨by omega, by omega, by first | exact (wl_s1 (by omega) (by omega) (by omega)).symm.trans hT | exact (wl_s0 (by omega) (by omega) (by omega)).symm.trans hT, by first | omega | (show _ ≤ T9 4 - 1 ∧ T9 4 - 1 ≤ 12; omega), by first | omega | (show _ = S 4 - (T9 4 - 1); omega), by first | assumption | exact hR9_373, fun j q0 q1 => by first | exact hAn j q0 (by omega) | (rw [an_forget (by omega) (by omega), an_forget (by omega) (by omega)]; exact hAn j q0 (by omega)), hP, hD, hS, lv_sub hl [0, 1, 2, 3, 4, 5, 6, 7, 8, 9, 10, 11, 12] rfl⟩
              · refine lv_goto (tgt := 379) hx hb dL_law_366 (by decide) ?_
                refine iv_inc (lv' := [(13, .int (iI (x13 + (-1)))), (12, .int (iI x12)), (11, .int (iI yv)), (10, .int (iI x10)), (0, .ref b), (1, .ref x), (2, .ref qa), (3, .ref aa), (4, .ref sa), (5, .ref ga), (6, .ref so), (7, .int (iI i)), (8, .int (iI z))]) hx hb dL_law_379 hl (k := 0) rfl (by decide) rfl (fun ls hl => ?_)
                refine lv_goto (tgt := 337) hx hb dL_law_382 (by decide) ?_
                refine ih337 (nn - 1, T9, G8, x12, x13 + (-1)) _ _ (by show ((nn - 1) : Nat) < nn; omega) ?_
                exact ⟨by omega, by omega, by first | exact (wl_s1 (by omega) (by omega) (by omega)).symm.trans hT | exact (wl_s0 (by omega) (by omega) (by omega)).symm.trans hT, by first | omega | (show _ ≤ T9 4 - 1 ∧ T9 4 - 1 ≤ 12; omega), by first | omega | (show _ = S 4 - (T9 4 - 1); omega), by first | assumption | exact hR9_373, fun j q0 q1 => by first | exact hAn j q0 (by omega) | (rw [an_forget (by omega) (by omega), an_forget (by omega) (by omega)]; exact hAn j q0 (by omega)), hP, hD, hS, lv_sub hl [0, 1, 2, 3, 4, 5, 6, 7, 8, 9, 10, 11, 12] rfl⟩
    · refine lv_aload_n hx hb dL_law_296 rfl (lv_at hl 5 rfl) ?_
      refine lv_bipush (v := iI 8) hx hb dL_law_297 (by decide +kernel) ?_
      refine iv_aldE hx hb hK hP 7 0 rfl rfl (z := 8) (w := ((kL S 0 40 : Nat) : Int)) (qS_8) (by omega) (by omega) (by omega) dL_law_299 ?_
      refine lv_iload hx hb dL_law_300 (lv_at hl 2 rfl) ?_
      refine lv_ishr hx hb dL_law_302 ?_
      rw [isr_i ((kL S 0 40 : Nat) : Int) x10]
      refine lv_iconst (v := iI 1) hx hb dL_law_303 (by decide +kernel) ?_
      refine lv_iand hx hb dL_law_304 ?_
      rw [ia_i (isr ((kL S 0 40 : Nat) : Int) x10) 1]
      rw [show (ia (isr ((kL S 0 40 : Nat) : Int) x10) 1 : Int) = S (8 + x10) from (kq_bit hI h9 (by omega))]
      refine lv_iconst (v := iI 1) hx hb dL_law_305 (by decide +kernel) ?_
      refine iv_icmp_ne (a := S (8 + x10)) (b := 1) (tgt := 313) hx hb (by omega) (by omega) dL_law_306 (by decide) (fun c306 => ?_) (fun c306 => ?_)
      · refine lv_iconst (v := iI 0) hx hb dL_law_313 (by decide +kernel) ?_
        exact J314 (0) _ _ ⟨by omega, hP, hD, hS, lv_sub hl [0, 1, 2, 3, 4, 5, 6, 7, 8, 9, 10, 11] rfl⟩
      · refine lv_iconst (v := iI 1) hx hb dL_law_309 (by decide +kernel) ?_
        refine lv_goto (tgt := 314) hx hb dL_law_310 (by decide) ?_
        exact J314 (1) _ _ ⟨by omega, hP, hD, hS, lv_sub hl [0, 1, 2, 3, 4, 5, 6, 7, 8, 9, 10, 11] rfl⟩
  · refine lv_iload hx hb dL_law_273 (lv_at hl 9 rfl) ?_
    refine lv_bipush (v := iI 7) hx hb dL_law_275 (by decide +kernel) ?_
    refine lv_ishr hx hb dL_law_277 ?_
    rw [isr_i z 7]
    refine lv_iconst (v := iI 2) hx hb dL_law_278 (by decide +kernel) ?_
    refine iv_roS (As := [.int (iI (isr z 7)), .int (iI 2)]) (rest := []) (n := 2) ⟨hx, hb, hml, hown, hts⟩ (c_L_low l D yI yC yD yL (isr z 7) 2 (by omega)) (va_cwS 2 hts gL_law_L_low rfl rfl rfl (by decide +kernel) ⟨Nat.le_of_ble_eq_true rfl, Nat.le_of_ble_eq_true rfl⟩) hK hP [] rfl rfl hl.1 rfl (Nat.le_of_ble_eq_true rfl) dL_law_279 ⟨(by show _ ≤ (600130 : Nat); omega), (by show _ ≤ (7301079 : Nat); omega)⟩ ?_
    refine lv_iconst (v := iI 1) hx hb dL_law_282 (by decide +kernel) ?_
    refine iv_icmp_ne (a := lowV (isr z 7) 2) (b := 1) (tgt := 290) hx hb (by have := lowV_r (v := isr z 7) (n := 2) (by omega); omega) (by omega) dL_law_283 (by decide) (fun c283 => ?_) (fun c283 => ?_)
    · refine lv_iconst (v := iI 0) hx hb dL_law_290 (by decide +kernel) ?_
      exact J291 (0) _ _ ⟨by omega, hP, hD, hS, lv_sub hl [0, 1, 2, 3, 4, 5, 6, 7, 8, 9] rfl⟩
    · refine lv_iconst (v := iI 1) hx hb dL_law_286 (by decide +kernel) ?_
      refine lv_goto (tgt := 291) hx hb dL_law_287 (by decide) ?_
      exact J291 (1) _ _ ⟨by omega, hP, hD, hS, lv_sub hl [0, 1, 2, 3, 4, 5, 6, 7, 8, 9] rfl⟩
