theorem askd_6 {S : Int → Int} (hI : Inv S) {a b : Int} : askd S a b 6 = S 6 + 1 := by
  by_cases h : aboutI S a b = -1
  · have h2 := ask_lo1 hI (a := a) (b := b) (z := 6) h (by omega) (by omega)
    rw [← h2, up_s, up_n (by omega), room_k (by omega) (by omega) (by omega)]
  · have h2 := ask_lo2 hI (a := a) (b := b) (z := 6) h (by omega) (by omega)
    rw [← h2, up_s]
theorem why_3 {S : Int → Int} {a b : Int} (h : whyR S a b = 0) (h2 : ¬ S 1 ≤ b - a + 1) : whyA S a b = 3 := by
  unfold whyA
  rw [h, if_neg (by omega), if_neg h2]
abbrev LI (D : va_G) (yI yC yD yL : ClassId) (s : State) (A : Nat → Prop) (b : Nat) (i ub : Int) (lw : List (Nat × Value)) (H : Heap) (locs : List Loc) (ls : Array Slot) : Prop :=
  ∃ (x tx nw tr kn me sl nc ex rg qa aa sa ga so : Nat) (S g E gl fA fS : Int → Int) (pk nx ct : Int) (F : Nat → Int64) (f fs : Nat → Option Nat) (en : Nat → Option DE),
    va_P D vwCl ([(x, oRD tx nw tr kn me sl), (nw, oDrv nc S (lN (kL (S) 0 40))), (nc, aI yI 48 g), (me, oMem rg nx ct), (rg, aD yD 14 f), (kn, oKn pk ex), (ex, aI yI 1681 E), (qa, aI yI 9 (qS S)), (aa, aI yI 48 gl), (sa, aJ yL 16 F), (ga, aI yI 12 fA), (so, aI yI 12 fS)] ++ plE yI en 16) H ∧ va_D A ([(x, oRD tx nw tr kn me sl), (nw, oDrv nc S (lN (kL (S) 0 40))), (nc, aI yI 48 g), (me, oMem rg nx ct), (rg, aD yD 14 f), (kn, oKn pk ex), (ex, aI yI 1681 E), (qa, aI yI 9 (qS S)), (aa, aI yI 48 gl), (sa, aJ yL 16 F), (ga, aI yI 12 fA), (so, aI yI 12 fS)] ++ plE yI en 16) ∧ va_S A s.heap H locs ∧ lv_has ls 14 ([(0, .ref b), (1, .ref x), (2, .ref qa), (3, .ref aa), (4, .ref sa), (5, .ref ga), (6, .ref so), (7, .int (iI i))] ++ lw) ∧ (Inv S) ∧ (Rc S g) ∧ (Rc S gl) ∧ (S 0 ≤ 9) ∧ (0 ≤ S 6 ∧ S 6 ≤ ub) ∧ (0 ≤ nx ∧ nx < 14 ∧ 0 ≤ ct ∧ ct ≤ 14) ∧ (fO en f fs)
set_option maxHeartbeats 8000000 in
set_option maxRecDepth 100000 in
theorem lq_ask {p : Program} {e : Env} {s : State} {m : MethodId} {below : List Frame} {meth : Method} {c : Code} (l : Launch) (hla : l.stackTraces = false) {b L : Nat} {xs : Nat → Int32} (C0 : lw_At p s m meth c b L xs) (D : va_G) (yI yC yD yL : ClassId) (hK : va_K D vwCl (tyl yI yC yD yL) s) (A : Nat → Prop) (hA : ∀ q : Nat, s.heap.size ≤ q → A q) (hB : XB A s s.heap) {Q : State → Prop} {cells slots : Nat} (hroom : cells + 8 ≤ 600130 ∧ slots + 150 ≤ 7301079) {i z : Int} (hi : 0 ≤ i ∧ i ≤ 13) {H : Heap} {locs : List Loc} {ls : Array Slot} (hLI : LI D yI yC yD yL s A b i i [(8, .int (iI z))] H locs ls) (K : ∀ (H : Heap) (locs : List Loc) (ls : Array Slot), LI D yI yC yD yL s A b i (i + 1) [] H locs ls → W p l e room_1 s m #[Value.ref b] below meth c H locs (cells + 8) (slots + 150) Q (F0 m 563 ls [])) : W p l e room_1 s m #[Value.ref b] below meth c H locs cells slots Q (F0 m 169 ls []) := by
  obtain ⟨hx, hb, hr, hml, hown, hts, hX, hbl, hlocks, hgv⟩ := id C0
  have hKz : va_K D vwCl (tyz yI yC yD) s := hK.sub [0, 1, 2] rfl
  obtain ⟨x, tx, nw, tr, kn, me, sl, nc, ex, rg, qa, aa, sa, ga, so, S, g, E, gl, fA, fS, pk, nx, ct, F, f, fs, en, hP, hD, hS, hl, hI, hR, hRl, h9, h6, hme, hfO⟩ := hLI
  have hl : lv_has ls 14 [(0, .ref b), (1, .ref x), (2, .ref qa), (3, .ref aa), (4, .ref sa), (5, .ref ga), (6, .ref so), (7, .int (iI i)), (8, .int (iI z))] := hl
  generalize hplq : plE yI en 16 = pl at hP hD
  have hP : va_P D vwCl ([(x, oRD tx nw tr kn me sl), (nw, oDrv nc S (lN (kL (S) 0 40))), (nc, aI yI 48 g), (me, oMem rg nx ct), (rg, aD yD 14 f), (kn, oKn pk ex), (ex, aI yI 1681 E), (qa, aI yI 9 (qS S)), (aa, aI yI 48 gl), (sa, aJ yL 16 F), (ga, aI yI 12 fA), (so, aI yI 12 fS)] ++ pl) _ := hP
  have hD : va_D A ([(x, oRD tx nw tr kn me sl), (nw, oDrv nc S (lN (kL (S) 0 40))), (nc, aI yI 48 g), (me, oMem rg nx ct), (rg, aD yD 14 f), (kn, oKn pk ex), (ex, aI yI 1681 E), (qa, aI yI 9 (qS S)), (aa, aI yI 48 gl), (sa, aJ yL 16 F), (ga, aI yI 12 fA), (so, aI yI 12 fS)] ++ pl) := hD
  have hpl := hI.pl
  have hna := hI.na
  have hse := hI.se
  have hwi := hI.wi
  have hfe := hI.fe
  have hna := hI.na
  have hwi := hI.wi
  have hse := hI.se
  have hfe := hI.fe
  refine lv_iload hx hb dL_law_169 (lv_at hl 8 rfl) ?_
  refine lv_iconst (v := iI 3) hx hb dL_law_171 (by decide +kernel) ?_
  refine lv_ishr hx hb dL_law_172 ?_
  rw [isr_i z 3]
  refine lv_aload_n hx hb dL_law_173 rfl (lv_at hl 2 rfl) ?_
  refine lv_iconst (v := iI 0) hx hb dL_law_174 (by decide +kernel) ?_
  refine iv_aldE hx hb hK hP 7 0 rfl rfl (z := 0) (w := S 0) (by first | exact qS_n (by omega) | exact up_s | rfl) (by omega) (by omega) (by omega) dL_law_175 ?_
  refine iv_roS (As := [.int (iI (isr z 3)), .int (iI (S 0))]) (rest := []) (n := 2) ⟨hx, hb, hml, hown, hts⟩ (c_L_low l D yI yC yD yL (isr z 3) (S 0) (by omega)) (va_cwS 2 hts gL_law_L_low rfl rfl rfl (by decide +kernel) ⟨Nat.le_of_ble_eq_true rfl, Nat.le_of_ble_eq_true rfl⟩) hK hP [] rfl rfl hl.1 rfl (Nat.le_of_ble_eq_true rfl) dL_law_176 ⟨(by show _ ≤ (600130 : Nat); omega), (by show _ ≤ (7301079 : Nat); omega)⟩ ?_
  obtain ⟨x10, hx10⟩ : ∃ nv_, nv_ = (lowV (isr z 3) (S 0)) := ⟨_, rfl⟩
  rw [← hx10]
  have hrx10 : 0 ≤ x10 ∧ x10 < S 0 := by rw [hx10]; exact lowV_r (by omega)
  refine lv_istore (lv' := [(10, .int (iI x10)), (0, .ref b), (1, .ref x), (2, .ref qa), (3, .ref aa), (4, .ref sa), (5, .ref ga), (6, .ref so), (7, .int (iI i)), (8, .int (iI z))]) hx hb dL_law_179 hl (by decide) rfl (fun ls hl => ?_)
  refine lv_iload hx hb dL_law_181 (lv_at hl 0 rfl) ?_
  refine lv_iload hx hb dL_law_183 (lv_at hl 9 rfl) ?_
  refine lv_bipush (v := iI 7) hx hb dL_law_185 (by decide +kernel) ?_
  refine lv_ishr hx hb dL_law_187 ?_
  rw [isr_i z 7]
  refine lv_aload_n hx hb dL_law_188 rfl (lv_at hl 3 rfl) ?_
  refine lv_iconst (v := iI 0) hx hb dL_law_189 (by decide +kernel) ?_
  refine iv_aldE hx hb hK hP 7 0 rfl rfl (z := 0) (w := S 0) (by first | exact qS_n (by omega) | exact up_s | rfl) (by omega) (by omega) (by omega) dL_law_190 ?_
  refine lv_iload hx hb dL_law_191 (lv_at hl 0 rfl) ?_
  refine iv_sub hx hb dL_law_193 ?_
  refine iv_roS (As := [.int (iI (isr z 7)), .int (iI (S 0 - x10))]) (rest := [.int (iI x10)]) (n := 2) ⟨hx, hb, hml, hown, hts⟩ (c_L_low l D yI yC yD yL (isr z 7) (S 0 - x10) (by omega)) (va_cwS 2 hts gL_law_L_low rfl rfl rfl (by decide +kernel) ⟨Nat.le_of_ble_eq_true rfl, Nat.le_of_ble_eq_true rfl⟩) hK hP [] rfl rfl hl.1 rfl (Nat.le_of_ble_eq_true rfl) dL_law_194 ⟨(by show _ ≤ (600130 : Nat); omega), (by show _ ≤ (7301079 : Nat); omega)⟩ ?_
  obtain ⟨y11, hy11⟩ : ∃ nv_, nv_ = (lowV (isr z 7) (S 0 - x10)) := ⟨_, rfl⟩
  rw [← hy11]
  have hry11 : 0 ≤ y11 ∧ y11 < S 0 - x10 := by rw [hy11]; exact lowV_r (by omega)
  refine iv_add hx hb dL_law_197 ?_
  obtain ⟨x11, hx11⟩ : ∃ nv_, nv_ = (x10 + y11) := ⟨_, rfl⟩
  rw [← hx11]
  refine lv_istore (lv' := [(11, .int (iI x11)), (10, .int (iI x10)), (0, .ref b), (1, .ref x), (2, .ref qa), (3, .ref aa), (4, .ref sa), (5, .ref ga), (6, .ref so), (7, .int (iI i)), (8, .int (iI z))]) hx hb dL_law_198 hl (by decide) rfl (fun ls hl => ?_)
  refine lv_iload hx hb dL_law_200 (lv_at hl 0 rfl) ?_
  refine lv_iload hx hb dL_law_202 (lv_at hl 1 rfl) ?_
  refine iv_sub hx hb dL_law_204 ?_
  refine lv_iconst (v := iI 1) hx hb dL_law_205 (by decide +kernel) ?_
  refine iv_add hx hb dL_law_206 ?_
  refine lv_aload_n hx hb dL_law_207 rfl (lv_at hl 4 rfl) ?_
  refine lv_iconst (v := iI 1) hx hb dL_law_208 (by decide +kernel) ?_
  refine iv_aldE hx hb hK hP 7 0 rfl rfl (z := 1) (w := S 1) (by first | exact qS_n (by omega) | exact up_s | rfl) (by omega) (by omega) (by omega) dL_law_209 ?_
  refine iv_icmp_lt (a := x11 - x10 + 1) (b := S 1) (tgt := 217) hx hb (by omega) (by omega) dL_law_210 (by decide) (fun c210 => ?_) (fun c210 => ?_)
  · refine lv_iconst (v := iI 0) hx hb dL_law_217 (by decide +kernel) ?_
    refine lv_istore (lv' := [(12, .int (iI 0)), (11, .int (iI x11)), (10, .int (iI x10)), (0, .ref b), (1, .ref x), (2, .ref qa), (3, .ref aa), (4, .ref sa), (5, .ref ga), (6, .ref so), (7, .int (iI i)), (8, .int (iI z))]) hx hb dL_law_218 hl (by decide) rfl (fun ls hl => ?_)
    have hto := told_r hI (a := x10) (b := x11) (by omega) (by omega) (by omega)
    refine lv_aload_n hx hb dL_law_220 rfl (lv_at hl 4 rfl) ?_
    refine lv_iload hx hb dL_law_221 (lv_at hl 2 rfl) ?_
    refine lv_iload hx hb dL_law_223 (lv_at hl 1 rfl) ?_
    obtain ⟨A1, A2, hs1, hs2⟩ := plE_split (yI := yI) (en := en) (j := nx.toNat) 16 (by omega)
    rw [← hplq, hs1] at hP hD
    have hP := va_P.perm (show va_P D vwCl (([(x, oRD tx nw tr kn me sl), (nw, oDrv nc S (lN (kL (S) 0 40))), (nc, aI yI 48 g), (me, oMem rg nx ct), (rg, aD yD 14 f)] ++ [(kn, oKn pk ex), (ex, aI yI 1681 E), (qa, aI yI 9 (qS S)), (aa, aI yI 48 gl), (sa, aJ yL 16 F), (ga, aI yI 12 fA), (so, aI yI 12 fS)]) ++ (A1 ++ (eC yI (en nx.toNat) ++ A2))) _ from hP) mid2
    have hD := va_D.perm mid2 (show va_D A (([(x, oRD tx nw tr kn me sl), (nw, oDrv nc S (lN (kL (S) 0 40))), (nc, aI yI 48 g), (me, oMem rg nx ct), (rg, aD yD 14 f)] ++ [(kn, oKn pk ex), (ex, aI yI 1681 E), (qa, aI yI 9 (qS S)), (aa, aI yI 48 gl), (sa, aJ yL 16 F), (ga, aI yI 12 fA), (so, aI yI 12 fS)]) ++ (A1 ++ (eC yI (en nx.toNat) ++ A2))) from hD)
    refine iv_lawF (cx := ([(x, oRD tx nw tr kn me sl), (nw, oDrv nc S (lN (kL (S) 0 40))), (nc, aI yI 48 g), (me, oMem rg nx ct), (rg, aD yD 14 f)] ++ eC yI (en nx.toNat))) (RR := ([(kn, oKn pk ex), (ex, aI yI 1681 E), (qa, aI yI 9 (qS S)), (aa, aI yI 48 gl), (sa, aJ yL 16 F), (ga, aI yI 12 fA), (so, aI yI 12 fS)] ++ (A1 ++ A2))) (wp := fun (_ : Unit) => ([(x, oRD tx nw tr kn me sl), (nw, oDrv nc S (lN (kL (S) 0 40))), (nc, aI yI 48 g), (me, oMem rg nx ct), (rg, aD yD 14 f)] ++ eC yI (en nx.toNat))) (As := [.ref x, .int (iI x10), .int (iI x11)]) (rest := []) (n := 3) ⟨hx, hb, hml, hown, hts⟩ (c_L_ask_1 l hla D yI yC yD yL x tx nw tr kn me sl nc S g rg f nx ct (eC yI (en nx.toNat)) x10 x11 (hI) (hR) (hme) (wq_of hfO (by omega)) (⟨⟨by omega, by omega⟩, ⟨by omega, by omega⟩⟩) (why_3 (whyR_0.2 (by omega)) (by omega)) _) (vx_cwSW 3 hts gL_law_L_ask rfl rfl rfl (by decide +kernel) ⟨Nat.le_of_ble_eq_true rfl, Nat.le_of_ble_eq_true rfl⟩) hK hP hD hS hA hB rfl hl.1 rfl (Nat.le_of_ble_eq_true rfl) dL_law_225 ⟨(by show _ ≤ (600130 : Nat); omega), (by show _ ≤ (7301079 : Nat); omega)⟩ (fun r9 u H locs hw hP hD hS => ?_)
    obtain ⟨hr9, -⟩ := hw
    subst hr9
    have hP := va_P.perm (show va_P D vwCl (([(x, oRD tx nw tr kn me sl), (nw, oDrv nc S (lN (kL (S) 0 40))), (nc, aI yI 48 g), (me, oMem rg nx ct), (rg, aD yD 14 f)] ++ eC yI (en nx.toNat)) ++ ([(kn, oKn pk ex), (ex, aI yI 1681 E), (qa, aI yI 9 (qS S)), (aa, aI yI 48 gl), (sa, aJ yL 16 F), (ga, aI yI 12 fA), (so, aI yI 12 fS)] ++ (A1 ++ A2))) _ from hP) mid2.symm
    have hD := va_D.perm mid2.symm (show va_D A (([(x, oRD tx nw tr kn me sl), (nw, oDrv nc S (lN (kL (S) 0 40))), (nc, aI yI 48 g), (me, oMem rg nx ct), (rg, aD yD 14 f)] ++ eC yI (en nx.toNat)) ++ ([(kn, oKn pk ex), (ex, aI yI 1681 E), (qa, aI yI 9 (qS S)), (aa, aI yI 48 gl), (sa, aJ yL 16 F), (ga, aI yI 12 fA), (so, aI yI 12 fS)] ++ (A1 ++ A2))) from hD)
    have hP : va_P D vwCl ([(x, oRD tx nw tr kn me sl), (nw, oDrv nc S (lN (kL (S) 0 40))), (nc, aI yI 48 g), (me, oMem rg nx ct), (rg, aD yD 14 f), (kn, oKn pk ex), (ex, aI yI 1681 E), (qa, aI yI 9 (qS S)), (aa, aI yI 48 gl), (sa, aJ yL 16 F), (ga, aI yI 12 fA), (so, aI yI 12 fS)] ++ (A1 ++ (eC yI (en nx.toNat) ++ A2))) H := hP
    have hD : va_D A ([(x, oRD tx nw tr kn me sl), (nw, oDrv nc S (lN (kL (S) 0 40))), (nc, aI yI 48 g), (me, oMem rg nx ct), (rg, aD yD 14 f), (kn, oKn pk ex), (ex, aI yI 1681 E), (qa, aI yI 9 (qS S)), (aa, aI yI 48 gl), (sa, aJ yL 16 F), (ga, aI yI 12 fA), (so, aI yI 12 fS)] ++ (A1 ++ (eC yI (en nx.toNat) ++ A2))) := hD
    rw [← hs1, hplq] at hP hD
    have hP : va_P D vwCl ([(x, oRD tx nw tr kn me sl), (nw, oDrv nc S (lN (kL (S) 0 40))), (nc, aI yI 48 g), (me, oMem rg nx ct), (rg, aD yD 14 f), (kn, oKn pk ex), (ex, aI yI 1681 E), (qa, aI yI 9 (qS S)), (aa, aI yI 48 gl), (sa, aJ yL 16 F), (ga, aI yI 12 fA), (so, aI yI 12 fS)] ++ pl) H := hP
    have hD : va_D A ([(x, oRD tx nw tr kn me sl), (nw, oDrv nc S (lN (kL (S) 0 40))), (nc, aI yI 48 g), (me, oMem rg nx ct), (rg, aD yD 14 f), (kn, oKn pk ex), (ex, aI yI 1681 E), (qa, aI yI 9 (qS S)), (aa, aI yI 48 gl), (sa, aJ yL 16 F), (ga, aI yI 12 fA), (so, aI yI 12 fS)] ++ pl) := hD
    refine lv_iload hx hb dL_law_228 (lv_at hl 0 rfl) ?_
    refine iv_if_eq (a := 0) (tgt := 245) hx hb (by omega) dL_law_230 (by decide) (fun c230 => ?_) (fun c230 => ?_)
    · refine lv_bipush (v := iI (-5)) hx hb dL_law_245 (by decide +kernel) ?_
      refine iv_icmp_eq (a := -5) (b := -5) (tgt := 252) hx hb (by omega) (by omega) dL_law_247 (by decide) (fun c247 => ?_) (fun c247 => ?_)
      · refine lv_goto (tgt := 563) hx hb dL_law_252 (by decide) ?_
        rw [← hplq] at hP hD
        refine K _ _ _ ?_
        refine ⟨x, tx, nw, tr, kn, me, sl, nc, ex, rg, qa, aa, sa, ga, so, S, g, E, gl, fA, fS, pk, nx, ct, F, f, fs, en, ?_⟩
        refine ⟨hP, hD, hS, lv_sub hl [3, 4, 5, 6, 7, 8, 9, 10] rfl, (hI), (hR), (hRl), (h9), (by omega), (hme), (hfO)⟩
      · exact absurd c247 (by omega)
    · exact absurd c230 (by omega)
  · refine lv_iconst (v := iI 1) hx hb dL_law_213 (by decide +kernel) ?_
    refine lv_goto (tgt := 218) hx hb dL_law_214 (by decide) ?_
    refine lv_istore (lv' := [(12, .int (iI 1)), (11, .int (iI x11)), (10, .int (iI x10)), (0, .ref b), (1, .ref x), (2, .ref qa), (3, .ref aa), (4, .ref sa), (5, .ref ga), (6, .ref so), (7, .int (iI i)), (8, .int (iI z))]) hx hb dL_law_218 hl (by decide) rfl (fun ls hl => ?_)
    have hto := told_r hI (a := x10) (b := x11) (by omega) (by omega) (by omega)
    refine lv_aload_n hx hb dL_law_220 rfl (lv_at hl 4 rfl) ?_
    refine lv_iload hx hb dL_law_221 (lv_at hl 2 rfl) ?_
    refine lv_iload hx hb dL_law_223 (lv_at hl 1 rfl) ?_
    obtain ⟨A1, A2, hs1, hs2⟩ := plE_split (yI := yI) (en := en) (j := nx.toNat) 16 (by omega)
    rw [← hplq, hs1] at hP hD
    have hP := va_P.perm (show va_P D vwCl (([(x, oRD tx nw tr kn me sl), (nw, oDrv nc S (lN (kL (S) 0 40))), (nc, aI yI 48 g), (me, oMem rg nx ct), (rg, aD yD 14 f)] ++ [(kn, oKn pk ex), (ex, aI yI 1681 E), (qa, aI yI 9 (qS S)), (aa, aI yI 48 gl), (sa, aJ yL 16 F), (ga, aI yI 12 fA), (so, aI yI 12 fS)]) ++ (A1 ++ (eC yI (en nx.toNat) ++ A2))) _ from hP) mid2
    have hD := va_D.perm mid2 (show va_D A (([(x, oRD tx nw tr kn me sl), (nw, oDrv nc S (lN (kL (S) 0 40))), (nc, aI yI 48 g), (me, oMem rg nx ct), (rg, aD yD 14 f)] ++ [(kn, oKn pk ex), (ex, aI yI 1681 E), (qa, aI yI 9 (qS S)), (aa, aI yI 48 gl), (sa, aJ yL 16 F), (ga, aI yI 12 fA), (so, aI yI 12 fS)]) ++ (A1 ++ (eC yI (en nx.toNat) ++ A2))) from hD)
    refine iv_lawF (cx := ([(x, oRD tx nw tr kn me sl), (nw, oDrv nc S (lN (kL (S) 0 40))), (nc, aI yI 48 g), (me, oMem rg nx ct), (rg, aD yD 14 f)] ++ eC yI (en nx.toNat))) (RR := ([(kn, oKn pk ex), (ex, aI yI 1681 E), (qa, aI yI 9 (qS S)), (aa, aI yI 48 gl), (sa, aJ yL 16 F), (ga, aI yI 12 fA), (so, aI yI 12 fS)] ++ (A1 ++ A2))) (wp := fun (u : Nat × Nat × (Int → Int)) => match u with | (q9, qc9, G9) => [(x, oRD tx nw tr kn me sl), (nw, oDrv nc (askd S x10 x11) (lN (kL (askd S x10 x11) 0 40))), (nc, aI yI 48 G9), (me, oMem rg (if nx + 1 < 14 then nx + 1 else 0) (min (ct + 1) 14)), (rg, aD yD 14 (va_up f nx.toNat (some q9))), (q9, oDrv qc9 S (lN (kL (S) 0 40))), (qc9, aI yI 48 g)]) (As := [.ref x, .int (iI x10), .int (iI x11)]) (rest := []) (n := 3) ⟨hx, hb, hml, hown, hts⟩ (c_L_ask_0 l hla D yI yC yD yL x tx nw tr kn me sl nc S g rg f nx ct (eC yI (en nx.toNat)) x10 x11 (hI) (hR) (hme) (wq_of hfO (by omega)) (⟨⟨by omega, by omega⟩, ⟨by omega, by omega⟩⟩) (whyA_0.2 ⟨whyR_0.2 (by omega), by omega⟩) _) (vx_cwSW 3 hts gL_law_L_ask rfl rfl rfl (by decide +kernel) ⟨Nat.le_of_ble_eq_true rfl, Nat.le_of_ble_eq_true rfl⟩) hK hP hD hS hA hB rfl hl.1 rfl (Nat.le_of_ble_eq_true rfl) dL_law_225 ⟨(by show _ ≤ (600130 : Nat); omega), (by show _ ≤ (7301079 : Nat); omega)⟩ (fun r9 u H locs hw hP hD hS => ?_)
    obtain ⟨q9, qc9, G9⟩ := u
    obtain ⟨hr9, hpx9, hR9⟩ := hw
    subst hr9
    have hP := va_P.perm (show va_P D vwCl (([(x, oRD tx nw tr kn me sl), (nw, oDrv nc (askd S x10 x11) (lN (kL (askd S x10 x11) 0 40))), (nc, aI yI 48 G9), (me, oMem rg (if nx + 1 < 14 then nx + 1 else 0) (min (ct + 1) 14)), (rg, aD yD 14 (va_up f nx.toNat (some q9)))] ++ [(q9, oDrv qc9 S (lN (kL (S) 0 40))), (qc9, aI yI 48 g)]) ++ ([(kn, oKn pk ex), (ex, aI yI 1681 E), (qa, aI yI 9 (qS S)), (aa, aI yI 48 gl), (sa, aJ yL 16 F), (ga, aI yI 12 fA), (so, aI yI 12 fS)] ++ (A1 ++ A2))) _ from hP) mid2.symm
    have hD := va_D.perm mid2.symm (show va_D A (([(x, oRD tx nw tr kn me sl), (nw, oDrv nc (askd S x10 x11) (lN (kL (askd S x10 x11) 0 40))), (nc, aI yI 48 G9), (me, oMem rg (if nx + 1 < 14 then nx + 1 else 0) (min (ct + 1) 14)), (rg, aD yD 14 (va_up f nx.toNat (some q9)))] ++ [(q9, oDrv qc9 S (lN (kL (S) 0 40))), (qc9, aI yI 48 g)]) ++ ([(kn, oKn pk ex), (ex, aI yI 1681 E), (qa, aI yI 9 (qS S)), (aa, aI yI 48 gl), (sa, aJ yL 16 F), (ga, aI yI 12 fA), (so, aI yI 12 fS)] ++ (A1 ++ A2))) from hD)
    have hP : va_P D vwCl ([(x, oRD tx nw tr kn me sl), (nw, oDrv nc (askd S x10 x11) (lN (kL (askd S x10 x11) 0 40))), (nc, aI yI 48 G9), (me, oMem rg (if nx + 1 < 14 then nx + 1 else 0) (min (ct + 1) 14)), (rg, aD yD 14 (va_up f nx.toNat (some q9))), (kn, oKn pk ex), (ex, aI yI 1681 E), (qa, aI yI 9 (qS S)), (aa, aI yI 48 gl), (sa, aJ yL 16 F), (ga, aI yI 12 fA), (so, aI yI 12 fS)] ++ (A1 ++ (eC yI (some (q9, qc9, S, g)) ++ A2))) H := hP
    have hD : va_D A ([(x, oRD tx nw tr kn me sl), (nw, oDrv nc (askd S x10 x11) (lN (kL (askd S x10 x11) 0 40))), (nc, aI yI 48 G9), (me, oMem rg (if nx + 1 < 14 then nx + 1 else 0) (min (ct + 1) 14)), (rg, aD yD 14 (va_up f nx.toNat (some q9))), (kn, oKn pk ex), (ex, aI yI 1681 E), (qa, aI yI 9 (qS S)), (aa, aI yI 48 gl), (sa, aJ yL 16 F), (ga, aI yI 12 fA), (so, aI yI 12 fS)] ++ (A1 ++ (eC yI (some (q9, qc9, S, g)) ++ A2))) := hD
    rw [← hs2 (some (q9, qc9, S, g))] at hP hD
    have hP : va_P D vwCl ([(x, oRD tx nw tr kn me sl), (nw, oDrv nc (askd S x10 x11) (lN (kL (askd S x10 x11) 0 40))), (nc, aI yI 48 G9), (me, oMem rg (if nx + 1 < 14 then nx + 1 else 0) (min (ct + 1) 14)), (rg, aD yD 14 (va_up f nx.toNat (some q9))), (kn, oKn pk ex), (ex, aI yI 1681 E), (qa, aI yI 9 (qS S)), (aa, aI yI 48 gl), (sa, aJ yL 16 F), (ga, aI yI 12 fA), (so, aI yI 12 fS)] ++ plE yI (enU en nx.toNat (q9, qc9, S, g)) 16) _ := hP
    have hD : va_D A ([(x, oRD tx nw tr kn me sl), (nw, oDrv nc (askd S x10 x11) (lN (kL (askd S x10 x11) 0 40))), (nc, aI yI 48 G9), (me, oMem rg (if nx + 1 < 14 then nx + 1 else 0) (min (ct + 1) 14)), (rg, aD yD 14 (va_up f nx.toNat (some q9))), (kn, oKn pk ex), (ex, aI yI 1681 E), (qa, aI yI 9 (qS S)), (aa, aI yI 48 gl), (sa, aJ yL 16 F), (ga, aI yI 12 fA), (so, aI yI 12 fS)] ++ plE yI (enU en nx.toNat (q9, qc9, S, g)) 16) := hD
    generalize hplq2 : plE yI (enU en nx.toNat (q9, qc9, S, g)) 16 = pl2 at hP hD
    have hP : va_P D vwCl ([(x, oRD tx nw tr kn me sl), (nw, oDrv nc (askd S x10 x11) (lN (kL (askd S x10 x11) 0 40))), (nc, aI yI 48 G9), (me, oMem rg (if nx + 1 < 14 then nx + 1 else 0) (min (ct + 1) 14)), (rg, aD yD 14 (va_up f nx.toNat (some q9))), (kn, oKn pk ex), (ex, aI yI 1681 E), (qa, aI yI 9 (qS S)), (aa, aI yI 48 gl), (sa, aJ yL 16 F), (ga, aI yI 12 fA), (so, aI yI 12 fS)] ++ pl2) H := hP
    have hD : va_D A ([(x, oRD tx nw tr kn me sl), (nw, oDrv nc (askd S x10 x11) (lN (kL (askd S x10 x11) 0 40))), (nc, aI yI 48 G9), (me, oMem rg (if nx + 1 < 14 then nx + 1 else 0) (min (ct + 1) 14)), (rg, aD yD 14 (va_up f nx.toNat (some q9))), (kn, oKn pk ex), (ex, aI yI 1681 E), (qa, aI yI 9 (qS S)), (aa, aI yI 48 gl), (sa, aJ yL 16 F), (ga, aI yI 12 fA), (so, aI yI 12 fS)] ++ pl2) := hD
    refine lv_iload hx hb dL_law_228 (lv_at hl 0 rfl) ?_
    refine iv_if_eq (a := 1) (tgt := 245) hx hb (by omega) dL_law_230 (by decide) (fun c230 => ?_) (fun c230 => ?_)
    · exact absurd c230 (by omega)
    · refine lv_iload hx hb dL_law_233 (lv_at hl 2 rfl) ?_
      refine lv_iload hx hb dL_law_235 (lv_at hl 1 rfl) ?_
      refine lv_aload_n hx hb dL_law_237 rfl (lv_at hl 5 rfl) ?_
      refine lv_aload_n hx hb dL_law_238 rfl (lv_at hl 6 rfl) ?_
      refine iv_rwS (As := [.int (iI x10), .int (iI x11), .ref qa, .ref aa]) (rest := [.int (iI (told S x10 x11))]) (n := 4) ⟨hx, hb, hml, hown, hts⟩ (c_L_asked l D yI yC yD yL qa aa S gl x10 x11 (hI) (hRl) (h9) (by omega) _) (va_cwS 4 hts gL_law_L_asked rfl rfl rfl (by decide +kernel) ⟨Nat.le_of_ble_eq_true rfl, Nat.le_of_ble_eq_true rfl⟩) hK hP hD hS hA [7, 8] (by decide) rfl rfl hl.1 rfl (Nat.le_of_ble_eq_true rfl) dL_law_239 ⟨(by show _ ≤ (600130 : Nat); omega), (by show _ ≤ (7301079 : Nat); omega)⟩ (fun _ => by simp only [List.map_cons, List.map_nil]) (fun r239 u239 H locs hw239 hP hD hS => ?_)
      obtain ⟨G9239, hu239⟩ : ∃ z, z = u239 := ⟨_, rfl⟩
      subst hu239
      obtain ⟨hr239, hR9_239⟩ := hw239
      subst hr239
      have hP : va_P D vwCl ([(x, oRD tx nw tr kn me sl), (nw, oDrv nc (askd S x10 x11) (lN (kL (askd S x10 x11) 0 40))), (nc, aI yI 48 G9), (me, oMem rg (if nx + 1 < 14 then nx + 1 else 0) (min (ct + 1) 14)), (rg, aD yD 14 (va_up f nx.toNat (some q9))), (kn, oKn pk ex), (ex, aI yI 1681 E), (qa, aI yI 9 (qS (askd S x10 x11))), (aa, aI yI 48 G9239), (sa, aJ yL 16 F), (ga, aI yI 12 fA), (so, aI yI 12 fS)] ++ pl2) H := hP
      have hD : va_D A ([(x, oRD tx nw tr kn me sl), (nw, oDrv nc (askd S x10 x11) (lN (kL (askd S x10 x11) 0 40))), (nc, aI yI 48 G9), (me, oMem rg (if nx + 1 < 14 then nx + 1 else 0) (min (ct + 1) 14)), (rg, aD yD 14 (va_up f nx.toNat (some q9))), (kn, oKn pk ex), (ex, aI yI 1681 E), (qa, aI yI 9 (qS (askd S x10 x11))), (aa, aI yI 48 G9239), (sa, aJ yL 16 F), (ga, aI yI 12 fA), (so, aI yI 12 fS)] ++ pl2) := hD
      refine lv_goto (tgt := 247) hx hb dL_law_242 (by decide) ?_
      refine iv_icmp_eq (a := told S x10 x11) (b := told S x10 x11) (tgt := 252) hx hb (by omega) (by omega) dL_law_247 (by decide) (fun c247 => ?_) (fun c247 => ?_)
      · refine lv_goto (tgt := 563) hx hb dL_law_252 (by decide) ?_
        rw [← hplq2] at hP hD
        refine K _ _ _ ?_
        refine ⟨x, tx, nw, tr, kn, me, sl, nc, ex, rg, qa, aa, sa, ga, so, (askd S x10 x11), G9, E, G9239, fA, fS, pk, (if nx + 1 < 14 then nx + 1 else 0), (min (ct + 1) 14), F, (va_up f nx.toNat (some q9)), fs, (enU en nx.toNat (q9, qc9, S, g)), ?_⟩
        refine ⟨hP, hD, hS, lv_sub hl [3, 4, 5, 6, 7, 8, 9, 10] rfl, (inv_askd hI (by omega)), (hR9), (hR9_239), (by rw [askd_0 hI]; exact h9), (by rw [askd_6 hI]; omega), (by refine ⟨?_, ?_, by omega, by omega⟩ <;> split <;> omega), (fO_ring hfO (by omega) (q9, qc9, S, g))⟩
      · exact absurd (by omega) c247
