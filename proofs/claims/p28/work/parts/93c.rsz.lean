theorem q0_all {pn : Int} {m8 : Nat} : ∀ z, 0 ≤ z → z < 9 → up (up (up (up (up (fun _ => 0) 0 pn) 1 3) 2 2) 3 1) 8 (m8 : Int) z = q0F pn m8 z := by
  intro z h0 h1
  unfold up q0F
  dsimp only
  repeat' split
  all_goals first | rfl | omega
theorem ist_0 {pn : Int} {m8 : Nat} (hp : 8 ≤ pn ∧ pn ≤ 9) : Ist (rsz (newS 16) pn) pn m8 0 := by
  have e : ∀ z : Int, z ≠ 0 → z < 8 → rsz (newS 16) pn z = forgetA (newS 16) z := fun z h0 h1 => by
    unfold rsz
    rw [if_neg h0, if_neg (by omega)]
  refine ⟨⟨if_pos rfl, ?_, ?_, ?_, ?_, ?_, ?_, ?_⟩, fun j h0 h1 => ?_⟩
  · rw [e 1 (by omega) (by omega)]
    rfl
  · rw [e 2 (by omega) (by omega)]
    rfl
  · rw [e 3 (by omega) (by omega)]
    rfl
  · rw [e 4 (by omega) (by omega)]
    rfl
  · rw [e 5 (by omega) (by omega)]
    rfl
  · rw [e 6 (by omega) (by omega)]
    rfl
  · rw [e 7 (by omega) (by omega)]
    rfl
  · rw [if_neg (show ¬ j < 0 by omega)]
    unfold rsz
    rw [if_neg (by omega)]
    split
    · rfl
    · rw [forgetA_k (by omega) (by omega)]
      unfold newS
      rw [if_neg (by omega), if_neg (by omega), if_neg (by omega), if_neg (by omega)]
theorem rsz_k0 {pn : Int} (hp : 8 ≤ pn ∧ pn ≤ 9) : keysIn (rsz (newS 16) pn) 0 (pn - 1) = 0 := by
  unfold keysIn
  refine ksum_z _ 0 (fun j h0 h1 => ?_)
  have h := (ist_0 (m8 := 0) hp).2 j h0 (by omega)
  rw [if_neg (by omega)] at h
  exact h
abbrev LIR (D : va_G) (yI yC yD yL : ClassId) (s : State) (A : Nat → Prop) (b : Nat) (pn : Int) (m8 : Nat) (H : Heap) (locs : List Loc) (ls : Array Slot) : Prop :=
  ∃ (x tx nw tr kn me sl nc ex rg qa aa sa ga so : Nat) (S g E gl fA fS : Int → Int) (pk nx ct : Int) (F : Nat → Int64) (f fs : Nat → Option Nat) (en : Nat → Option DE),
    va_P D vwCl ([(x, oRD tx nw tr kn me sl), (nw, oDrv nc S (lN (kL (S) 0 40))), (nc, aI yI 48 g), (me, oMem rg nx ct), (rg, aD yD 14 f), (kn, oKn pk ex), (ex, aI yI 1681 E), (qa, aI yI 9 (q0F pn m8)), (aa, aI yI 48 gl), (sa, aJ yL 16 F), (ga, aI yI 12 fA), (so, aI yI 12 fS)] ++ plE yI en 16) H ∧ va_D A ([(x, oRD tx nw tr kn me sl), (nw, oDrv nc S (lN (kL (S) 0 40))), (nc, aI yI 48 g), (me, oMem rg nx ct), (rg, aD yD 14 f), (kn, oKn pk ex), (ex, aI yI 1681 E), (qa, aI yI 9 (q0F pn m8)), (aa, aI yI 48 gl), (sa, aJ yL 16 F), (ga, aI yI 12 fA), (so, aI yI 12 fS)] ++ plE yI en 16) ∧ va_S A s.heap H locs ∧ lv_has ls 14 [(0, .ref b), (1, .ref x), (2, .ref qa), (3, .ref aa), (4, .ref sa), (5, .ref ga), (6, .ref so)] ∧ (Inv S) ∧ (Rc S g) ∧ (0 ≤ nx ∧ nx < 14 ∧ 0 ≤ ct ∧ ct ≤ 14) ∧ (fO en f fs) ∧ (S = newS 16)
set_option maxHeartbeats 8000000 in
set_option maxRecDepth 100000 in
theorem lq_rsz {p : Program} {e : Env} {s : State} {m : MethodId} {below : List Frame} {meth : Method} {c : Code} (l : Launch) (hla : l.stackTraces = false) {b L : Nat} {xs : Nat → Int32} (C0 : lw_At p s m meth c b L xs) (D : va_G) (yI yC yD yL : ClassId) (hK : va_K D vwCl (tyl yI yC yD yL) s) (A : Nat → Prop) (hA : ∀ q : Nat, s.heap.size ≤ q → A q) (hB : XB A s s.heap) {Q : State → Prop} {cells slots : Nat} (hroom : cells + 8 ≤ 600130 ∧ slots + 150 ≤ 7301079) {pn : Int} {m8 : Nat} (hp : 8 ≤ pn ∧ pn ≤ 9) {H : Heap} {locs : List Loc} {ls : Array Slot} (hLI : LIR D yI yC yD yL s A b pn m8 H locs ls) (K : ∀ (H : Heap) (locs : List Loc) (ls : Array Slot), LI0 D yI yC yD yL s A b pn m8 0 H locs ls → W p l e room_1 s m #[Value.ref b] below meth c H locs (cells + 8) (slots + 150) Q (F0 m 95 ls [])) : W p l e room_1 s m #[Value.ref b] below meth c H locs cells slots Q (F0 m 80 ls []) := by
  obtain ⟨hx, hb, hr, hml, hown, hts, hX, hbl, hlocks, hgv⟩ := id C0
  have hKz : va_K D vwCl (tyz yI yC yD) s := hK.sub [0, 1, 2] rfl
  obtain ⟨x, tx, nw, tr, kn, me, sl, nc, ex, rg, qa, aa, sa, ga, so, S, g, E, gl, fA, fS, pk, nx, ct, F, f, fs, en, hP, hD, hS, hl, hI, hR, hme, hfO, hSn⟩ := hLI
  generalize hplq : plE yI en 16 = pl at hP hD
  have hP : va_P D vwCl ([(x, oRD tx nw tr kn me sl), (nw, oDrv nc S (lN (kL (S) 0 40))), (nc, aI yI 48 g), (me, oMem rg nx ct), (rg, aD yD 14 f), (kn, oKn pk ex), (ex, aI yI 1681 E), (qa, aI yI 9 (q0F pn m8)), (aa, aI yI 48 gl), (sa, aJ yL 16 F), (ga, aI yI 12 fA), (so, aI yI 12 fS)] ++ pl) _ := hP
  have hD : va_D A ([(x, oRD tx nw tr kn me sl), (nw, oDrv nc S (lN (kL (S) 0 40))), (nc, aI yI 48 g), (me, oMem rg nx ct), (rg, aD yD 14 f), (kn, oKn pk ex), (ex, aI yI 1681 E), (qa, aI yI 9 (q0F pn m8)), (aa, aI yI 48 gl), (sa, aJ yL 16 F), (ga, aI yI 12 fA), (so, aI yI 12 fS)] ++ pl) := hD
  refine lv_aload_n hx hb dL_law_80 rfl (lv_at hl 1 rfl) ?_
  refine lv_aload_n hx hb dL_law_81 rfl (lv_at hl 2 rfl) ?_
  refine lv_iconst (v := iI 0) hx hb dL_law_82 (by decide +kernel) ?_
  refine iv_aldE hx hb hK hP 7 0 rfl rfl (z := 0) (w := pn) (by first | exact qS_n (by omega) | exact up_s | rfl) (by omega) (by omega) (by omega) dL_law_83 ?_
  obtain ⟨A1, A2, hs1, hs2⟩ := plE_split (yI := yI) (en := en) (j := nx.toNat) 16 (by omega)
  rw [← hplq, hs1] at hP hD
  have hP := va_P.perm (show va_P D vwCl (([(x, oRD tx nw tr kn me sl), (nw, oDrv nc S (lN (kL (S) 0 40))), (nc, aI yI 48 g), (me, oMem rg nx ct), (rg, aD yD 14 f)] ++ [(kn, oKn pk ex), (ex, aI yI 1681 E), (qa, aI yI 9 (q0F pn m8)), (aa, aI yI 48 gl), (sa, aJ yL 16 F), (ga, aI yI 12 fA), (so, aI yI 12 fS)]) ++ (A1 ++ (eC yI (en nx.toNat) ++ A2))) _ from hP) mid2
  have hD := va_D.perm mid2 (show va_D A (([(x, oRD tx nw tr kn me sl), (nw, oDrv nc S (lN (kL (S) 0 40))), (nc, aI yI 48 g), (me, oMem rg nx ct), (rg, aD yD 14 f)] ++ [(kn, oKn pk ex), (ex, aI yI 1681 E), (qa, aI yI 9 (q0F pn m8)), (aa, aI yI 48 gl), (sa, aJ yL 16 F), (ga, aI yI 12 fA), (so, aI yI 12 fS)]) ++ (A1 ++ (eC yI (en nx.toNat) ++ A2))) from hD)
  refine iv_lxV (wc := ([(x, oRD tx nw tr kn me sl), (nw, oDrv nc S (lN (kL (S) 0 40))), (nc, aI yI 48 g), (me, oMem rg nx ct), (rg, aD yD 14 f)] ++ eC yI (en nx.toNat))) (wr := ([(kn, oKn pk ex), (ex, aI yI 1681 E), (qa, aI yI 9 (q0F pn m8)), (aa, aI yI 48 gl), (sa, aJ yL 16 F), (ga, aI yI 12 fA), (so, aI yI 12 fS)] ++ (A1 ++ A2))) (wp := fun (u : Nat × Nat) => match u with | (q9, qc9) => [(x, oRD tx nw tr kn me sl), (nw, oDrv nc (rsz S pn) (lN (kL (rsz S pn) 0 40))), (nc, aI yI 48 g), (me, oMem rg (if nx + 1 < 14 then nx + 1 else 0) (min (ct + 1) 14)), (rg, aD yD 14 (va_up f nx.toNat (some q9))), (q9, oDrv qc9 S (lN (kL (S) 0 40))), (qc9, aI yI 48 g)]) (As := [.int (iI pn)]) (rest := []) (C := RX4) (n := 1) ⟨hx, hb, hml, hown, hts⟩ (c_X4_resize l hla D yI yC yD x tx nw tr kn me sl nc S g rg f nx ct (eC yI (en nx.toNat)) pn (hI) (hR) (hme) (wq_of hfO (by omega)) (⟨by omega, by omega⟩) _) (cwV 1 hts gL_law_X4_resize rfl rfl rfl (by decide +kernel) ⟨Nat.le_of_ble_eq_true rfl, Nat.le_of_ble_eq_true rfl⟩) hKz hP hD hS hA hB rfl rfl (fun u t h => by obtain ⟨q9, qc9⟩ := u; exact h) (fun _ => rfl) rfl hl.1 rfl (Nat.le_of_ble_eq_true rfl) dL_law_84 ⟨(by show _ ≤ (600130 : Nat); omega), (by show _ ≤ (7301079 : Nat); omega)⟩ (fun E9 ce9 ox9 ux H locs hxe hP hD hS hc8 hv8 hcl8 => by exfalso; obtain ⟨_, h⟩ := hxe; omega) (fun r9 u H locs hw hP hD hS => ?_)
  obtain ⟨q9, qc9⟩ := u
  obtain ⟨hr9, hpx9, hR9⟩ := hw
  subst hr9
  have hP := va_P.perm (show va_P D vwCl (([(x, oRD tx nw tr kn me sl), (nw, oDrv nc (rsz S pn) (lN (kL (rsz S pn) 0 40))), (nc, aI yI 48 g), (me, oMem rg (if nx + 1 < 14 then nx + 1 else 0) (min (ct + 1) 14)), (rg, aD yD 14 (va_up f nx.toNat (some q9)))] ++ [(q9, oDrv qc9 S (lN (kL (S) 0 40))), (qc9, aI yI 48 g)]) ++ ([(kn, oKn pk ex), (ex, aI yI 1681 E), (qa, aI yI 9 (q0F pn m8)), (aa, aI yI 48 gl), (sa, aJ yL 16 F), (ga, aI yI 12 fA), (so, aI yI 12 fS)] ++ (A1 ++ A2))) _ from hP) mid2.symm
  have hD := va_D.perm mid2.symm (show va_D A (([(x, oRD tx nw tr kn me sl), (nw, oDrv nc (rsz S pn) (lN (kL (rsz S pn) 0 40))), (nc, aI yI 48 g), (me, oMem rg (if nx + 1 < 14 then nx + 1 else 0) (min (ct + 1) 14)), (rg, aD yD 14 (va_up f nx.toNat (some q9)))] ++ [(q9, oDrv qc9 S (lN (kL (S) 0 40))), (qc9, aI yI 48 g)]) ++ ([(kn, oKn pk ex), (ex, aI yI 1681 E), (qa, aI yI 9 (q0F pn m8)), (aa, aI yI 48 gl), (sa, aJ yL 16 F), (ga, aI yI 12 fA), (so, aI yI 12 fS)] ++ (A1 ++ A2))) from hD)
  have hP : va_P D vwCl ([(x, oRD tx nw tr kn me sl), (nw, oDrv nc (rsz S pn) (lN (kL (rsz S pn) 0 40))), (nc, aI yI 48 g), (me, oMem rg (if nx + 1 < 14 then nx + 1 else 0) (min (ct + 1) 14)), (rg, aD yD 14 (va_up f nx.toNat (some q9))), (kn, oKn pk ex), (ex, aI yI 1681 E), (qa, aI yI 9 (q0F pn m8)), (aa, aI yI 48 gl), (sa, aJ yL 16 F), (ga, aI yI 12 fA), (so, aI yI 12 fS)] ++ (A1 ++ (eC yI (some (q9, qc9, S, g)) ++ A2))) H := hP
  have hD : va_D A ([(x, oRD tx nw tr kn me sl), (nw, oDrv nc (rsz S pn) (lN (kL (rsz S pn) 0 40))), (nc, aI yI 48 g), (me, oMem rg (if nx + 1 < 14 then nx + 1 else 0) (min (ct + 1) 14)), (rg, aD yD 14 (va_up f nx.toNat (some q9))), (kn, oKn pk ex), (ex, aI yI 1681 E), (qa, aI yI 9 (q0F pn m8)), (aa, aI yI 48 gl), (sa, aJ yL 16 F), (ga, aI yI 12 fA), (so, aI yI 12 fS)] ++ (A1 ++ (eC yI (some (q9, qc9, S, g)) ++ A2))) := hD
  rw [← hs2 (some (q9, qc9, S, g))] at hP hD
  have hP : va_P D vwCl ([(x, oRD tx nw tr kn me sl), (nw, oDrv nc (rsz S pn) (lN (kL (rsz S pn) 0 40))), (nc, aI yI 48 g), (me, oMem rg (if nx + 1 < 14 then nx + 1 else 0) (min (ct + 1) 14)), (rg, aD yD 14 (va_up f nx.toNat (some q9))), (kn, oKn pk ex), (ex, aI yI 1681 E), (qa, aI yI 9 (q0F pn m8)), (aa, aI yI 48 gl), (sa, aJ yL 16 F), (ga, aI yI 12 fA), (so, aI yI 12 fS)] ++ plE yI (enU en nx.toNat (q9, qc9, S, g)) 16) _ := hP
  have hD : va_D A ([(x, oRD tx nw tr kn me sl), (nw, oDrv nc (rsz S pn) (lN (kL (rsz S pn) 0 40))), (nc, aI yI 48 g), (me, oMem rg (if nx + 1 < 14 then nx + 1 else 0) (min (ct + 1) 14)), (rg, aD yD 14 (va_up f nx.toNat (some q9))), (kn, oKn pk ex), (ex, aI yI 1681 E), (qa, aI yI 9 (q0F pn m8)), (aa, aI yI 48 gl), (sa, aJ yL 16 F), (ga, aI yI 12 fA), (so, aI yI 12 fS)] ++ plE yI (enU en nx.toNat (q9, qc9, S, g)) 16) := hD
  generalize hplq2 : plE yI (enU en nx.toNat (q9, qc9, S, g)) 16 = pl2 at hP hD
  have hP : va_P D vwCl ([(x, oRD tx nw tr kn me sl), (nw, oDrv nc (rsz S pn) (lN (kL (rsz S pn) 0 40))), (nc, aI yI 48 g), (me, oMem rg (if nx + 1 < 14 then nx + 1 else 0) (min (ct + 1) 14)), (rg, aD yD 14 (va_up f nx.toNat (some q9))), (kn, oKn pk ex), (ex, aI yI 1681 E), (qa, aI yI 9 (q0F pn m8)), (aa, aI yI 48 gl), (sa, aJ yL 16 F), (ga, aI yI 12 fA), (so, aI yI 12 fS)] ++ pl2) H := hP
  have hD : va_D A ([(x, oRD tx nw tr kn me sl), (nw, oDrv nc (rsz S pn) (lN (kL (rsz S pn) 0 40))), (nc, aI yI 48 g), (me, oMem rg (if nx + 1 < 14 then nx + 1 else 0) (min (ct + 1) 14)), (rg, aD yD 14 (va_up f nx.toNat (some q9))), (kn, oKn pk ex), (ex, aI yI 1681 E), (qa, aI yI 9 (q0F pn m8)), (aa, aI yI 48 gl), (sa, aJ yL 16 F), (ga, aI yI 12 fA), (so, aI yI 12 fS)] ++ pl2) := hD
  have hk0 : keysIn (rsz S pn) 0 (pn - 1) = 0 := by rw [hSn]; exact rsz_k0 hp
  refine iv_if_eq (a := keysIn (rsz S pn) 0 (pn - 1)) (tgt := 92) hx hb (by omega) dL_law_87 (by decide) (fun c87 => ?_) (fun c87 => ?_)
  · refine lv_iconst (v := iI 0) hx hb dL_law_92 (by decide +kernel) ?_
    refine lv_istore (lv' := [(7, .int (iI 0)), (0, .ref b), (1, .ref x), (2, .ref qa), (3, .ref aa), (4, .ref sa), (5, .ref ga), (6, .ref so)]) hx hb dL_law_93 hl (by decide) rfl (fun ls hl => ?_)
    rw [← hplq2] at hP hD
    refine K _ _ _ ?_
    refine ⟨x, tx, nw, tr, kn, me, sl, nc, ex, rg, qa, aa, sa, ga, so, (rsz S pn), g, E, gl, fA, fS, pk, (if nx + 1 < 14 then nx + 1 else 0), (min (ct + 1) 14), F, (va_up f nx.toNat (some q9)), fs, (enU en nx.toNat (q9, qc9, S, g)), ?_⟩
    refine ⟨hP, hD, hS, lv_sub hl [1, 2, 3, 4, 5, 6, 7, 0] rfl, (inv_rsz hI (by omega)), (hR9), (by refine ⟨?_, ?_, by omega, by omega⟩ <;> split <;> omega), (fO_ring hfO (by omega) (q9, qc9, S, g)), (by rw [hSn]; exact ist_0 hp)⟩
  · exact absurd hk0 c87
