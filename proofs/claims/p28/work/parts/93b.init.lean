/-- places pn, keys m8, of which the first k9 places are written -/
def Ist (S : Int → Int) (pn : Int) (m8 : Nat) (k9 : Int) : Prop := (S 0 = pn ∧ S 1 = 3 ∧ S 2 = 2 ∧ S 3 = 1 ∧ S 4 = 0 ∧ S 5 = 0 ∧ S 6 = 0 ∧ S 7 = 0) ∧ ∀ j : Int, 0 ≤ j → j < 40 → S (8 + j) = if j < k9 then ((m8 / 2 ^ j.toNat % 2 : Nat) : Int) else 0
def q0F (pn : Int) (m8 : Nat) : Int → Int := fun z => if z = 0 then pn else if z = 1 then 3 else if z = 2 then 2 else if z = 3 then 1 else if z = 8 then (m8 : Int) else 0
theorem ist_kL {S : Int → Int} {pn : Int} {m8 : Nat} (hp : 8 ≤ pn ∧ pn ≤ 9) (hI : Inv S) (hm : m8 < 2 ^ pn.toNat) (h : Ist S pn m8 pn) : kL S 0 40 = m8 := by
  have hl := kq_lt hI (by have := h.1.1; omega)
  have h9 : 2 ^ pn.toNat ≤ 2 ^ 9 := pw_le (by omega)
  apply Nat.eq_of_testBit_eq
  intro i
  by_cases q : i < 40
  · have h1 := kL_bit (S := S) (n := 40) (a := 0) (j := i) q (fun j h0 h1 => hI.key h0 (by omega))
    have h2 := h.2 i (by omega) (by omega)
    rw [Nat.testBit_eq_decide_div_mod_eq, Nat.testBit_eq_decide_div_mod_eq, h1, show (0 : Int) + (i : Int) = i by omega, h2]
    by_cases z : (i : Int) < pn
    · rw [if_pos z]
      rfl
    · have h3 : m8 / 2 ^ i = 0 := Nat.div_eq_of_lt (Nat.lt_of_lt_of_le hm (pw_le (by omega)))
      rw [if_neg z, h3]
      rfl
  · rw [Nat.testBit_lt_two_pow (Nat.lt_of_lt_of_le (show kL S 0 40 < 2 ^ 9 by omega) (pw_le (by omega))), Nat.testBit_lt_two_pow (Nat.lt_of_lt_of_le hm (pw_le (by omega)))]
theorem ist_q {S : Int → Int} {pn : Int} {m8 : Nat} (hp : 8 ≤ pn ∧ pn ≤ 9) (hI : Inv S) (hm : m8 < 2 ^ pn.toNat) (h : Ist S pn m8 pn) : ∀ z, 0 ≤ z → z < 9 → q0F pn m8 z = qS S z := by
  intro z h0 h1
  obtain ⟨⟨a0, a1, a2, a3, a4, a5, a6, a7⟩, -⟩ := id h
  rcases (show z = 0 ∨ z = 1 ∨ z = 2 ∨ z = 3 ∨ z = 4 ∨ z = 5 ∨ z = 6 ∨ z = 7 ∨ z = 8 by omega) with rfl | rfl | rfl | rfl | rfl | rfl | rfl | rfl | rfl
  · exact a0.symm
  · exact a1.symm
  · exact a2.symm
  · exact a3.symm
  · exact a4.symm
  · exact a5.symm
  · exact a6.symm
  · exact a7.symm
  · rw [qS_8, ist_kL hp hI hm h]
    rfl
theorem ist_wr {S : Int → Int} {pn k9 : Int} {m8 : Nat} (hk : 0 ≤ k9 ∧ k9 < 40) (h : Ist S pn m8 k9) (hb : ((m8 / 2 ^ k9.toNat % 2 : Nat) : Int) = 1) : wr S k9 1 = up S (8 + k9) 1 := by
  obtain ⟨⟨a0, a1, a2, a3, a4, a5, a6, a7⟩, hk2⟩ := h
  have h1 := hk2 k9 hk.1 hk.2
  rw [if_neg (by omega)] at h1
  unfold wr
  rw [if_neg (by omega), a4]
  rfl
theorem ist_y {S : Int → Int} {pn k9 : Int} {m8 : Nat} (hk : 0 ≤ k9 ∧ k9 < 40) (h : Ist S pn m8 k9) (hb : ((m8 / 2 ^ k9.toNat % 2 : Nat) : Int) = 1) : Ist (wr S k9 1) pn m8 (k9 + 1) := by
  rw [ist_wr hk h hb]
  obtain ⟨⟨a0, a1, a2, a3, a4, a5, a6, a7⟩, hk2⟩ := h
  refine ⟨⟨by rw [up_n (by omega)]; exact a0, by rw [up_n (by omega)]; exact a1, by rw [up_n (by omega)]; exact a2, by rw [up_n (by omega)]; exact a3, by rw [up_n (by omega)]; exact a4, by rw [up_n (by omega)]; exact a5, by rw [up_n (by omega)]; exact a6, by rw [up_n (by omega)]; exact a7⟩, fun j q0 q1 => ?_⟩
  by_cases e : j = k9
  · rw [e, up_s, if_pos (by omega)]
    exact hb.symm
  · rw [up_n (by omega), hk2 j q0 q1]
    by_cases z : j < k9
    · rw [if_pos z, if_pos (by omega)]
    · rw [if_neg z, if_neg (by omega)]
theorem ist_n {S : Int → Int} {pn k9 : Int} {m8 : Nat} (hk : 0 ≤ k9 ∧ k9 < 40) (h : Ist S pn m8 k9) (hb : ¬ ((m8 / 2 ^ k9.toNat % 2 : Nat) : Int) = 1) : Ist S pn m8 (k9 + 1) := by
  obtain ⟨h1, hk2⟩ := h
  refine ⟨h1, fun j q0 q1 => ?_⟩
  rw [hk2 j q0 q1]
  by_cases e : j = k9
  · rw [e, if_neg (by omega), if_pos (by omega)]
    omega
  · by_cases z : j < k9
    · rw [if_pos z, if_pos (by omega)]
    · rw [if_neg z, if_neg (by omega)]
theorem q0_bit {m8 : Nat} {k9 : Int} (hm : m8 < 1024) (hk : 0 ≤ k9 ∧ k9 < 10) : ia (isr (m8 : Int) k9) 1 = ((m8 / 2 ^ k9.toNat % 2 : Nat) : Int) := by
  have h := bit_e (v := (m8 : Int)) (n := k9.toNat) (by omega) (by omega)
  rw [Int.toNat_of_nonneg hk.1] at h
  exact h
abbrev LI0 (D : va_G) (yI yC yD yL : ClassId) (s : State) (A : Nat → Prop) (b : Nat) (pn : Int) (m8 : Nat) (k9 : Int) (H : Heap) (locs : List Loc) (ls : Array Slot) : Prop :=
  ∃ (x tx nw tr kn me sl nc ex rg qa aa sa ga so : Nat) (S g E gl fA fS : Int → Int) (pk nx ct : Int) (F : Nat → Int64) (f fs : Nat → Option Nat) (en : Nat → Option DE),
    va_P D vwCl ([(x, oRD tx nw tr kn me sl), (nw, oDrv nc S (lN (kL (S) 0 40))), (nc, aI yI 48 g), (me, oMem rg nx ct), (rg, aD yD 14 f), (kn, oKn pk ex), (ex, aI yI 1681 E), (qa, aI yI 9 (q0F pn m8)), (aa, aI yI 48 gl), (sa, aJ yL 16 F), (ga, aI yI 12 fA), (so, aI yI 12 fS)] ++ plE yI en 16) H ∧ va_D A ([(x, oRD tx nw tr kn me sl), (nw, oDrv nc S (lN (kL (S) 0 40))), (nc, aI yI 48 g), (me, oMem rg nx ct), (rg, aD yD 14 f), (kn, oKn pk ex), (ex, aI yI 1681 E), (qa, aI yI 9 (q0F pn m8)), (aa, aI yI 48 gl), (sa, aJ yL 16 F), (ga, aI yI 12 fA), (so, aI yI 12 fS)] ++ plE yI en 16) ∧ va_S A s.heap H locs ∧ lv_has ls 14 [(0, .ref b), (1, .ref x), (2, .ref qa), (3, .ref aa), (4, .ref sa), (5, .ref ga), (6, .ref so), (7, .int (iI k9))] ∧ (Inv S) ∧ (Rc S g) ∧ (0 ≤ nx ∧ nx < 14 ∧ 0 ≤ ct ∧ ct ≤ 14) ∧ (fO en f fs) ∧ (Ist S pn m8 k9)
set_option maxHeartbeats 8000000 in
set_option maxRecDepth 100000 in
theorem lq_init {p : Program} {e : Env} {s : State} {m : MethodId} {below : List Frame} {meth : Method} {c : Code} (l : Launch) (hla : l.stackTraces = false) {b L : Nat} {xs : Nat → Int32} (C0 : lw_At p s m meth c b L xs) (D : va_G) (yI yC yD yL : ClassId) (hK : va_K D vwCl (tyl yI yC yD yL) s) (A : Nat → Prop) (hA : ∀ q : Nat, s.heap.size ≤ q → A q) (hB : XB A s s.heap) {Q : State → Prop} {cells slots : Nat} (hroom : cells + 8 ≤ 600130 ∧ slots + 150 ≤ 7301079) {pn k9 : Int} {m8 : Nat} (hp : 8 ≤ pn ∧ pn ≤ 9) (hm : m8 < 2 ^ pn.toNat) (hk9 : 0 ≤ k9 ∧ k9 ≤ pn) {H : Heap} {locs : List Loc} {ls : Array Slot} (hLI : LI0 D yI yC yD yL s A b pn m8 k9 H locs ls) (K : ∀ (H : Heap) (locs : List Loc) (ls : Array Slot), k9 < pn → LI0 D yI yC yD yL s A b pn m8 (k9 + 1) H locs ls → W p l e room_1 s m #[Value.ref b] below meth c H locs (cells + 8) (slots + 150) Q (F0 m 95 ls [])) (K2 : ∀ (H : Heap) (locs : List Loc) (ls : Array Slot), LI D yI yC yD yL s A b 0 0 [] H locs ls → W p l e room_1 s m #[Value.ref b] below meth c H locs cells slots Q (F0 m 137 ls [])) : W p l e room_1 s m #[Value.ref b] below meth c H locs cells slots Q (F0 m 95 ls []) := by
  obtain ⟨hx, hb, hr, hml, hown, hts, hX, hbl, hlocks, hgv⟩ := id C0
  have hKz : va_K D vwCl (tyz yI yC yD) s := hK.sub [0, 1, 2] rfl
  obtain ⟨x, tx, nw, tr, kn, me, sl, nc, ex, rg, qa, aa, sa, ga, so, S, g, E, gl, fA, fS, pk, nx, ct, F, f, fs, en, hP, hD, hS, hl, hI, hR, hme, hfO, hIs⟩ := hLI
  generalize hplq : plE yI en 16 = pl at hP hD
  have hP : va_P D vwCl ([(x, oRD tx nw tr kn me sl), (nw, oDrv nc S (lN (kL (S) 0 40))), (nc, aI yI 48 g), (me, oMem rg nx ct), (rg, aD yD 14 f), (kn, oKn pk ex), (ex, aI yI 1681 E), (qa, aI yI 9 (q0F pn m8)), (aa, aI yI 48 gl), (sa, aJ yL 16 F), (ga, aI yI 12 fA), (so, aI yI 12 fS)] ++ pl) _ := hP
  have hD : va_D A ([(x, oRD tx nw tr kn me sl), (nw, oDrv nc S (lN (kL (S) 0 40))), (nc, aI yI 48 g), (me, oMem rg nx ct), (rg, aD yD 14 f), (kn, oKn pk ex), (ex, aI yI 1681 E), (qa, aI yI 9 (q0F pn m8)), (aa, aI yI 48 gl), (sa, aJ yL 16 F), (ga, aI yI 12 fA), (so, aI yI 12 fS)] ++ pl) := hD
  have hpl := hI.pl
  have hna := hI.na
  have hS0 := hIs.1.1
  have hm9 : m8 < 1024 := Nat.lt_of_lt_of_le hm (pw_le (n := 10) (by omega))
  refine lv_iload hx hb dL_law_95 (lv_at hl 7 rfl) ?_
  refine lv_aload_n hx hb dL_law_97 rfl (lv_at hl 2 rfl) ?_
  refine lv_iconst (v := iI 0) hx hb dL_law_98 (by decide +kernel) ?_
  refine iv_aldE hx hb hK hP 7 0 rfl rfl (z := 0) (w := pn) (by first | exact qS_n (by omega) | exact up_s | rfl) (by omega) (by omega) (by omega) dL_law_99 ?_
  refine iv_icmp_ge (a := k9) (b := pn) (tgt := 134) hx hb (by omega) (by omega) dL_law_100 (by decide) (fun c100 => ?_) (fun c100 => ?_)
  · refine lv_iconst (v := iI 0) hx hb dL_law_134 (by decide +kernel) ?_
    refine lv_istore (lv' := [(7, .int (iI 0)), (0, .ref b), (1, .ref x), (2, .ref qa), (3, .ref aa), (4, .ref sa), (5, .ref ga), (6, .ref so)]) hx hb dL_law_135 hl (by decide) rfl (fun ls hl => ?_)
    have hkp : k9 = pn := by omega
    have hIs9 : Ist S pn m8 pn := by have h := hIs; rw [hkp] at h; exact h
    have hP := va_P.arr hP 7 (g := qS S) rfl (ist_q hp hI hm hIs9)
    have hD : va_D A ([(x, oRD tx nw tr kn me sl), (nw, oDrv nc S (lN (kL (S) 0 40))), (nc, aI yI 48 g), (me, oMem rg nx ct), (rg, aD yD 14 f), (kn, oKn pk ex), (ex, aI yI 1681 E), (qa, aI yI 9 (qS S)), (aa, aI yI 48 gl), (sa, aJ yL 16 F), (ga, aI yI 12 fA), (so, aI yI 12 fS)] ++ pl) := hD.set (p := 7) rfl
    have hP : va_P D vwCl ([(x, oRD tx nw tr kn me sl), (nw, oDrv nc S (lN (kL (S) 0 40))), (nc, aI yI 48 g), (me, oMem rg nx ct), (rg, aD yD 14 f), (kn, oKn pk ex), (ex, aI yI 1681 E), (qa, aI yI 9 (qS S)), (aa, aI yI 48 gl), (sa, aJ yL 16 F), (ga, aI yI 12 fA), (so, aI yI 12 fS)] ++ pl) _ := hP
    rw [← hplq] at hP hD
    refine K2 _ _ _ ?_
    refine ⟨x, tx, nw, tr, kn, me, sl, nc, ex, rg, qa, aa, sa, ga, so, S, g, E, gl, fA, fS, pk, nx, ct, F, f, fs, en, ?_⟩
    refine ⟨hP, hD, hS, lv_sub hl [1, 2, 3, 4, 5, 6, 7, 0] rfl, (hI), (hR), (fun i w h0 h1 => (by have := hIs.1.2.2.2.2.1; omega)), (by have := hIs.1.1; omega), (by have := hIs.1.2.2.2.2.2.2.1; omega), (hme), (hfO)⟩
  · refine lv_aload_n hx hb dL_law_103 rfl (lv_at hl 2 rfl) ?_
    refine lv_bipush (v := iI 8) hx hb dL_law_104 (by decide +kernel) ?_
    refine iv_aldE hx hb hK hP 7 0 rfl rfl (z := 8) (w := (m8 : Int)) (by first | exact qS_n (by omega) | exact up_s | rfl) (by omega) (by omega) (by omega) dL_law_106 ?_
    refine lv_iload hx hb dL_law_107 (lv_at hl 7 rfl) ?_
    refine lv_ishr hx hb dL_law_109 ?_
    rw [isr_i (m8 : Int) k9]
    refine lv_iconst (v := iI 1) hx hb dL_law_110 (by decide +kernel) ?_
    refine lv_iand hx hb dL_law_111 ?_
    rw [ia_i (isr (m8 : Int) k9) 1]
    rw [show (ia (isr (m8 : Int) k9) 1 : Int) = ((m8 / 2 ^ k9.toNat % 2 : Nat) : Int) from (q0_bit hm9 (by omega))]
    refine lv_iconst (v := iI 1) hx hb dL_law_112 (by decide +kernel) ?_
    refine iv_icmp_ne (a := ((m8 / 2 ^ k9.toNat % 2 : Nat) : Int)) (b := 1) (tgt := 128) hx hb (by omega) (by omega) dL_law_113 (by decide) (fun c113 => ?_) (fun c113 => ?_)
    · refine iv_inc (lv' := [(7, .int (iI (k9 + 1))), (0, .ref b), (1, .ref x), (2, .ref qa), (3, .ref aa), (4, .ref sa), (5, .ref ga), (6, .ref so)]) hx hb dL_law_128 hl (k := 7) rfl (by decide) rfl (fun ls hl => ?_)
      refine lv_goto (tgt := 95) hx hb dL_law_131 (by decide) ?_
      refine W.widen (k := cells + 8) (n := slots + 150) (by omega) (by omega) ?_
      rw [← hplq] at hP hD
      refine K _ _ _ (by omega) ?_
      refine ⟨x, tx, nw, tr, kn, me, sl, nc, ex, rg, qa, aa, sa, ga, so, S, g, E, gl, fA, fS, pk, nx, ct, F, f, fs, en, ?_⟩
      refine ⟨hP, hD, hS, lv_sub hl [1, 2, 3, 4, 5, 6, 7, 0] rfl, (hI), (hR), (hme), (hfO), (ist_n (by omega) hIs c113)⟩
    · refine lv_aload_n hx hb dL_law_116 rfl (lv_at hl 1 rfl) ?_
      refine lv_iload hx hb dL_law_117 (lv_at hl 7 rfl) ?_
      refine lv_iconst (v := iI 1) hx hb dL_law_119 (by decide +kernel) ?_
      have hwz : S 4 - wr S k9 1 4 = 0 := by rw [ist_wr (by omega) hIs c113, up_n (by omega)]; omega
      obtain ⟨A1, A2, hs1, hs2⟩ := plE_split (yI := yI) (en := en) (j := nx.toNat) 16 (by omega)
      rw [← hplq, hs1] at hP hD
      have hP := va_P.perm (show va_P D vwCl (([(x, oRD tx nw tr kn me sl), (nw, oDrv nc S (lN (kL (S) 0 40))), (nc, aI yI 48 g), (me, oMem rg nx ct), (rg, aD yD 14 f)] ++ [(kn, oKn pk ex), (ex, aI yI 1681 E), (qa, aI yI 9 (q0F pn m8)), (aa, aI yI 48 gl), (sa, aJ yL 16 F), (ga, aI yI 12 fA), (so, aI yI 12 fS)]) ++ (A1 ++ (eC yI (en nx.toNat) ++ A2))) _ from hP) mid2
      have hD := va_D.perm mid2 (show va_D A (([(x, oRD tx nw tr kn me sl), (nw, oDrv nc S (lN (kL (S) 0 40))), (nc, aI yI 48 g), (me, oMem rg nx ct), (rg, aD yD 14 f)] ++ [(kn, oKn pk ex), (ex, aI yI 1681 E), (qa, aI yI 9 (q0F pn m8)), (aa, aI yI 48 gl), (sa, aJ yL 16 F), (ga, aI yI 12 fA), (so, aI yI 12 fS)]) ++ (A1 ++ (eC yI (en nx.toNat) ++ A2))) from hD)
      refine iv_lxV (wc := ([(x, oRD tx nw tr kn me sl), (nw, oDrv nc S (lN (kL (S) 0 40))), (nc, aI yI 48 g), (me, oMem rg nx ct), (rg, aD yD 14 f)] ++ eC yI (en nx.toNat))) (wr := ([(kn, oKn pk ex), (ex, aI yI 1681 E), (qa, aI yI 9 (q0F pn m8)), (aa, aI yI 48 gl), (sa, aJ yL 16 F), (ga, aI yI 12 fA), (so, aI yI 12 fS)] ++ (A1 ++ A2))) (wp := fun (u : Nat × Nat × (Int → Int)) => match u with | (q9, qc9, G9) => [(x, oRD tx nw tr kn me sl), (nw, oDrv nc (wr S k9 1) (lN (kL (wr S k9 1) 0 40))), (nc, aI yI 48 G9), (me, oMem rg (if nx + 1 < 14 then nx + 1 else 0) (min (ct + 1) 14)), (rg, aD yD 14 (va_up f nx.toNat (some q9))), (q9, oDrv qc9 S (lN (kL (S) 0 40))), (qc9, aI yI 48 g)]) (As := [.int (iI k9), .int (iI 1)]) (rest := []) (C := RX4) (n := 2) ⟨hx, hb, hml, hown, hts⟩ (c_X4_write l hla D yI yC yD x tx nw tr kn me sl nc S g rg f nx ct (eC yI (en nx.toNat)) k9 1 (hI) (hR) (hme) (wq_of hfO (by omega)) (⟨by omega, by omega⟩) (by omega) _) (cwV 2 hts gL_law_X4_write rfl rfl rfl (by decide +kernel) ⟨Nat.le_of_ble_eq_true rfl, Nat.le_of_ble_eq_true rfl⟩) hKz hP hD hS hA hB rfl rfl (fun u t h => by obtain ⟨q9, qc9, G9⟩ := u; exact h) (fun _ => rfl) rfl hl.1 rfl (Nat.le_of_ble_eq_true rfl) dL_law_120 ⟨(by show _ ≤ (600130 : Nat); omega), (by show _ ≤ (7301079 : Nat); omega)⟩ (fun E9 ce9 ox9 ux H locs hxe hP hD hS hc8 hv8 hcl8 => by exfalso; obtain ⟨_, h⟩ := hxe; omega) (fun r9 u H locs hw hP hD hS => ?_)
      obtain ⟨q9, qc9, G9⟩ := u
      obtain ⟨hr9, hpx9, hR9⟩ := hw
      subst hr9
      have hP := va_P.perm (show va_P D vwCl (([(x, oRD tx nw tr kn me sl), (nw, oDrv nc (wr S k9 1) (lN (kL (wr S k9 1) 0 40))), (nc, aI yI 48 G9), (me, oMem rg (if nx + 1 < 14 then nx + 1 else 0) (min (ct + 1) 14)), (rg, aD yD 14 (va_up f nx.toNat (some q9)))] ++ [(q9, oDrv qc9 S (lN (kL (S) 0 40))), (qc9, aI yI 48 g)]) ++ ([(kn, oKn pk ex), (ex, aI yI 1681 E), (qa, aI yI 9 (q0F pn m8)), (aa, aI yI 48 gl), (sa, aJ yL 16 F), (ga, aI yI 12 fA), (so, aI yI 12 fS)] ++ (A1 ++ A2))) _ from hP) mid2.symm
      have hD := va_D.perm mid2.symm (show va_D A (([(x, oRD tx nw tr kn me sl), (nw, oDrv nc (wr S k9 1) (lN (kL (wr S k9 1) 0 40))), (nc, aI yI 48 G9), (me, oMem rg (if nx + 1 < 14 then nx + 1 else 0) (min (ct + 1) 14)), (rg, aD yD 14 (va_up f nx.toNat (some q9)))] ++ [(q9, oDrv qc9 S (lN (kL (S) 0 40))), (qc9, aI yI 48 g)]) ++ ([(kn, oKn pk ex), (ex, aI yI 1681 E), (qa, aI yI 9 (q0F pn m8)), (aa, aI yI 48 gl), (sa, aJ yL 16 F), (ga, aI yI 12 fA), (so, aI yI 12 fS)] ++ (A1 ++ A2))) from hD)
      have hP : va_P D vwCl ([(x, oRD tx nw tr kn me sl), (nw, oDrv nc (wr S k9 1) (lN (kL (wr S k9 1) 0 40))), (nc, aI yI 48 G9), (me, oMem rg (if nx + 1 < 14 then nx + 1 else 0) (min (ct + 1) 14)), (rg, aD yD 14 (va_up f nx.toNat (some q9))), (kn, oKn pk ex), (ex, aI yI 1681 E), (qa, aI yI 9 (q0F pn m8)), (aa, aI yI 48 gl), (sa, aJ yL 16 F), (ga, aI yI 12 fA), (so, aI yI 12 fS)] ++ (A1 ++ (eC yI (some (q9, qc9, S, g)) ++ A2))) H := hP
      have hD : va_D A ([(x, oRD tx nw tr kn me sl), (nw, oDrv nc (wr S k9 1) (lN (kL (wr S k9 1) 0 40))), (nc, aI yI 48 G9), (me, oMem rg (if nx + 1 < 14 then nx + 1 else 0) (min (ct + 1) 14)), (rg, aD yD 14 (va_up f nx.toNat (some q9))), (kn, oKn pk ex), (ex, aI yI 1681 E), (qa, aI yI 9 (q0F pn m8)), (aa, aI yI 48 gl), (sa, aJ yL 16 F), (ga, aI yI 12 fA), (so, aI yI 12 fS)] ++ (A1 ++ (eC yI (some (q9, qc9, S, g)) ++ A2))) := hD
      rw [← hs2 (some (q9, qc9, S, g))] at hP hD
      have hP : va_P D vwCl ([(x, oRD tx nw tr kn me sl), (nw, oDrv nc (wr S k9 1) (lN (kL (wr S k9 1) 0 40))), (nc, aI yI 48 G9), (me, oMem rg (if nx + 1 < 14 then nx + 1 else 0) (min (ct + 1) 14)), (rg, aD yD 14 (va_up f nx.toNat (some q9))), (kn, oKn pk ex), (ex, aI yI 1681 E), (qa, aI yI 9 (q0F pn m8)), (aa, aI yI 48 gl), (sa, aJ yL 16 F), (ga, aI yI 12 fA), (so, aI yI 12 fS)] ++ plE yI (enU en nx.toNat (q9, qc9, S, g)) 16) _ := hP
      have hD : va_D A ([(x, oRD tx nw tr kn me sl), (nw, oDrv nc (wr S k9 1) (lN (kL (wr S k9 1) 0 40))), (nc, aI yI 48 G9), (me, oMem rg (if nx + 1 < 14 then nx + 1 else 0) (min (ct + 1) 14)), (rg, aD yD 14 (va_up f nx.toNat (some q9))), (kn, oKn pk ex), (ex, aI yI 1681 E), (qa, aI yI 9 (q0F pn m8)), (aa, aI yI 48 gl), (sa, aJ yL 16 F), (ga, aI yI 12 fA), (so, aI yI 12 fS)] ++ plE yI (enU en nx.toNat (q9, qc9, S, g)) 16) := hD
      generalize hplq2 : plE yI (enU en nx.toNat (q9, qc9, S, g)) 16 = pl2 at hP hD
      have hP : va_P D vwCl ([(x, oRD tx nw tr kn me sl), (nw, oDrv nc (wr S k9 1) (lN (kL (wr S k9 1) 0 40))), (nc, aI yI 48 G9), (me, oMem rg (if nx + 1 < 14 then nx + 1 else 0) (min (ct + 1) 14)), (rg, aD yD 14 (va_up f nx.toNat (some q9))), (kn, oKn pk ex), (ex, aI yI 1681 E), (qa, aI yI 9 (q0F pn m8)), (aa, aI yI 48 gl), (sa, aJ yL 16 F), (ga, aI yI 12 fA), (so, aI yI 12 fS)] ++ pl2) H := hP
      have hD : va_D A ([(x, oRD tx nw tr kn me sl), (nw, oDrv nc (wr S k9 1) (lN (kL (wr S k9 1) 0 40))), (nc, aI yI 48 G9), (me, oMem rg (if nx + 1 < 14 then nx + 1 else 0) (min (ct + 1) 14)), (rg, aD yD 14 (va_up f nx.toNat (some q9))), (kn, oKn pk ex), (ex, aI yI 1681 E), (qa, aI yI 9 (q0F pn m8)), (aa, aI yI 48 gl), (sa, aJ yL 16 F), (ga, aI yI 12 fA), (so, aI yI 12 fS)] ++ pl2) := hD
      refine iv_if_eq (a := S 4 - wr S k9 1 4) (tgt := 128) hx hb (by omega) dL_law_123 (by decide) (fun c123 => ?_) (fun c123 => ?_)
      · refine iv_inc (lv' := [(7, .int (iI (k9 + 1))), (0, .ref b), (1, .ref x), (2, .ref qa), (3, .ref aa), (4, .ref sa), (5, .ref ga), (6, .ref so)]) hx hb dL_law_128 hl (k := 7) rfl (by decide) rfl (fun ls hl => ?_)
        refine lv_goto (tgt := 95) hx hb dL_law_131 (by decide) ?_
        rw [← hplq2] at hP hD
        refine K _ _ _ (by omega) ?_
        refine ⟨x, tx, nw, tr, kn, me, sl, nc, ex, rg, qa, aa, sa, ga, so, (wr S k9 1), G9, E, gl, fA, fS, pk, (if nx + 1 < 14 then nx + 1 else 0), (min (ct + 1) 14), F, (va_up f nx.toNat (some q9)), fs, (enU en nx.toNat (q9, qc9, S, g)), ?_⟩
        refine ⟨hP, hD, hS, lv_sub hl [1, 2, 3, 4, 5, 6, 7, 0] rfl, (inv_wr hI (by omega) (by omega)), (hR9), (by refine ⟨?_, ?_, by omega, by omega⟩ <;> split <;> omega), (fO_ring hfO (by omega) (q9, qc9, S, g)), (ist_y (by omega) hIs c113)⟩
      · exact absurd hwz c123
