def LJ (D : va_G) (yI yC yD yL : ClassId) (s : State) (b : Nat) (i : Int) (H : Heap) (locs : List Loc) (ls : Array Slot) : Prop := LI D yI yC yD yL s b i H locs ls
set_option maxRecDepth 100000 in
theorem sw32 : ∀ n9 : Nat, n9 < 32 → (24 < n9 ∨ n9 = 0 ∨ n9 = 1 ∨ n9 = 2 ∨ n9 = 3 ∨ n9 = 4 ∨ n9 = 5 ∨ n9 = 6 ∨ n9 = 7 ∨ n9 = 8 ∨ n9 = 9 ∨ n9 = 10 ∨ n9 = 11 ∨ n9 = 12 ∨ n9 = 13 ∨ n9 = 14 ∨ n9 = 15 ∨ n9 = 16 ∨ n9 = 17 ∨ n9 = 18 ∨ n9 = 19 ∨ n9 = 20 ∨ n9 = 21 ∨ n9 = 22 ∨ n9 = 23 ∨ n9 = 24) := by decide +kernel
set_option maxHeartbeats 8000000 in
set_option maxRecDepth 100000 in
/-- the law's loop: at its head, with k calls read -/
theorem law_loop {p : Program} {e : Env} {s : State} {m : MethodId} {below : List Frame} {meth : Method} {c : Code} (l : Launch) (hla : l.stackTraces = false) {b L : Nat} {xs : Nat → Int32} (hL : L ≤ 2048) (C0 : lw_At p s m meth c b L xs) (D : va_G) (yI yC yD yL : ClassId) (hK4 : va_K D vwCl (tyl yI yC yD yL) s) (hB : XB (fun q : Nat => s.heap.size ≤ q) s s.heap) : ∀ (n k : Nat), L + 4 ≤ 4 * k + 4 * n → 4 * k ≤ L + 3 → ∀ (H : Heap) (locs : List Loc) (ls : Array Slot), LJ D yI yC yD yL s b (4 * (k : Int)) H locs ls → W p l e room_1 s m #[Value.ref b] below meth c H locs (22 + 8 * k) (7132 + 150 * k) (lw_Z below #[Value.ref b] s) (F0 m 23 ls []) := by
  obtain ⟨hx, hb, hr, hml, hown, hts, hX, hbl, hlocks, hgv⟩ := id C0
  have hA : ∀ q : Nat, s.heap.size ≤ q → (fun q : Nat => s.heap.size ≤ q) q := fun _ h => h
  have hbA : ¬ (fun q : Nat => s.heap.size ≤ q) b := Nat.not_le.mpr hbl
  have hLe : Int32.ofNat L = iI (L : Int) := (show Int32.ofNat L = nI L from rfl).trans (nI_iI L)
  intro n
  induction n with
  | zero =>
    intro k h1 h2
    exact absurd h1 (by omega)
  | succ n ih =>
    intro k hn hk H locs ls hLI
    have hK9 : ∀ (H : Heap) (locs : List Loc) (ls : Array Slot), LJ D yI yC yD yL s b (4 * (k : Int)) H locs ls → 4 * k + 4 ≤ L → W p l e room_1 s m #[Value.ref b] below meth c H locs (22 + 8 * k + 8) (7132 + 150 * k + 150) (lw_Z below #[Value.ref b] s) (F0 m 1563 ls []) := by
      intro H locs ls hLI hk4
      obtain ⟨x, tx, sg, nw, nc, tr, tc, kn, ex, me, rg, sl, mo, a1, a2, a3, a4, a5, a6, a7, a8, ou, T, S, g, S2, g2, E, Kp, Hh, Sl, Sv, Bd, B2, tl, po, lo, pk, nx, ct, th, k2, ov, f, fs, en, hP, hD, hS, hl, hrest⟩ := hLI
      refine iv_inc (lv' := [(4, .int (iI (4 * (k : Int) + 4))), (0, .ref b), (1, .ref x), (2, .ref mo), (3, .ref ou)]) hx hb dL_law_1563 hl (k := 4) rfl (by decide) rfl (fun ls hl => ?_)
      refine lv_goto (tgt := 23) hx hb dL_law_1566 (by decide) ?_
      refine W.widen (k := 22 + 8 * (k + 1)) (n := 7132 + 150 * (k + 1)) (by omega) (by omega) ?_
      refine ih (k + 1) (by omega) (by omega) H locs ls ?_
      have e9 : (4 * ((k + 1 : Nat) : Int)) = 4 * (k : Int) + 4 := by omega
      rw [e9]
      show LI D yI yC yD yL s b (4 * (k : Int) + 4) H locs ls
      exact ⟨x, tx, sg, nw, nc, tr, tc, kn, ex, me, rg, sl, mo, a1, a2, a3, a4, a5, a6, a7, a8, ou, T, S, g, S2, g2, E, Kp, Hh, Sl, Sv, Bd, B2, tl, po, lo, pk, nx, ct, th, k2, ov, f, fs, en, hP, hD, hS, lv_sub hl [1, 2, 3, 4, 0] rfl, hrest⟩
    have hLI9 := hLI
    obtain ⟨x, tx, sg, nw, nc, tr, tc, kn, ex, me, rg, sl, mo, a1, a2, a3, a4, a5, a6, a7, a8, ou, T, S, g, S2, g2, E, Kp, Hh, Sl, Sv, Bd, B2, tl, po, lo, pk, nx, ct, th, k2, ov, f, fs, en, hP, hD, hS, hl, hrest⟩ := hLI
    refine lv_iload hx hb dL_law_23 (lv_at hl 4 rfl) ?_
    refine lv_aload_n hx hb dL_law_25 rfl (lv_at hl 0 rfl) ?_
    refine va_slen hx hb hX hbl hbA hS dL_law_26 ?_
    rw [hLe]
    refine lv_iconst (v := iI 4) hx hb dL_law_27 (by decide +kernel) ?_
    refine iv_sub hx hb dL_law_28 ?_
    refine iv_icmp_gt (a := 4 * (k : Int)) (b := (L : Int) - 4) (tgt := 1569) hx hb (by omega) (by omega) dL_law_29 (by decide) (fun c29 => ?_) (fun c29 => ?_)
    · refine lv_iconst (v := 1) hx hb dL_law_1569 (by decide) ?_
      refine va_forget (fun q hq => hS.2.2 q hq) ?_
      refine W.widen (k := 601024) (n := 7293034) (by omega) (by omega) ?_
      exact lw_ret hx hb hr hlocks dL_law_1570
    · have hk4 : 4 * k + 4 ≤ L := by omega
      refine lv_aload_n hx hb dL_law_32 rfl (lv_at hl 0 rfl) ?_
      refine lv_iload hx hb dL_law_33 (lv_at hl 4 rfl) ?_
      obtain ⟨z0, hz0, hr0⟩ : ∃ z, xs (4 * (k : Int)).toNat = iI z ∧ inR z := ⟨_, iI_of _, iI_rng _⟩
      refine iv_sld hx hb hX hbl hbA hS hz0 (by omega) dL_law_35 ?_
      refine lv_bipush (v := iI 31) hx hb dL_law_36 (by decide +kernel) ?_
      refine lv_iand hx hb dL_law_38 ?_
      obtain ⟨z, h0, h31, hz⟩ := and31 (iI z0)
      rw [hz]
      obtain ⟨n9, hn9⟩ := Int.eq_ofNat_of_zero_le h0
      subst hn9
      have hsw : (iI (n9 : Int)).toInt = (n9 : Int) := iI_toInt (by omega)
      have hrm : (22 + 8 * k) + 8 ≤ 601024 ∧ (7132 + 150 * k) + 150 ≤ 7293034 := by omega
      have hi9 : 0 ≤ 4 * (k : Int) ∧ 4 * (k : Int) + 4 ≤ (L : Int) ∧ L ≤ 2048 := by omega
      rcases sw32 n9 (by omega) with csw | csw | csw | csw | csw | csw | csw | csw | csw | csw | csw | csw | csw | csw | csw | csw | csw | csw | csw | csw | csw | csw | csw | csw | csw | csw
      · refine lv_tableOut (tgt := 1563) hx hb dL_law_39 (by rw [hsw]; exact Or.inr (by omega)) (by decide) ?_
        refine W.widen (k := 22 + 8 * k + 8) (n := 7132 + 150 * k + 150) (by omega) (by omega) ?_
        exact hK9 _ _ _ hLI9 hk4
      · refine lv_tableIn (off := 113) (tgt := 152) hx hb dL_law_39 (by rw [hsw]; omega) (by rw [hsw]; omega) (by rw [hsw, csw]; rfl) (by decide) ?_
        exact lc_append l hla C0 D yI yC yD yL hK4 hB hrm hi9 hLI9 (fun H locs ls h => hK9 H locs ls h hk4)
      · refine lv_tableIn (off := 169) (tgt := 208) hx hb dL_law_39 (by rw [hsw]; omega) (by rw [hsw]; omega) (by rw [hsw, csw]; rfl) (by decide) ?_
        exact lc_clearText l hla C0 D yI yC yD yL hK4 hB hrm hi9 hLI9 (fun H locs ls h => hK9 H locs ls h hk4)
      · refine lv_tableIn (off := 182) (tgt := 221) hx hb dL_law_39 (by rw [hsw]; omega) (by rw [hsw]; omega) (by rw [hsw, csw]; rfl) (by decide) ?_
        exact lc_errorPosition l hla C0 D yI yC yD yL hK4 hB hrm hi9 hLI9 (fun H locs ls h => hK9 H locs ls h hk4)
      · refine lv_tableIn (off := 195) (tgt := 234) hx hb dL_law_39 (by rw [hsw]; omega) (by rw [hsw]; omega) (by rw [hsw, csw]; rfl) (by decide) ?_
        exact lc_load l hla C0 D yI yC yD yL hK4 hB hrm hi9 hLI9 (fun H locs ls h => hK9 H locs ls h hk4)
      · refine lv_tableIn (off := 239) (tgt := 278) hx hb dL_law_39 (by rw [hsw]; omega) (by rw [hsw]; omega) (by rw [hsw, csw]; rfl) (by decide) ?_
        exact lc_about l hla C0 D yI yC yD yL hK4 hB hrm hi9 hLI9 (fun H locs ls h => hK9 H locs ls h hk4)
      · refine lv_tableIn (off := 295) (tgt := 334) hx hb dL_law_39 (by rw [hsw]; omega) (by rw [hsw]; omega) (by rw [hsw, csw]; rfl) (by decide) ?_
        exact lc_has l hla C0 D yI yC yD yL hK4 hB hrm hi9 hLI9 (fun H locs ls h => hK9 H locs ls h hk4)
      · refine lv_tableIn (off := 358) (tgt := 397) hx hb dL_law_39 (by rw [hsw]; omega) (by rw [hsw]; omega) (by rw [hsw, csw]; rfl) (by decide) ?_
        exact lc_answer l hla C0 D yI yC yD yL hK4 hB hrm hi9 hLI9 (fun H locs ls h => hK9 H locs ls h hk4)
      · refine lv_tableIn (off := 426) (tgt := 465) hx hb dL_law_39 (by rw [hsw]; omega) (by rw [hsw]; omega) (by rw [hsw, csw]; rfl) (by decide) ?_
        exact lc_least l hla C0 D yI yC yD yL hK4 hB hrm hi9 hLI9 (fun H locs ls h => hK9 H locs ls h hk4)
      · refine lv_tableIn (off := 494) (tgt := 533) hx hb dL_law_39 (by rw [hsw]; omega) (by rw [hsw]; omega) (by rw [hsw, csw]; rfl) (by decide) ?_
        exact lc_most l hla C0 D yI yC yD yL hK4 hB hrm hi9 hLI9 (fun H locs ls h => hK9 H locs ls h hk4)
      · refine lv_tableIn (off := 562) (tgt := 601) hx hb dL_law_39 (by rw [hsw]; omega) (by rw [hsw]; omega) (by rw [hsw, csw]; rfl) (by decide) ?_
        exact lc_known l hla C0 D yI yC yD yL hK4 hB hrm hi9 hLI9 (fun H locs ls h => hK9 H locs ls h hk4)
      · refine lv_tableIn (off := 618) (tgt := 657) hx hb dL_law_39 (by rw [hsw]; omega) (by rw [hsw]; omega) (by rw [hsw, csw]; rfl) (by decide) ?_
        exact lc_knownAt l hla C0 D yI yC yD yL hK4 hB hrm hi9 hLI9 (fun H locs ls h => hK9 H locs ls h hk4)
      · refine lv_tableIn (off := 674) (tgt := 713) hx hb dL_law_39 (by rw [hsw]; omega) (by rw [hsw]; omega) (by rw [hsw, csw]; rfl) (by decide) ?_
        exact lc_write l hla C0 D yI yC yD yL hK4 hB hrm hi9 hLI9 (fun H locs ls h => hK9 H locs ls h hk4)
      · refine lv_tableIn (off := 758) (tgt := 797) hx hb dL_law_39 (by rw [hsw]; omega) (by rw [hsw]; omega) (by rw [hsw, csw]; rfl) (by decide) ?_
        exact lc_set l hla C0 D yI yC yD yL hK4 hB hrm hi9 hLI9 (fun H locs ls h => hK9 H locs ls h hk4)
      · refine lv_tableIn (off := 826) (tgt := 865) hx hb dL_law_39 (by rw [hsw]; omega) (by rw [hsw]; omega) (by rw [hsw, csw]; rfl) (by decide) ?_
        exact lc_ask l hla C0 D yI yC yD yL hK4 hB hrm hi9 hLI9 (fun H locs ls h => hK9 H locs ls h hk4)
      · refine lv_tableIn (off := 894) (tgt := 933) hx hb dL_law_39 (by rw [hsw]; omega) (by rw [hsw]; omega) (by rw [hsw, csw]; rfl) (by decide) ?_
        exact lc_forget l hla C0 D yI yC yD yL hK4 hB hrm hi9 hLI9 (fun H locs ls h => hK9 H locs ls h hk4)
      · refine lv_tableIn (off := 950) (tgt := 989) hx hb dL_law_39 (by rw [hsw]; omega) (by rw [hsw]; omega) (by rw [hsw, csw]; rfl) (by decide) ?_
        exact lc_resize l hla C0 D yI yC yD yL hK4 hB hrm hi9 hLI9 (fun H locs ls h => hK9 H locs ls h hk4)
      · refine lv_tableIn (off := 1006) (tgt := 1045) hx hb dL_law_39 (by rw [hsw]; omega) (by rw [hsw]; omega) (by rw [hsw, csw]; rfl) (by decide) ?_
        exact lc_undo l hla C0 D yI yC yD yL hK4 hB hrm hi9 hLI9 (fun H locs ls h => hK9 H locs ls h hk4)
      · refine lv_tableIn (off := 1050) (tgt := 1089) hx hb dL_law_39 (by rw [hsw]; omega) (by rw [hsw]; omega) (by rw [hsw, csw]; rfl) (by decide) ?_
        exact lc_costs l hla C0 D yI yC yD yL hK4 hB hrm hi9 hLI9 (fun H locs ls h => hK9 H locs ls h hk4)
      · refine lv_tableIn (off := 1118) (tgt := 1157) hx hb dL_law_39 (by rw [hsw]; omega) (by rw [hsw]; omega) (by rw [hsw, csw]; rfl) (by decide) ?_
        exact lc_bestQuestion l hla C0 D yI yC yD yL hK4 hB hrm hi9 hLI9 (fun H locs ls h => hK9 H locs ls h hk4)
      · refine lv_tableIn (off := 1131) (tgt := 1170) hx hb dL_law_39 (by rw [hsw]; omega) (by rw [hsw]; omega) (by rw [hsw, csw]; rfl) (by decide) ?_
        exact lc_worst l hla C0 D yI yC yD yL hK4 hB hrm hi9 hLI9 (fun H locs ls h => hK9 H locs ls h hk4)
      · refine lv_tableIn (off := 1199) (tgt := 1238) hx hb dL_law_39 (by rw [hsw]; omega) (by rw [hsw]; omega) (by rw [hsw, csw]; rfl) (by decide) ?_
        exact lc_leastWorth l hla C0 D yI yC yD yL hK4 hB hrm hi9 hLI9 (fun H locs ls h => hK9 H locs ls h hk4)
      · refine lv_tableIn (off := 1212) (tgt := 1251) hx hb dL_law_39 (by rw [hsw]; omega) (by rw [hsw]; omega) (by rw [hsw, csw]; rfl) (by decide) ?_
        exact lc_runScript l hla C0 D yI yC yD yL hK4 hB hrm hi9 hLI9 (fun H locs ls h => hK9 H locs ls h hk4)
      · refine lv_tableIn (off := 1312) (tgt := 1351) hx hb dL_law_39 (by rw [hsw]; omega) (by rw [hsw]; omega) (by rw [hsw, csw]; rfl) (by decide) ?_
        exact lc_simulate l hla C0 D yI yC yD yL hK4 hB hrm hi9 hLI9 (fun H locs ls h => hK9 H locs ls h hk4)
      · refine lv_tableIn (off := 1412) (tgt := 1451) hx hb dL_law_39 (by rw [hsw]; omega) (by rw [hsw]; omega) (by rw [hsw, csw]; rfl) (by decide) ?_
        exact lc_save l hla C0 D yI yC yD yL hK4 hB hrm hi9 hLI9 (fun H locs ls h => hK9 H locs ls h hk4)
      · refine lv_tableIn (off := 1468) (tgt := 1507) hx hb dL_law_39 (by rw [hsw]; omega) (by rw [hsw]; omega) (by rw [hsw, csw]; rfl) (by decide) ?_
        exact lc_restore l hla C0 D yI yC yD yL hK4 hB hrm hi9 hLI9 (fun H locs ls h => hK9 H locs ls h hk4)
