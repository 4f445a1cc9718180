set_option maxHeartbeats 8000000 in
set_option maxRecDepth 100000 in
/-- the law's loop: at its head, with k turns done -/
theorem law_loop {p : Program} {e : Env} {s : State} {m : MethodId} {below : List Frame} {meth : Method} {c : Code} (l : Launch) (hla : l.stackTraces = false) {b L : Nat} {xs : Nat → Int32} (hL : L ≤ 260) (C0 : lw_At p s m meth c b L xs) (D : va_G) (yI yC yD yL : ClassId) (hK : va_K D vwCl (tyl yI yC yD yL) s) (hB : XB (fun q : Nat => s.heap.size ≤ q) s s.heap) : ∀ (n k : Nat), k + n = 14 → ∀ (H : Heap) (locs : List Loc) (ls : Array Slot), LI D yI yC yD yL s (fun q : Nat => s.heap.size ≤ q) b (k : Int) (k : Int) [] H locs ls → W p l e room_1 s m #[Value.ref b] below meth c H locs (98 + 8 * k) (3550 + 150 * k) (lw_Z below #[Value.ref b] s) (F0 m 137 ls []) := by
  obtain ⟨hx, hb, hr, hml, hown, hts, hX, hbl, hlocks, hgv⟩ := id C0
  have hA : ∀ q : Nat, s.heap.size ≤ q → (fun q : Nat => s.heap.size ≤ q) q := fun _ h => h
  have hbA : ¬ (fun q : Nat => s.heap.size ≤ q) b := Nat.not_le.mpr hbl
  intro n
  induction n with
  | zero =>
    intro k hn H locs ls hLI
    obtain ⟨x, tx, nw, tr, kn, me, sl, nc, ex, rg, qa, aa, sa, ga, so, S, g, E, gl, fA, fS, pk, nx, ct, F, f, fs, en, hP, hD, hS, hl, hrest⟩ := hLI
    refine lv_iload hx hb dL_law_137 (lv_at hl 7 rfl) ?_
    refine lv_bipush (v := iI 14) hx hb dL_law_139 (by decide +kernel) ?_
    refine iv_icmp_ge (a := (k : Int)) (b := 14) (tgt := 586) hx hb (by omega) (by omega) dL_law_141 (by decide) (fun c141 => ?_) (fun c141 => absurd c141 (by omega))
    refine lv_iconst (v := 1) hx hb dL_law_586 (by decide) ?_
    refine va_forget (fun q hq => hS.2.2 q hq) ?_
    refine W.widen (k := 600130) (n := 7301079) (by omega) (by omega) ?_
    exact lw_ret hx hb hr hlocks dL_law_587
  | succ n ih =>
    intro k hn H locs ls hLI
    have hK9 : ∀ (H : Heap) (locs : List Loc) (ls : Array Slot), LI D yI yC yD yL s (fun q : Nat => s.heap.size ≤ q) b (k : Int) ((k : Int) + 1) [] H locs ls → W p l e room_1 s m #[Value.ref b] below meth c H locs (98 + 8 * k + 8) (3550 + 150 * k + 150) (lw_Z below #[Value.ref b] s) (F0 m 563 ls []) := by
      intro H locs ls h
      by_cases hk13 : k < 14
      · refine lq_same l hla C0 D yI yC yD yL hK (fun q : Nat => s.heap.size ≤ q) hA hB (cells := 98 + 8 * k + 8) (slots := 3550 + 150 * k + 150) ⟨by omega, by omega⟩ (i := (k : Int)) (z := 0) (by omega) h (fun H locs ls h => ?_)
        obtain ⟨x, tx, nw, tr, kn, me, sl, nc, ex, rg, qa, aa, sa, ga, so, S, g, E, gl, fA, fS, pk, nx, ct, F, f, fs, en, hP, hD, hS, hl, hrest⟩ := h
        refine iv_inc (lv' := [(7, .int (iI ((k : Int) + 1))), (0, .ref b), (1, .ref x), (2, .ref qa), (3, .ref aa), (4, .ref sa), (5, .ref ga), (6, .ref so)]) hx hb dL_law_580 hl (k := 7) rfl (by decide) rfl (fun ls hl => ?_)
        refine lv_goto (tgt := 137) hx hb dL_law_583 (by decide) ?_
        have e9 : (((k + 1 : Nat) : Int)) = (k : Int) + 1 := by omega
        have h8 : LI D yI yC yD yL s (fun q : Nat => s.heap.size ≤ q) b ((k : Int) + 1) ((k : Int) + 1) [] H locs ls := by
          refine ⟨x, tx, nw, tr, kn, me, sl, nc, ex, rg, qa, aa, sa, ga, so, S, g, E, gl, fA, fS, pk, nx, ct, F, f, fs, en, ?_⟩
          exact ⟨hP, hD, hS, lv_sub hl [1, 2, 3, 4, 5, 6, 7, 0] rfl, hrest⟩
        have h9 := ih (k + 1) (by omega) H locs ls (by rw [e9]; exact h8)
        rw [show 98 + 8 * (k + 1) = 98 + 8 * k + 8 by omega, show 3550 + 150 * (k + 1) = 3550 + 150 * k + 150 by omega] at h9
        exact h9
      · exact absurd hk13 (by omega)
    obtain ⟨x, tx, nw, tr, kn, me, sl, nc, ex, rg, qa, aa, sa, ga, so, S, g, E, gl, fA, fS, pk, nx, ct, F, f, fs, en, hP, hD, hS, hl, hrest⟩ := hLI
    have hl : lv_has ls 14 [(0, .ref b), (1, .ref x), (2, .ref qa), (3, .ref aa), (4, .ref sa), (5, .ref ga), (6, .ref so), (7, .int (iI (k : Int)))] := hl
    generalize hplq : plE yI en 16 = pl at hP hD
    have hP : va_P D vwCl ([(x, oRD tx nw tr kn me sl), (nw, oDrv nc S (lN (kL (S) 0 40))), (nc, aI yI 48 g), (me, oMem rg nx ct), (rg, aD yD 14 f), (kn, oKn pk ex), (ex, aI yI 1681 E), (qa, aI yI 9 (qS S)), (aa, aI yI 48 gl), (sa, aJ yL 16 F), (ga, aI yI 12 fA), (so, aI yI 12 fS)] ++ pl) _ := hP
    have hD : va_D (fun q : Nat => s.heap.size ≤ q) ([(x, oRD tx nw tr kn me sl), (nw, oDrv nc S (lN (kL (S) 0 40))), (nc, aI yI 48 g), (me, oMem rg nx ct), (rg, aD yD 14 f), (kn, oKn pk ex), (ex, aI yI 1681 E), (qa, aI yI 9 (qS S)), (aa, aI yI 48 gl), (sa, aJ yL 16 F), (ga, aI yI 12 fA), (so, aI yI 12 fS)] ++ pl) := hD
    refine lv_iload hx hb dL_law_137 (lv_at hl 7 rfl) ?_
    refine lv_bipush (v := iI 14) hx hb dL_law_139 (by decide +kernel) ?_
    refine iv_icmp_ge (a := (k : Int)) (b := 14) (tgt := 586) hx hb (by omega) (by omega) dL_law_141 (by decide) (fun c141 => ?_) (fun c141 => ?_)
    · refine lv_iconst (v := 1) hx hb dL_law_586 (by decide) ?_
      refine va_forget (fun q hq => hS.2.2 q hq) ?_
      refine W.widen (k := 600130) (n := 7301079) (by omega) (by omega) ?_
      exact lw_ret hx hb hr hlocks dL_law_587
    · refine lv_aload_n hx hb dL_law_144 rfl (lv_at hl 0 rfl) ?_
      refine lv_iconst (v := iI 2) hx hb dL_law_145 (by decide +kernel) ?_
      refine lv_iload hx hb dL_law_146 (lv_at hl 7 rfl) ?_
      refine iv_add hx hb dL_law_148 ?_
      refine iv_cell (rest := []) (k := 2 + (k : Int)) (n := 2) ⟨hx, hb, hml, hown, hts⟩ (c_L_cell l b L xs (2 + (k : Int)) (by omega)) (va_cwS 2 hts gL_law_L_cell rfl rfl rfl (by decide +kernel) ⟨Nat.le_of_ble_eq_true rfl, Nat.le_of_ble_eq_true rfl⟩) hX hbl hbA hS rfl hl.1 rfl (Nat.le_of_ble_eq_true rfl) dL_law_149 ⟨(by show _ ≤ (600130 : Nat); omega), (by show _ ≤ (7301079 : Nat); omega)⟩ ?_
      obtain ⟨z, hz⟩ : ∃ nv_, nv_ = (cellV L xs (2 + (k : Int))) := ⟨_, rfl⟩
      rw [← hz]
      refine lv_istore (lv' := [(8, .int (iI z)), (0, .ref b), (1, .ref x), (2, .ref qa), (3, .ref aa), (4, .ref sa), (5, .ref ga), (6, .ref so), (7, .int (iI (k : Int)))]) hx hb dL_law_152 hl (by decide) rfl (fun ls hl => ?_)
      refine lv_iload hx hb dL_law_154 (lv_at hl 0 rfl) ?_
      refine lv_bipush (v := iI 8) hx hb dL_law_156 (by decide +kernel) ?_
      refine iv_roS (As := [.int (iI z), .int (iI 8)]) (rest := []) (n := 2) ⟨hx, hb, hml, hown, hts⟩ (c_L_low l D yI yC yD yL z 8 (by omega)) (va_cwS 2 hts gL_law_L_low rfl rfl rfl (by decide +kernel) ⟨Nat.le_of_ble_eq_true rfl, Nat.le_of_ble_eq_true rfl⟩) hK hP [] rfl rfl hl.1 rfl (Nat.le_of_ble_eq_true rfl) dL_law_158 ⟨(by show _ ≤ (600130 : Nat); omega), (by show _ ≤ (7301079 : Nat); omega)⟩ ?_
      obtain ⟨x9, hx9⟩ : ∃ nv_, nv_ = (lowV z 8) := ⟨_, rfl⟩
      rw [← hx9]
      have hrx9 : 0 ≤ x9 ∧ x9 < 8 := by rw [hx9]; exact lowV_r (by omega)
      refine lv_istore (lv' := [(9, .int (iI x9)), (8, .int (iI z)), (0, .ref b), (1, .ref x), (2, .ref qa), (3, .ref aa), (4, .ref sa), (5, .ref ga), (6, .ref so), (7, .int (iI (k : Int)))]) hx hb dL_law_161 hl (by decide) rfl (fun ls hl => ?_)
      refine lv_iload hx hb dL_law_163 (lv_at hl 0 rfl) ?_
      refine lv_iconst (v := iI 5) hx hb dL_law_165 (by decide +kernel) ?_
      refine iv_icmp_ge (a := x9) (b := 5) (tgt := 255) hx hb (by omega) (by omega) dL_law_166 (by decide) (fun c166 => ?_) (fun c166 => ?_)
      · refine lv_iload hx hb dL_law_255 (lv_at hl 0 rfl) ?_
        refine lv_iconst (v := iI 5) hx hb dL_law_257 (by decide +kernel) ?_
        refine iv_icmp_ne (a := x9) (b := 5) (tgt := 403) hx hb (by omega) (by omega) dL_law_258 (by decide) (fun c258 => ?_) (fun c258 => ?_)
        · refine lv_iload hx hb dL_law_403 (lv_at hl 0 rfl) ?_
          refine lv_bipush (v := iI 6) hx hb dL_law_405 (by decide +kernel) ?_
          refine iv_icmp_ne (a := x9) (b := 6) (tgt := 524) hx hb (by omega) (by omega) dL_law_407 (by decide) (fun c407 => ?_) (fun c407 => ?_)
          · rw [← hplq] at hP hD
            have hLI9 : LI D yI yC yD yL s (fun q : Nat => s.heap.size ≤ q) b (k : Int) (k : Int) [(8, .int (iI z))] H locs ls := by
              refine ⟨x, tx, nw, tr, kn, me, sl, nc, ex, rg, qa, aa, sa, ga, so, S, g, E, gl, fA, fS, pk, nx, ct, F, f, fs, en, ?_⟩
              exact ⟨hP, hD, hS, lv_sub hl [2, 3, 4, 5, 6, 7, 8, 9, 1] rfl, hrest⟩
            exact lq_forget l hla C0 D yI yC yD yL hK (fun q : Nat => s.heap.size ≤ q) hA hB ⟨by omega, by omega⟩ (by omega) hLI9 hK9
          · rw [← hplq] at hP hD
            have hLI9 : LI D yI yC yD yL s (fun q : Nat => s.heap.size ≤ q) b (k : Int) (k : Int) [(8, .int (iI z))] H locs ls := by
              refine ⟨x, tx, nw, tr, kn, me, sl, nc, ex, rg, qa, aa, sa, ga, so, S, g, E, gl, fA, fS, pk, nx, ct, F, f, fs, en, ?_⟩
              exact ⟨hP, hD, hS, lv_sub hl [2, 3, 4, 5, 6, 7, 8, 9, 1] rfl, hrest⟩
            exact lq_set l hla C0 D yI yC yD yL hK (fun q : Nat => s.heap.size ≤ q) hA hB ⟨by omega, by omega⟩ (by omega) hLI9 hK9
        · rw [← hplq] at hP hD
          have hLI9 : LI D yI yC yD yL s (fun q : Nat => s.heap.size ≤ q) b (k : Int) (k : Int) [(8, .int (iI z))] H locs ls := by
            refine ⟨x, tx, nw, tr, kn, me, sl, nc, ex, rg, qa, aa, sa, ga, so, S, g, E, gl, fA, fS, pk, nx, ct, F, f, fs, en, ?_⟩
            exact ⟨hP, hD, hS, lv_sub hl [2, 3, 4, 5, 6, 7, 8, 9, 1] rfl, hrest⟩
          exact lq_write l hla C0 D yI yC yD yL hK (fun q : Nat => s.heap.size ≤ q) hA hB ⟨by omega, by omega⟩ (by omega) hLI9 hK9
      · rw [← hplq] at hP hD
        have hLI9 : LI D yI yC yD yL s (fun q : Nat => s.heap.size ≤ q) b (k : Int) (k : Int) [(8, .int (iI z))] H locs ls := by
          refine ⟨x, tx, nw, tr, kn, me, sl, nc, ex, rg, qa, aa, sa, ga, so, S, g, E, gl, fA, fS, pk, nx, ct, F, f, fs, en, ?_⟩
          exact ⟨hP, hD, hS, lv_sub hl [2, 3, 4, 5, 6, 7, 8, 9, 1] rfl, hrest⟩
        exact lq_ask l hla C0 D yI yC yD yL hK (fun q : Nat => s.heap.size ≤ q) hA hB ⟨by omega, by omega⟩ (by omega) hLI9 hK9
theorem init_loop {p : Program} {e : Env} {s : State} {m : MethodId} {below : List Frame} {meth : Method} {c : Code} (l : Launch) (hla : l.stackTraces = false) {b L : Nat} {xs : Nat → Int32} (hL : L ≤ 260) (C0 : lw_At p s m meth c b L xs) (D : va_G) (yI yC yD yL : ClassId) (hK : va_K D vwCl (tyl yI yC yD yL) s) (hB : XB (fun q : Nat => s.heap.size ≤ q) s s.heap) {pn : Int} {m8 : Nat} (hp : 8 ≤ pn ∧ pn ≤ 9) (hm : m8 < 2 ^ pn.toNat) : ∀ (n k : Nat), ((k + n : Nat) : Int) = pn → ∀ (H : Heap) (locs : List Loc) (ls : Array Slot), LI0 D yI yC yD yL s (fun q : Nat => s.heap.size ≤ q) b pn m8 (k : Int) H locs ls → W p l e room_1 s m #[Value.ref b] below meth c H locs (26 + 8 * k) (2200 + 150 * k) (lw_Z below #[Value.ref b] s) (F0 m 95 ls []) := by
  have hA : ∀ q : Nat, s.heap.size ≤ q → (fun q : Nat => s.heap.size ≤ q) q := fun _ h => h
  intro n
  induction n with
  | zero =>
    intro k hn H locs ls hLI
    refine lq_init l hla C0 D yI yC yD yL hK (fun q : Nat => s.heap.size ≤ q) hA hB ⟨by omega, by omega⟩ hp hm (by omega) hLI (fun H locs ls h9 => absurd h9 (by omega)) (fun H locs ls h => ?_)
    refine W.widen (k := 98 + 8 * 0) (n := 3550 + 150 * 0) (by omega) (by omega) ?_
    exact law_loop l hla hL C0 D yI yC yD yL hK hB 14 0 (by omega) H locs ls h
  | succ n ih =>
    intro k hn H locs ls hLI
    refine lq_init l hla C0 D yI yC yD yL hK (fun q : Nat => s.heap.size ≤ q) hA hB ⟨by omega, by omega⟩ hp hm (by omega) hLI (fun H locs ls h9 h => ?_) (fun H locs ls h => ?_)
    · have h8 := ih (k + 1) (by omega) H locs ls (by rw [show (((k + 1 : Nat) : Int)) = (k : Int) + 1 by omega]; exact h)
      rw [show 26 + 8 * (k + 1) = 26 + 8 * k + 8 by omega, show 2200 + 150 * (k + 1) = 2200 + 150 * k + 150 by omega] at h8
      exact h8
    · refine W.widen (k := 98 + 8 * 0) (n := 3550 + 150 * 0) (by omega) (by omega) ?_
      exact law_loop l hla hL C0 D yI yC yD yL hK hB 14 0 (by omega) H locs ls h
