section ROSL
variable {p : Program} {l : Launch} {e : Env} {R : Room} {s : State} {m : MethodId} {args : Array Value} {below : List Frame} {meth : Method} {c : Code} {H H0 : Heap} {locs : List Loc} {cells slots : Nat} {Q : State → Prop}
variable {y : MethodName} {bytes cc : ByteArray} {maxL nL mc ms n index pc : Nat} {ret : Option FieldType} {ws : List Cond} {rm : Room} {Ts : List Cond} {own C : String} {b : Addr} {As rest st : List Value} {ls : Array Slot}
variable {D : va_G} {tys : List (ClassId × FieldType)} {ws0 wc : va_W} {a : Array Value} {g : JFrame}
theorem iv_callRL {r : Int64} (hr : CallRun p l e R s m args below meth c H locs cells slots 0 0 g rest (QcReadL r a) (fun _ => False)) (kk : W p l e R s m args below meth c H locs cells slots Q { g with pc := g.pc + 3, stack := .long r :: rest }) : W p l e R s m args below meth c H locs cells slots Q g := by
  intro T hT X
  obtain ⟨v, st₀, t, T', L, h0, X', hL, e1, ⟨hv, hh⟩, st⟩ := hr T hT X
  cases hv
  obtain ⟨t2, a1, b1⟩ := kk T' (by rw [e1, hh, h0]) (Stand.forget X' (fun q h => (hL q h).elim))
  exact ⟨t2, st t2 a1, b1⟩
theorem iv_roSL {r : Int64} (S : CallFix p m c cc nL s args Ts own) (hM : Met l y ws rm (roP As D tys wc) (QcReadL r) 0 0 (fun _ => False)) (cw : CallB R s args own index y bytes maxL ret ws rm 0 0 n ∧ (Cond.static y).before args s = true) (hK : va_K D vwCl tys s) (hP : va_P D vwCl ws0 H) (isC : List Nat) (hC : isC.filterMap (fun i => ws0[i]?) = wc)
    (hn : As.length = n) (hsize : ls.size = nL) (hst : st = As.reverse ++ rest) (hr : (rest.map fun v => v.category).sum ≤ 8) (hdg : decode cc pc = .ok (.invokestatic index, 3)) (hf : cells ≤ R.cells ∧ slots ≤ R.slots)
    (kk : W p l e R s m args below meth c H locs cells slots Q (F0 m (pc + 3) ls (.long r :: rest))) : W p l e R s m args below meth c H locs cells slots Q (F0 m pc ls st) := by
  refine iv_callRL (W.runS (As := As) (rest := rest) S hM cw ⟨roP_blind, fun U hU hW => ⟨rfl, ?_, va_K.moved hW.alike hK⟩⟩ rfl hn hsize hst (lv_room (rest := st) hr) hdg hf) kk
  rw [hU]
  exact hP.sub isC hC
end ROSL
def gAb (x : Int64) : Nat → Int64
  | 0 => x
  | k + 1 => gAb x k / 100000
theorem gAb_t {x : Int64} (h : 0 ≤ x.toInt) {k : Nat} (hk : k ≤ 3) : (gAb x k).toInt = x.toInt / gw k := by
  have h5 : (0 : Int) < (100000 : Int64).toInt := by rw [i64_1e5]; omega
  have e1 : (x / 100000).toInt = x.toInt / 100000 := by rw [i64_div h h5, i64_1e5]
  have e2 : (x / 100000 / 100000).toInt = x.toInt / 100000 / 100000 := by rw [i64_div (by omega) h5, i64_1e5, e1]
  have e3 : (x / 100000 / 100000 / 100000).toInt = x.toInt / 100000 / 100000 / 100000 := by rw [i64_div (by omega) h5, i64_1e5, e2]
  rcases (show k = 0 ∨ k = 1 ∨ k = 2 ∨ k = 3 by omega) with rfl | rfl | rfl | rfl
  · show x.toInt = x.toInt / (100000 : Int) ^ 0
    rw [show (100000 : Int) ^ 0 = 1 by decide]
    omega
  · show (x / 100000).toInt = x.toInt / (100000 : Int) ^ 1
    rw [e1, show (100000 : Int) ^ 1 = 100000 by decide]
  · show (x / 100000 / 100000).toInt = x.toInt / (100000 : Int) ^ 2
    rw [e2, show (100000 : Int) ^ 2 = 10000000000 by decide]
    omega
  · show (x / 100000 / 100000 / 100000).toInt = x.toInt / (100000 : Int) ^ 3
    rw [e3, show (100000 : Int) ^ 3 = 1000000000000000 by decide]
    omega
theorem bnd_gw {nn X : Int} (h : 1 ≤ nn ∧ nn ≤ 3) (hX : 0 ≤ X) : X / gw nn.toNat ≤ 0 ↔ X < bnd3 nn := by
  rcases (show nn = 1 ∨ nn = 2 ∨ nn = 3 by omega) with rfl | rfl | rfl
  · rw [show gw (1 : Int).toNat = 100000 by decide +kernel, show bnd3 1 = 100000 by decide +kernel]
    omega
  · rw [show gw (2 : Int).toNat = 10000000000 by decide +kernel, show bnd3 2 = 10000000000 by decide +kernel]
    omega
  · rw [show gw (3 : Int).toNat = 1000000000000000 by decide +kernel, show bnd3 3 = 1000000000000000 by decide +kernel]
    omega
theorem min_999 {z : Int} : (if iI 999 < iI z then iI 999 else iI z) = iI (if iI 999 ≤ iI z then 999 else z) := by
  by_cases h1 : iI 999 < iI z
  · rw [if_pos h1, if_pos (by rw [Int32.le_iff_toInt_le]; rw [Int32.lt_iff_toInt_lt] at h1; omega)]
  · rw [if_neg h1]
    by_cases h2 : iI 999 ≤ iI z
    · rw [if_pos h2]
      rw [Int32.le_iff_toInt_le] at h2
      rw [Int32.lt_iff_toInt_lt] at h1
      exact Int32.toInt_inj.mp (by omega)
    · rw [if_neg h2]
set_option maxHeartbeats 4000000 in
set_option maxRecDepth 100000 in
theorem c_X4_groupsAbove (l : Launch) (D : va_G) (yI yC yD : ClassId) (xx : Int64) (n9 : Int) (hx9 : 0 ≤ xx.toInt) (hn9 : 0 ≤ n9 ∧ n9 ≤ 3) : Met l yX4_groupsAbove wsX4_groupsAbove ({ frames := 0, cells := 0, slots := 0, locals := 0 }) (roP [.long xx, .int (iI n9)] D (tyz yI yC yD) []) (QcReadL (gAb xx n9.toNat)) 0 0 (fun _ => False) := by
  refine Met.ofW (cc := cX4_groupsAbove) (maxL := 6) (ret := (some .long)) (by decide) rfl ?_
  intro p e s m args below meth c s₁ B hml hv
  obtain ⟨rfl, hP, hK⟩ := hv
  have hx := B.exec
  have hb := B.bytes
  have hr := B.returns
  have hts := atoms_spec (ws := wsX4_groupsAbove) B.pre
  have hown : s.vm.findClass RX4 = some m.cls := findClass_of_methodNamed B.named
  have hlocks := B.notSynchronized
  have hP : va_P D vwCl [] s.heap := hP
  have hl := lv_entry ([.long xx, .int (iI n9)]) (n := 6) (Nat.le_of_ble_eq_true rfl)
  rw [lg_entry_eq]
  generalize (lg_sl ([.long xx, .int (iI n9)]) ++ List.replicate (6 - (lg_sl ([.long xx, .int (iI n9)])).length) Slot.unset).toArray = ls at hl ⊢
  have hl : lv_has ls 6 [(0, .long xx), (2, .int (iI n9))] := hl
  refine lv_lload_n hx hb dX4_groupsAbove_0 rfl (lv_at hl 0 rfl) ?_
  refine lv_lstore_n (lv' := [(3, .long xx), (0, .long xx), (2, .int (iI n9))]) hx hb dX4_groupsAbove_1 rfl hl (by decide) rfl (fun ls hl => ?_)
  refine lv_iconst (v := iI 0) hx hb dX4_groupsAbove_2 (by decide +kernel) ?_
  refine lv_istore (lv' := [(5, .int (iI 0)), (3, .long xx), (0, .long xx), (2, .int (iI n9))]) hx hb dX4_groupsAbove_3 hl (by decide) rfl (fun ls hl => ?_)
  refine iv_loopR (I := fun (qq : Nat × Int64 × Int) ls => match qq with | (k, yy, x5) => ((k : Int) ≤ n9) ∧ (x5 = k) ∧ (yy = gAb xx k) ∧ lv_has ls 6 [(5, .int (iI x5)), (3, .long yy), (0, .long xx), (2, .int (iI n9))]) (μ := fun (qq : Nat × Int64 × Int) => match qq with | (k, yy, x5) => n9.toNat - k) (0, xx, 0) ?_ ?_
  · exact ⟨by omega, by omega, rfl, lv_sub hl [0, 1, 2, 3] rfl⟩
  · intro qq ls hI ih5
    obtain ⟨k, yy, x5⟩ := qq
    obtain ⟨hk, h5, hy, hl⟩ := hI
    refine lv_iload hx hb dX4_groupsAbove_5 (lv_at hl 0 rfl) ?_
    refine lv_iload_n hx hb dX4_groupsAbove_7 rfl (lv_at hl 3 rfl) ?_
    refine iv_icmp_ge (a := x5) (b := n9) (tgt := 23) hx hb (by omega) (by omega) dX4_groupsAbove_8 (by decide) (fun c8 => ?_) (fun c8 => ?_)
    · refine lv_lload_n hx hb dX4_groupsAbove_23 rfl (lv_at hl 1 rfl) ?_
      exact W.lret hx hb hr (fun t ht hW => ⟨congrArg (fun z => Outcome.returned (some (Value.long z))) (by rw [hy, show n9.toNat = k by omega]), ht⟩) (fun q h => by cases h) dX4_groupsAbove_24
    · refine lv_lload_n hx hb dX4_groupsAbove_11 rfl (lv_at hl 1 rfl) ?_
      refine lv_ldc2 (v := 100000) hx hb hown (hts (.constantLong RX4 227 (100000)) (by decide +kernel)) dX4_groupsAbove_12 ?_
      refine lv_ldiv hx hb dX4_groupsAbove_15 (by decide +kernel) ?_
      refine lv_lstore_n (lv' := [(3, .long (yy / 100000)), (5, .int (iI x5)), (0, .long xx), (2, .int (iI n9))]) hx hb dX4_groupsAbove_16 rfl hl (by decide) rfl (fun ls hl => ?_)
      refine iv_inc (lv' := [(5, .int (iI (x5 + 1))), (3, .long (yy / 100000)), (0, .long xx), (2, .int (iI n9))]) hx hb dX4_groupsAbove_17 hl (k := 1) rfl (by decide) rfl (fun ls hl => ?_)
      refine lv_goto (tgt := 5) hx hb dX4_groupsAbove_20 (by decide) ?_
      refine ih5 (k + 1, yy / 100000, x5 + 1) (by show (n9.toNat - (k + 1) : Nat) < n9.toNat - k; omega) ?_
      exact ⟨by omega, by omega, by rw [hy]; rfl, lv_sub hl [0, 1, 2, 3] rfl⟩
set_option maxHeartbeats 4000000 in
set_option maxRecDepth 100000 in
theorem c_X4_runScript (l : Launch) (hla : l.stackTraces = false) (D : va_G) (yI yC yD : ClassId) (x : Nat) (tx : Nat) (nw : Nat) (tr : Nat) (kn : Nat) (me : Nat) (sl : Nat) (nc : Nat) (S : Int → Int) (g : Int → Int) (tc : Nat) (S2 : Int → Int) (g2 : Int → Int) (k2 : Int64) (ex : Nat) (pl : Int) (E : Int → Int) (nn : Int) (xx : Int64) (hI : Inv S) (hR : Rc S g) (hn9 : inR nn) (sz : Nat) : vx_Met l yX4_runScript wsX4_runScript ({ frames := 6, cells := 8, slots := 150, locals := 144 }) (vxP [.ref x, .int (iI nn), .long xx] D (tyz yI yC yD) [(x, oRD tx nw tr kn me sl), (nw, oDrv nc S (lN (kL (S) 0 40))), (nc, aI yI 48 g), (tr, oDrv tc S2 k2), (tc, aI yI 48 g2), (kn, oKn pl ex), (ex, aI yI 1681 E)] sz) (va_Qi (fun (r : Int32) (u : (Int → Int) × (Int → Int) × Int64 × Int × (Int → Int)) => match u with | (S9, G9, k9, p9, E9) => r = iI (rsL xx.toInt nn.toNat S 0) ∧ ((1 ≤ nn ∧ nn ≤ 3) ∧ 0 ≤ xx.toInt ∧ xx.toInt < bnd3 nn)) (fun (u : (Int → Int) × (Int → Int) × Int64 × Int × (Int → Int)) (t : State) => match u with | (S9, G9, k9, p9, E9) => va_P D vwCl [(x, oRD tx nw tr kn me sl), (nw, oDrv nc S (lN (kL (S) 0 40))), (nc, aI yI 48 g), (tr, oDrv tc S9 k9), (tc, aI yI 48 G9), (kn, oKn p9 ex), (ex, aI yI 1681 E9)] t.heap) (va_A [(x, oRD tx nw tr kn me sl), (nw, oDrv nc S (lN (kL (S) 0 40))), (nc, aI yI 48 g), (tr, oDrv tc S2 k2), (tc, aI yI 48 g2), (kn, oKn pl ex), (ex, aI yI 1681 E)] sz)) (vxX D (fun E => E = eA ∧ ¬ ((1 ≤ nn ∧ nn ≤ 3) ∧ 0 ≤ xx.toInt ∧ xx.toInt < bnd3 nn)) (fun (_ : Unit) => [(x, oRD tx nw tr kn me sl), (nw, oDrv nc S (lN (kL (S) 0 40))), (nc, aI yI 48 g), (tr, oDrv tc S2 k2), (tc, aI yI 48 g2), (kn, oKn pl ex), (ex, aI yI 1681 E)]) (va_A [(x, oRD tx nw tr kn me sl), (nw, oDrv nc S (lN (kL (S) 0 40))), (nc, aI yI 48 g), (tr, oDrv tc S2 k2), (tc, aI yI 48 g2), (kn, oKn pl ex), (ex, aI yI 1681 E)] sz)) 8 150 (va_A [(x, oRD tx nw tr kn me sl), (nw, oDrv nc S (lN (kL (S) 0 40))), (nc, aI yI 48 g), (tr, oDrv tc S2 k2), (tc, aI yI 48 g2), (kn, oKn pl ex), (ex, aI yI 1681 E)] sz) := by
  refine vx_ofW (cc := cX4_runScript) (maxL := 5) (ret := (some .int)) (by decide) rfl ?_
  intro p e s m args below meth c s₁ B hml hno hv
  obtain ⟨rfl, hsz, hP, hK, hD0, hB⟩ := hv
  have hx := B.exec
  have hb := B.bytes
  have hr := B.returns
  have hts := atoms_spec (ws := wsX4_runScript) B.pre
  have hown : s.vm.findClass RX4 = some m.cls := findClass_of_methodNamed B.named
  have hlocks := B.notSynchronized
  subst hsz
  have hD := hD0.self (sz := s.heap.size)
  generalize hAe : va_A [(x, oRD tx nw tr kn me sl), (nw, oDrv nc S (lN (kL (S) 0 40))), (nc, aI yI 48 g), (tr, oDrv tc S2 k2), (tc, aI yI 48 g2), (kn, oKn pl ex), (ex, aI yI 1681 E)] s.heap.size = A at hD hB ⊢
  have hA : ∀ q : Nat, s.heap.size ≤ q → A q := fun q h => by rw [← hAe]; exact Or.inr h
  have hS : va_S A s.heap s.heap [] := va_S.rf
  have hP : va_P D vwCl [(x, oRD tx nw tr kn me sl), (nw, oDrv nc S (lN (kL (S) 0 40))), (nc, aI yI 48 g), (tr, oDrv tc S2 k2), (tc, aI yI 48 g2), (kn, oKn pl ex), (ex, aI yI 1681 E)] s.heap := hP
  have hinX4 : ∀ w ∈ wsX40, w ∈ wsX4_runScript := by decide +kernel
  have hf19 : (Cond.fieldLink RX4 19 "RiddleDrive" "now" "LRiddleDrive$Drive;").before _ s = true := hts _ (by decide +kernel)
  have hf23 : (Cond.fieldLink RX4 23 "RiddleDrive" "trial" "LRiddleDrive$Drive;").before _ s = true := hts _ (by decide +kernel)
  have hl := lv_entry ([.ref x, .int (iI nn), .long xx]) (n := 5) (Nat.le_of_ble_eq_true rfl)
  rw [lg_entry_eq]
  generalize (lg_sl ([.ref x, .int (iI nn), .long xx]) ++ List.replicate (5 - (lg_sl ([.ref x, .int (iI nn), .long xx])).length) Slot.unset).toArray = ls at hl ⊢
  have hl : lv_has ls 5 [(0, .ref x), (1, .int (iI nn)), (2, .long xx)] := hl
  have hpl := hI.pl
  have hna := hI.na
  have hse := hI.se
  have hwi := hI.wi
  have hfe := hI.fe
  have hc1 := cmpI_s xx.toInt 0
  have hc2 := cmpI_s (xx.toInt / gw nn.toNat) 0
  refine lv_iload_n hx hb dX4_runScript_0 rfl (lv_at hl 1 rfl) ?_
  refine lv_iconst (v := iI 1) hx hb dX4_runScript_1 (by decide +kernel) ?_
  refine iv_icmp_lt (a := nn) (b := 1) (tgt := 10) hx hb (by omega) (by omega) dX4_runScript_2 (by decide) (fun c2 => ?_) (fun c2 => ?_)
  · exact iv_thrG (ic := 52) (ik := 48) (is := 219) (cls := eA) (text := "no such number of commands") hx hb hla hown bfA xfA xgA hB.1.1 hts (fun w h => List.mem_cons_of_mem _ (List.mem_append_right _ h)) (by decide +kernel) (by decide +kernel) hB hS (()) (by exact hP) (⟨rfl, fun z => by omega⟩) (hl.1.trans hml.symm) hlocks hno (by decide +kernel) ⟨Nat.le_of_ble_eq_true rfl, Nat.le_of_ble_eq_true rfl, Nat.le_of_ble_eq_true rfl, Nat.le_of_ble_eq_true rfl⟩ (Nat.le_of_ble_eq_true rfl) (Nat.le_of_ble_eq_true rfl) dX4_runScript_10 dX4_runScript_13 (Or.inl ⟨dX4_runScript_14, dX4_runScript_16, dX4_runScript_19⟩)
  · refine lv_iload_n hx hb dX4_runScript_5 rfl (lv_at hl 1 rfl) ?_
    refine lv_iconst (v := iI 3) hx hb dX4_runScript_6 (by decide +kernel) ?_
    refine iv_icmp_le (a := nn) (b := 3) (tgt := 20) hx hb (by omega) (by omega) dX4_runScript_7 (by decide) (fun c7 => ?_) (fun c7 => ?_)
    · refine lv_lload_n hx hb dX4_runScript_20 rfl (lv_at hl 2 rfl) ?_
      refine lv_lconst (v := 0) hx hb dX4_runScript_21 (by decide +kernel) ?_
      refine iv_lcmp (z := cmpI xx.toInt 0) hx hb (cmp_e (by decide +kernel)) dX4_runScript_22 ?_
      refine iv_if_lt (a := cmpI xx.toInt 0) (tgt := 36) hx hb (by omega) dX4_runScript_23 (by decide) (fun c23 => ?_) (fun c23 => ?_)
      · exact iv_thrG (ic := 52) (ik := 48) (is := 225) (cls := eA) (text := "not a script") hx hb hla hown bfA xfA xgA hB.1.1 hts (fun w h => List.mem_cons_of_mem _ (List.mem_append_right _ h)) (by decide +kernel) (by decide +kernel) hB hS (()) (by exact hP) (⟨rfl, fun z => by omega⟩) (hl.1.trans hml.symm) hlocks hno (by decide +kernel) ⟨Nat.le_of_ble_eq_true rfl, Nat.le_of_ble_eq_true rfl, Nat.le_of_ble_eq_true rfl, Nat.le_of_ble_eq_true rfl⟩ (Nat.le_of_ble_eq_true rfl) (Nat.le_of_ble_eq_true rfl) dX4_runScript_36 dX4_runScript_39 (Or.inl ⟨dX4_runScript_40, dX4_runScript_42, dX4_runScript_45⟩)
      · refine lv_lload_n hx hb dX4_runScript_26 rfl (lv_at hl 2 rfl) ?_
        refine lv_iload_n hx hb dX4_runScript_27 rfl (lv_at hl 1 rfl) ?_
        refine iv_roSL (As := [.long xx, .int (iI nn)]) (rest := []) (n := 2) ⟨hx, hb, hml, hown, hts⟩ (c_X4_groupsAbove l D yI yC yD xx nn (by omega) (by omega)) (va_cwS 2 hts gX4_runScript_X4_groupsAbove rfl rfl rfl (by decide +kernel) ⟨Nat.le_of_ble_eq_true rfl, Nat.le_of_ble_eq_true rfl⟩) hK hP [] rfl rfl hl.1 rfl (Nat.le_of_ble_eq_true rfl) dX4_runScript_28 ⟨Nat.le_of_ble_eq_true rfl, Nat.le_of_ble_eq_true rfl⟩ ?_
        refine lv_lconst (v := 0) hx hb dX4_runScript_31 (by decide +kernel) ?_
        refine iv_lcmp (z := cmpI (xx.toInt / gw nn.toNat) 0) hx hb (by rw [← gAb_t (x := xx) (by omega) (by omega)]; exact cmp_e (by decide +kernel)) dX4_runScript_32 ?_
        refine iv_if_le (a := cmpI (xx.toInt / gw nn.toNat) 0) (tgt := 46) hx hb (by omega) dX4_runScript_33 (by decide) (fun c33 => ?_) (fun c33 => ?_)
        · have hcs : (1 ≤ nn ∧ nn ≤ 3) ∧ 0 ≤ xx.toInt ∧ xx.toInt < bnd3 nn := ⟨by omega, by omega, (bnd_gw (by omega) (by omega)).1 (by omega)⟩
          refine lv_aload_n hx hb dX4_runScript_46 rfl (lv_at hl 0 rfl) ?_
          refine va_get (D := D) (ci := 4) (v := .ref tr) (C := RX4) (T := TX4) (N := 6) hx hb hts hinX4 hown hK hP 0 rfl rfl 2 (by decide) hf23 (fun _ h9 => h9) rfl dX4_runScript_47 ?_
          refine lv_aload_n hx hb dX4_runScript_50 rfl (lv_at hl 0 rfl) ?_
          refine va_get (D := D) (ci := 4) (v := .ref nw) (C := RX4) (T := TX4) (N := 6) hx hb hts hinX4 hown hK hP 0 rfl rfl 1 (by decide) hf19 (fun _ h9 => h9) rfl dX4_runScript_51 ?_
          refine iv_rwVv (As := [.ref nw]) (rest := []) (C := RX0) (n := 1) ⟨hx, hb, hml, hown, hts⟩ (c_X0_takeFrom l D yI yC yD tr tc S2 g2 k2 nw nc S g (lN (kL (S) 0 40))  _) (cwV 1 hts gX4_runScript_X0_takeFrom rfl rfl rfl (by decide +kernel) ⟨Nat.le_of_ble_eq_true rfl, Nat.le_of_ble_eq_true rfl⟩) hK hP hD hS hA [3, 4, 1, 2] (by decide) rfl 3 rfl rfl rfl hl.1 rfl (Nat.le_of_ble_eq_true rfl) dX4_runScript_54 ⟨Nat.le_of_ble_eq_true rfl, Nat.le_of_ble_eq_true rfl⟩ (fun _ => rfl) (fun u54 H locs hw54 hP hD hS => ?_)
          have hP : va_P D vwCl [(x, oRD tx nw tr kn me sl), (nw, oDrv nc S (lN (kL (S) 0 40))), (nc, aI yI 48 g), (tr, oDrv tc S (lN (kL (S) 0 40))), (tc, aI yI 48 g), (kn, oKn pl ex), (ex, aI yI 1681 E)] H := hP
          have hD : va_D A [(x, oRD tx nw tr kn me sl), (nw, oDrv nc S (lN (kL (S) 0 40))), (nc, aI yI 48 g), (tr, oDrv tc S (lN (kL (S) 0 40))), (tc, aI yI 48 g), (kn, oKn pl ex), (ex, aI yI 1681 E)] := hD
          refine lv_iconst (v := iI 0) hx hb dX4_runScript_57 (by decide +kernel) ?_
          refine lv_istore (lv' := [(4, .int (iI 0)), (0, .ref x), (1, .int (iI nn)), (2, .long xx)]) hx hb dX4_runScript_58 hl (by decide) rfl (fun ls hl => ?_)
          refine iv_loop (I := fun (qq : Nat × Int × (Int → Int) × (Int → Int) × Int × (Int → Int)) H locs ls => match qq with | (k, x4, G, gg, pp, Ex) => ((k : Int) ≤ nn) ∧ (x4 = k) ∧ (Inv G) ∧ (Rc G gg) ∧ (rsL xx.toInt (nn.toNat - k) G k = rsL xx.toInt nn.toNat S 0) ∧ va_P D vwCl [(x, oRD tx nw tr kn me sl), (nw, oDrv nc S (lN (kL (S) 0 40))), (nc, aI yI 48 g), (tr, oDrv tc G (lN (kL (G) 0 40))), (tc, aI yI 48 gg), (kn, oKn pp ex), (ex, aI yI 1681 Ex)] H ∧ va_D A [(x, oRD tx nw tr kn me sl), (nw, oDrv nc S (lN (kL (S) 0 40))), (nc, aI yI 48 g), (tr, oDrv tc G (lN (kL (G) 0 40))), (tc, aI yI 48 gg), (kn, oKn pp ex), (ex, aI yI 1681 Ex)] ∧ va_S A s.heap H locs ∧ lv_has ls 5 [(4, .int (iI x4)), (0, .ref x), (1, .int (iI nn)), (2, .long xx)]) (μ := fun (qq : Nat × Int × (Int → Int) × (Int → Int) × Int × (Int → Int)) => match qq with | (k, x4, G, gg, pp, Ex) => nn.toNat - k) (0, 0, S, g, pl, E) ?_ ?_
          · exact ⟨by omega, by omega, hI, hR, rfl, hP, hD, hS, lv_sub hl [0, 1, 2, 3] rfl⟩
          · intro qq H locs ls hI ih60
            obtain ⟨k, x4, G, gg, pp, Ex⟩ := qq
            obtain ⟨hk, h4, hI2, hR2, hrs, hP, hD, hS, hl⟩ := hI
            refine lv_iload hx hb dX4_runScript_60 (lv_at hl 0 rfl) ?_
            refine lv_iload_n hx hb dX4_runScript_62 rfl (lv_at hl 2 rfl) ?_
            refine iv_icmp_ge (a := x4) (b := nn) (tgt := 97) hx hb (by omega) (by omega) dX4_runScript_63 (by decide) (fun c63 => ?_) (fun c63 => ?_)
            · refine lv_iconst (v := iI (-1)) hx hb dX4_runScript_97 (by decide +kernel) ?_
              have hP9 : va_P D vwCl [(x, oRD tx nw tr kn me sl), (nw, oDrv nc S (lN (kL (S) 0 40))), (nc, aI yI 48 g), (tr, oDrv tc G (lN (kL (G) 0 40))), (tc, aI yI 48 gg), (kn, oKn pp ex), (ex, aI yI 1681 Ex)] _ := hP.sub [0, 1, 2, 3, 4, 5, 6] rfl
              refine W.widen (k := 8) (n := 150) (Nat.le_of_ble_eq_true rfl) (Nat.le_of_ble_eq_true rfl) ?_
              refine vx_ret ?_
              exact W.iret hx hb hr (fun t ht hW => ⟨⟨iI (-1), (G, gg, lN (kL (G) 0 40), pp, Ex), rfl, ⟨congrArg iI (show -1 = rsL xx.toInt nn.toNat S 0 by rw [← hrs, show nn.toNat - k = 0 by omega]; rfl), (by exact hcs)⟩, by show va_P D vwCl _ t.heap; rw [ht]; exact hP9⟩, hS.F ht⟩) hS.2.2 dX4_runScript_98
            · refine lv_aload_n hx hb dX4_runScript_66 rfl (lv_at hl 1 rfl) ?_
              refine lv_lload_n hx hb dX4_runScript_67 rfl (lv_at hl 3 rfl) ?_
              refine lv_iload_n hx hb dX4_runScript_68 rfl (lv_at hl 2 rfl) ?_
              refine lv_iconst (v := iI 1) hx hb dX4_runScript_69 (by decide +kernel) ?_
              refine iv_sub hx hb dX4_runScript_70 ?_
              refine lv_iload hx hb dX4_runScript_71 (lv_at hl 0 rfl) ?_
              refine iv_sub hx hb dX4_runScript_73 ?_
              refine iv_roSL (As := [.long xx, .int (iI (nn - 1 - x4))]) (rest := [.ref x]) (n := 2) ⟨hx, hb, hml, hown, hts⟩ (c_X4_groupsAbove l D yI yC yD xx (nn - 1 - x4) (by omega) (by omega)) (va_cwS 2 hts gX4_runScript_X4_groupsAbove rfl rfl rfl (by decide +kernel) ⟨Nat.le_of_ble_eq_true rfl, Nat.le_of_ble_eq_true rfl⟩) hK hP [] rfl rfl hl.1 rfl (Nat.le_of_ble_eq_true rfl) dX4_runScript_74 ⟨Nat.le_of_ble_eq_true rfl, Nat.le_of_ble_eq_true rfl⟩ ?_
              refine lv_ldc2 (v := 100000) hx hb hown (hts (.constantLong RX4 227 (100000)) (by decide +kernel)) dX4_runScript_77 ?_
              refine lv_lrem hx hb dX4_runScript_80 (by decide +kernel) ?_
              refine lv_l2i (v := iI (xx.toInt / gw (nn.toNat - 1 - k) % 100000)) hx hb dX4_runScript_81 (by rw [i64_rem (by rw [gAb_t (by omega) (by omega)]; exact Int.ediv_nonneg (by omega) (Int.le_of_lt (gw_pos _))), gAb_t (by omega) (by omega), show (nn - 1 - x4).toNat = nn.toNat - 1 - k by omega]) ?_
              have hgg : 0 ≤ xx.toInt / gw (nn.toNat - 1 - k) % 100000 ∧ xx.toInt / gw (nn.toNat - 1 - k) % 100000 < 100000 := ⟨Int.emod_nonneg _ (by omega), Int.emod_lt_of_pos _ (by omega)⟩
              have hpp := pI_r (P := cmdOk G (xx.toInt / gw (nn.toNat - 1 - k) % 100000))
              refine iv_rwV (As := [.int (iI (xx.toInt / gw (nn.toNat - 1 - k) % 100000))]) (rest := []) (C := RX4) (n := 1) ⟨hx, hb, hml, hown, hts⟩ (c_X4_succeeds l D yI yC yD x tx nw tr kn me sl tc G gg ex pp Ex (xx.toInt / gw (nn.toNat - 1 - k) % 100000) (by assumption) (by assumption) (hgg) _) (cwV 1 hts gX4_runScript_X4_succeeds rfl rfl rfl (by decide +kernel) ⟨Nat.le_of_ble_eq_true rfl, Nat.le_of_ble_eq_true rfl⟩) hK hP hD hS hA [0, 5, 6, 3, 4] (by decide) rfl 0 rfl rfl rfl hl.1 rfl (Nat.le_of_ble_eq_true rfl) dX4_runScript_82 ⟨Nat.le_of_ble_eq_true rfl, Nat.le_of_ble_eq_true rfl⟩ (fun _ => rfl) (fun r82 u82 H locs hw82 hP hD hS => ?_)
              obtain ⟨G982, p982, E982⟩ := u82
              obtain ⟨hr82, hR9_82⟩ := hw82
              subst hr82
              have hP : va_P D vwCl [(x, oRD tx nw tr kn me sl), (nw, oDrv nc S (lN (kL (S) 0 40))), (nc, aI yI 48 g), (tr, oDrv tc (cmdS G (xx.toInt / gw (nn.toNat - 1 - k) % 100000)) (lN (kL (cmdS G (xx.toInt / gw (nn.toNat - 1 - k) % 100000)) 0 40))), (tc, aI yI 48 G982), (kn, oKn p982 ex), (ex, aI yI 1681 E982)] H := hP
              have hD : va_D A [(x, oRD tx nw tr kn me sl), (nw, oDrv nc S (lN (kL (S) 0 40))), (nc, aI yI 48 g), (tr, oDrv tc (cmdS G (xx.toInt / gw (nn.toNat - 1 - k) % 100000)) (lN (kL (cmdS G (xx.toInt / gw (nn.toNat - 1 - k) % 100000)) 0 40))), (tc, aI yI 48 G982), (kn, oKn p982 ex), (ex, aI yI 1681 E982)] := hD
              refine iv_if_ne (a := pI (cmdOk G (xx.toInt / gw (nn.toNat - 1 - k) % 100000))) (tgt := 91) hx hb (by omega) dX4_runScript_85 (by decide) (fun c85 => ?_) (fun c85 => ?_)
              · refine iv_inc (lv' := [(4, .int (iI (x4 + 1))), (0, .ref x), (1, .int (iI nn)), (2, .long xx)]) hx hb dX4_runScript_91 hl (k := 0) rfl (by decide) rfl (fun ls hl => ?_)
                refine lv_goto (tgt := 60) hx hb dX4_runScript_94 (by decide) ?_
                refine ih60 (k + 1, x4 + 1, cmdS G (xx.toInt / gw (nn.toNat - 1 - k) % 100000), G982, p982, E982) _ _ (by show (nn.toNat - (k + 1) : Nat) < nn.toNat - k; omega) ?_
                exact ⟨by omega, by omega, inv_cmdS hI2 hgg, hR9_82, by rw [← hrs]; exact (rs_yes (by omega) (by omega)).symm, hP, hD, hS, lv_sub hl [0, 1, 2, 3] rfl⟩
              · refine lv_iload hx hb dX4_runScript_88 (lv_at hl 0 rfl) ?_
                have hP9 : va_P D vwCl [(x, oRD tx nw tr kn me sl), (nw, oDrv nc S (lN (kL (S) 0 40))), (nc, aI yI 48 g), (tr, oDrv tc (cmdS G (xx.toInt / gw (nn.toNat - 1 - k) % 100000)) (lN (kL (cmdS G (xx.toInt / gw (nn.toNat - 1 - k) % 100000)) 0 40))), (tc, aI yI 48 G982), (kn, oKn p982 ex), (ex, aI yI 1681 E982)] _ := hP.sub [0, 1, 2, 3, 4, 5, 6] rfl
                refine W.widen (k := 8) (n := 150) (Nat.le_of_ble_eq_true rfl) (Nat.le_of_ble_eq_true rfl) ?_
                refine vx_ret ?_
                exact W.iret hx hb hr (fun t ht hW => ⟨⟨iI x4, (cmdS G (xx.toInt / gw (nn.toNat - 1 - k) % 100000), G982, lN (kL (cmdS G (xx.toInt / gw (nn.toNat - 1 - k) % 100000)) 0 40), p982, E982), rfl, ⟨congrArg iI (show x4 = rsL xx.toInt nn.toNat S 0 by rw [← hrs, h4]; exact (rs_no (by omega) (by omega)).symm), (by exact hcs)⟩, by show va_P D vwCl _ t.heap; rw [ht]; exact hP9⟩, hS.F ht⟩) hS.2.2 dX4_runScript_90
        · exact iv_thrG (ic := 52) (ik := 48) (is := 225) (cls := eA) (text := "not a script") hx hb hla hown bfA xfA xgA hB.1.1 hts (fun w h => List.mem_cons_of_mem _ (List.mem_append_right _ h)) (by decide +kernel) (by decide +kernel) hB hS (()) (by exact hP) (⟨rfl, fun z => by have := (bnd_gw z.1 z.2.1).2 z.2.2; omega⟩) (hl.1.trans hml.symm) hlocks hno (by decide +kernel) ⟨Nat.le_of_ble_eq_true rfl, Nat.le_of_ble_eq_true rfl, Nat.le_of_ble_eq_true rfl, Nat.le_of_ble_eq_true rfl⟩ (Nat.le_of_ble_eq_true rfl) (Nat.le_of_ble_eq_true rfl) dX4_runScript_36 dX4_runScript_39 (Or.inl ⟨dX4_runScript_40, dX4_runScript_42, dX4_runScript_45⟩)
    · exact iv_thrG (ic := 52) (ik := 48) (is := 219) (cls := eA) (text := "no such number of commands") hx hb hla hown bfA xfA xgA hB.1.1 hts (fun w h => List.mem_cons_of_mem _ (List.mem_append_right _ h)) (by decide +kernel) (by decide +kernel) hB hS (()) (by exact hP) (⟨rfl, fun z => by omega⟩) (hl.1.trans hml.symm) hlocks hno (by decide +kernel) ⟨Nat.le_of_ble_eq_true rfl, Nat.le_of_ble_eq_true rfl, Nat.le_of_ble_eq_true rfl, Nat.le_of_ble_eq_true rfl⟩ (Nat.le_of_ble_eq_true rfl) (Nat.le_of_ble_eq_true rfl) dX4_runScript_10 dX4_runScript_13 (Or.inl ⟨dX4_runScript_14, dX4_runScript_16, dX4_runScript_19⟩)
set_option maxHeartbeats 4000000 in
set_option maxRecDepth 100000 in
theorem c_X4_simulate (l : Launch) (hla : l.stackTraces = false) (D : va_G) (yI yC yD : ClassId) (x : Nat) (tx : Nat) (nw : Nat) (tr : Nat) (kn : Nat) (me : Nat) (sl : Nat) (nc : Nat) (S : Int → Int) (g : Int → Int) (tc : Nat) (S2 : Int → Int) (g2 : Int → Int) (k2 : Int64) (ex : Nat) (pl : Int) (E : Int → Int) (xx : Int64) (q9 : Int) (hI : Inv S) (hR : Rc S g) (hq9 : inR q9) (sz : Nat) : vx_Met l yX4_simulate wsX4_simulate ({ frames := 6, cells := 8, slots := 150, locals := 104 }) (vxP [.ref x, .long xx, .int (iI q9)] D (tyz yI yC yD) [(x, oRD tx nw tr kn me sl), (nw, oDrv nc S (lN (kL (S) 0 40))), (nc, aI yI 48 g), (tr, oDrv tc S2 k2), (tc, aI yI 48 g2), (kn, oKn pl ex), (ex, aI yI 1681 E)] sz) (va_Qi (fun (r : Int32) (u : (Int → Int) × (Int → Int) × Int64 × Int × (Int → Int)) => match u with | (S9, G9, k9, p9, E9) => r = iI (simQ S (simL q9.toNat xx S)) ∧ (1 ≤ q9 ∧ q9 ≤ 30)) (fun (u : (Int → Int) × (Int → Int) × Int64 × Int × (Int → Int)) (t : State) => match u with | (S9, G9, k9, p9, E9) => va_P D vwCl [(x, oRD tx nw tr kn me sl), (nw, oDrv nc S (lN (kL (S) 0 40))), (nc, aI yI 48 g), (tr, oDrv tc S9 k9), (tc, aI yI 48 G9), (kn, oKn p9 ex), (ex, aI yI 1681 E9)] t.heap) (va_A [(x, oRD tx nw tr kn me sl), (nw, oDrv nc S (lN (kL (S) 0 40))), (nc, aI yI 48 g), (tr, oDrv tc S2 k2), (tc, aI yI 48 g2), (kn, oKn pl ex), (ex, aI yI 1681 E)] sz)) (vxX D (fun E => E = eA ∧ ¬ (1 ≤ q9 ∧ q9 ≤ 30)) (fun (_ : Unit) => [(x, oRD tx nw tr kn me sl), (nw, oDrv nc S (lN (kL (S) 0 40))), (nc, aI yI 48 g), (tr, oDrv tc S2 k2), (tc, aI yI 48 g2), (kn, oKn pl ex), (ex, aI yI 1681 E)]) (va_A [(x, oRD tx nw tr kn me sl), (nw, oDrv nc S (lN (kL (S) 0 40))), (nc, aI yI 48 g), (tr, oDrv tc S2 k2), (tc, aI yI 48 g2), (kn, oKn pl ex), (ex, aI yI 1681 E)] sz)) 8 150 (va_A [(x, oRD tx nw tr kn me sl), (nw, oDrv nc S (lN (kL (S) 0 40))), (nc, aI yI 48 g), (tr, oDrv tc S2 k2), (tc, aI yI 48 g2), (kn, oKn pl ex), (ex, aI yI 1681 E)] sz) := by
  refine vx_ofW (cc := cX4_simulate) (maxL := 7) (ret := (some .int)) (by decide) rfl ?_
  intro p e s m args below meth c s₁ B hml hno hv
  obtain ⟨rfl, hsz, hP, hK, hD0, hB⟩ := hv
  have hx := B.exec
  have hb := B.bytes
  have hr := B.returns
  have hts := atoms_spec (ws := wsX4_simulate) B.pre
  have hown : s.vm.findClass RX4 = some m.cls := findClass_of_methodNamed B.named
  have hlocks := B.notSynchronized
  subst hsz
  have hD := hD0.self (sz := s.heap.size)
  generalize hAe : va_A [(x, oRD tx nw tr kn me sl), (nw, oDrv nc S (lN (kL (S) 0 40))), (nc, aI yI 48 g), (tr, oDrv tc S2 k2), (tc, aI yI 48 g2), (kn, oKn pl ex), (ex, aI yI 1681 E)] s.heap.size = A at hD hB ⊢
  have hA : ∀ q : Nat, s.heap.size ≤ q → A q := fun q h => by rw [← hAe]; exact Or.inr h
  have hS : va_S A s.heap s.heap [] := va_S.rf
  have hP : va_P D vwCl [(x, oRD tx nw tr kn me sl), (nw, oDrv nc S (lN (kL (S) 0 40))), (nc, aI yI 48 g), (tr, oDrv tc S2 k2), (tc, aI yI 48 g2), (kn, oKn pl ex), (ex, aI yI 1681 E)] s.heap := hP
  have hinX0 : ∀ w ∈ wsX00, w ∈ wsX4_simulate := by decide +kernel
  have hinX4 : ∀ w ∈ wsX40, w ∈ wsX4_simulate := by decide +kernel
  have hf19 : (Cond.fieldLink RX4 19 "RiddleDrive" "now" "LRiddleDrive$Drive;").before _ s = true := hts _ (by decide +kernel)
  have hf23 : (Cond.fieldLink RX4 23 "RiddleDrive" "trial" "LRiddleDrive$Drive;").before _ s = true := hts _ (by decide +kernel)
  have hf29 : (Cond.fieldLink RX4 29 "RiddleDrive" "knowledge" "LRiddleDrive$Knowledge;").before _ s = true := hts _ (by decide +kernel)
  have hf110 : (Cond.fieldLink RX4 110 "RiddleDrive$Drive" "paid" "I").before _ s = true := hts _ (by decide +kernel)
  have hl := lv_entry ([.ref x, .long xx, .int (iI q9)]) (n := 7) (Nat.le_of_ble_eq_true rfl)
  rw [lg_entry_eq]
  generalize (lg_sl ([.ref x, .long xx, .int (iI q9)]) ++ List.replicate (7 - (lg_sl ([.ref x, .long xx, .int (iI q9)])).length) Slot.unset).toArray = ls at hl ⊢
  have hl : lv_has ls 7 [(0, .ref x), (1, .long xx), (3, .int (iI q9))] := hl
  have hpl := hI.pl
  have hna := hI.na
  have hse := hI.se
  have hwi := hI.wi
  have hfe := hI.fe
  refine lv_iload_n hx hb dX4_simulate_0 rfl (lv_at hl 2 rfl) ?_
  refine lv_iconst (v := iI 1) hx hb dX4_simulate_1 (by decide +kernel) ?_
  refine iv_icmp_lt (a := q9) (b := 1) (tgt := 11) hx hb (by omega) (by omega) dX4_simulate_2 (by decide) (fun c2 => ?_) (fun c2 => ?_)
  · exact iv_thrG (ic := 52) (ik := 48) (is := 232) (cls := eA) (text := "no such number of questions") hx hb hla hown bfA xfA xgA hB.1.1 hts (fun w h => List.mem_cons_of_mem _ (List.mem_append_right _ h)) (by decide +kernel) (by decide +kernel) hB hS (()) (by exact hP) (⟨rfl, fun z => by omega⟩) (hl.1.trans hml.symm) hlocks hno (by decide +kernel) ⟨Nat.le_of_ble_eq_true rfl, Nat.le_of_ble_eq_true rfl, Nat.le_of_ble_eq_true rfl, Nat.le_of_ble_eq_true rfl⟩ (Nat.le_of_ble_eq_true rfl) (Nat.le_of_ble_eq_true rfl) dX4_simulate_11 dX4_simulate_14 (Or.inl ⟨dX4_simulate_15, dX4_simulate_17, dX4_simulate_20⟩)
  · refine lv_iload_n hx hb dX4_simulate_5 rfl (lv_at hl 2 rfl) ?_
    refine lv_bipush (v := iI 30) hx hb dX4_simulate_6 (by decide +kernel) ?_
    refine iv_icmp_le (a := q9) (b := 30) (tgt := 21) hx hb (by omega) (by omega) dX4_simulate_8 (by decide) (fun c8 => ?_) (fun c8 => ?_)
    · refine lv_aload_n hx hb dX4_simulate_21 rfl (lv_at hl 0 rfl) ?_
      refine va_get (D := D) (ci := 4) (v := .ref tr) (C := RX4) (T := TX4) (N := 6) hx hb hts hinX4 hown hK hP 0 rfl rfl 2 (by decide) hf23 (fun _ h9 => h9) rfl dX4_simulate_22 ?_
      refine lv_aload_n hx hb dX4_simulate_25 rfl (lv_at hl 0 rfl) ?_
      refine va_get (D := D) (ci := 4) (v := .ref nw) (C := RX4) (T := TX4) (N := 6) hx hb hts hinX4 hown hK hP 0 rfl rfl 1 (by decide) hf19 (fun _ h9 => h9) rfl dX4_simulate_26 ?_
      refine iv_rwVv (As := [.ref nw]) (rest := []) (C := RX0) (n := 1) ⟨hx, hb, hml, hown, hts⟩ (c_X0_takeFrom l D yI yC yD tr tc S2 g2 k2 nw nc S g (lN (kL (S) 0 40))  _) (cwV 1 hts gX4_simulate_X0_takeFrom rfl rfl rfl (by decide +kernel) ⟨Nat.le_of_ble_eq_true rfl, Nat.le_of_ble_eq_true rfl⟩) hK hP hD hS hA [3, 4, 1, 2] (by decide) rfl 3 rfl rfl rfl hl.1 rfl (Nat.le_of_ble_eq_true rfl) dX4_simulate_29 ⟨Nat.le_of_ble_eq_true rfl, Nat.le_of_ble_eq_true rfl⟩ (fun _ => rfl) (fun u29 H locs hw29 hP hD hS => ?_)
      have hP : va_P D vwCl [(x, oRD tx nw tr kn me sl), (nw, oDrv nc S (lN (kL (S) 0 40))), (nc, aI yI 48 g), (tr, oDrv tc S (lN (kL (S) 0 40))), (tc, aI yI 48 g), (kn, oKn pl ex), (ex, aI yI 1681 E)] H := hP
      have hD : va_D A [(x, oRD tx nw tr kn me sl), (nw, oDrv nc S (lN (kL (S) 0 40))), (nc, aI yI 48 g), (tr, oDrv tc S (lN (kL (S) 0 40))), (tc, aI yI 48 g), (kn, oKn pl ex), (ex, aI yI 1681 E)] := hD
      refine lv_lload_n hx hb dX4_simulate_32 rfl (lv_at hl 1 rfl) ?_
      refine lv_lstore (lv' := [(4, .long xx), (0, .ref x), (1, .long xx), (3, .int (iI q9))]) hx hb dX4_simulate_33 hl (by decide) rfl (fun ls hl => ?_)
      refine lv_iconst (v := iI 0) hx hb dX4_simulate_35 (by decide +kernel) ?_
      refine lv_istore (lv' := [(6, .int (iI 0)), (4, .long xx), (0, .ref x), (1, .long xx), (3, .int (iI q9))]) hx hb dX4_simulate_36 hl (by decide) rfl (fun ls hl => ?_)
      refine iv_loop (I := fun (qq : Nat × Int64 × Int × (Int → Int) × (Int → Int)) H locs ls => match qq with | (k, y, x6, G, gg) => ((k : Int) ≤ q9) ∧ (x6 = k) ∧ (Inv G) ∧ (Rc G gg) ∧ (simL (q9.toNat - k) y G = simL q9.toNat xx S) ∧ va_P D vwCl [(x, oRD tx nw tr kn me sl), (nw, oDrv nc S (lN (kL (S) 0 40))), (nc, aI yI 48 g), (tr, oDrv tc G (lN (kL (G) 0 40))), (tc, aI yI 48 gg), (kn, oKn pl ex), (ex, aI yI 1681 E)] H ∧ va_D A [(x, oRD tx nw tr kn me sl), (nw, oDrv nc S (lN (kL (S) 0 40))), (nc, aI yI 48 g), (tr, oDrv tc G (lN (kL (G) 0 40))), (tc, aI yI 48 gg), (kn, oKn pl ex), (ex, aI yI 1681 E)] ∧ va_S A s.heap H locs ∧ lv_has ls 7 [(6, .int (iI x6)), (4, .long y), (0, .ref x), (1, .long xx), (3, .int (iI q9))]) (μ := fun (qq : Nat × Int64 × Int × (Int → Int) × (Int → Int)) => match qq with | (k, y, x6, G, gg) => q9.toNat - k) (0, xx, 0, S, g) ?_ ?_
      · exact ⟨by omega, by omega, hI, hR, rfl, hP, hD, hS, lv_sub hl [0, 1, 2, 3, 4] rfl⟩
      · intro qq H locs ls hI ih38
        obtain ⟨k, y, x6, G, gg⟩ := qq
        obtain ⟨hk, h6, hI2, hR2, hRs, hP, hD, hS, hl⟩ := hI
        refine lv_iload hx hb dX4_simulate_38 (lv_at hl 0 rfl) ?_
        refine lv_iload_n hx hb dX4_simulate_40 rfl (lv_at hl 4 rfl) ?_
        refine iv_icmp_ge (a := x6) (b := q9) (tgt := 72) hx hb (by omega) (by omega) dX4_simulate_41 (by decide) (fun c41 => ?_) (fun c41 => ?_)
        · refine lv_aload_n hx hb dX4_simulate_72 rfl (lv_at hl 2 rfl) ?_
          refine va_get (D := D) (ci := 4) (v := .ref kn) (C := RX4) (T := TX4) (N := 6) hx hb hts hinX4 hown hK hP 0 rfl rfl 3 (by decide) hf29 (fun _ h9 => h9) rfl dX4_simulate_73 ?_
          refine lv_aload_n hx hb dX4_simulate_76 rfl (lv_at hl 2 rfl) ?_
          refine va_get (D := D) (ci := 4) (v := .ref tr) (C := RX4) (T := TX4) (N := 6) hx hb hts hinX4 hown hK hP 0 rfl rfl 2 (by decide) hf23 (fun _ h9 => h9) rfl dX4_simulate_77 ?_
          refine lv_iconst (v := iI (-1)) hx hb dX4_simulate_80 (by decide +kernel) ?_
          refine iv_rwVv (As := [.ref tr, .int (iI (-1))]) (rest := []) (C := RX1) (n := 2) ⟨hx, hb, hml, hown, hts⟩ (c_X1_learnFrom l D yI yC yD kn ex pl E tr tc G gg (-1) (hI2) (hR2) (by omega) _) (cwV 2 hts gX4_simulate_X1_learnFrom rfl rfl rfl (by decide +kernel) ⟨Nat.le_of_ble_eq_true rfl, Nat.le_of_ble_eq_true rfl⟩) hK hP hD hS hA [5, 6, 3, 4] (by decide) rfl 5 rfl rfl rfl hl.1 rfl (Nat.le_of_ble_eq_true rfl) dX4_simulate_81 ⟨Nat.le_of_ble_eq_true rfl, Nat.le_of_ble_eq_true rfl⟩ (fun _ => rfl) (fun u81 H locs hw81 hP hD hS => ?_)
          obtain ⟨G981, hu81⟩ : ∃ z, z = u81 := ⟨_, rfl⟩
          subst hu81
          have hE9_81 := hw81
          have hP : va_P D vwCl [(x, oRD tx nw tr kn me sl), (nw, oDrv nc S (lN (kL (S) 0 40))), (nc, aI yI 48 g), (tr, oDrv tc G (lN (kL G 0 40))), (tc, aI yI 48 gg), (kn, oKn (G 0) ex), (ex, aI yI 1681 G981)] H := hP
          have hD : va_D A [(x, oRD tx nw tr kn me sl), (nw, oDrv nc S (lN (kL (S) 0 40))), (nc, aI yI 48 g), (tr, oDrv tc G (lN (kL G 0 40))), (tc, aI yI 48 gg), (kn, oKn (G 0) ex), (ex, aI yI 1681 G981)] := hD
          refine lv_sipush (v := iI 1000) hx hb dX4_simulate_84 (by decide +kernel) ?_
          refine lv_aload_n hx hb dX4_simulate_87 rfl (lv_at hl 2 rfl) ?_
          refine va_get (D := D) (ci := 4) (v := .ref kn) (C := RX4) (T := TX4) (N := 6) hx hb hts hinX4 hown hK hP 0 rfl rfl 3 (by decide) hf29 (fun _ h9 => h9) rfl dX4_simulate_88 ?_
          refine iv_roV (As := []) (rest := [.int (iI 1000)]) (C := RX1) (n := 0) ⟨hx, hb, hml, hown, hts⟩ (c_X1_countSure l D yI yC yD kn ex (G 0) G981 (FB G (-1)) (by have := hI2.pl; omega) (by assumption) (gb_FB hI2 _)) (cwV 0 hts gX4_simulate_X1_countSure rfl rfl rfl (by decide +kernel) ⟨Nat.le_of_ble_eq_true rfl, Nat.le_of_ble_eq_true rfl⟩) hK hP [5, 6] rfl 5 rfl rfl rfl hl.1 rfl (Nat.le_of_ble_eq_true rfl) dX4_simulate_91 ⟨Nat.le_of_ble_eq_true rfl, Nat.le_of_ble_eq_true rfl⟩ ?_
          rw [show (kCnt (FB G (-1)) (G 0).toNat : Int) = knownIn (FB G (-1)) (G 0) from (kCnt_known hI2)]
          refine iv_mul hx hb dX4_simulate_94 ?_
          refine lv_aload_n hx hb dX4_simulate_95 rfl (lv_at hl 2 rfl) ?_
          refine va_get (D := D) (ci := 4) (v := .ref tr) (C := RX4) (T := TX4) (N := 6) hx hb hts hinX4 hown hK hP 0 rfl rfl 2 (by decide) hf23 (fun _ h9 => h9) rfl dX4_simulate_96 ?_
          refine va_get (D := D) (ci := 0) (v := .int (iI (G 5))) (C := RX0) (T := TX0) (N := 10) hx hb hts hinX0 hown hK hP 3 rfl rfl 5 (by decide) hf110 (fun _ h9 => h9) rfl dX4_simulate_99 ?_
          refine lv_aload_n hx hb dX4_simulate_102 rfl (lv_at hl 2 rfl) ?_
          refine va_get (D := D) (ci := 4) (v := .ref nw) (C := RX4) (T := TX4) (N := 6) hx hb hts hinX4 hown hK hP 0 rfl rfl 1 (by decide) hf19 (fun _ h9 => h9) rfl dX4_simulate_103 ?_
          refine va_get (D := D) (ci := 0) (v := .int (iI (S 5))) (C := RX0) (T := TX0) (N := 10) hx hb hts hinX0 hown hK hP 1 rfl rfl 5 (by decide) hf110 (fun _ h9 => h9) rfl dX4_simulate_106 ?_
          refine iv_sub hx hb dX4_simulate_109 ?_
          refine lv_sipush (v := iI 999) hx hb dX4_simulate_110 (by decide +kernel) ?_
          refine va_mmin hx hb (hml.trans hl.1.symm) hown (hts (.methodLink RX4 216 Lib.Math.min.name) (by decide +kernel)) (hts (.static Lib.Math.min.name) (by decide +kernel)) (hts (.initialized "java/lang/Math") (by decide +kernel)) (hts (.code Lib.Math.min.name Lib.Math.min.code 2 (some .int)) (by decide +kernel)) (Nat.le_of_ble_eq_true rfl) (Nat.le_of_ble_eq_true rfl) (Nat.le_of_ble_eq_true rfl) (Nat.le_of_ble_eq_true rfl) dX4_simulate_113 ?_
          rw [min_999]
          refine iv_add hx hb dX4_simulate_116 ?_
          have hP9 : va_P D vwCl [(x, oRD tx nw tr kn me sl), (nw, oDrv nc S (lN (kL (S) 0 40))), (nc, aI yI 48 g), (tr, oDrv tc G (lN (kL G 0 40))), (tc, aI yI 48 gg), (kn, oKn (G 0) ex), (ex, aI yI 1681 G981)] _ := hP.sub [0, 1, 2, 3, 4, 5, 6] rfl
          refine W.widen (k := 8) (n := 150) (Nat.le_of_ble_eq_true rfl) (Nat.le_of_ble_eq_true rfl) ?_
          refine vx_ret ?_
          exact W.iret hx hb hr (fun t ht hW => ⟨⟨iI (1000 * (knownIn (FB G (-1)) (G 0)) + (if iI 999 ≤ iI (G 5 - (S 5)) then 999 else G 5 - (S 5))), (G, gg, lN (kL G 0 40), G 0, G981), rfl, ⟨congrArg iI (show 1000 * (knownIn (FB G (-1)) (G 0)) + (if iI 999 ≤ iI (G 5 - (S 5)) then 999 else G 5 - (S 5)) = simQ S (simL q9.toNat xx S) by rw [show simL q9.toNat xx S = G by rw [← hRs, show q9.toNat - k = 0 by omega]; rfl]; rfl), (by omega)⟩, by show va_P D vwCl _ t.heap; rw [ht]; exact hP9⟩, hS.F ht⟩) hS.2.2 dX4_simulate_117
        · refine lv_lload hx hb dX4_simulate_44 (lv_at hl 1 rfl) ?_
          refine lv_ldc2 (v := 6364136223846793005) hx hb hown (hts (.constantLong RX4 234 (6364136223846793005)) (by decide +kernel)) dX4_simulate_46 ?_
          refine lv_lmul hx hb dX4_simulate_49 ?_
          refine lv_ldc2 (v := 1442695040888963407) hx hb hown (hts (.constantLong RX4 236 (1442695040888963407)) (by decide +kernel)) dX4_simulate_50 ?_
          refine lv_ladd hx hb dX4_simulate_53 ?_
          obtain ⟨y2, hy2⟩ : ∃ y2, y2 = simN y := ⟨_, rfl⟩
          rw [show ((y * 6364136223846793005) + 1442695040888963407 : Int64) = y2 from hy2.symm]
          refine lv_lstore (lv' := [(4, .long y2), (6, .int (iI x6)), (0, .ref x), (1, .long xx), (3, .int (iI q9))]) hx hb dX4_simulate_54 hl (by decide) rfl (fun ls hl => ?_)
          refine lv_aload_n hx hb dX4_simulate_56 rfl (lv_at hl 2 rfl) ?_
          refine lv_lload hx hb dX4_simulate_57 (lv_at hl 0 rfl) ?_
          refine lv_bipush (v := iI 33) hx hb dX4_simulate_59 (by decide +kernel) ?_
          refine lv_lushr (v := (y2.toUInt64 >>> ((iI 33).toInt64.toUInt64 &&& Int64.toUInt64 63)).toInt64) hx hb dX4_simulate_61 rfl ?_
          refine lv_l2i (v := iI (simR y2)) hx hb dX4_simulate_62 (iI_of _) ?_
          obtain ⟨r, hr8⟩ : ∃ r, r = simR y2 := ⟨_, rfl⟩
          rw [← hr8]
          have hr9 : 0 ≤ r ∧ r < 2147483648 := by rw [hr8]; exact simR_r y2
          refine iv_rwVv (As := [.int (iI r)]) (rest := []) (C := RX4) (n := 1) ⟨hx, hb, hml, hown, hts⟩ (c_X4_simulateOne l D yI yC yD x tx nw tr kn me sl tc G gg r (by assumption) (by assumption) (by omega) _) (cwV 1 hts gX4_simulate_X4_simulateOne rfl rfl rfl (by decide +kernel) ⟨Nat.le_of_ble_eq_true rfl, Nat.le_of_ble_eq_true rfl⟩) hK hP hD hS hA [0, 3, 4] (by decide) rfl 0 rfl rfl rfl hl.1 rfl (Nat.le_of_ble_eq_true rfl) dX4_simulate_63 ⟨Nat.le_of_ble_eq_true rfl, Nat.le_of_ble_eq_true rfl⟩ (fun _ => rfl) (fun u63 H locs hw63 hP hD hS => ?_)
          obtain ⟨G963, hu63⟩ : ∃ z, z = u63 := ⟨_, rfl⟩
          subst hu63
          have hR9_63 := hw63
          have hP : va_P D vwCl [(x, oRD tx nw tr kn me sl), (nw, oDrv nc S (lN (kL (S) 0 40))), (nc, aI yI 48 g), (tr, oDrv tc (sim1 G r) (lN (kL (sim1 G r) 0 40))), (tc, aI yI 48 G963), (kn, oKn pl ex), (ex, aI yI 1681 E)] H := hP
          have hD : va_D A [(x, oRD tx nw tr kn me sl), (nw, oDrv nc S (lN (kL (S) 0 40))), (nc, aI yI 48 g), (tr, oDrv tc (sim1 G r) (lN (kL (sim1 G r) 0 40))), (tc, aI yI 48 G963), (kn, oKn pl ex), (ex, aI yI 1681 E)] := hD
          refine iv_inc (lv' := [(6, .int (iI (x6 + 1))), (4, .long y2), (0, .ref x), (1, .long xx), (3, .int (iI q9))]) hx hb dX4_simulate_66 hl (k := 1) rfl (by decide) rfl (fun ls hl => ?_)
          refine lv_goto (tgt := 38) hx hb dX4_simulate_69 (by decide) ?_
          refine ih38 (k + 1, y2, x6 + 1, sim1 G r, G963) _ _ (by show (q9.toNat - (k + 1) : Nat) < q9.toNat - k; omega) ?_
          exact ⟨by omega, by omega, inv_sim1 hI2 hr9.1, hR9_63, by rw [← hRs, simL_s (m := q9.toNat - k) (n := q9.toNat - (k + 1)) (by omega), ← hy2, ← hr8], hP, hD, hS, lv_sub hl [0, 1, 2, 3, 4] rfl⟩
    · exact iv_thrG (ic := 52) (ik := 48) (is := 232) (cls := eA) (text := "no such number of questions") hx hb hla hown bfA xfA xgA hB.1.1 hts (fun w h => List.mem_cons_of_mem _ (List.mem_append_right _ h)) (by decide +kernel) (by decide +kernel) hB hS (()) (by exact hP) (⟨rfl, fun z => by omega⟩) (hl.1.trans hml.symm) hlocks hno (by decide +kernel) ⟨Nat.le_of_ble_eq_true rfl, Nat.le_of_ble_eq_true rfl, Nat.le_of_ble_eq_true rfl, Nat.le_of_ble_eq_true rfl⟩ (Nat.le_of_ble_eq_true rfl) (Nat.le_of_ble_eq_true rfl) dX4_simulate_11 dX4_simulate_14 (Or.inl ⟨dX4_simulate_15, dX4_simulate_17, dX4_simulate_20⟩)
