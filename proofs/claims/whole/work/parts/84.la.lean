def bL (P1 : Prop) [Decidable P1] : Int64 := if P1 then 1 else 0
theorem bL_t {P1 : Prop} [Decidable P1] (h : P1) : bL P1 = 1 := if_pos h
theorem bL_f {P1 : Prop} [Decidable P1] (h : ¬ P1) : bL P1 = 0 := if_neg h
set_option maxHeartbeats 4000000 in
set_option maxRecDepth 100000 in
theorem c_L_append_0 (l : Launch) (hla : l.stackTraces = false) (D : va_G) (yI yC yD yL : ClassId) (x : Nat) (tx : Nat) (nw : Nat) (tr : Nat) (kn : Nat) (me : Nat) (sl : Nat) (sg : Nat) (T : Int → Int) (tl : Int) (po : Int) (lo : Int) (q : Int) (ou : Nat) (ov : Int64) (htl : 0 ≤ tl ∧ tl ≤ 100) (hq9 : inR q) (hc9 : whyAp tl q = 0) (sz : Nat) : Met l yL_append wsL_append ({ frames := 7, cells := 8, slots := 150, locals := 103 }) (vxP [.ref x, .int (iI q), .ref ou] D (tyl yI yC yD yL) [(x, oRD tx nw tr kn me sl), (tx, oTx sg tl po lo), (sg, aC yC 100 T), (ou, aL yL ov)] sz) (va_Qi (fun (r : Int32) (_ : Unit) => r = iI 0 ∧ (whyAp tl q = 0)) (fun (_ : Unit) (t : State) => va_P D vwCl [(x, oRD tx nw tr kn me sl), (tx, oTx sg (tl + 1) po lo), (sg, aC yC 100 (up T tl q)), (ou, aL yL ((iI (tl + 1)).toInt64))] t.heap ∧ va_D (va_A [(x, oRD tx nw tr kn me sl), (tx, oTx sg tl po lo), (sg, aC yC 100 T), (ou, aL yL ov)] sz) [(x, oRD tx nw tr kn me sl), (tx, oTx sg (tl + 1) po lo), (sg, aC yC 100 (up T tl q)), (ou, aL yL ((iI (tl + 1)).toInt64))]) (va_A [(x, oRD tx nw tr kn me sl), (tx, oTx sg tl po lo), (sg, aC yC 100 T), (ou, aL yL ov)] sz)) 8 150 (va_A [(x, oRD tx nw tr kn me sl), (tx, oTx sg tl po lo), (sg, aC yC 100 T), (ou, aL yL ov)] sz) := by
  refine iv_ofWH (cc := cL_append) (maxL := 4) (ret := (some .int)) (hh := [(0, 9, 12, 13), (0, 9, 15, 15)]) (by decide) rfl ?_
  intro p e s m args below meth c s₁ B hml hv
  obtain ⟨rfl, hsz, hP, hK, hD0, hB⟩ := hv
  have hx := B.exec
  have hb := B.bytes
  have hr := B.returns
  have hts := atoms_spec (ws := wsL_append) B.pre
  have hown : s.vm.findClass RL = some m.cls := findClass_of_methodNamed B.named
  have hlocks := B.notSynchronized
  have htb := vx_table (x := yL_append) B (hts (.codeWith yL_append cL_append 4 (some .int) [(0, 9, 12, 13), (0, 9, 15, 15)]) (by decide +kernel))
  have hKz : va_K D vwCl (tyz yI yC yD) s := hK.sub [0, 1, 2] rfl
  subst hsz
  have hD := hD0.self (sz := s.heap.size)
  generalize hAe : va_A [(x, oRD tx nw tr kn me sl), (tx, oTx sg tl po lo), (sg, aC yC 100 T), (ou, aL yL ov)] s.heap.size = A at hD hB ⊢
  have hA : ∀ q : Nat, s.heap.size ≤ q → A q := fun q h => by rw [← hAe]; exact Or.inr h
  have hS : va_S A s.heap s.heap [] := va_S.rf
  have hP : va_P D vwCl [(x, oRD tx nw tr kn me sl), (tx, oTx sg tl po lo), (sg, aC yC 100 T), (ou, aL yL ov)] s.heap := hP
  have hl := lv_entry ([.ref x, .int (iI q), .ref ou]) (n := 4) (Nat.le_of_ble_eq_true rfl)
  rw [lg_entry_eq]
  generalize (lg_sl ([.ref x, .int (iI q), .ref ou]) ++ List.replicate (4 - (lg_sl ([.ref x, .int (iI q), .ref ou])).length) Slot.unset).toArray = ls at hl ⊢
  have hl : lv_has ls 4 [(0, .ref x), (1, .int (iI q)), (2, .ref ou)] := hl
  refine lv_aload_n hx hb dL_append_0 rfl (lv_at hl 2 rfl) ?_
  refine lv_iconst (v := iI 0) hx hb dL_append_1 (by decide +kernel) ?_
  refine lv_aload_n hx hb dL_append_2 rfl (lv_at hl 0 rfl) ?_
  refine lv_iload_n hx hb dL_append_3 rfl (lv_at hl 1 rfl) ?_
  refine iv_lxV (wc := [(x, oRD tx nw tr kn me sl), (tx, oTx sg tl po lo), (sg, aC yC 100 T)]) (wr := [(ou, aL yL ov)]) (wp := fun (_ : Unit) => [(x, oRD tx nw tr kn me sl), (tx, oTx sg (tl + 1) po lo), (sg, aC yC 100 (up T tl q))]) (As := [.int (iI q)]) (rest := [.int (iI 0), .ref ou]) (C := RX4) (n := 1) ⟨hx, hb, hml, hown, hts⟩ (c_X4_append l hla D yI yC yD x tx nw tr kn me sl sg T tl po lo q htl hq9 _) (cwV 1 hts gL_append_X4_append rfl rfl rfl (by decide +kernel) ⟨Nat.le_of_ble_eq_true rfl, Nat.le_of_ble_eq_true rfl⟩) hKz hP hD hS hA hB rfl rfl (fun u t h => by exact ⟨h, va_D_fst hD.l.self rfl⟩) (fun _ => rfl) rfl hl.1 rfl (Nat.le_of_ble_eq_true rfl) dL_append_4 ⟨Nat.le_of_ble_eq_true rfl, Nat.le_of_ble_eq_true rfl⟩ (fun E9 ce9 ox9 ux H locs hxe hP hD hS hc8 hv8 hcl8 => ?_) (fun r9 u H locs hw hP hD hS => ?_)
  · exfalso
    rcases hxe with ⟨_, h⟩ | ⟨_, h⟩ <;> first | omega | contradiction
  · obtain ⟨hr9, hw9⟩ := hw
    subst hr9
    have hP : va_P D vwCl [(x, oRD tx nw tr kn me sl), (tx, oTx sg (tl + 1) po lo), (sg, aC yC 100 (up T tl q)), (ou, aL yL ov)] H := hP
    have hD : va_D A [(x, oRD tx nw tr kn me sl), (tx, oTx sg (tl + 1) po lo), (sg, aC yC 100 (up T tl q)), (ou, aL yL ov)] := hD
    refine lv_i2l (v := (iI (tl + 1)).toInt64) hx hb dL_append_7 rfl ?_
    refine iv_lst hx hb hK hP hD hS 3 3 rfl rfl dL_append_8 (fun H locs hP hD hS => ?_)
    have hP : va_P D vwCl [(x, oRD tx nw tr kn me sl), (tx, oTx sg (tl + 1) po lo), (sg, aC yC 100 (up T tl q)), (ou, aL yL ((iI (tl + 1)).toInt64))] H := hP
    have hD : va_D A [(x, oRD tx nw tr kn me sl), (tx, oTx sg (tl + 1) po lo), (sg, aC yC 100 (up T tl q)), (ou, aL yL ((iI (tl + 1)).toInt64))] := hD
    refine lv_goto (tgt := 18) hx hb dL_append_9 (by decide) ?_
    refine lv_iconst (v := iI 0) hx hb dL_append_18 (by decide +kernel) ?_
    have hP9 : va_P D vwCl [(x, oRD tx nw tr kn me sl), (tx, oTx sg (tl + 1) po lo), (sg, aC yC 100 (up T tl q)), (ou, aL yL ((iI (tl + 1)).toInt64))] _ := hP
    have hD9 : va_D A [(x, oRD tx nw tr kn me sl), (tx, oTx sg (tl + 1) po lo), (sg, aC yC 100 (up T tl q)), (ou, aL yL ((iI (tl + 1)).toInt64))] := hD
    exact W.iret hx hb hr (fun t ht hW => ⟨⟨iI 0, (), rfl, ⟨rfl, hw9⟩, ⟨by show va_P D vwCl _ t.heap; rw [ht]; exact hP9, hD9⟩⟩, hS.F ht⟩) hS.2.2 dL_append_19
set_option maxHeartbeats 4000000 in
set_option maxRecDepth 100000 in
theorem c_L_append_1 (l : Launch) (hla : l.stackTraces = false) (D : va_G) (yI yC yD yL : ClassId) (x : Nat) (tx : Nat) (nw : Nat) (tr : Nat) (kn : Nat) (me : Nat) (sl : Nat) (sg : Nat) (T : Int → Int) (tl : Int) (po : Int) (lo : Int) (q : Int) (ou : Nat) (ov : Int64) (htl : 0 ≤ tl ∧ tl ≤ 100) (hq9 : inR q) (hc9 : ¬ (whyAp tl q = 0)) (sz : Nat) : Met l yL_append wsL_append ({ frames := 7, cells := 8, slots := 150, locals := 103 }) (vxP [.ref x, .int (iI q), .ref ou] D (tyl yI yC yD yL) [(x, oRD tx nw tr kn me sl), (tx, oTx sg tl po lo), (sg, aC yC 100 T), (ou, aL yL ov)] sz) (va_Qi (fun (r : Int32) (_ : Unit) => r = iI (whyAp tl q) ∧ True) (fun (_ : Unit) (t : State) => va_P D vwCl [(x, oRD tx nw tr kn me sl), (tx, oTx sg tl po lo), (sg, aC yC 100 T), (ou, aL yL ov)] t.heap ∧ va_D (va_A [(x, oRD tx nw tr kn me sl), (tx, oTx sg tl po lo), (sg, aC yC 100 T), (ou, aL yL ov)] sz) [(x, oRD tx nw tr kn me sl), (tx, oTx sg tl po lo), (sg, aC yC 100 T), (ou, aL yL ov)]) (va_A [(x, oRD tx nw tr kn me sl), (tx, oTx sg tl po lo), (sg, aC yC 100 T), (ou, aL yL ov)] sz)) 8 150 (va_A [(x, oRD tx nw tr kn me sl), (tx, oTx sg tl po lo), (sg, aC yC 100 T), (ou, aL yL ov)] sz) := by
  refine iv_ofWH (cc := cL_append) (maxL := 4) (ret := (some .int)) (hh := [(0, 9, 12, 13), (0, 9, 15, 15)]) (by decide) rfl ?_
  intro p e s m args below meth c s₁ B hml hv
  obtain ⟨rfl, hsz, hP, hK, hD0, hB⟩ := hv
  have hx := B.exec
  have hb := B.bytes
  have hr := B.returns
  have hts := atoms_spec (ws := wsL_append) B.pre
  have hown : s.vm.findClass RL = some m.cls := findClass_of_methodNamed B.named
  have hlocks := B.notSynchronized
  have htb := vx_table (x := yL_append) B (hts (.codeWith yL_append cL_append 4 (some .int) [(0, 9, 12, 13), (0, 9, 15, 15)]) (by decide +kernel))
  have hKz : va_K D vwCl (tyz yI yC yD) s := hK.sub [0, 1, 2] rfl
  subst hsz
  have hD := hD0.self (sz := s.heap.size)
  generalize hAe : va_A [(x, oRD tx nw tr kn me sl), (tx, oTx sg tl po lo), (sg, aC yC 100 T), (ou, aL yL ov)] s.heap.size = A at hD hB ⊢
  have hA : ∀ q : Nat, s.heap.size ≤ q → A q := fun q h => by rw [← hAe]; exact Or.inr h
  have hS : va_S A s.heap s.heap [] := va_S.rf
  have hP : va_P D vwCl [(x, oRD tx nw tr kn me sl), (tx, oTx sg tl po lo), (sg, aC yC 100 T), (ou, aL yL ov)] s.heap := hP
  have hl := lv_entry ([.ref x, .int (iI q), .ref ou]) (n := 4) (Nat.le_of_ble_eq_true rfl)
  rw [lg_entry_eq]
  generalize (lg_sl ([.ref x, .int (iI q), .ref ou]) ++ List.replicate (4 - (lg_sl ([.ref x, .int (iI q), .ref ou])).length) Slot.unset).toArray = ls at hl ⊢
  have hl : lv_has ls 4 [(0, .ref x), (1, .int (iI q)), (2, .ref ou)] := hl
  refine lv_aload_n hx hb dL_append_0 rfl (lv_at hl 2 rfl) ?_
  refine lv_iconst (v := iI 0) hx hb dL_append_1 (by decide +kernel) ?_
  refine lv_aload_n hx hb dL_append_2 rfl (lv_at hl 0 rfl) ?_
  refine lv_iload_n hx hb dL_append_3 rfl (lv_at hl 1 rfl) ?_
  refine iv_lxV (wc := [(x, oRD tx nw tr kn me sl), (tx, oTx sg tl po lo), (sg, aC yC 100 T)]) (wr := [(ou, aL yL ov)]) (wp := fun (_ : Unit) => [(x, oRD tx nw tr kn me sl), (tx, oTx sg (tl + 1) po lo), (sg, aC yC 100 (up T tl q))]) (As := [.int (iI q)]) (rest := [.int (iI 0), .ref ou]) (C := RX4) (n := 1) ⟨hx, hb, hml, hown, hts⟩ (c_X4_append l hla D yI yC yD x tx nw tr kn me sl sg T tl po lo q htl hq9 _) (cwV 1 hts gL_append_X4_append rfl rfl rfl (by decide +kernel) ⟨Nat.le_of_ble_eq_true rfl, Nat.le_of_ble_eq_true rfl⟩) hKz hP hD hS hA hB rfl rfl (fun u t h => by exact ⟨h, va_D_fst hD.l.self rfl⟩) (fun _ => rfl) rfl hl.1 rfl (Nat.le_of_ble_eq_true rfl) dL_append_4 ⟨Nat.le_of_ble_eq_true rfl, Nat.le_of_ble_eq_true rfl⟩ (fun E9 ce9 ox9 ux H locs hxe hP hD hS hc8 hv8 hcl8 => ?_) (fun r9 u H locs hw hP hD hS => ?_)
  · rcases hxe with ⟨rfl, hxc⟩ | ⟨rfl, hxc⟩
    · refine vx_catch (name := eA) hown (tableOf []) ⟨0, 9, 12, 13⟩ (tableOf [(0, 9, 15, 15)]) (htb.trans rfl) (fun z hz => absurd hz List.not_mem_nil) rfl (by decide) (hts (.classLink RL 13 eA) (by decide +kernel)) (va_Nw.use rfl hB.1.1) hc8 hv8 hcl8 ?_
      have hP : va_P D vwCl [(x, oRD tx nw tr kn me sl), (tx, oTx sg tl po lo), (sg, aC yC 100 T), (ou, aL yL ov)] H := hP
      have hD : va_D A [(x, oRD tx nw tr kn me sl), (tx, oTx sg tl po lo), (sg, aC yC 100 T), (ou, aL yL ov)] := hD
      refine lv_astore_n (lv' := [(3, .ref ox9), (0, .ref x), (1, .int (iI q)), (2, .ref ou)]) hx hb dL_append_12 rfl hl (by decide) rfl (fun ls hl => ?_)
      refine lv_iconst (v := iI 1) hx hb dL_append_13 (by decide +kernel) ?_
      have hP9 : va_P D vwCl [(x, oRD tx nw tr kn me sl), (tx, oTx sg tl po lo), (sg, aC yC 100 T), (ou, aL yL ov)] _ := hP
      have hD9 : va_D A [(x, oRD tx nw tr kn me sl), (tx, oTx sg tl po lo), (sg, aC yC 100 T), (ou, aL yL ov)] := hD
      exact W.iret hx hb hr (fun t ht hW => ⟨⟨iI 1, (), rfl, ⟨congrArg iI (show (1 : Int) = whyAp tl q by first | omega | (rw [if_pos (by omega)]; done) | (rw [if_neg (by omega)]; done)), trivial⟩, ⟨by show va_P D vwCl _ t.heap; rw [ht]; exact hP9, hD9⟩⟩, hS.F ht⟩) hS.2.2 dL_append_14
    · refine vx_catch (name := eS) hown (tableOf [(0, 9, 12, 13)]) ⟨0, 9, 15, 15⟩ (tableOf []) (htb.trans rfl) (fun z hz => by cases List.mem_singleton.mp hz; exact Or.inr ⟨by decide, eA, hts (.classLink RL 13 eA) (by decide +kernel), hB.2.1.2.2.1⟩) rfl (by decide) (hts (.classLink RL 15 eS) (by decide +kernel)) (va_Nw.use rfl hB.1.2.1) hc8 hv8 hcl8 ?_
      have hP : va_P D vwCl [(x, oRD tx nw tr kn me sl), (tx, oTx sg tl po lo), (sg, aC yC 100 T), (ou, aL yL ov)] H := hP
      have hD : va_D A [(x, oRD tx nw tr kn me sl), (tx, oTx sg tl po lo), (sg, aC yC 100 T), (ou, aL yL ov)] := hD
      refine lv_astore_n (lv' := [(3, .ref ox9), (0, .ref x), (1, .int (iI q)), (2, .ref ou)]) hx hb dL_append_15 rfl hl (by decide) rfl (fun ls hl => ?_)
      refine lv_iconst (v := iI 2) hx hb dL_append_16 (by decide +kernel) ?_
      have hP9 : va_P D vwCl [(x, oRD tx nw tr kn me sl), (tx, oTx sg tl po lo), (sg, aC yC 100 T), (ou, aL yL ov)] _ := hP
      have hD9 : va_D A [(x, oRD tx nw tr kn me sl), (tx, oTx sg tl po lo), (sg, aC yC 100 T), (ou, aL yL ov)] := hD
      exact W.iret hx hb hr (fun t ht hW => ⟨⟨iI 2, (), rfl, ⟨congrArg iI (show (2 : Int) = whyAp tl q by first | omega | (rw [if_pos (by omega)]; done) | (rw [if_neg (by omega)]; done)), trivial⟩, ⟨by show va_P D vwCl _ t.heap; rw [ht]; exact hP9, hD9⟩⟩, hS.F ht⟩) hS.2.2 dL_append_17
  · obtain ⟨hr9, hw9⟩ := hw
    exfalso
    first | omega | contradiction
set_option maxHeartbeats 4000000 in
set_option maxRecDepth 100000 in
theorem c_L_load_0 (l : Launch) (hla : l.stackTraces = false) (D : va_G) (yI yC yD yL : ClassId) (x : Nat) (tx : Nat) (nw : Nat) (tr : Nat) (kn : Nat) (me : Nat) (sl : Nat) (sg : Nat) (T : Int → Int) (tl : Int) (po : Int) (lo : Int) (nc : Nat) (S : Int → Int) (g : Int → Int) (tc : Nat) (S2 : Int → Int) (g2 : Int → Int) (k2 : Int64) (rg : Nat) (f : Nat → Option Nat) (nx : Int) (ct : Int) (fs : Nat → Option Nat) (ou : Nat) (ov : Int64) (htl : 0 ≤ tl ∧ tl ≤ 100) (hrt : ∀ z, 0 ≤ z → z < tl → 0 ≤ T z ∧ T z < 65536) (hc9 : findE T tl = -1) (sz : Nat) : Met l yL_load wsL_load ({ frames := 8, cells := 8, slots := 150, locals := 168 }) (vxP [.ref x, .ref ou] D (tyl yI yC yD yL) [(x, oRD tx nw tr kn me sl), (tx, oTx sg tl po lo), (sg, aC yC 100 T), (nw, oDrv nc S (lN (kL (S) 0 40))), (nc, aI yI 48 g), (tr, oDrv tc S2 k2), (tc, aI yI 48 g2), (me, oMem rg nx ct), (rg, aD yD 14 f), (sl, aD yD 2 fs), (ou, aL yL ov)] sz) (va_Qi (fun (r : Int32) (u : (Int → Int) × (Int → Int) × Int64 × Int × Int × (Nat → Option Nat)) => match u with | (S9, G9, k9, p9, l9, fs9) => r = iI 0 ∧ (findE T tl = -1) ∧ ((S9 = (ldAll T tl).1 ∧ Rc S9 G9 ∧ Inv S9)) ∧ (∀ j : Nat, j < 2 → fs9 j = none)) (fun (u : (Int → Int) × (Int → Int) × Int64 × Int × Int × (Nat → Option Nat)) (t : State) => match u with | (S9, G9, k9, p9, l9, fs9) => va_P D vwCl [(x, oRD tx nw tr kn me sl), (tx, oTx sg tl p9 l9), (sg, aC yC 100 T), (nw, oDrv nc S9 (lN (kL (S9) 0 40))), (nc, aI yI 48 G9), (tr, oDrv tc S9 k9), (tc, aI yI 48 G9), (me, oMem rg nx 0), (rg, aD yD 14 f), (sl, aD yD 2 fs9), (ou, aL yL ((iI ((ldAll T tl).2)).toInt64))] t.heap ∧ va_D (va_A [(x, oRD tx nw tr kn me sl), (tx, oTx sg tl po lo), (sg, aC yC 100 T), (nw, oDrv nc S (lN (kL (S) 0 40))), (nc, aI yI 48 g), (tr, oDrv tc S2 k2), (tc, aI yI 48 g2), (me, oMem rg nx ct), (rg, aD yD 14 f), (sl, aD yD 2 fs), (ou, aL yL ov)] sz) [(x, oRD tx nw tr kn me sl), (tx, oTx sg tl p9 l9), (sg, aC yC 100 T), (nw, oDrv nc S9 (lN (kL (S9) 0 40))), (nc, aI yI 48 G9), (tr, oDrv tc S9 k9), (tc, aI yI 48 G9), (me, oMem rg nx 0), (rg, aD yD 14 f), (sl, aD yD 2 fs9), (ou, aL yL ((iI ((ldAll T tl).2)).toInt64))]) (va_A [(x, oRD tx nw tr kn me sl), (tx, oTx sg tl po lo), (sg, aC yC 100 T), (nw, oDrv nc S (lN (kL (S) 0 40))), (nc, aI yI 48 g), (tr, oDrv tc S2 k2), (tc, aI yI 48 g2), (me, oMem rg nx ct), (rg, aD yD 14 f), (sl, aD yD 2 fs), (ou, aL yL ov)] sz)) 8 150 (va_A [(x, oRD tx nw tr kn me sl), (tx, oTx sg tl po lo), (sg, aC yC 100 T), (nw, oDrv nc S (lN (kL (S) 0 40))), (nc, aI yI 48 g), (tr, oDrv tc S2 k2), (tc, aI yI 48 g2), (me, oMem rg nx ct), (rg, aD yD 14 f), (sl, aD yD 2 fs), (ou, aL yL ov)] sz) := by
  refine iv_ofWH (cc := cL_load) (maxL := 3) (ret := (some .int)) (hh := [(0, 8, 11, 15)]) (by decide) rfl ?_
  intro p e s m args below meth c s₁ B hml hv
  obtain ⟨rfl, hsz, hP, hK, hD0, hB⟩ := hv
  have hx := B.exec
  have hb := B.bytes
  have hr := B.returns
  have hts := atoms_spec (ws := wsL_load) B.pre
  have hown : s.vm.findClass RL = some m.cls := findClass_of_methodNamed B.named
  have hlocks := B.notSynchronized
  have htb := vx_table (x := yL_append) B (hts (.codeWith yL_load cL_load 3 (some .int) [(0, 8, 11, 15)]) (by decide +kernel))
  have hKz : va_K D vwCl (tyz yI yC yD) s := hK.sub [0, 1, 2] rfl
  subst hsz
  have hD := hD0.self (sz := s.heap.size)
  generalize hAe : va_A [(x, oRD tx nw tr kn me sl), (tx, oTx sg tl po lo), (sg, aC yC 100 T), (nw, oDrv nc S (lN (kL (S) 0 40))), (nc, aI yI 48 g), (tr, oDrv tc S2 k2), (tc, aI yI 48 g2), (me, oMem rg nx ct), (rg, aD yD 14 f), (sl, aD yD 2 fs), (ou, aL yL ov)] s.heap.size = A at hD hB ⊢
  have hA : ∀ q : Nat, s.heap.size ≤ q → A q := fun q h => by rw [← hAe]; exact Or.inr h
  have hS : va_S A s.heap s.heap [] := va_S.rf
  have hP : va_P D vwCl [(x, oRD tx nw tr kn me sl), (tx, oTx sg tl po lo), (sg, aC yC 100 T), (nw, oDrv nc S (lN (kL (S) 0 40))), (nc, aI yI 48 g), (tr, oDrv tc S2 k2), (tc, aI yI 48 g2), (me, oMem rg nx ct), (rg, aD yD 14 f), (sl, aD yD 2 fs), (ou, aL yL ov)] s.heap := hP
  have hl := lv_entry ([.ref x, .ref ou]) (n := 3) (Nat.le_of_ble_eq_true rfl)
  rw [lg_entry_eq]
  generalize (lg_sl ([.ref x, .ref ou]) ++ List.replicate (3 - (lg_sl ([.ref x, .ref ou])).length) Slot.unset).toArray = ls at hl ⊢
  have hl : lv_has ls 3 [(0, .ref x), (1, .ref ou)] := hl
  refine lv_aload_n hx hb dL_load_0 rfl (lv_at hl 1 rfl) ?_
  refine lv_iconst (v := iI 0) hx hb dL_load_1 (by decide +kernel) ?_
  refine lv_aload_n hx hb dL_load_2 rfl (lv_at hl 0 rfl) ?_
  refine iv_lxV (wc := [(x, oRD tx nw tr kn me sl), (tx, oTx sg tl po lo), (sg, aC yC 100 T), (nw, oDrv nc S (lN (kL (S) 0 40))), (nc, aI yI 48 g), (tr, oDrv tc S2 k2), (tc, aI yI 48 g2), (me, oMem rg nx ct), (rg, aD yD 14 f), (sl, aD yD 2 fs)]) (wr := [(ou, aL yL ov)]) (wp := fun (u : (Int → Int) × (Int → Int) × Int64 × Int × Int × (Nat → Option Nat)) => match u with | (S9, G9, k9, p9, l9, fs9) => [(x, oRD tx nw tr kn me sl), (tx, oTx sg tl p9 l9), (sg, aC yC 100 T), (nw, oDrv nc S9 (lN (kL (S9) 0 40))), (nc, aI yI 48 G9), (tr, oDrv tc S9 k9), (tc, aI yI 48 G9), (me, oMem rg nx 0), (rg, aD yD 14 f), (sl, aD yD 2 fs9)]) (As := []) (rest := [.int (iI 0), .ref ou]) (C := RX4) (n := 0) ⟨hx, hb, hml, hown, hts⟩ (c_X4_load l hla D yI yC yD x tx nw tr kn me sl sg T tl po lo nc S g tc S2 g2 k2 rg f nx ct fs htl hrt _) (cwV 0 hts gL_load_X4_load rfl rfl rfl (by decide +kernel) ⟨Nat.le_of_ble_eq_true rfl, Nat.le_of_ble_eq_true rfl⟩) hKz hP hD hS hA hB rfl rfl (fun u t h => by obtain ⟨S9, G9, k9, p9, l9, fs9⟩ := u; exact ⟨h, va_D_fst hD.l.self rfl⟩) (fun _ => rfl) rfl hl.1 rfl (Nat.le_of_ble_eq_true rfl) dL_load_3 ⟨Nat.le_of_ble_eq_true rfl, Nat.le_of_ble_eq_true rfl⟩ (fun E9 ce9 ox9 ux H locs hxe hP hD hS hc8 hv8 hcl8 => ?_) (fun r9 u H locs hw hP hD hS => ?_)
  · exfalso
    obtain ⟨_, h⟩ := hxe; first | omega | contradiction | exact h (by assumption)
  · obtain ⟨S9, G9, k9, p9, l9, fs9⟩ := u
    obtain ⟨hr9, hfe9, hS9, hfs9⟩ := hw
    subst hr9
    have hP : va_P D vwCl [(x, oRD tx nw tr kn me sl), (tx, oTx sg tl p9 l9), (sg, aC yC 100 T), (nw, oDrv nc S9 (lN (kL (S9) 0 40))), (nc, aI yI 48 G9), (tr, oDrv tc S9 k9), (tc, aI yI 48 G9), (me, oMem rg nx 0), (rg, aD yD 14 f), (sl, aD yD 2 fs9), (ou, aL yL ov)] H := hP
    have hD : va_D A [(x, oRD tx nw tr kn me sl), (tx, oTx sg tl p9 l9), (sg, aC yC 100 T), (nw, oDrv nc S9 (lN (kL (S9) 0 40))), (nc, aI yI 48 G9), (tr, oDrv tc S9 k9), (tc, aI yI 48 G9), (me, oMem rg nx 0), (rg, aD yD 14 f), (sl, aD yD 2 fs9), (ou, aL yL ov)] := hD
    refine lv_i2l (v := (iI ((ldAll T tl).2)).toInt64) hx hb dL_load_6 rfl ?_
    refine iv_lst hx hb hK hP hD hS 10 3 rfl rfl dL_load_7 (fun H locs hP hD hS => ?_)
    have hP : va_P D vwCl [(x, oRD tx nw tr kn me sl), (tx, oTx sg tl p9 l9), (sg, aC yC 100 T), (nw, oDrv nc S9 (lN (kL (S9) 0 40))), (nc, aI yI 48 G9), (tr, oDrv tc S9 k9), (tc, aI yI 48 G9), (me, oMem rg nx 0), (rg, aD yD 14 f), (sl, aD yD 2 fs9), (ou, aL yL ((iI ((ldAll T tl).2)).toInt64))] H := hP
    have hD : va_D A [(x, oRD tx nw tr kn me sl), (tx, oTx sg tl p9 l9), (sg, aC yC 100 T), (nw, oDrv nc S9 (lN (kL (S9) 0 40))), (nc, aI yI 48 G9), (tr, oDrv tc S9 k9), (tc, aI yI 48 G9), (me, oMem rg nx 0), (rg, aD yD 14 f), (sl, aD yD 2 fs9), (ou, aL yL ((iI ((ldAll T tl).2)).toInt64))] := hD
    refine lv_goto (tgt := 14) hx hb dL_load_8 (by decide) ?_
    refine lv_iconst (v := iI 0) hx hb dL_load_14 (by decide +kernel) ?_
    have hP9 : va_P D vwCl [(x, oRD tx nw tr kn me sl), (tx, oTx sg tl p9 l9), (sg, aC yC 100 T), (nw, oDrv nc S9 (lN (kL (S9) 0 40))), (nc, aI yI 48 G9), (tr, oDrv tc S9 k9), (tc, aI yI 48 G9), (me, oMem rg nx 0), (rg, aD yD 14 f), (sl, aD yD 2 fs9), (ou, aL yL ((iI ((ldAll T tl).2)).toInt64))] _ := hP
    have hD9 : va_D A [(x, oRD tx nw tr kn me sl), (tx, oTx sg tl p9 l9), (sg, aC yC 100 T), (nw, oDrv nc S9 (lN (kL (S9) 0 40))), (nc, aI yI 48 G9), (tr, oDrv tc S9 k9), (tc, aI yI 48 G9), (me, oMem rg nx 0), (rg, aD yD 14 f), (sl, aD yD 2 fs9), (ou, aL yL ((iI ((ldAll T tl).2)).toInt64))] := hD
    exact W.iret hx hb hr (fun t ht hW => ⟨⟨iI 0, (S9, G9, k9, p9, l9, fs9), rfl, ⟨rfl, hfe9, hS9, hfs9⟩, ⟨by show va_P D vwCl _ t.heap; rw [ht]; exact hP9, hD9⟩⟩, hS.F ht⟩) hS.2.2 dL_load_15
set_option maxHeartbeats 4000000 in
set_option maxRecDepth 100000 in
theorem c_L_load_1 (l : Launch) (hla : l.stackTraces = false) (D : va_G) (yI yC yD yL : ClassId) (x : Nat) (tx : Nat) (nw : Nat) (tr : Nat) (kn : Nat) (me : Nat) (sl : Nat) (sg : Nat) (T : Int → Int) (tl : Int) (po : Int) (lo : Int) (nc : Nat) (S : Int → Int) (g : Int → Int) (tc : Nat) (S2 : Int → Int) (g2 : Int → Int) (k2 : Int64) (rg : Nat) (f : Nat → Option Nat) (nx : Int) (ct : Int) (fs : Nat → Option Nat) (ou : Nat) (ov : Int64) (htl : 0 ≤ tl ∧ tl ≤ 100) (hrt : ∀ z, 0 ≤ z → z < tl → 0 ≤ T z ∧ T z < 65536) (hc9 : ¬ (findE T tl = -1)) (sz : Nat) : Met l yL_load wsL_load ({ frames := 8, cells := 8, slots := 150, locals := 168 }) (vxP [.ref x, .ref ou] D (tyl yI yC yD yL) [(x, oRD tx nw tr kn me sl), (tx, oTx sg tl po lo), (sg, aC yC 100 T), (nw, oDrv nc S (lN (kL (S) 0 40))), (nc, aI yI 48 g), (tr, oDrv tc S2 k2), (tc, aI yI 48 g2), (me, oMem rg nx ct), (rg, aD yD 14 f), (sl, aD yD 2 fs), (ou, aL yL ov)] sz) (va_Qi (fun (r : Int32) (u : (Int → Int) × (Int → Int) × Int64 × Int × Int) => match u with | (S9, G9, k9, p9, l9) => r = iI 1 ∧ True) (fun (u : (Int → Int) × (Int → Int) × Int64 × Int × Int) (t : State) => match u with | (S9, G9, k9, p9, l9) => va_P D vwCl [(x, oRD tx nw tr kn me sl), (tx, oTx sg tl p9 l9), (sg, aC yC 100 T), (nw, oDrv nc S (lN (kL (S) 0 40))), (nc, aI yI 48 g), (tr, oDrv tc S9 k9), (tc, aI yI 48 G9), (me, oMem rg nx ct), (rg, aD yD 14 f), (sl, aD yD 2 fs), (ou, aL yL ov)] t.heap ∧ va_D (va_A [(x, oRD tx nw tr kn me sl), (tx, oTx sg tl po lo), (sg, aC yC 100 T), (nw, oDrv nc S (lN (kL (S) 0 40))), (nc, aI yI 48 g), (tr, oDrv tc S2 k2), (tc, aI yI 48 g2), (me, oMem rg nx ct), (rg, aD yD 14 f), (sl, aD yD 2 fs), (ou, aL yL ov)] sz) [(x, oRD tx nw tr kn me sl), (tx, oTx sg tl p9 l9), (sg, aC yC 100 T), (nw, oDrv nc S (lN (kL (S) 0 40))), (nc, aI yI 48 g), (tr, oDrv tc S9 k9), (tc, aI yI 48 G9), (me, oMem rg nx ct), (rg, aD yD 14 f), (sl, aD yD 2 fs), (ou, aL yL ov)]) (va_A [(x, oRD tx nw tr kn me sl), (tx, oTx sg tl po lo), (sg, aC yC 100 T), (nw, oDrv nc S (lN (kL (S) 0 40))), (nc, aI yI 48 g), (tr, oDrv tc S2 k2), (tc, aI yI 48 g2), (me, oMem rg nx ct), (rg, aD yD 14 f), (sl, aD yD 2 fs), (ou, aL yL ov)] sz)) 8 150 (va_A [(x, oRD tx nw tr kn me sl), (tx, oTx sg tl po lo), (sg, aC yC 100 T), (nw, oDrv nc S (lN (kL (S) 0 40))), (nc, aI yI 48 g), (tr, oDrv tc S2 k2), (tc, aI yI 48 g2), (me, oMem rg nx ct), (rg, aD yD 14 f), (sl, aD yD 2 fs), (ou, aL yL ov)] sz) := by
  refine iv_ofWH (cc := cL_load) (maxL := 3) (ret := (some .int)) (hh := [(0, 8, 11, 15)]) (by decide) rfl ?_
  intro p e s m args below meth c s₁ B hml hv
  obtain ⟨rfl, hsz, hP, hK, hD0, hB⟩ := hv
  have hx := B.exec
  have hb := B.bytes
  have hr := B.returns
  have hts := atoms_spec (ws := wsL_load) B.pre
  have hown : s.vm.findClass RL = some m.cls := findClass_of_methodNamed B.named
  have hlocks := B.notSynchronized
  have htb := vx_table (x := yL_append) B (hts (.codeWith yL_load cL_load 3 (some .int) [(0, 8, 11, 15)]) (by decide +kernel))
  have hKz : va_K D vwCl (tyz yI yC yD) s := hK.sub [0, 1, 2] rfl
  subst hsz
  have hD := hD0.self (sz := s.heap.size)
  generalize hAe : va_A [(x, oRD tx nw tr kn me sl), (tx, oTx sg tl po lo), (sg, aC yC 100 T), (nw, oDrv nc S (lN (kL (S) 0 40))), (nc, aI yI 48 g), (tr, oDrv tc S2 k2), (tc, aI yI 48 g2), (me, oMem rg nx ct), (rg, aD yD 14 f), (sl, aD yD 2 fs), (ou, aL yL ov)] s.heap.size = A at hD hB ⊢
  have hA : ∀ q : Nat, s.heap.size ≤ q → A q := fun q h => by rw [← hAe]; exact Or.inr h
  have hS : va_S A s.heap s.heap [] := va_S.rf
  have hP : va_P D vwCl [(x, oRD tx nw tr kn me sl), (tx, oTx sg tl po lo), (sg, aC yC 100 T), (nw, oDrv nc S (lN (kL (S) 0 40))), (nc, aI yI 48 g), (tr, oDrv tc S2 k2), (tc, aI yI 48 g2), (me, oMem rg nx ct), (rg, aD yD 14 f), (sl, aD yD 2 fs), (ou, aL yL ov)] s.heap := hP
  have hl := lv_entry ([.ref x, .ref ou]) (n := 3) (Nat.le_of_ble_eq_true rfl)
  rw [lg_entry_eq]
  generalize (lg_sl ([.ref x, .ref ou]) ++ List.replicate (3 - (lg_sl ([.ref x, .ref ou])).length) Slot.unset).toArray = ls at hl ⊢
  have hl : lv_has ls 3 [(0, .ref x), (1, .ref ou)] := hl
  refine lv_aload_n hx hb dL_load_0 rfl (lv_at hl 1 rfl) ?_
  refine lv_iconst (v := iI 0) hx hb dL_load_1 (by decide +kernel) ?_
  refine lv_aload_n hx hb dL_load_2 rfl (lv_at hl 0 rfl) ?_
  refine iv_lxV (wc := [(x, oRD tx nw tr kn me sl), (tx, oTx sg tl po lo), (sg, aC yC 100 T), (nw, oDrv nc S (lN (kL (S) 0 40))), (nc, aI yI 48 g), (tr, oDrv tc S2 k2), (tc, aI yI 48 g2), (me, oMem rg nx ct), (rg, aD yD 14 f), (sl, aD yD 2 fs)]) (wr := [(ou, aL yL ov)]) (wp := fun (u : (Int → Int) × (Int → Int) × Int64 × Int × Int × (Nat → Option Nat)) => match u with | (S9, G9, k9, p9, l9, fs9) => [(x, oRD tx nw tr kn me sl), (tx, oTx sg tl p9 l9), (sg, aC yC 100 T), (nw, oDrv nc S9 (lN (kL (S9) 0 40))), (nc, aI yI 48 G9), (tr, oDrv tc S9 k9), (tc, aI yI 48 G9), (me, oMem rg nx 0), (rg, aD yD 14 f), (sl, aD yD 2 fs9)]) (As := []) (rest := [.int (iI 0), .ref ou]) (C := RX4) (n := 0) ⟨hx, hb, hml, hown, hts⟩ (c_X4_load l hla D yI yC yD x tx nw tr kn me sl sg T tl po lo nc S g tc S2 g2 k2 rg f nx ct fs htl hrt _) (cwV 0 hts gL_load_X4_load rfl rfl rfl (by decide +kernel) ⟨Nat.le_of_ble_eq_true rfl, Nat.le_of_ble_eq_true rfl⟩) hKz hP hD hS hA hB rfl rfl (fun u t h => by obtain ⟨S9, G9, k9, p9, l9, fs9⟩ := u; exact ⟨h, va_D_fst hD.l.self rfl⟩) (fun _ => rfl) rfl hl.1 rfl (Nat.le_of_ble_eq_true rfl) dL_load_3 ⟨Nat.le_of_ble_eq_true rfl, Nat.le_of_ble_eq_true rfl⟩ (fun E9 ce9 ox9 ux H locs hxe hP hD hS hc8 hv8 hcl8 => ?_) (fun r9 u H locs hw hP hD hS => ?_)
  · obtain ⟨S9, G9, k9, p9, l9⟩ := ux
    obtain ⟨rfl, hxc⟩ := hxe
    refine vx_catch (name := eS) hown (tableOf []) ⟨0, 8, 11, 15⟩ (tableOf []) (htb.trans rfl) (fun z hz => absurd hz List.not_mem_nil) rfl (by decide) (hts (.classLink RL 15 eS) (by decide +kernel)) (va_Nw.use rfl hB.1.2.1) hc8 hv8 hcl8 ?_
    have hP : va_P D vwCl [(x, oRD tx nw tr kn me sl), (tx, oTx sg tl p9 l9), (sg, aC yC 100 T), (nw, oDrv nc S (lN (kL (S) 0 40))), (nc, aI yI 48 g), (tr, oDrv tc S9 k9), (tc, aI yI 48 G9), (me, oMem rg nx ct), (rg, aD yD 14 f), (sl, aD yD 2 fs), (ou, aL yL ov)] H := hP
    have hD : va_D A [(x, oRD tx nw tr kn me sl), (tx, oTx sg tl p9 l9), (sg, aC yC 100 T), (nw, oDrv nc S (lN (kL (S) 0 40))), (nc, aI yI 48 g), (tr, oDrv tc S9 k9), (tc, aI yI 48 G9), (me, oMem rg nx ct), (rg, aD yD 14 f), (sl, aD yD 2 fs), (ou, aL yL ov)] := hD
    refine lv_astore_n (lv' := [(2, .ref ox9), (0, .ref x), (1, .ref ou)]) hx hb dL_load_11 rfl hl (by decide) rfl (fun ls hl => ?_)
    refine lv_iconst (v := iI 1) hx hb dL_load_12 (by decide +kernel) ?_
    have hP9 : va_P D vwCl [(x, oRD tx nw tr kn me sl), (tx, oTx sg tl p9 l9), (sg, aC yC 100 T), (nw, oDrv nc S (lN (kL (S) 0 40))), (nc, aI yI 48 g), (tr, oDrv tc S9 k9), (tc, aI yI 48 G9), (me, oMem rg nx ct), (rg, aD yD 14 f), (sl, aD yD 2 fs), (ou, aL yL ov)] _ := hP
    have hD9 : va_D A [(x, oRD tx nw tr kn me sl), (tx, oTx sg tl p9 l9), (sg, aC yC 100 T), (nw, oDrv nc S (lN (kL (S) 0 40))), (nc, aI yI 48 g), (tr, oDrv tc S9 k9), (tc, aI yI 48 G9), (me, oMem rg nx ct), (rg, aD yD 14 f), (sl, aD yD 2 fs), (ou, aL yL ov)] := hD
    exact W.iret hx hb hr (fun t ht hW => ⟨⟨iI 1, (S9, G9, k9, p9, l9), rfl, ⟨rfl, trivial⟩, ⟨by show va_P D vwCl _ t.heap; rw [ht]; exact hP9, hD9⟩⟩, hS.F ht⟩) hS.2.2 dL_load_13
  · obtain ⟨S9, G9, k9, p9, l9, fs9⟩ := u
    obtain ⟨hr9, hfe9, hS9, hfs9⟩ := hw
    exfalso
    first | omega | contradiction
set_option maxHeartbeats 4000000 in
set_option maxRecDepth 100000 in
theorem c_L_about_0 (l : Launch) (hla : l.stackTraces = false) (D : va_G) (yI yC yD yL : ClassId) (x : Nat) (tx : Nat) (nw : Nat) (tr : Nat) (kn : Nat) (me : Nat) (sl : Nat) (nc : Nat) (S : Int → Int) (g : Int → Int) (ex : Nat) (pl : Int) (E : Int → Int) (w : Int) (ou : Nat) (ov : Int64) (hI : Inv S) (hR : Rc S g) (hw9 : inR w) (hc9 : 0 ≤ w ∧ w ≤ 9) (sz : Nat) : Met l yL_about wsL_about ({ frames := 7, cells := 8, slots := 150, locals := 120 }) (vxP [.ref x, .int (iI w), .ref ou] D (tyl yI yC yD yL) [(x, oRD tx nw tr kn me sl), (nw, oDrv nc S (lN (kL (S) 0 40))), (nc, aI yI 48 g), (kn, oKn pl ex), (ex, aI yI 1681 E), (ou, aL yL ov)] sz) (va_Qi (fun (r : Int32) (u : Int × (Int → Int)) => match u with | (p9, E9) => r = iI 0 ∧ (0 ≤ w ∧ w ≤ 9)) (fun (u : Int × (Int → Int)) (t : State) => match u with | (p9, E9) => va_P D vwCl [(x, oRD tx nw tr kn me sl), (nw, oDrv nc S (lN (kL (S) 0 40))), (nc, aI yI 48 g), (kn, oKn p9 ex), (ex, aI yI 1681 E9), (ou, aL yL ((iI (abt S w)).toInt64))] t.heap ∧ va_D (va_A [(x, oRD tx nw tr kn me sl), (nw, oDrv nc S (lN (kL (S) 0 40))), (nc, aI yI 48 g), (kn, oKn pl ex), (ex, aI yI 1681 E), (ou, aL yL ov)] sz) [(x, oRD tx nw tr kn me sl), (nw, oDrv nc S (lN (kL (S) 0 40))), (nc, aI yI 48 g), (kn, oKn p9 ex), (ex, aI yI 1681 E9), (ou, aL yL ((iI (abt S w)).toInt64))]) (va_A [(x, oRD tx nw tr kn me sl), (nw, oDrv nc S (lN (kL (S) 0 40))), (nc, aI yI 48 g), (kn, oKn pl ex), (ex, aI yI 1681 E), (ou, aL yL ov)] sz)) 8 150 (va_A [(x, oRD tx nw tr kn me sl), (nw, oDrv nc S (lN (kL (S) 0 40))), (nc, aI yI 48 g), (kn, oKn pl ex), (ex, aI yI 1681 E), (ou, aL yL ov)] sz) := by
  refine iv_ofWH (cc := cL_about) (maxL := 4) (ret := (some .int)) (hh := [(0, 9, 12, 13)]) (by decide) rfl ?_
  intro p e s m args below meth c s₁ B hml hv
  obtain ⟨rfl, hsz, hP, hK, hD0, hB⟩ := hv
  have hx := B.exec
  have hb := B.bytes
  have hr := B.returns
  have hts := atoms_spec (ws := wsL_about) B.pre
  have hown : s.vm.findClass RL = some m.cls := findClass_of_methodNamed B.named
  have hlocks := B.notSynchronized
  have htb := vx_table (x := yL_append) B (hts (.codeWith yL_about cL_about 4 (some .int) [(0, 9, 12, 13)]) (by decide +kernel))
  have hKz : va_K D vwCl (tyz yI yC yD) s := hK.sub [0, 1, 2] rfl
  subst hsz
  have hD := hD0.self (sz := s.heap.size)
  generalize hAe : va_A [(x, oRD tx nw tr kn me sl), (nw, oDrv nc S (lN (kL (S) 0 40))), (nc, aI yI 48 g), (kn, oKn pl ex), (ex, aI yI 1681 E), (ou, aL yL ov)] s.heap.size = A at hD hB ⊢
  have hA : ∀ q : Nat, s.heap.size ≤ q → A q := fun q h => by rw [← hAe]; exact Or.inr h
  have hS : va_S A s.heap s.heap [] := va_S.rf
  have hP : va_P D vwCl [(x, oRD tx nw tr kn me sl), (nw, oDrv nc S (lN (kL (S) 0 40))), (nc, aI yI 48 g), (kn, oKn pl ex), (ex, aI yI 1681 E), (ou, aL yL ov)] s.heap := hP
  have hl := lv_entry ([.ref x, .int (iI w), .ref ou]) (n := 4) (Nat.le_of_ble_eq_true rfl)
  rw [lg_entry_eq]
  generalize (lg_sl ([.ref x, .int (iI w), .ref ou]) ++ List.replicate (4 - (lg_sl ([.ref x, .int (iI w), .ref ou])).length) Slot.unset).toArray = ls at hl ⊢
  have hl : lv_has ls 4 [(0, .ref x), (1, .int (iI w)), (2, .ref ou)] := hl
  refine lv_aload_n hx hb dL_about_0 rfl (lv_at hl 2 rfl) ?_
  refine lv_iconst (v := iI 0) hx hb dL_about_1 (by decide +kernel) ?_
  refine lv_aload_n hx hb dL_about_2 rfl (lv_at hl 0 rfl) ?_
  refine lv_iload_n hx hb dL_about_3 rfl (lv_at hl 1 rfl) ?_
  refine iv_lxV (wc := [(x, oRD tx nw tr kn me sl), (nw, oDrv nc S (lN (kL (S) 0 40))), (nc, aI yI 48 g), (kn, oKn pl ex), (ex, aI yI 1681 E)]) (wr := [(ou, aL yL ov)]) (wp := fun (u : Int × (Int → Int)) => match u with | (p9, E9) => [(x, oRD tx nw tr kn me sl), (nw, oDrv nc S (lN (kL (S) 0 40))), (nc, aI yI 48 g), (kn, oKn p9 ex), (ex, aI yI 1681 E9)]) (As := [.int (iI w)]) (rest := [.int (iI 0), .ref ou]) (C := RX4) (n := 1) ⟨hx, hb, hml, hown, hts⟩ (c_X4_about l hla D yI yC yD x tx nw tr kn me sl nc S g ex pl E w hI hR hw9 _) (cwV 1 hts gL_about_X4_about rfl rfl rfl (by decide +kernel) ⟨Nat.le_of_ble_eq_true rfl, Nat.le_of_ble_eq_true rfl⟩) hKz hP hD hS hA hB rfl rfl (fun u t h => by obtain ⟨p9, E9⟩ := u; exact ⟨h, va_D_fst hD.l.self rfl⟩) (fun _ => rfl) rfl hl.1 rfl (Nat.le_of_ble_eq_true rfl) dL_about_4 ⟨Nat.le_of_ble_eq_true rfl, Nat.le_of_ble_eq_true rfl⟩ (fun E9 ce9 ox9 ux H locs hxe hP hD hS hc8 hv8 hcl8 => ?_) (fun r9 u H locs hw hP hD hS => ?_)
  · exfalso
    obtain ⟨_, h⟩ := hxe; first | omega | contradiction | exact h (by assumption)
  · obtain ⟨p9, E9⟩ := u
    obtain ⟨hr9, hk9⟩ := hw
    subst hr9
    have hP : va_P D vwCl [(x, oRD tx nw tr kn me sl), (nw, oDrv nc S (lN (kL (S) 0 40))), (nc, aI yI 48 g), (kn, oKn p9 ex), (ex, aI yI 1681 E9), (ou, aL yL ov)] H := hP
    have hD : va_D A [(x, oRD tx nw tr kn me sl), (nw, oDrv nc S (lN (kL (S) 0 40))), (nc, aI yI 48 g), (kn, oKn p9 ex), (ex, aI yI 1681 E9), (ou, aL yL ov)] := hD
    refine lv_i2l (v := (iI (abt S w)).toInt64) hx hb dL_about_7 rfl ?_
    refine iv_lst hx hb hK hP hD hS 5 3 rfl rfl dL_about_8 (fun H locs hP hD hS => ?_)
    have hP : va_P D vwCl [(x, oRD tx nw tr kn me sl), (nw, oDrv nc S (lN (kL (S) 0 40))), (nc, aI yI 48 g), (kn, oKn p9 ex), (ex, aI yI 1681 E9), (ou, aL yL ((iI (abt S w)).toInt64))] H := hP
    have hD : va_D A [(x, oRD tx nw tr kn me sl), (nw, oDrv nc S (lN (kL (S) 0 40))), (nc, aI yI 48 g), (kn, oKn p9 ex), (ex, aI yI 1681 E9), (ou, aL yL ((iI (abt S w)).toInt64))] := hD
    refine lv_goto (tgt := 15) hx hb dL_about_9 (by decide) ?_
    refine lv_iconst (v := iI 0) hx hb dL_about_15 (by decide +kernel) ?_
    have hP9 : va_P D vwCl [(x, oRD tx nw tr kn me sl), (nw, oDrv nc S (lN (kL (S) 0 40))), (nc, aI yI 48 g), (kn, oKn p9 ex), (ex, aI yI 1681 E9), (ou, aL yL ((iI (abt S w)).toInt64))] _ := hP
    have hD9 : va_D A [(x, oRD tx nw tr kn me sl), (nw, oDrv nc S (lN (kL (S) 0 40))), (nc, aI yI 48 g), (kn, oKn p9 ex), (ex, aI yI 1681 E9), (ou, aL yL ((iI (abt S w)).toInt64))] := hD
    exact W.iret hx hb hr (fun t ht hW => ⟨⟨iI 0, (p9, E9), rfl, ⟨rfl, hk9⟩, ⟨by show va_P D vwCl _ t.heap; rw [ht]; exact hP9, hD9⟩⟩, hS.F ht⟩) hS.2.2 dL_about_16
set_option maxHeartbeats 4000000 in
set_option maxRecDepth 100000 in
theorem c_L_about_1 (l : Launch) (hla : l.stackTraces = false) (D : va_G) (yI yC yD yL : ClassId) (x : Nat) (tx : Nat) (nw : Nat) (tr : Nat) (kn : Nat) (me : Nat) (sl : Nat) (nc : Nat) (S : Int → Int) (g : Int → Int) (ex : Nat) (pl : Int) (E : Int → Int) (w : Int) (ou : Nat) (ov : Int64) (hI : Inv S) (hR : Rc S g) (hw9 : inR w) (hc9 : ¬ (0 ≤ w ∧ w ≤ 9)) (sz : Nat) : Met l yL_about wsL_about ({ frames := 7, cells := 8, slots := 150, locals := 120 }) (vxP [.ref x, .int (iI w), .ref ou] D (tyl yI yC yD yL) [(x, oRD tx nw tr kn me sl), (nw, oDrv nc S (lN (kL (S) 0 40))), (nc, aI yI 48 g), (kn, oKn pl ex), (ex, aI yI 1681 E), (ou, aL yL ov)] sz) (va_Qi (fun (r : Int32) (_ : Unit) => r = iI 1 ∧ True) (fun (_ : Unit) (t : State) => va_P D vwCl [(x, oRD tx nw tr kn me sl), (nw, oDrv nc S (lN (kL (S) 0 40))), (nc, aI yI 48 g), (kn, oKn pl ex), (ex, aI yI 1681 E), (ou, aL yL ov)] t.heap ∧ va_D (va_A [(x, oRD tx nw tr kn me sl), (nw, oDrv nc S (lN (kL (S) 0 40))), (nc, aI yI 48 g), (kn, oKn pl ex), (ex, aI yI 1681 E), (ou, aL yL ov)] sz) [(x, oRD tx nw tr kn me sl), (nw, oDrv nc S (lN (kL (S) 0 40))), (nc, aI yI 48 g), (kn, oKn pl ex), (ex, aI yI 1681 E), (ou, aL yL ov)]) (va_A [(x, oRD tx nw tr kn me sl), (nw, oDrv nc S (lN (kL (S) 0 40))), (nc, aI yI 48 g), (kn, oKn pl ex), (ex, aI yI 1681 E), (ou, aL yL ov)] sz)) 8 150 (va_A [(x, oRD tx nw tr kn me sl), (nw, oDrv nc S (lN (kL (S) 0 40))), (nc, aI yI 48 g), (kn, oKn pl ex), (ex, aI yI 1681 E), (ou, aL yL ov)] sz) := by
  refine iv_ofWH (cc := cL_about) (maxL := 4) (ret := (some .int)) (hh := [(0, 9, 12, 13)]) (by decide) rfl ?_
  intro p e s m args below meth c s₁ B hml hv
  obtain ⟨rfl, hsz, hP, hK, hD0, hB⟩ := hv
  have hx := B.exec
  have hb := B.bytes
  have hr := B.returns
  have hts := atoms_spec (ws := wsL_about) B.pre
  have hown : s.vm.findClass RL = some m.cls := findClass_of_methodNamed B.named
  have hlocks := B.notSynchronized
  have htb := vx_table (x := yL_append) B (hts (.codeWith yL_about cL_about 4 (some .int) [(0, 9, 12, 13)]) (by decide +kernel))
  have hKz : va_K D vwCl (tyz yI yC yD) s := hK.sub [0, 1, 2] rfl
  subst hsz
  have hD := hD0.self (sz := s.heap.size)
  generalize hAe : va_A [(x, oRD tx nw tr kn me sl), (nw, oDrv nc S (lN (kL (S) 0 40))), (nc, aI yI 48 g), (kn, oKn pl ex), (ex, aI yI 1681 E), (ou, aL yL ov)] s.heap.size = A at hD hB ⊢
  have hA : ∀ q : Nat, s.heap.size ≤ q → A q := fun q h => by rw [← hAe]; exact Or.inr h
  have hS : va_S A s.heap s.heap [] := va_S.rf
  have hP : va_P D vwCl [(x, oRD tx nw tr kn me sl), (nw, oDrv nc S (lN (kL (S) 0 40))), (nc, aI yI 48 g), (kn, oKn pl ex), (ex, aI yI 1681 E), (ou, aL yL ov)] s.heap := hP
  have hl := lv_entry ([.ref x, .int (iI w), .ref ou]) (n := 4) (Nat.le_of_ble_eq_true rfl)
  rw [lg_entry_eq]
  generalize (lg_sl ([.ref x, .int (iI w), .ref ou]) ++ List.replicate (4 - (lg_sl ([.ref x, .int (iI w), .ref ou])).length) Slot.unset).toArray = ls at hl ⊢
  have hl : lv_has ls 4 [(0, .ref x), (1, .int (iI w)), (2, .ref ou)] := hl
  refine lv_aload_n hx hb dL_about_0 rfl (lv_at hl 2 rfl) ?_
  refine lv_iconst (v := iI 0) hx hb dL_about_1 (by decide +kernel) ?_
  refine lv_aload_n hx hb dL_about_2 rfl (lv_at hl 0 rfl) ?_
  refine lv_iload_n hx hb dL_about_3 rfl (lv_at hl 1 rfl) ?_
  refine iv_lxV (wc := [(x, oRD tx nw tr kn me sl), (nw, oDrv nc S (lN (kL (S) 0 40))), (nc, aI yI 48 g), (kn, oKn pl ex), (ex, aI yI 1681 E)]) (wr := [(ou, aL yL ov)]) (wp := fun (u : Int × (Int → Int)) => match u with | (p9, E9) => [(x, oRD tx nw tr kn me sl), (nw, oDrv nc S (lN (kL (S) 0 40))), (nc, aI yI 48 g), (kn, oKn p9 ex), (ex, aI yI 1681 E9)]) (As := [.int (iI w)]) (rest := [.int (iI 0), .ref ou]) (C := RX4) (n := 1) ⟨hx, hb, hml, hown, hts⟩ (c_X4_about l hla D yI yC yD x tx nw tr kn me sl nc S g ex pl E w hI hR hw9 _) (cwV 1 hts gL_about_X4_about rfl rfl rfl (by decide +kernel) ⟨Nat.le_of_ble_eq_true rfl, Nat.le_of_ble_eq_true rfl⟩) hKz hP hD hS hA hB rfl rfl (fun u t h => by obtain ⟨p9, E9⟩ := u; exact ⟨h, va_D_fst hD.l.self rfl⟩) (fun _ => rfl) rfl hl.1 rfl (Nat.le_of_ble_eq_true rfl) dL_about_4 ⟨Nat.le_of_ble_eq_true rfl, Nat.le_of_ble_eq_true rfl⟩ (fun E9 ce9 ox9 ux H locs hxe hP hD hS hc8 hv8 hcl8 => ?_) (fun r9 u H locs hw hP hD hS => ?_)
  · obtain ⟨rfl, hxc⟩ := hxe
    refine vx_catch (name := eA) hown (tableOf []) ⟨0, 9, 12, 13⟩ (tableOf []) (htb.trans rfl) (fun z hz => absurd hz List.not_mem_nil) rfl (by decide) (hts (.classLink RL 13 eA) (by decide +kernel)) (va_Nw.use rfl hB.1.1) hc8 hv8 hcl8 ?_
    have hP : va_P D vwCl [(x, oRD tx nw tr kn me sl), (nw, oDrv nc S (lN (kL (S) 0 40))), (nc, aI yI 48 g), (kn, oKn pl ex), (ex, aI yI 1681 E), (ou, aL yL ov)] H := hP
    have hD : va_D A [(x, oRD tx nw tr kn me sl), (nw, oDrv nc S (lN (kL (S) 0 40))), (nc, aI yI 48 g), (kn, oKn pl ex), (ex, aI yI 1681 E), (ou, aL yL ov)] := hD
    refine lv_astore_n (lv' := [(3, .ref ox9), (0, .ref x), (1, .int (iI w)), (2, .ref ou)]) hx hb dL_about_12 rfl hl (by decide) rfl (fun ls hl => ?_)
    refine lv_iconst (v := iI 1) hx hb dL_about_13 (by decide +kernel) ?_
    have hP9 : va_P D vwCl [(x, oRD tx nw tr kn me sl), (nw, oDrv nc S (lN (kL (S) 0 40))), (nc, aI yI 48 g), (kn, oKn pl ex), (ex, aI yI 1681 E), (ou, aL yL ov)] _ := hP
    have hD9 : va_D A [(x, oRD tx nw tr kn me sl), (nw, oDrv nc S (lN (kL (S) 0 40))), (nc, aI yI 48 g), (kn, oKn pl ex), (ex, aI yI 1681 E), (ou, aL yL ov)] := hD
    exact W.iret hx hb hr (fun t ht hW => ⟨⟨iI 1, (), rfl, ⟨rfl, trivial⟩, ⟨by show va_P D vwCl _ t.heap; rw [ht]; exact hP9, hD9⟩⟩, hS.F ht⟩) hS.2.2 dL_about_14
  · obtain ⟨p9, E9⟩ := u
    obtain ⟨hr9, hk9⟩ := hw
    exfalso
    first | omega | contradiction
set_option maxHeartbeats 4000000 in
set_option maxRecDepth 100000 in
theorem c_L_has_0 (l : Launch) (hla : l.stackTraces = false) (D : va_G) (yI yC yD yL : ClassId) (x : Nat) (tx : Nat) (nw : Nat) (tr : Nat) (kn : Nat) (me : Nat) (sl : Nat) (nc : Nat) (S : Int → Int) (g : Int → Int) (i : Int) (ou : Nat) (ov : Int64) (hI : Inv S) (hi9 : inR i) (hc9 : 0 ≤ i ∧ i < S 0) (sz : Nat) : Met l yL_has wsL_has ({ frames := 8, cells := 8, slots := 150, locals := 124 }) (vxP [.ref x, .int (iI i), .ref ou] D (tyl yI yC yD yL) [(x, oRD tx nw tr kn me sl), (nw, oDrv nc S (lN (kL (S) 0 40))), (nc, aI yI 48 g), (ou, aL yL ov)] sz) (va_Qi (fun (r : Int32) (_ : Unit) => r = iI 0 ∧ (0 ≤ i ∧ i < S 0)) (fun (_ : Unit) (t : State) => va_P D vwCl [(x, oRD tx nw tr kn me sl), (nw, oDrv nc S (lN (kL (S) 0 40))), (nc, aI yI 48 g), (ou, aL yL (bL (S (8 + i) = 1)))] t.heap ∧ va_D (va_A [(x, oRD tx nw tr kn me sl), (nw, oDrv nc S (lN (kL (S) 0 40))), (nc, aI yI 48 g), (ou, aL yL ov)] sz) [(x, oRD tx nw tr kn me sl), (nw, oDrv nc S (lN (kL (S) 0 40))), (nc, aI yI 48 g), (ou, aL yL (bL (S (8 + i) = 1)))]) (va_A [(x, oRD tx nw tr kn me sl), (nw, oDrv nc S (lN (kL (S) 0 40))), (nc, aI yI 48 g), (ou, aL yL ov)] sz)) 8 150 (va_A [(x, oRD tx nw tr kn me sl), (nw, oDrv nc S (lN (kL (S) 0 40))), (nc, aI yI 48 g), (ou, aL yL ov)] sz) := by
  refine iv_ofWH (cc := cL_has) (maxL := 4) (ret := (some .int)) (hh := [(0, 16, 19, 28)]) (by decide) rfl ?_
  intro p e s m args below meth c s₁ B hml hv
  obtain ⟨rfl, hsz, hP, hK, hD0, hB⟩ := hv
  have hx := B.exec
  have hb := B.bytes
  have hr := B.returns
  have hts := atoms_spec (ws := wsL_has) B.pre
  have hown : s.vm.findClass RL = some m.cls := findClass_of_methodNamed B.named
  have hlocks := B.notSynchronized
  have htb := vx_table (x := yL_append) B (hts (.codeWith yL_has cL_has 4 (some .int) [(0, 16, 19, 28)]) (by decide +kernel))
  have hKz : va_K D vwCl (tyz yI yC yD) s := hK.sub [0, 1, 2] rfl
  subst hsz
  have hD := hD0.self (sz := s.heap.size)
  generalize hAe : va_A [(x, oRD tx nw tr kn me sl), (nw, oDrv nc S (lN (kL (S) 0 40))), (nc, aI yI 48 g), (ou, aL yL ov)] s.heap.size = A at hD hB ⊢
  have hA : ∀ q : Nat, s.heap.size ≤ q → A q := fun q h => by rw [← hAe]; exact Or.inr h
  have hS : va_S A s.heap s.heap [] := va_S.rf
  have hP : va_P D vwCl [(x, oRD tx nw tr kn me sl), (nw, oDrv nc S (lN (kL (S) 0 40))), (nc, aI yI 48 g), (ou, aL yL ov)] s.heap := hP
  have hl := lv_entry ([.ref x, .int (iI i), .ref ou]) (n := 4) (Nat.le_of_ble_eq_true rfl)
  rw [lg_entry_eq]
  generalize (lg_sl ([.ref x, .int (iI i), .ref ou]) ++ List.replicate (4 - (lg_sl ([.ref x, .int (iI i), .ref ou])).length) Slot.unset).toArray = ls at hl ⊢
  have hl : lv_has ls 4 [(0, .ref x), (1, .int (iI i)), (2, .ref ou)] := hl
  refine lv_aload_n hx hb dL_has_0 rfl (lv_at hl 2 rfl) ?_
  refine lv_iconst (v := iI 0) hx hb dL_has_1 (by decide +kernel) ?_
  refine lv_aload_n hx hb dL_has_2 rfl (lv_at hl 0 rfl) ?_
  refine lv_iload_n hx hb dL_has_3 rfl (lv_at hl 1 rfl) ?_
  refine iv_lxV (wc := [(x, oRD tx nw tr kn me sl), (nw, oDrv nc S (lN (kL (S) 0 40))), (nc, aI yI 48 g)]) (wr := [(ou, aL yL ov)]) (wp := fun (_ : Unit) => [(x, oRD tx nw tr kn me sl), (nw, oDrv nc S (lN (kL (S) 0 40))), (nc, aI yI 48 g)]) (As := [.int (iI i)]) (rest := [.int (iI 0), .ref ou]) (C := RX4) (n := 1) ⟨hx, hb, hml, hown, hts⟩ (c_X4_has l hla D yI yC yD x tx nw tr kn me sl nc S g i hI hi9 _) (cwV 1 hts gL_has_X4_has rfl rfl rfl (by decide +kernel) ⟨Nat.le_of_ble_eq_true rfl, Nat.le_of_ble_eq_true rfl⟩) hKz hP hD hS hA hB rfl rfl (fun u t h => by exact ⟨h, va_D_fst hD.l.self rfl⟩) (fun _ => rfl) rfl hl.1 rfl (Nat.le_of_ble_eq_true rfl) dL_has_4 ⟨Nat.le_of_ble_eq_true rfl, Nat.le_of_ble_eq_true rfl⟩ (fun E9 ce9 ox9 ux H locs hxe hP hD hS hc8 hv8 hcl8 => ?_) (fun r9 u H locs hw hP hD hS => ?_)
  · exfalso
    obtain ⟨_, h⟩ := hxe; first | omega | contradiction | exact h (by assumption)
  · obtain ⟨hr9, hpl9⟩ := hw
    subst hr9
    have hP : va_P D vwCl [(x, oRD tx nw tr kn me sl), (nw, oDrv nc S (lN (kL (S) 0 40))), (nc, aI yI 48 g), (ou, aL yL ov)] H := hP
    have hD : va_D A [(x, oRD tx nw tr kn me sl), (nw, oDrv nc S (lN (kL (S) 0 40))), (nc, aI yI 48 g), (ou, aL yL ov)] := hD
    refine iv_ifb_eq (P := S (8 + i) = 1) (tgt := 14) hx hb dL_has_7 (by decide) (fun c7 => ?_) (fun c7 => ?_)
    · refine lv_lconst (v := 0) hx hb dL_has_14 (by decide +kernel) ?_
      refine iv_lst hx hb hK hP hD hS 3 3 rfl rfl dL_has_15 (fun H locs hP hD hS => ?_)
      have hP : va_P D vwCl [(x, oRD tx nw tr kn me sl), (nw, oDrv nc S (lN (kL (S) 0 40))), (nc, aI yI 48 g), (ou, aL yL 0)] H := hP
      have hD : va_D A [(x, oRD tx nw tr kn me sl), (nw, oDrv nc S (lN (kL (S) 0 40))), (nc, aI yI 48 g), (ou, aL yL 0)] := hD
      refine lv_goto (tgt := 22) hx hb dL_has_16 (by decide) ?_
      refine lv_iconst (v := iI 0) hx hb dL_has_22 (by decide +kernel) ?_
      have hP9 : va_P D vwCl [(x, oRD tx nw tr kn me sl), (nw, oDrv nc S (lN (kL (S) 0 40))), (nc, aI yI 48 g), (ou, aL yL (bL (S (8 + i) = 1)))] _ := hP.cv (by rw [show (bL (S (8 + i) = 1)) = 0 from by first | exact bL_t (by assumption) | exact bL_f (by assumption)])
      have hD9 : va_D A [(x, oRD tx nw tr kn me sl), (nw, oDrv nc S (lN (kL (S) 0 40))), (nc, aI yI 48 g), (ou, aL yL (bL (S (8 + i) = 1)))] := hD.cv (by rw [show (bL (S (8 + i) = 1)) = 0 from by first | exact bL_t (by assumption) | exact bL_f (by assumption)])
      exact W.iret hx hb hr (fun t ht hW => ⟨⟨iI 0, (), rfl, ⟨rfl, hpl9⟩, ⟨by show va_P D vwCl _ t.heap; rw [ht]; exact hP9, hD9⟩⟩, hS.F ht⟩) hS.2.2 dL_has_23
    · refine lv_lconst (v := 1) hx hb dL_has_10 (by decide +kernel) ?_
      refine lv_goto (tgt := 15) hx hb dL_has_11 (by decide) ?_
      refine iv_lst hx hb hK hP hD hS 3 3 rfl rfl dL_has_15 (fun H locs hP hD hS => ?_)
      have hP : va_P D vwCl [(x, oRD tx nw tr kn me sl), (nw, oDrv nc S (lN (kL (S) 0 40))), (nc, aI yI 48 g), (ou, aL yL 1)] H := hP
      have hD : va_D A [(x, oRD tx nw tr kn me sl), (nw, oDrv nc S (lN (kL (S) 0 40))), (nc, aI yI 48 g), (ou, aL yL 1)] := hD
      refine lv_goto (tgt := 22) hx hb dL_has_16 (by decide) ?_
      refine lv_iconst (v := iI 0) hx hb dL_has_22 (by decide +kernel) ?_
      have hP9 : va_P D vwCl [(x, oRD tx nw tr kn me sl), (nw, oDrv nc S (lN (kL (S) 0 40))), (nc, aI yI 48 g), (ou, aL yL (bL (S (8 + i) = 1)))] _ := hP.cv (by rw [show (bL (S (8 + i) = 1)) = 1 from by first | exact bL_t (by assumption) | exact bL_f (by assumption)])
      have hD9 : va_D A [(x, oRD tx nw tr kn me sl), (nw, oDrv nc S (lN (kL (S) 0 40))), (nc, aI yI 48 g), (ou, aL yL (bL (S (8 + i) = 1)))] := hD.cv (by rw [show (bL (S (8 + i) = 1)) = 1 from by first | exact bL_t (by assumption) | exact bL_f (by assumption)])
      exact W.iret hx hb hr (fun t ht hW => ⟨⟨iI 0, (), rfl, ⟨rfl, hpl9⟩, ⟨by show va_P D vwCl _ t.heap; rw [ht]; exact hP9, hD9⟩⟩, hS.F ht⟩) hS.2.2 dL_has_23
set_option maxHeartbeats 4000000 in
set_option maxRecDepth 100000 in
theorem c_L_has_1 (l : Launch) (hla : l.stackTraces = false) (D : va_G) (yI yC yD yL : ClassId) (x : Nat) (tx : Nat) (nw : Nat) (tr : Nat) (kn : Nat) (me : Nat) (sl : Nat) (nc : Nat) (S : Int → Int) (g : Int → Int) (i : Int) (ou : Nat) (ov : Int64) (hI : Inv S) (hi9 : inR i) (hc9 : ¬ (0 ≤ i ∧ i < S 0)) (sz : Nat) : Met l yL_has wsL_has ({ frames := 8, cells := 8, slots := 150, locals := 124 }) (vxP [.ref x, .int (iI i), .ref ou] D (tyl yI yC yD yL) [(x, oRD tx nw tr kn me sl), (nw, oDrv nc S (lN (kL (S) 0 40))), (nc, aI yI 48 g), (ou, aL yL ov)] sz) (va_Qi (fun (r : Int32) (_ : Unit) => r = iI 1 ∧ True) (fun (_ : Unit) (t : State) => va_P D vwCl [(x, oRD tx nw tr kn me sl), (nw, oDrv nc S (lN (kL (S) 0 40))), (nc, aI yI 48 g), (ou, aL yL ov)] t.heap ∧ va_D (va_A [(x, oRD tx nw tr kn me sl), (nw, oDrv nc S (lN (kL (S) 0 40))), (nc, aI yI 48 g), (ou, aL yL ov)] sz) [(x, oRD tx nw tr kn me sl), (nw, oDrv nc S (lN (kL (S) 0 40))), (nc, aI yI 48 g), (ou, aL yL ov)]) (va_A [(x, oRD tx nw tr kn me sl), (nw, oDrv nc S (lN (kL (S) 0 40))), (nc, aI yI 48 g), (ou, aL yL ov)] sz)) 8 150 (va_A [(x, oRD tx nw tr kn me sl), (nw, oDrv nc S (lN (kL (S) 0 40))), (nc, aI yI 48 g), (ou, aL yL ov)] sz) := by
  refine iv_ofWH (cc := cL_has) (maxL := 4) (ret := (some .int)) (hh := [(0, 16, 19, 28)]) (by decide) rfl ?_
  intro p e s m args below meth c s₁ B hml hv
  obtain ⟨rfl, hsz, hP, hK, hD0, hB⟩ := hv
  have hx := B.exec
  have hb := B.bytes
  have hr := B.returns
  have hts := atoms_spec (ws := wsL_has) B.pre
  have hown : s.vm.findClass RL = some m.cls := findClass_of_methodNamed B.named
  have hlocks := B.notSynchronized
  have htb := vx_table (x := yL_append) B (hts (.codeWith yL_has cL_has 4 (some .int) [(0, 16, 19, 28)]) (by decide +kernel))
  have hKz : va_K D vwCl (tyz yI yC yD) s := hK.sub [0, 1, 2] rfl
  subst hsz
  have hD := hD0.self (sz := s.heap.size)
  generalize hAe : va_A [(x, oRD tx nw tr kn me sl), (nw, oDrv nc S (lN (kL (S) 0 40))), (nc, aI yI 48 g), (ou, aL yL ov)] s.heap.size = A at hD hB ⊢
  have hA : ∀ q : Nat, s.heap.size ≤ q → A q := fun q h => by rw [← hAe]; exact Or.inr h
  have hS : va_S A s.heap s.heap [] := va_S.rf
  have hP : va_P D vwCl [(x, oRD tx nw tr kn me sl), (nw, oDrv nc S (lN (kL (S) 0 40))), (nc, aI yI 48 g), (ou, aL yL ov)] s.heap := hP
  have hl := lv_entry ([.ref x, .int (iI i), .ref ou]) (n := 4) (Nat.le_of_ble_eq_true rfl)
  rw [lg_entry_eq]
  generalize (lg_sl ([.ref x, .int (iI i), .ref ou]) ++ List.replicate (4 - (lg_sl ([.ref x, .int (iI i), .ref ou])).length) Slot.unset).toArray = ls at hl ⊢
  have hl : lv_has ls 4 [(0, .ref x), (1, .int (iI i)), (2, .ref ou)] := hl
  refine lv_aload_n hx hb dL_has_0 rfl (lv_at hl 2 rfl) ?_
  refine lv_iconst (v := iI 0) hx hb dL_has_1 (by decide +kernel) ?_
  refine lv_aload_n hx hb dL_has_2 rfl (lv_at hl 0 rfl) ?_
  refine lv_iload_n hx hb dL_has_3 rfl (lv_at hl 1 rfl) ?_
  refine iv_lxV (wc := [(x, oRD tx nw tr kn me sl), (nw, oDrv nc S (lN (kL (S) 0 40))), (nc, aI yI 48 g)]) (wr := [(ou, aL yL ov)]) (wp := fun (_ : Unit) => [(x, oRD tx nw tr kn me sl), (nw, oDrv nc S (lN (kL (S) 0 40))), (nc, aI yI 48 g)]) (As := [.int (iI i)]) (rest := [.int (iI 0), .ref ou]) (C := RX4) (n := 1) ⟨hx, hb, hml, hown, hts⟩ (c_X4_has l hla D yI yC yD x tx nw tr kn me sl nc S g i hI hi9 _) (cwV 1 hts gL_has_X4_has rfl rfl rfl (by decide +kernel) ⟨Nat.le_of_ble_eq_true rfl, Nat.le_of_ble_eq_true rfl⟩) hKz hP hD hS hA hB rfl rfl (fun u t h => by exact ⟨h, va_D_fst hD.l.self rfl⟩) (fun _ => rfl) rfl hl.1 rfl (Nat.le_of_ble_eq_true rfl) dL_has_4 ⟨Nat.le_of_ble_eq_true rfl, Nat.le_of_ble_eq_true rfl⟩ (fun E9 ce9 ox9 ux H locs hxe hP hD hS hc8 hv8 hcl8 => ?_) (fun r9 u H locs hw hP hD hS => ?_)
  · obtain ⟨rfl, hxc⟩ := hxe
    refine vx_catch (name := eI) hown (tableOf []) ⟨0, 16, 19, 28⟩ (tableOf []) (htb.trans rfl) (fun z hz => absurd hz List.not_mem_nil) rfl (by decide) (hts (.classLink RL 28 eI) (by decide +kernel)) (va_Nw.use rfl hB.1.2.2) hc8 hv8 hcl8 ?_
    have hP : va_P D vwCl [(x, oRD tx nw tr kn me sl), (nw, oDrv nc S (lN (kL (S) 0 40))), (nc, aI yI 48 g), (ou, aL yL ov)] H := hP
    have hD : va_D A [(x, oRD tx nw tr kn me sl), (nw, oDrv nc S (lN (kL (S) 0 40))), (nc, aI yI 48 g), (ou, aL yL ov)] := hD
    refine lv_astore_n (lv' := [(3, .ref ox9), (0, .ref x), (1, .int (iI i)), (2, .ref ou)]) hx hb dL_has_19 rfl hl (by decide) rfl (fun ls hl => ?_)
    refine lv_iconst (v := iI 1) hx hb dL_has_20 (by decide +kernel) ?_
    have hP9 : va_P D vwCl [(x, oRD tx nw tr kn me sl), (nw, oDrv nc S (lN (kL (S) 0 40))), (nc, aI yI 48 g), (ou, aL yL ov)] _ := hP
    have hD9 : va_D A [(x, oRD tx nw tr kn me sl), (nw, oDrv nc S (lN (kL (S) 0 40))), (nc, aI yI 48 g), (ou, aL yL ov)] := hD
    exact W.iret hx hb hr (fun t ht hW => ⟨⟨iI 1, (), rfl, ⟨rfl, trivial⟩, ⟨by show va_P D vwCl _ t.heap; rw [ht]; exact hP9, hD9⟩⟩, hS.F ht⟩) hS.2.2 dL_has_21
  · obtain ⟨hr9, hpl9⟩ := hw
    exfalso
    first | omega | contradiction
set_option maxHeartbeats 4000000 in
set_option maxRecDepth 100000 in
theorem c_L_answer_0 (l : Launch) (hla : l.stackTraces = false) (D : va_G) (yI yC yD yL : ClassId) (x : Nat) (tx : Nat) (nw : Nat) (tr : Nat) (kn : Nat) (me : Nat) (sl : Nat) (nc : Nat) (S : Int → Int) (g : Int → Int) (i : Int) (w : Int) (ou : Nat) (ov : Int64) (hI : Inv S) (hR : Rc S g) (hi9 : inR i) (hw9 : inR w) (hc9 : whyAn S i w = 0) (sz : Nat) : Met l yL_answer wsL_answer ({ frames := 8, cells := 8, slots := 150, locals := 125 }) (vxP [.ref x, .int (iI i), .int (iI w), .ref ou] D (tyl yI yC yD yL) [(x, oRD tx nw tr kn me sl), (nw, oDrv nc S (lN (kL (S) 0 40))), (nc, aI yI 48 g), (ou, aL yL ov)] sz) (va_Qi (fun (r : Int32) (_ : Unit) => r = iI 0 ∧ (whyAn S i w = 0)) (fun (_ : Unit) (t : State) => va_P D vwCl [(x, oRD tx nw tr kn me sl), (nw, oDrv nc S (lN (kL (S) 0 40))), (nc, aI yI 48 g), (ou, aL yL ((iI (an S i w)).toInt64))] t.heap ∧ va_D (va_A [(x, oRD tx nw tr kn me sl), (nw, oDrv nc S (lN (kL (S) 0 40))), (nc, aI yI 48 g), (ou, aL yL ov)] sz) [(x, oRD tx nw tr kn me sl), (nw, oDrv nc S (lN (kL (S) 0 40))), (nc, aI yI 48 g), (ou, aL yL ((iI (an S i w)).toInt64))]) (va_A [(x, oRD tx nw tr kn me sl), (nw, oDrv nc S (lN (kL (S) 0 40))), (nc, aI yI 48 g), (ou, aL yL ov)] sz)) 8 150 (va_A [(x, oRD tx nw tr kn me sl), (nw, oDrv nc S (lN (kL (S) 0 40))), (nc, aI yI 48 g), (ou, aL yL ov)] sz) := by
  refine iv_ofWH (cc := cL_answer) (maxL := 5) (ret := (some .int)) (hh := [(0, 10, 13, 28), (0, 10, 17, 13)]) (by decide) rfl ?_
  intro p e s m args below meth c s₁ B hml hv
  obtain ⟨rfl, hsz, hP, hK, hD0, hB⟩ := hv
  have hx := B.exec
  have hb := B.bytes
  have hr := B.returns
  have hts := atoms_spec (ws := wsL_answer) B.pre
  have hown : s.vm.findClass RL = some m.cls := findClass_of_methodNamed B.named
  have hlocks := B.notSynchronized
  have htb := vx_table (x := yL_append) B (hts (.codeWith yL_answer cL_answer 5 (some .int) [(0, 10, 13, 28), (0, 10, 17, 13)]) (by decide +kernel))
  have hKz : va_K D vwCl (tyz yI yC yD) s := hK.sub [0, 1, 2] rfl
  subst hsz
  have hD := hD0.self (sz := s.heap.size)
  generalize hAe : va_A [(x, oRD tx nw tr kn me sl), (nw, oDrv nc S (lN (kL (S) 0 40))), (nc, aI yI 48 g), (ou, aL yL ov)] s.heap.size = A at hD hB ⊢
  have hA : ∀ q : Nat, s.heap.size ≤ q → A q := fun q h => by rw [← hAe]; exact Or.inr h
  have hS : va_S A s.heap s.heap [] := va_S.rf
  have hP : va_P D vwCl [(x, oRD tx nw tr kn me sl), (nw, oDrv nc S (lN (kL (S) 0 40))), (nc, aI yI 48 g), (ou, aL yL ov)] s.heap := hP
  have hl := lv_entry ([.ref x, .int (iI i), .int (iI w), .ref ou]) (n := 5) (Nat.le_of_ble_eq_true rfl)
  rw [lg_entry_eq]
  generalize (lg_sl ([.ref x, .int (iI i), .int (iI w), .ref ou]) ++ List.replicate (5 - (lg_sl ([.ref x, .int (iI i), .int (iI w), .ref ou])).length) Slot.unset).toArray = ls at hl ⊢
  have hl : lv_has ls 5 [(0, .ref x), (1, .int (iI i)), (2, .int (iI w)), (3, .ref ou)] := hl
  refine lv_aload_n hx hb dL_answer_0 rfl (lv_at hl 3 rfl) ?_
  refine lv_iconst (v := iI 0) hx hb dL_answer_1 (by decide +kernel) ?_
  refine lv_aload_n hx hb dL_answer_2 rfl (lv_at hl 0 rfl) ?_
  refine lv_iload_n hx hb dL_answer_3 rfl (lv_at hl 1 rfl) ?_
  refine lv_iload_n hx hb dL_answer_4 rfl (lv_at hl 2 rfl) ?_
  refine iv_lxV (wc := [(x, oRD tx nw tr kn me sl), (nw, oDrv nc S (lN (kL (S) 0 40))), (nc, aI yI 48 g)]) (wr := [(ou, aL yL ov)]) (wp := fun (_ : Unit) => [(x, oRD tx nw tr kn me sl), (nw, oDrv nc S (lN (kL (S) 0 40))), (nc, aI yI 48 g)]) (As := [.int (iI i), .int (iI w)]) (rest := [.int (iI 0), .ref ou]) (C := RX4) (n := 2) ⟨hx, hb, hml, hown, hts⟩ (c_X4_answer l hla D yI yC yD x tx nw tr kn me sl nc S g i w hI hR hi9 hw9 _) (cwV 2 hts gL_answer_X4_answer rfl rfl rfl (by decide +kernel) ⟨Nat.le_of_ble_eq_true rfl, Nat.le_of_ble_eq_true rfl⟩) hKz hP hD hS hA hB rfl rfl (fun u t h => by exact ⟨h, va_D_fst hD.l.self rfl⟩) (fun _ => rfl) rfl hl.1 rfl (Nat.le_of_ble_eq_true rfl) dL_answer_5 ⟨Nat.le_of_ble_eq_true rfl, Nat.le_of_ble_eq_true rfl⟩ (fun E9 ce9 ox9 ux H locs hxe hP hD hS hc8 hv8 hcl8 => ?_) (fun r9 u H locs hw hP hD hS => ?_)
  · exfalso
    rcases hxe with ⟨_, h⟩ | ⟨_, h⟩ <;> first | omega | contradiction
  · obtain ⟨hr9, hwa9⟩ := hw
    subst hr9
    have hP : va_P D vwCl [(x, oRD tx nw tr kn me sl), (nw, oDrv nc S (lN (kL (S) 0 40))), (nc, aI yI 48 g), (ou, aL yL ov)] H := hP
    have hD : va_D A [(x, oRD tx nw tr kn me sl), (nw, oDrv nc S (lN (kL (S) 0 40))), (nc, aI yI 48 g), (ou, aL yL ov)] := hD
    refine lv_i2l (v := (iI (an S i w)).toInt64) hx hb dL_answer_8 rfl ?_
    refine iv_lst hx hb hK hP hD hS 3 3 rfl rfl dL_answer_9 (fun H locs hP hD hS => ?_)
    have hP : va_P D vwCl [(x, oRD tx nw tr kn me sl), (nw, oDrv nc S (lN (kL (S) 0 40))), (nc, aI yI 48 g), (ou, aL yL ((iI (an S i w)).toInt64))] H := hP
    have hD : va_D A [(x, oRD tx nw tr kn me sl), (nw, oDrv nc S (lN (kL (S) 0 40))), (nc, aI yI 48 g), (ou, aL yL ((iI (an S i w)).toInt64))] := hD
    refine lv_goto (tgt := 21) hx hb dL_answer_10 (by decide) ?_
    refine lv_iconst (v := iI 0) hx hb dL_answer_21 (by decide +kernel) ?_
    have hP9 : va_P D vwCl [(x, oRD tx nw tr kn me sl), (nw, oDrv nc S (lN (kL (S) 0 40))), (nc, aI yI 48 g), (ou, aL yL ((iI (an S i w)).toInt64))] _ := hP
    have hD9 : va_D A [(x, oRD tx nw tr kn me sl), (nw, oDrv nc S (lN (kL (S) 0 40))), (nc, aI yI 48 g), (ou, aL yL ((iI (an S i w)).toInt64))] := hD
    exact W.iret hx hb hr (fun t ht hW => ⟨⟨iI 0, (), rfl, ⟨rfl, hwa9⟩, ⟨by show va_P D vwCl _ t.heap; rw [ht]; exact hP9, hD9⟩⟩, hS.F ht⟩) hS.2.2 dL_answer_22
set_option maxHeartbeats 4000000 in
set_option maxRecDepth 100000 in
theorem c_L_answer_1 (l : Launch) (hla : l.stackTraces = false) (D : va_G) (yI yC yD yL : ClassId) (x : Nat) (tx : Nat) (nw : Nat) (tr : Nat) (kn : Nat) (me : Nat) (sl : Nat) (nc : Nat) (S : Int → Int) (g : Int → Int) (i : Int) (w : Int) (ou : Nat) (ov : Int64) (hI : Inv S) (hR : Rc S g) (hi9 : inR i) (hw9 : inR w) (hc9 : ¬ (whyAn S i w = 0)) (sz : Nat) : Met l yL_answer wsL_answer ({ frames := 8, cells := 8, slots := 150, locals := 125 }) (vxP [.ref x, .int (iI i), .int (iI w), .ref ou] D (tyl yI yC yD yL) [(x, oRD tx nw tr kn me sl), (nw, oDrv nc S (lN (kL (S) 0 40))), (nc, aI yI 48 g), (ou, aL yL ov)] sz) (va_Qi (fun (r : Int32) (_ : Unit) => r = iI (whyAn S i w) ∧ True) (fun (_ : Unit) (t : State) => va_P D vwCl [(x, oRD tx nw tr kn me sl), (nw, oDrv nc S (lN (kL (S) 0 40))), (nc, aI yI 48 g), (ou, aL yL ov)] t.heap ∧ va_D (va_A [(x, oRD tx nw tr kn me sl), (nw, oDrv nc S (lN (kL (S) 0 40))), (nc, aI yI 48 g), (ou, aL yL ov)] sz) [(x, oRD tx nw tr kn me sl), (nw, oDrv nc S (lN (kL (S) 0 40))), (nc, aI yI 48 g), (ou, aL yL ov)]) (va_A [(x, oRD tx nw tr kn me sl), (nw, oDrv nc S (lN (kL (S) 0 40))), (nc, aI yI 48 g), (ou, aL yL ov)] sz)) 8 150 (va_A [(x, oRD tx nw tr kn me sl), (nw, oDrv nc S (lN (kL (S) 0 40))), (nc, aI yI 48 g), (ou, aL yL ov)] sz) := by
  refine iv_ofWH (cc := cL_answer) (maxL := 5) (ret := (some .int)) (hh := [(0, 10, 13, 28), (0, 10, 17, 13)]) (by decide) rfl ?_
  intro p e s m args below meth c s₁ B hml hv
  obtain ⟨rfl, hsz, hP, hK, hD0, hB⟩ := hv
  have hx := B.exec
  have hb := B.bytes
  have hr := B.returns
  have hts := atoms_spec (ws := wsL_answer) B.pre
  have hown : s.vm.findClass RL = some m.cls := findClass_of_methodNamed B.named
  have hlocks := B.notSynchronized
  have htb := vx_table (x := yL_append) B (hts (.codeWith yL_answer cL_answer 5 (some .int) [(0, 10, 13, 28), (0, 10, 17, 13)]) (by decide +kernel))
  have hKz : va_K D vwCl (tyz yI yC yD) s := hK.sub [0, 1, 2] rfl
  subst hsz
  have hD := hD0.self (sz := s.heap.size)
  generalize hAe : va_A [(x, oRD tx nw tr kn me sl), (nw, oDrv nc S (lN (kL (S) 0 40))), (nc, aI yI 48 g), (ou, aL yL ov)] s.heap.size = A at hD hB ⊢
  have hA : ∀ q : Nat, s.heap.size ≤ q → A q := fun q h => by rw [← hAe]; exact Or.inr h
  have hS : va_S A s.heap s.heap [] := va_S.rf
  have hP : va_P D vwCl [(x, oRD tx nw tr kn me sl), (nw, oDrv nc S (lN (kL (S) 0 40))), (nc, aI yI 48 g), (ou, aL yL ov)] s.heap := hP
  have hl := lv_entry ([.ref x, .int (iI i), .int (iI w), .ref ou]) (n := 5) (Nat.le_of_ble_eq_true rfl)
  rw [lg_entry_eq]
  generalize (lg_sl ([.ref x, .int (iI i), .int (iI w), .ref ou]) ++ List.replicate (5 - (lg_sl ([.ref x, .int (iI i), .int (iI w), .ref ou])).length) Slot.unset).toArray = ls at hl ⊢
  have hl : lv_has ls 5 [(0, .ref x), (1, .int (iI i)), (2, .int (iI w)), (3, .ref ou)] := hl
  refine lv_aload_n hx hb dL_answer_0 rfl (lv_at hl 3 rfl) ?_
  refine lv_iconst (v := iI 0) hx hb dL_answer_1 (by decide +kernel) ?_
  refine lv_aload_n hx hb dL_answer_2 rfl (lv_at hl 0 rfl) ?_
  refine lv_iload_n hx hb dL_answer_3 rfl (lv_at hl 1 rfl) ?_
  refine lv_iload_n hx hb dL_answer_4 rfl (lv_at hl 2 rfl) ?_
  refine iv_lxV (wc := [(x, oRD tx nw tr kn me sl), (nw, oDrv nc S (lN (kL (S) 0 40))), (nc, aI yI 48 g)]) (wr := [(ou, aL yL ov)]) (wp := fun (_ : Unit) => [(x, oRD tx nw tr kn me sl), (nw, oDrv nc S (lN (kL (S) 0 40))), (nc, aI yI 48 g)]) (As := [.int (iI i), .int (iI w)]) (rest := [.int (iI 0), .ref ou]) (C := RX4) (n := 2) ⟨hx, hb, hml, hown, hts⟩ (c_X4_answer l hla D yI yC yD x tx nw tr kn me sl nc S g i w hI hR hi9 hw9 _) (cwV 2 hts gL_answer_X4_answer rfl rfl rfl (by decide +kernel) ⟨Nat.le_of_ble_eq_true rfl, Nat.le_of_ble_eq_true rfl⟩) hKz hP hD hS hA hB rfl rfl (fun u t h => by exact ⟨h, va_D_fst hD.l.self rfl⟩) (fun _ => rfl) rfl hl.1 rfl (Nat.le_of_ble_eq_true rfl) dL_answer_5 ⟨Nat.le_of_ble_eq_true rfl, Nat.le_of_ble_eq_true rfl⟩ (fun E9 ce9 ox9 ux H locs hxe hP hD hS hc8 hv8 hcl8 => ?_) (fun r9 u H locs hw hP hD hS => ?_)
  · rcases hxe with ⟨rfl, hxc⟩ | ⟨rfl, hxc⟩
    · refine vx_catch (name := eI) hown (tableOf []) ⟨0, 10, 13, 28⟩ (tableOf [(0, 10, 17, 13)]) (htb.trans rfl) (fun z hz => absurd hz List.not_mem_nil) rfl (by decide) (hts (.classLink RL 28 eI) (by decide +kernel)) (va_Nw.use rfl hB.1.2.2) hc8 hv8 hcl8 ?_
      have hP : va_P D vwCl [(x, oRD tx nw tr kn me sl), (nw, oDrv nc S (lN (kL (S) 0 40))), (nc, aI yI 48 g), (ou, aL yL ov)] H := hP
      have hD : va_D A [(x, oRD tx nw tr kn me sl), (nw, oDrv nc S (lN (kL (S) 0 40))), (nc, aI yI 48 g), (ou, aL yL ov)] := hD
      refine lv_astore (lv' := [(4, .ref ox9), (0, .ref x), (1, .int (iI i)), (2, .int (iI w)), (3, .ref ou)]) hx hb dL_answer_13 hl (by decide) rfl (fun ls hl => ?_)
      refine lv_iconst (v := iI 1) hx hb dL_answer_15 (by decide +kernel) ?_
      have hP9 : va_P D vwCl [(x, oRD tx nw tr kn me sl), (nw, oDrv nc S (lN (kL (S) 0 40))), (nc, aI yI 48 g), (ou, aL yL ov)] _ := hP
      have hD9 : va_D A [(x, oRD tx nw tr kn me sl), (nw, oDrv nc S (lN (kL (S) 0 40))), (nc, aI yI 48 g), (ou, aL yL ov)] := hD
      exact W.iret hx hb hr (fun t ht hW => ⟨⟨iI 1, (), rfl, ⟨congrArg iI (show (1 : Int) = whyAn S i w by first | omega | (rw [if_pos (by omega)]; done) | (rw [if_neg (by omega)]; done)), trivial⟩, ⟨by show va_P D vwCl _ t.heap; rw [ht]; exact hP9, hD9⟩⟩, hS.F ht⟩) hS.2.2 dL_answer_16
    · refine vx_catch (name := eA) hown (tableOf [(0, 10, 13, 28)]) ⟨0, 10, 17, 13⟩ (tableOf []) (htb.trans rfl) (fun z hz => by cases List.mem_singleton.mp hz; exact Or.inr ⟨by decide, eI, hts (.classLink RL 28 eI) (by decide +kernel), hB.2.1.2.1⟩) rfl (by decide) (hts (.classLink RL 13 eA) (by decide +kernel)) (va_Nw.use rfl hB.1.1) hc8 hv8 hcl8 ?_
      have hP : va_P D vwCl [(x, oRD tx nw tr kn me sl), (nw, oDrv nc S (lN (kL (S) 0 40))), (nc, aI yI 48 g), (ou, aL yL ov)] H := hP
      have hD : va_D A [(x, oRD tx nw tr kn me sl), (nw, oDrv nc S (lN (kL (S) 0 40))), (nc, aI yI 48 g), (ou, aL yL ov)] := hD
      refine lv_astore (lv' := [(4, .ref ox9), (0, .ref x), (1, .int (iI i)), (2, .int (iI w)), (3, .ref ou)]) hx hb dL_answer_17 hl (by decide) rfl (fun ls hl => ?_)
      refine lv_iconst (v := iI 2) hx hb dL_answer_19 (by decide +kernel) ?_
      have hP9 : va_P D vwCl [(x, oRD tx nw tr kn me sl), (nw, oDrv nc S (lN (kL (S) 0 40))), (nc, aI yI 48 g), (ou, aL yL ov)] _ := hP
      have hD9 : va_D A [(x, oRD tx nw tr kn me sl), (nw, oDrv nc S (lN (kL (S) 0 40))), (nc, aI yI 48 g), (ou, aL yL ov)] := hD
      exact W.iret hx hb hr (fun t ht hW => ⟨⟨iI 2, (), rfl, ⟨congrArg iI (show (2 : Int) = whyAn S i w by first | omega | (rw [if_pos (by omega)]; done) | (rw [if_neg (by omega)]; done)), trivial⟩, ⟨by show va_P D vwCl _ t.heap; rw [ht]; exact hP9, hD9⟩⟩, hS.F ht⟩) hS.2.2 dL_answer_20
  · obtain ⟨hr9, hwa9⟩ := hw
    exfalso
    first | omega | contradiction
set_option maxHeartbeats 4000000 in
set_option maxRecDepth 100000 in
theorem c_L_least_0 (l : Launch) (hla : l.stackTraces = false) (D : va_G) (yI yC yD yL : ClassId) (x : Nat) (tx : Nat) (nw : Nat) (tr : Nat) (kn : Nat) (me : Nat) (sl : Nat) (nc : Nat) (S : Int → Int) (g : Int → Int) (ex : Nat) (pl : Int) (E : Int → Int) (a : Int) (b : Int) (ou : Nat) (ov : Int64) (hI : Inv S) (hR : Rc S g) (hab9 : inR a ∧ inR b) (hc9 : whyR S a b = 0) (sz : Nat) : Met l yL_least wsL_least ({ frames := 9, cells := 8, slots := 150, locals := 147 }) (vxP [.ref x, .int (iI a), .int (iI b), .ref ou] D (tyl yI yC yD yL) [(x, oRD tx nw tr kn me sl), (nw, oDrv nc S (lN (kL (S) 0 40))), (nc, aI yI 48 g), (kn, oKn pl ex), (ex, aI yI 1681 E), (ou, aL yL ov)] sz) (va_Qi (fun (r : Int32) (u : Int × (Int → Int)) => match u with | (p9, E9) => r = iI 0 ∧ (whyR S a b = 0)) (fun (u : Int × (Int → Int)) (t : State) => match u with | (p9, E9) => va_P D vwCl [(x, oRD tx nw tr kn me sl), (nw, oDrv nc S (lN (kL (S) 0 40))), (nc, aI yI 48 g), (kn, oKn p9 ex), (ex, aI yI 1681 E9), (ou, aL yL ((iI (leastI (FB S (-1)) a b)).toInt64))] t.heap ∧ va_D (va_A [(x, oRD tx nw tr kn me sl), (nw, oDrv nc S (lN (kL (S) 0 40))), (nc, aI yI 48 g), (kn, oKn pl ex), (ex, aI yI 1681 E), (ou, aL yL ov)] sz) [(x, oRD tx nw tr kn me sl), (nw, oDrv nc S (lN (kL (S) 0 40))), (nc, aI yI 48 g), (kn, oKn p9 ex), (ex, aI yI 1681 E9), (ou, aL yL ((iI (leastI (FB S (-1)) a b)).toInt64))]) (va_A [(x, oRD tx nw tr kn me sl), (nw, oDrv nc S (lN (kL (S) 0 40))), (nc, aI yI 48 g), (kn, oKn pl ex), (ex, aI yI 1681 E), (ou, aL yL ov)] sz)) 8 150 (va_A [(x, oRD tx nw tr kn me sl), (nw, oDrv nc S (lN (kL (S) 0 40))), (nc, aI yI 48 g), (kn, oKn pl ex), (ex, aI yI 1681 E), (ou, aL yL ov)] sz) := by
  refine iv_ofWH (cc := cL_least) (maxL := 5) (ret := (some .int)) (hh := [(0, 10, 13, 28), (0, 10, 17, 13)]) (by decide) rfl ?_
  intro p e s m args below meth c s₁ B hml hv
  obtain ⟨rfl, hsz, hP, hK, hD0, hB⟩ := hv
  have hx := B.exec
  have hb := B.bytes
  have hr := B.returns
  have hts := atoms_spec (ws := wsL_least) B.pre
  have hown : s.vm.findClass RL = some m.cls := findClass_of_methodNamed B.named
  have hlocks := B.notSynchronized
  have htb := vx_table (x := yL_append) B (hts (.codeWith yL_least cL_least 5 (some .int) [(0, 10, 13, 28), (0, 10, 17, 13)]) (by decide +kernel))
  have hKz : va_K D vwCl (tyz yI yC yD) s := hK.sub [0, 1, 2] rfl
  subst hsz
  have hD := hD0.self (sz := s.heap.size)
  generalize hAe : va_A [(x, oRD tx nw tr kn me sl), (nw, oDrv nc S (lN (kL (S) 0 40))), (nc, aI yI 48 g), (kn, oKn pl ex), (ex, aI yI 1681 E), (ou, aL yL ov)] s.heap.size = A at hD hB ⊢
  have hA : ∀ q : Nat, s.heap.size ≤ q → A q := fun q h => by rw [← hAe]; exact Or.inr h
  have hS : va_S A s.heap s.heap [] := va_S.rf
  have hP : va_P D vwCl [(x, oRD tx nw tr kn me sl), (nw, oDrv nc S (lN (kL (S) 0 40))), (nc, aI yI 48 g), (kn, oKn pl ex), (ex, aI yI 1681 E), (ou, aL yL ov)] s.heap := hP
  have hl := lv_entry ([.ref x, .int (iI a), .int (iI b), .ref ou]) (n := 5) (Nat.le_of_ble_eq_true rfl)
  rw [lg_entry_eq]
  generalize (lg_sl ([.ref x, .int (iI a), .int (iI b), .ref ou]) ++ List.replicate (5 - (lg_sl ([.ref x, .int (iI a), .int (iI b), .ref ou])).length) Slot.unset).toArray = ls at hl ⊢
  have hl : lv_has ls 5 [(0, .ref x), (1, .int (iI a)), (2, .int (iI b)), (3, .ref ou)] := hl
  refine lv_aload_n hx hb dL_least_0 rfl (lv_at hl 3 rfl) ?_
  refine lv_iconst (v := iI 0) hx hb dL_least_1 (by decide +kernel) ?_
  refine lv_aload_n hx hb dL_least_2 rfl (lv_at hl 0 rfl) ?_
  refine lv_iload_n hx hb dL_least_3 rfl (lv_at hl 1 rfl) ?_
  refine lv_iload_n hx hb dL_least_4 rfl (lv_at hl 2 rfl) ?_
  refine iv_lxV (wc := [(x, oRD tx nw tr kn me sl), (nw, oDrv nc S (lN (kL (S) 0 40))), (nc, aI yI 48 g), (kn, oKn pl ex), (ex, aI yI 1681 E)]) (wr := [(ou, aL yL ov)]) (wp := fun (u : Int × (Int → Int)) => match u with | (p9, E9) => [(x, oRD tx nw tr kn me sl), (nw, oDrv nc S (lN (kL (S) 0 40))), (nc, aI yI 48 g), (kn, oKn p9 ex), (ex, aI yI 1681 E9)]) (As := [.int (iI a), .int (iI b)]) (rest := [.int (iI 0), .ref ou]) (C := RX4) (n := 2) ⟨hx, hb, hml, hown, hts⟩ (c_X4_least l hla D yI yC yD x tx nw tr kn me sl nc S g ex pl E a b hI hR hab9 _) (cwV 2 hts gL_least_X4_least rfl rfl rfl (by decide +kernel) ⟨Nat.le_of_ble_eq_true rfl, Nat.le_of_ble_eq_true rfl⟩) hKz hP hD hS hA hB rfl rfl (fun u t h => by obtain ⟨p9, E9⟩ := u; exact ⟨h, va_D_fst hD.l.self rfl⟩) (fun _ => rfl) rfl hl.1 rfl (Nat.le_of_ble_eq_true rfl) dL_least_5 ⟨Nat.le_of_ble_eq_true rfl, Nat.le_of_ble_eq_true rfl⟩ (fun E9 ce9 ox9 ux H locs hxe hP hD hS hc8 hv8 hcl8 => ?_) (fun r9 u H locs hw hP hD hS => ?_)
  · exfalso
    rcases hxe with ⟨_, h⟩ | ⟨_, h⟩ <;> first | omega | contradiction
  · obtain ⟨p9, E9⟩ := u
    obtain ⟨hr9, hwr9⟩ := hw
    subst hr9
    have hP : va_P D vwCl [(x, oRD tx nw tr kn me sl), (nw, oDrv nc S (lN (kL (S) 0 40))), (nc, aI yI 48 g), (kn, oKn p9 ex), (ex, aI yI 1681 E9), (ou, aL yL ov)] H := hP
    have hD : va_D A [(x, oRD tx nw tr kn me sl), (nw, oDrv nc S (lN (kL (S) 0 40))), (nc, aI yI 48 g), (kn, oKn p9 ex), (ex, aI yI 1681 E9), (ou, aL yL ov)] := hD
    refine lv_i2l (v := (iI (leastI (FB S (-1)) a b)).toInt64) hx hb dL_least_8 rfl ?_
    refine iv_lst hx hb hK hP hD hS 5 3 rfl rfl dL_least_9 (fun H locs hP hD hS => ?_)
    have hP : va_P D vwCl [(x, oRD tx nw tr kn me sl), (nw, oDrv nc S (lN (kL (S) 0 40))), (nc, aI yI 48 g), (kn, oKn p9 ex), (ex, aI yI 1681 E9), (ou, aL yL ((iI (leastI (FB S (-1)) a b)).toInt64))] H := hP
    have hD : va_D A [(x, oRD tx nw tr kn me sl), (nw, oDrv nc S (lN (kL (S) 0 40))), (nc, aI yI 48 g), (kn, oKn p9 ex), (ex, aI yI 1681 E9), (ou, aL yL ((iI (leastI (FB S (-1)) a b)).toInt64))] := hD
    refine lv_goto (tgt := 21) hx hb dL_least_10 (by decide) ?_
    refine lv_iconst (v := iI 0) hx hb dL_least_21 (by decide +kernel) ?_
    have hP9 : va_P D vwCl [(x, oRD tx nw tr kn me sl), (nw, oDrv nc S (lN (kL (S) 0 40))), (nc, aI yI 48 g), (kn, oKn p9 ex), (ex, aI yI 1681 E9), (ou, aL yL ((iI (leastI (FB S (-1)) a b)).toInt64))] _ := hP
    have hD9 : va_D A [(x, oRD tx nw tr kn me sl), (nw, oDrv nc S (lN (kL (S) 0 40))), (nc, aI yI 48 g), (kn, oKn p9 ex), (ex, aI yI 1681 E9), (ou, aL yL ((iI (leastI (FB S (-1)) a b)).toInt64))] := hD
    exact W.iret hx hb hr (fun t ht hW => ⟨⟨iI 0, (p9, E9), rfl, ⟨rfl, hwr9⟩, ⟨by show va_P D vwCl _ t.heap; rw [ht]; exact hP9, hD9⟩⟩, hS.F ht⟩) hS.2.2 dL_least_22
set_option maxHeartbeats 4000000 in
set_option maxRecDepth 100000 in
theorem c_L_least_1 (l : Launch) (hla : l.stackTraces = false) (D : va_G) (yI yC yD yL : ClassId) (x : Nat) (tx : Nat) (nw : Nat) (tr : Nat) (kn : Nat) (me : Nat) (sl : Nat) (nc : Nat) (S : Int → Int) (g : Int → Int) (ex : Nat) (pl : Int) (E : Int → Int) (a : Int) (b : Int) (ou : Nat) (ov : Int64) (hI : Inv S) (hR : Rc S g) (hab9 : inR a ∧ inR b) (hc9 : ¬ (whyR S a b = 0)) (sz : Nat) : Met l yL_least wsL_least ({ frames := 9, cells := 8, slots := 150, locals := 147 }) (vxP [.ref x, .int (iI a), .int (iI b), .ref ou] D (tyl yI yC yD yL) [(x, oRD tx nw tr kn me sl), (nw, oDrv nc S (lN (kL (S) 0 40))), (nc, aI yI 48 g), (kn, oKn pl ex), (ex, aI yI 1681 E), (ou, aL yL ov)] sz) (va_Qi (fun (r : Int32) (_ : Unit) => r = iI (whyR S a b) ∧ True) (fun (_ : Unit) (t : State) => va_P D vwCl [(x, oRD tx nw tr kn me sl), (nw, oDrv nc S (lN (kL (S) 0 40))), (nc, aI yI 48 g), (kn, oKn pl ex), (ex, aI yI 1681 E), (ou, aL yL ov)] t.heap ∧ va_D (va_A [(x, oRD tx nw tr kn me sl), (nw, oDrv nc S (lN (kL (S) 0 40))), (nc, aI yI 48 g), (kn, oKn pl ex), (ex, aI yI 1681 E), (ou, aL yL ov)] sz) [(x, oRD tx nw tr kn me sl), (nw, oDrv nc S (lN (kL (S) 0 40))), (nc, aI yI 48 g), (kn, oKn pl ex), (ex, aI yI 1681 E), (ou, aL yL ov)]) (va_A [(x, oRD tx nw tr kn me sl), (nw, oDrv nc S (lN (kL (S) 0 40))), (nc, aI yI 48 g), (kn, oKn pl ex), (ex, aI yI 1681 E), (ou, aL yL ov)] sz)) 8 150 (va_A [(x, oRD tx nw tr kn me sl), (nw, oDrv nc S (lN (kL (S) 0 40))), (nc, aI yI 48 g), (kn, oKn pl ex), (ex, aI yI 1681 E), (ou, aL yL ov)] sz) := by
  refine iv_ofWH (cc := cL_least) (maxL := 5) (ret := (some .int)) (hh := [(0, 10, 13, 28), (0, 10, 17, 13)]) (by decide) rfl ?_
  intro p e s m args below meth c s₁ B hml hv
  obtain ⟨rfl, hsz, hP, hK, hD0, hB⟩ := hv
  have hx := B.exec
  have hb := B.bytes
  have hr := B.returns
  have hts := atoms_spec (ws := wsL_least) B.pre
  have hown : s.vm.findClass RL = some m.cls := findClass_of_methodNamed B.named
  have hlocks := B.notSynchronized
  have htb := vx_table (x := yL_append) B (hts (.codeWith yL_least cL_least 5 (some .int) [(0, 10, 13, 28), (0, 10, 17, 13)]) (by decide +kernel))
  have hKz : va_K D vwCl (tyz yI yC yD) s := hK.sub [0, 1, 2] rfl
  subst hsz
  have hD := hD0.self (sz := s.heap.size)
  generalize hAe : va_A [(x, oRD tx nw tr kn me sl), (nw, oDrv nc S (lN (kL (S) 0 40))), (nc, aI yI 48 g), (kn, oKn pl ex), (ex, aI yI 1681 E), (ou, aL yL ov)] s.heap.size = A at hD hB ⊢
  have hA : ∀ q : Nat, s.heap.size ≤ q → A q := fun q h => by rw [← hAe]; exact Or.inr h
  have hS : va_S A s.heap s.heap [] := va_S.rf
  have hP : va_P D vwCl [(x, oRD tx nw tr kn me sl), (nw, oDrv nc S (lN (kL (S) 0 40))), (nc, aI yI 48 g), (kn, oKn pl ex), (ex, aI yI 1681 E), (ou, aL yL ov)] s.heap := hP
  have hl := lv_entry ([.ref x, .int (iI a), .int (iI b), .ref ou]) (n := 5) (Nat.le_of_ble_eq_true rfl)
  rw [lg_entry_eq]
  generalize (lg_sl ([.ref x, .int (iI a), .int (iI b), .ref ou]) ++ List.replicate (5 - (lg_sl ([.ref x, .int (iI a), .int (iI b), .ref ou])).length) Slot.unset).toArray = ls at hl ⊢
  have hl : lv_has ls 5 [(0, .ref x), (1, .int (iI a)), (2, .int (iI b)), (3, .ref ou)] := hl
  refine lv_aload_n hx hb dL_least_0 rfl (lv_at hl 3 rfl) ?_
  refine lv_iconst (v := iI 0) hx hb dL_least_1 (by decide +kernel) ?_
  refine lv_aload_n hx hb dL_least_2 rfl (lv_at hl 0 rfl) ?_
  refine lv_iload_n hx hb dL_least_3 rfl (lv_at hl 1 rfl) ?_
  refine lv_iload_n hx hb dL_least_4 rfl (lv_at hl 2 rfl) ?_
  refine iv_lxV (wc := [(x, oRD tx nw tr kn me sl), (nw, oDrv nc S (lN (kL (S) 0 40))), (nc, aI yI 48 g), (kn, oKn pl ex), (ex, aI yI 1681 E)]) (wr := [(ou, aL yL ov)]) (wp := fun (u : Int × (Int → Int)) => match u with | (p9, E9) => [(x, oRD tx nw tr kn me sl), (nw, oDrv nc S (lN (kL (S) 0 40))), (nc, aI yI 48 g), (kn, oKn p9 ex), (ex, aI yI 1681 E9)]) (As := [.int (iI a), .int (iI b)]) (rest := [.int (iI 0), .ref ou]) (C := RX4) (n := 2) ⟨hx, hb, hml, hown, hts⟩ (c_X4_least l hla D yI yC yD x tx nw tr kn me sl nc S g ex pl E a b hI hR hab9 _) (cwV 2 hts gL_least_X4_least rfl rfl rfl (by decide +kernel) ⟨Nat.le_of_ble_eq_true rfl, Nat.le_of_ble_eq_true rfl⟩) hKz hP hD hS hA hB rfl rfl (fun u t h => by obtain ⟨p9, E9⟩ := u; exact ⟨h, va_D_fst hD.l.self rfl⟩) (fun _ => rfl) rfl hl.1 rfl (Nat.le_of_ble_eq_true rfl) dL_least_5 ⟨Nat.le_of_ble_eq_true rfl, Nat.le_of_ble_eq_true rfl⟩ (fun E9 ce9 ox9 ux H locs hxe hP hD hS hc8 hv8 hcl8 => ?_) (fun r9 u H locs hw hP hD hS => ?_)
  · rcases hxe with ⟨rfl, hxc⟩ | ⟨rfl, hxc⟩
    · refine vx_catch (name := eI) hown (tableOf []) ⟨0, 10, 13, 28⟩ (tableOf [(0, 10, 17, 13)]) (htb.trans rfl) (fun z hz => absurd hz List.not_mem_nil) rfl (by decide) (hts (.classLink RL 28 eI) (by decide +kernel)) (va_Nw.use rfl hB.1.2.2) hc8 hv8 hcl8 ?_
      have hP : va_P D vwCl [(x, oRD tx nw tr kn me sl), (nw, oDrv nc S (lN (kL (S) 0 40))), (nc, aI yI 48 g), (kn, oKn pl ex), (ex, aI yI 1681 E), (ou, aL yL ov)] H := hP
      have hD : va_D A [(x, oRD tx nw tr kn me sl), (nw, oDrv nc S (lN (kL (S) 0 40))), (nc, aI yI 48 g), (kn, oKn pl ex), (ex, aI yI 1681 E), (ou, aL yL ov)] := hD
      refine lv_astore (lv' := [(4, .ref ox9), (0, .ref x), (1, .int (iI a)), (2, .int (iI b)), (3, .ref ou)]) hx hb dL_least_13 hl (by decide) rfl (fun ls hl => ?_)
      refine lv_iconst (v := iI 1) hx hb dL_least_15 (by decide +kernel) ?_
      have hP9 : va_P D vwCl [(x, oRD tx nw tr kn me sl), (nw, oDrv nc S (lN (kL (S) 0 40))), (nc, aI yI 48 g), (kn, oKn pl ex), (ex, aI yI 1681 E), (ou, aL yL ov)] _ := hP
      have hD9 : va_D A [(x, oRD tx nw tr kn me sl), (nw, oDrv nc S (lN (kL (S) 0 40))), (nc, aI yI 48 g), (kn, oKn pl ex), (ex, aI yI 1681 E), (ou, aL yL ov)] := hD
      exact W.iret hx hb hr (fun t ht hW => ⟨⟨iI 1, (), rfl, ⟨congrArg iI (show (1 : Int) = whyR S a b by first | omega | (rw [if_pos (by omega)]; done) | (rw [if_neg (by omega)]; done)), trivial⟩, ⟨by show va_P D vwCl _ t.heap; rw [ht]; exact hP9, hD9⟩⟩, hS.F ht⟩) hS.2.2 dL_least_16
    · refine vx_catch (name := eA) hown (tableOf [(0, 10, 13, 28)]) ⟨0, 10, 17, 13⟩ (tableOf []) (htb.trans rfl) (fun z hz => by cases List.mem_singleton.mp hz; exact Or.inr ⟨by decide, eI, hts (.classLink RL 28 eI) (by decide +kernel), hB.2.1.2.1⟩) rfl (by decide) (hts (.classLink RL 13 eA) (by decide +kernel)) (va_Nw.use rfl hB.1.1) hc8 hv8 hcl8 ?_
      have hP : va_P D vwCl [(x, oRD tx nw tr kn me sl), (nw, oDrv nc S (lN (kL (S) 0 40))), (nc, aI yI 48 g), (kn, oKn pl ex), (ex, aI yI 1681 E), (ou, aL yL ov)] H := hP
      have hD : va_D A [(x, oRD tx nw tr kn me sl), (nw, oDrv nc S (lN (kL (S) 0 40))), (nc, aI yI 48 g), (kn, oKn pl ex), (ex, aI yI 1681 E), (ou, aL yL ov)] := hD
      refine lv_astore (lv' := [(4, .ref ox9), (0, .ref x), (1, .int (iI a)), (2, .int (iI b)), (3, .ref ou)]) hx hb dL_least_17 hl (by decide) rfl (fun ls hl => ?_)
      refine lv_iconst (v := iI 2) hx hb dL_least_19 (by decide +kernel) ?_
      have hP9 : va_P D vwCl [(x, oRD tx nw tr kn me sl), (nw, oDrv nc S (lN (kL (S) 0 40))), (nc, aI yI 48 g), (kn, oKn pl ex), (ex, aI yI 1681 E), (ou, aL yL ov)] _ := hP
      have hD9 : va_D A [(x, oRD tx nw tr kn me sl), (nw, oDrv nc S (lN (kL (S) 0 40))), (nc, aI yI 48 g), (kn, oKn pl ex), (ex, aI yI 1681 E), (ou, aL yL ov)] := hD
      exact W.iret hx hb hr (fun t ht hW => ⟨⟨iI 2, (), rfl, ⟨congrArg iI (show (2 : Int) = whyR S a b by first | omega | (rw [if_pos (by omega)]; done) | (rw [if_neg (by omega)]; done)), trivial⟩, ⟨by show va_P D vwCl _ t.heap; rw [ht]; exact hP9, hD9⟩⟩, hS.F ht⟩) hS.2.2 dL_least_20
  · obtain ⟨p9, E9⟩ := u
    obtain ⟨hr9, hwr9⟩ := hw
    exfalso
    first | omega | contradiction
set_option maxHeartbeats 4000000 in
set_option maxRecDepth 100000 in
theorem c_L_most_0 (l : Launch) (hla : l.stackTraces = false) (D : va_G) (yI yC yD yL : ClassId) (x : Nat) (tx : Nat) (nw : Nat) (tr : Nat) (kn : Nat) (me : Nat) (sl : Nat) (nc : Nat) (S : Int → Int) (g : Int → Int) (ex : Nat) (pl : Int) (E : Int → Int) (a : Int) (b : Int) (ou : Nat) (ov : Int64) (hI : Inv S) (hR : Rc S g) (hab9 : inR a ∧ inR b) (hc9 : whyR S a b = 0) (sz : Nat) : Met l yL_most wsL_most ({ frames := 9, cells := 8, slots := 150, locals := 147 }) (vxP [.ref x, .int (iI a), .int (iI b), .ref ou] D (tyl yI yC yD yL) [(x, oRD tx nw tr kn me sl), (nw, oDrv nc S (lN (kL (S) 0 40))), (nc, aI yI 48 g), (kn, oKn pl ex), (ex, aI yI 1681 E), (ou, aL yL ov)] sz) (va_Qi (fun (r : Int32) (u : Int × (Int → Int)) => match u with | (p9, E9) => r = iI 0 ∧ (whyR S a b = 0)) (fun (u : Int × (Int → Int)) (t : State) => match u with | (p9, E9) => va_P D vwCl [(x, oRD tx nw tr kn me sl), (nw, oDrv nc S (lN (kL (S) 0 40))), (nc, aI yI 48 g), (kn, oKn p9 ex), (ex, aI yI 1681 E9), (ou, aL yL ((iI (mostI (FB S (-1)) a b)).toInt64))] t.heap ∧ va_D (va_A [(x, oRD tx nw tr kn me sl), (nw, oDrv nc S (lN (kL (S) 0 40))), (nc, aI yI 48 g), (kn, oKn pl ex), (ex, aI yI 1681 E), (ou, aL yL ov)] sz) [(x, oRD tx nw tr kn me sl), (nw, oDrv nc S (lN (kL (S) 0 40))), (nc, aI yI 48 g), (kn, oKn p9 ex), (ex, aI yI 1681 E9), (ou, aL yL ((iI (mostI (FB S (-1)) a b)).toInt64))]) (va_A [(x, oRD tx nw tr kn me sl), (nw, oDrv nc S (lN (kL (S) 0 40))), (nc, aI yI 48 g), (kn, oKn pl ex), (ex, aI yI 1681 E), (ou, aL yL ov)] sz)) 8 150 (va_A [(x, oRD tx nw tr kn me sl), (nw, oDrv nc S (lN (kL (S) 0 40))), (nc, aI yI 48 g), (kn, oKn pl ex), (ex, aI yI 1681 E), (ou, aL yL ov)] sz) := by
  refine iv_ofWH (cc := cL_most) (maxL := 5) (ret := (some .int)) (hh := [(0, 10, 13, 28), (0, 10, 17, 13)]) (by decide) rfl ?_
  intro p e s m args below meth c s₁ B hml hv
  obtain ⟨rfl, hsz, hP, hK, hD0, hB⟩ := hv
  have hx := B.exec
  have hb := B.bytes
  have hr := B.returns
  have hts := atoms_spec (ws := wsL_most) B.pre
  have hown : s.vm.findClass RL = some m.cls := findClass_of_methodNamed B.named
  have hlocks := B.notSynchronized
  have htb := vx_table (x := yL_append) B (hts (.codeWith yL_most cL_most 5 (some .int) [(0, 10, 13, 28), (0, 10, 17, 13)]) (by decide +kernel))
  have hKz : va_K D vwCl (tyz yI yC yD) s := hK.sub [0, 1, 2] rfl
  subst hsz
  have hD := hD0.self (sz := s.heap.size)
  generalize hAe : va_A [(x, oRD tx nw tr kn me sl), (nw, oDrv nc S (lN (kL (S) 0 40))), (nc, aI yI 48 g), (kn, oKn pl ex), (ex, aI yI 1681 E), (ou, aL yL ov)] s.heap.size = A at hD hB ⊢
  have hA : ∀ q : Nat, s.heap.size ≤ q → A q := fun q h => by rw [← hAe]; exact Or.inr h
  have hS : va_S A s.heap s.heap [] := va_S.rf
  have hP : va_P D vwCl [(x, oRD tx nw tr kn me sl), (nw, oDrv nc S (lN (kL (S) 0 40))), (nc, aI yI 48 g), (kn, oKn pl ex), (ex, aI yI 1681 E), (ou, aL yL ov)] s.heap := hP
  have hl := lv_entry ([.ref x, .int (iI a), .int (iI b), .ref ou]) (n := 5) (Nat.le_of_ble_eq_true rfl)
  rw [lg_entry_eq]
  generalize (lg_sl ([.ref x, .int (iI a), .int (iI b), .ref ou]) ++ List.replicate (5 - (lg_sl ([.ref x, .int (iI a), .int (iI b), .ref ou])).length) Slot.unset).toArray = ls at hl ⊢
  have hl : lv_has ls 5 [(0, .ref x), (1, .int (iI a)), (2, .int (iI b)), (3, .ref ou)] := hl
  refine lv_aload_n hx hb dL_most_0 rfl (lv_at hl 3 rfl) ?_
  refine lv_iconst (v := iI 0) hx hb dL_most_1 (by decide +kernel) ?_
  refine lv_aload_n hx hb dL_most_2 rfl (lv_at hl 0 rfl) ?_
  refine lv_iload_n hx hb dL_most_3 rfl (lv_at hl 1 rfl) ?_
  refine lv_iload_n hx hb dL_most_4 rfl (lv_at hl 2 rfl) ?_
  refine iv_lxV (wc := [(x, oRD tx nw tr kn me sl), (nw, oDrv nc S (lN (kL (S) 0 40))), (nc, aI yI 48 g), (kn, oKn pl ex), (ex, aI yI 1681 E)]) (wr := [(ou, aL yL ov)]) (wp := fun (u : Int × (Int → Int)) => match u with | (p9, E9) => [(x, oRD tx nw tr kn me sl), (nw, oDrv nc S (lN (kL (S) 0 40))), (nc, aI yI 48 g), (kn, oKn p9 ex), (ex, aI yI 1681 E9)]) (As := [.int (iI a), .int (iI b)]) (rest := [.int (iI 0), .ref ou]) (C := RX4) (n := 2) ⟨hx, hb, hml, hown, hts⟩ (c_X4_most l hla D yI yC yD x tx nw tr kn me sl nc S g ex pl E a b hI hR hab9 _) (cwV 2 hts gL_most_X4_most rfl rfl rfl (by decide +kernel) ⟨Nat.le_of_ble_eq_true rfl, Nat.le_of_ble_eq_true rfl⟩) hKz hP hD hS hA hB rfl rfl (fun u t h => by obtain ⟨p9, E9⟩ := u; exact ⟨h, va_D_fst hD.l.self rfl⟩) (fun _ => rfl) rfl hl.1 rfl (Nat.le_of_ble_eq_true rfl) dL_most_5 ⟨Nat.le_of_ble_eq_true rfl, Nat.le_of_ble_eq_true rfl⟩ (fun E9 ce9 ox9 ux H locs hxe hP hD hS hc8 hv8 hcl8 => ?_) (fun r9 u H locs hw hP hD hS => ?_)
  · exfalso
    rcases hxe with ⟨_, h⟩ | ⟨_, h⟩ <;> first | omega | contradiction
  · obtain ⟨p9, E9⟩ := u
    obtain ⟨hr9, hwr9⟩ := hw
    subst hr9
    have hP : va_P D vwCl [(x, oRD tx nw tr kn me sl), (nw, oDrv nc S (lN (kL (S) 0 40))), (nc, aI yI 48 g), (kn, oKn p9 ex), (ex, aI yI 1681 E9), (ou, aL yL ov)] H := hP
    have hD : va_D A [(x, oRD tx nw tr kn me sl), (nw, oDrv nc S (lN (kL (S) 0 40))), (nc, aI yI 48 g), (kn, oKn p9 ex), (ex, aI yI 1681 E9), (ou, aL yL ov)] := hD
    refine lv_i2l (v := (iI (mostI (FB S (-1)) a b)).toInt64) hx hb dL_most_8 rfl ?_
    refine iv_lst hx hb hK hP hD hS 5 3 rfl rfl dL_most_9 (fun H locs hP hD hS => ?_)
    have hP : va_P D vwCl [(x, oRD tx nw tr kn me sl), (nw, oDrv nc S (lN (kL (S) 0 40))), (nc, aI yI 48 g), (kn, oKn p9 ex), (ex, aI yI 1681 E9), (ou, aL yL ((iI (mostI (FB S (-1)) a b)).toInt64))] H := hP
    have hD : va_D A [(x, oRD tx nw tr kn me sl), (nw, oDrv nc S (lN (kL (S) 0 40))), (nc, aI yI 48 g), (kn, oKn p9 ex), (ex, aI yI 1681 E9), (ou, aL yL ((iI (mostI (FB S (-1)) a b)).toInt64))] := hD
    refine lv_goto (tgt := 21) hx hb dL_most_10 (by decide) ?_
    refine lv_iconst (v := iI 0) hx hb dL_most_21 (by decide +kernel) ?_
    have hP9 : va_P D vwCl [(x, oRD tx nw tr kn me sl), (nw, oDrv nc S (lN (kL (S) 0 40))), (nc, aI yI 48 g), (kn, oKn p9 ex), (ex, aI yI 1681 E9), (ou, aL yL ((iI (mostI (FB S (-1)) a b)).toInt64))] _ := hP
    have hD9 : va_D A [(x, oRD tx nw tr kn me sl), (nw, oDrv nc S (lN (kL (S) 0 40))), (nc, aI yI 48 g), (kn, oKn p9 ex), (ex, aI yI 1681 E9), (ou, aL yL ((iI (mostI (FB S (-1)) a b)).toInt64))] := hD
    exact W.iret hx hb hr (fun t ht hW => ⟨⟨iI 0, (p9, E9), rfl, ⟨rfl, hwr9⟩, ⟨by show va_P D vwCl _ t.heap; rw [ht]; exact hP9, hD9⟩⟩, hS.F ht⟩) hS.2.2 dL_most_22
set_option maxHeartbeats 4000000 in
set_option maxRecDepth 100000 in
theorem c_L_most_1 (l : Launch) (hla : l.stackTraces = false) (D : va_G) (yI yC yD yL : ClassId) (x : Nat) (tx : Nat) (nw : Nat) (tr : Nat) (kn : Nat) (me : Nat) (sl : Nat) (nc : Nat) (S : Int → Int) (g : Int → Int) (ex : Nat) (pl : Int) (E : Int → Int) (a : Int) (b : Int) (ou : Nat) (ov : Int64) (hI : Inv S) (hR : Rc S g) (hab9 : inR a ∧ inR b) (hc9 : ¬ (whyR S a b = 0)) (sz : Nat) : Met l yL_most wsL_most ({ frames := 9, cells := 8, slots := 150, locals := 147 }) (vxP [.ref x, .int (iI a), .int (iI b), .ref ou] D (tyl yI yC yD yL) [(x, oRD tx nw tr kn me sl), (nw, oDrv nc S (lN (kL (S) 0 40))), (nc, aI yI 48 g), (kn, oKn pl ex), (ex, aI yI 1681 E), (ou, aL yL ov)] sz) (va_Qi (fun (r : Int32) (_ : Unit) => r = iI (whyR S a b) ∧ True) (fun (_ : Unit) (t : State) => va_P D vwCl [(x, oRD tx nw tr kn me sl), (nw, oDrv nc S (lN (kL (S) 0 40))), (nc, aI yI 48 g), (kn, oKn pl ex), (ex, aI yI 1681 E), (ou, aL yL ov)] t.heap ∧ va_D (va_A [(x, oRD tx nw tr kn me sl), (nw, oDrv nc S (lN (kL (S) 0 40))), (nc, aI yI 48 g), (kn, oKn pl ex), (ex, aI yI 1681 E), (ou, aL yL ov)] sz) [(x, oRD tx nw tr kn me sl), (nw, oDrv nc S (lN (kL (S) 0 40))), (nc, aI yI 48 g), (kn, oKn pl ex), (ex, aI yI 1681 E), (ou, aL yL ov)]) (va_A [(x, oRD tx nw tr kn me sl), (nw, oDrv nc S (lN (kL (S) 0 40))), (nc, aI yI 48 g), (kn, oKn pl ex), (ex, aI yI 1681 E), (ou, aL yL ov)] sz)) 8 150 (va_A [(x, oRD tx nw tr kn me sl), (nw, oDrv nc S (lN (kL (S) 0 40))), (nc, aI yI 48 g), (kn, oKn pl ex), (ex, aI yI 1681 E), (ou, aL yL ov)] sz) := by
  refine iv_ofWH (cc := cL_most) (maxL := 5) (ret := (some .int)) (hh := [(0, 10, 13, 28), (0, 10, 17, 13)]) (by decide) rfl ?_
  intro p e s m args below meth c s₁ B hml hv
  obtain ⟨rfl, hsz, hP, hK, hD0, hB⟩ := hv
  have hx := B.exec
  have hb := B.bytes
  have hr := B.returns
  have hts := atoms_spec (ws := wsL_most) B.pre
  have hown : s.vm.findClass RL = some m.cls := findClass_of_methodNamed B.named
  have hlocks := B.notSynchronized
  have htb := vx_table (x := yL_append) B (hts (.codeWith yL_most cL_most 5 (some .int) [(0, 10, 13, 28), (0, 10, 17, 13)]) (by decide +kernel))
  have hKz : va_K D vwCl (tyz yI yC yD) s := hK.sub [0, 1, 2] rfl
  subst hsz
  have hD := hD0.self (sz := s.heap.size)
  generalize hAe : va_A [(x, oRD tx nw tr kn me sl), (nw, oDrv nc S (lN (kL (S) 0 40))), (nc, aI yI 48 g), (kn, oKn pl ex), (ex, aI yI 1681 E), (ou, aL yL ov)] s.heap.size = A at hD hB ⊢
  have hA : ∀ q : Nat, s.heap.size ≤ q → A q := fun q h => by rw [← hAe]; exact Or.inr h
  have hS : va_S A s.heap s.heap [] := va_S.rf
  have hP : va_P D vwCl [(x, oRD tx nw tr kn me sl), (nw, oDrv nc S (lN (kL (S) 0 40))), (nc, aI yI 48 g), (kn, oKn pl ex), (ex, aI yI 1681 E), (ou, aL yL ov)] s.heap := hP
  have hl := lv_entry ([.ref x, .int (iI a), .int (iI b), .ref ou]) (n := 5) (Nat.le_of_ble_eq_true rfl)
  rw [lg_entry_eq]
  generalize (lg_sl ([.ref x, .int (iI a), .int (iI b), .ref ou]) ++ List.replicate (5 - (lg_sl ([.ref x, .int (iI a), .int (iI b), .ref ou])).length) Slot.unset).toArray = ls at hl ⊢
  have hl : lv_has ls 5 [(0, .ref x), (1, .int (iI a)), (2, .int (iI b)), (3, .ref ou)] := hl
  refine lv_aload_n hx hb dL_most_0 rfl (lv_at hl 3 rfl) ?_
  refine lv_iconst (v := iI 0) hx hb dL_most_1 (by decide +kernel) ?_
  refine lv_aload_n hx hb dL_most_2 rfl (lv_at hl 0 rfl) ?_
  refine lv_iload_n hx hb dL_most_3 rfl (lv_at hl 1 rfl) ?_
  refine lv_iload_n hx hb dL_most_4 rfl (lv_at hl 2 rfl) ?_
  refine iv_lxV (wc := [(x, oRD tx nw tr kn me sl), (nw, oDrv nc S (lN (kL (S) 0 40))), (nc, aI yI 48 g), (kn, oKn pl ex), (ex, aI yI 1681 E)]) (wr := [(ou, aL yL ov)]) (wp := fun (u : Int × (Int → Int)) => match u with | (p9, E9) => [(x, oRD tx nw tr kn me sl), (nw, oDrv nc S (lN (kL (S) 0 40))), (nc, aI yI 48 g), (kn, oKn p9 ex), (ex, aI yI 1681 E9)]) (As := [.int (iI a), .int (iI b)]) (rest := [.int (iI 0), .ref ou]) (C := RX4) (n := 2) ⟨hx, hb, hml, hown, hts⟩ (c_X4_most l hla D yI yC yD x tx nw tr kn me sl nc S g ex pl E a b hI hR hab9 _) (cwV 2 hts gL_most_X4_most rfl rfl rfl (by decide +kernel) ⟨Nat.le_of_ble_eq_true rfl, Nat.le_of_ble_eq_true rfl⟩) hKz hP hD hS hA hB rfl rfl (fun u t h => by obtain ⟨p9, E9⟩ := u; exact ⟨h, va_D_fst hD.l.self rfl⟩) (fun _ => rfl) rfl hl.1 rfl (Nat.le_of_ble_eq_true rfl) dL_most_5 ⟨Nat.le_of_ble_eq_true rfl, Nat.le_of_ble_eq_true rfl⟩ (fun E9 ce9 ox9 ux H locs hxe hP hD hS hc8 hv8 hcl8 => ?_) (fun r9 u H locs hw hP hD hS => ?_)
  · rcases hxe with ⟨rfl, hxc⟩ | ⟨rfl, hxc⟩
    · refine vx_catch (name := eI) hown (tableOf []) ⟨0, 10, 13, 28⟩ (tableOf [(0, 10, 17, 13)]) (htb.trans rfl) (fun z hz => absurd hz List.not_mem_nil) rfl (by decide) (hts (.classLink RL 28 eI) (by decide +kernel)) (va_Nw.use rfl hB.1.2.2) hc8 hv8 hcl8 ?_
      have hP : va_P D vwCl [(x, oRD tx nw tr kn me sl), (nw, oDrv nc S (lN (kL (S) 0 40))), (nc, aI yI 48 g), (kn, oKn pl ex), (ex, aI yI 1681 E), (ou, aL yL ov)] H := hP
      have hD : va_D A [(x, oRD tx nw tr kn me sl), (nw, oDrv nc S (lN (kL (S) 0 40))), (nc, aI yI 48 g), (kn, oKn pl ex), (ex, aI yI 1681 E), (ou, aL yL ov)] := hD
      refine lv_astore (lv' := [(4, .ref ox9), (0, .ref x), (1, .int (iI a)), (2, .int (iI b)), (3, .ref ou)]) hx hb dL_most_13 hl (by decide) rfl (fun ls hl => ?_)
      refine lv_iconst (v := iI 1) hx hb dL_most_15 (by decide +kernel) ?_
      have hP9 : va_P D vwCl [(x, oRD tx nw tr kn me sl), (nw, oDrv nc S (lN (kL (S) 0 40))), (nc, aI yI 48 g), (kn, oKn pl ex), (ex, aI yI 1681 E), (ou, aL yL ov)] _ := hP
      have hD9 : va_D A [(x, oRD tx nw tr kn me sl), (nw, oDrv nc S (lN (kL (S) 0 40))), (nc, aI yI 48 g), (kn, oKn pl ex), (ex, aI yI 1681 E), (ou, aL yL ov)] := hD
      exact W.iret hx hb hr (fun t ht hW => ⟨⟨iI 1, (), rfl, ⟨congrArg iI (show (1 : Int) = whyR S a b by first | omega | (rw [if_pos (by omega)]; done) | (rw [if_neg (by omega)]; done)), trivial⟩, ⟨by show va_P D vwCl _ t.heap; rw [ht]; exact hP9, hD9⟩⟩, hS.F ht⟩) hS.2.2 dL_most_16
    · refine vx_catch (name := eA) hown (tableOf [(0, 10, 13, 28)]) ⟨0, 10, 17, 13⟩ (tableOf []) (htb.trans rfl) (fun z hz => by cases List.mem_singleton.mp hz; exact Or.inr ⟨by decide, eI, hts (.classLink RL 28 eI) (by decide +kernel), hB.2.1.2.1⟩) rfl (by decide) (hts (.classLink RL 13 eA) (by decide +kernel)) (va_Nw.use rfl hB.1.1) hc8 hv8 hcl8 ?_
      have hP : va_P D vwCl [(x, oRD tx nw tr kn me sl), (nw, oDrv nc S (lN (kL (S) 0 40))), (nc, aI yI 48 g), (kn, oKn pl ex), (ex, aI yI 1681 E), (ou, aL yL ov)] H := hP
      have hD : va_D A [(x, oRD tx nw tr kn me sl), (nw, oDrv nc S (lN (kL (S) 0 40))), (nc, aI yI 48 g), (kn, oKn pl ex), (ex, aI yI 1681 E), (ou, aL yL ov)] := hD
      refine lv_astore (lv' := [(4, .ref ox9), (0, .ref x), (1, .int (iI a)), (2, .int (iI b)), (3, .ref ou)]) hx hb dL_most_17 hl (by decide) rfl (fun ls hl => ?_)
      refine lv_iconst (v := iI 2) hx hb dL_most_19 (by decide +kernel) ?_
      have hP9 : va_P D vwCl [(x, oRD tx nw tr kn me sl), (nw, oDrv nc S (lN (kL (S) 0 40))), (nc, aI yI 48 g), (kn, oKn pl ex), (ex, aI yI 1681 E), (ou, aL yL ov)] _ := hP
      have hD9 : va_D A [(x, oRD tx nw tr kn me sl), (nw, oDrv nc S (lN (kL (S) 0 40))), (nc, aI yI 48 g), (kn, oKn pl ex), (ex, aI yI 1681 E), (ou, aL yL ov)] := hD
      exact W.iret hx hb hr (fun t ht hW => ⟨⟨iI 2, (), rfl, ⟨congrArg iI (show (2 : Int) = whyR S a b by first | omega | (rw [if_pos (by omega)]; done) | (rw [if_neg (by omega)]; done)), trivial⟩, ⟨by show va_P D vwCl _ t.heap; rw [ht]; exact hP9, hD9⟩⟩, hS.F ht⟩) hS.2.2 dL_most_20
  · obtain ⟨p9, E9⟩ := u
    obtain ⟨hr9, hwr9⟩ := hw
    exfalso
    first | omega | contradiction
set_option maxHeartbeats 4000000 in
set_option maxRecDepth 100000 in
theorem c_L_costs_0 (l : Launch) (hla : l.stackTraces = false) (D : va_G) (yI yC yD yL : ClassId) (x : Nat) (tx : Nat) (nw : Nat) (tr : Nat) (kn : Nat) (me : Nat) (sl : Nat) (nc : Nat) (S : Int → Int) (g : Int → Int) (a : Int) (b : Int) (ou : Nat) (ov : Int64) (hI : Inv S) (hR : Rc S g) (hab9 : inR a ∧ inR b) (hc9 : whyR S a b = 0) (sz : Nat) : Met l yL_costs wsL_costs ({ frames := 9, cells := 8, slots := 150, locals := 147 }) (vxP [.ref x, .int (iI a), .int (iI b), .ref ou] D (tyl yI yC yD yL) [(x, oRD tx nw tr kn me sl), (nw, oDrv nc S (lN (kL (S) 0 40))), (nc, aI yI 48 g), (ou, aL yL ov)] sz) (va_Qi (fun (r : Int32) (_ : Unit) => r = iI 0 ∧ (whyR S a b = 0)) (fun (_ : Unit) (t : State) => va_P D vwCl [(x, oRD tx nw tr kn me sl), (nw, oDrv nc S (lN (kL (S) 0 40))), (nc, aI yI 48 g), (ou, aL yL ((iI (if S 1 ≤ b - a + 1 then costOf S a b else -1)).toInt64))] t.heap ∧ va_D (va_A [(x, oRD tx nw tr kn me sl), (nw, oDrv nc S (lN (kL (S) 0 40))), (nc, aI yI 48 g), (ou, aL yL ov)] sz) [(x, oRD tx nw tr kn me sl), (nw, oDrv nc S (lN (kL (S) 0 40))), (nc, aI yI 48 g), (ou, aL yL ((iI (if S 1 ≤ b - a + 1 then costOf S a b else -1)).toInt64))]) (va_A [(x, oRD tx nw tr kn me sl), (nw, oDrv nc S (lN (kL (S) 0 40))), (nc, aI yI 48 g), (ou, aL yL ov)] sz)) 8 150 (va_A [(x, oRD tx nw tr kn me sl), (nw, oDrv nc S (lN (kL (S) 0 40))), (nc, aI yI 48 g), (ou, aL yL ov)] sz) := by
  refine iv_ofWH (cc := cL_costs) (maxL := 5) (ret := (some .int)) (hh := [(0, 10, 13, 28), (0, 10, 17, 13)]) (by decide) rfl ?_
  intro p e s m args below meth c s₁ B hml hv
  obtain ⟨rfl, hsz, hP, hK, hD0, hB⟩ := hv
  have hx := B.exec
  have hb := B.bytes
  have hr := B.returns
  have hts := atoms_spec (ws := wsL_costs) B.pre
  have hown : s.vm.findClass RL = some m.cls := findClass_of_methodNamed B.named
  have hlocks := B.notSynchronized
  have htb := vx_table (x := yL_append) B (hts (.codeWith yL_costs cL_costs 5 (some .int) [(0, 10, 13, 28), (0, 10, 17, 13)]) (by decide +kernel))
  have hKz : va_K D vwCl (tyz yI yC yD) s := hK.sub [0, 1, 2] rfl
  subst hsz
  have hD := hD0.self (sz := s.heap.size)
  generalize hAe : va_A [(x, oRD tx nw tr kn me sl), (nw, oDrv nc S (lN (kL (S) 0 40))), (nc, aI yI 48 g), (ou, aL yL ov)] s.heap.size = A at hD hB ⊢
  have hA : ∀ q : Nat, s.heap.size ≤ q → A q := fun q h => by rw [← hAe]; exact Or.inr h
  have hS : va_S A s.heap s.heap [] := va_S.rf
  have hP : va_P D vwCl [(x, oRD tx nw tr kn me sl), (nw, oDrv nc S (lN (kL (S) 0 40))), (nc, aI yI 48 g), (ou, aL yL ov)] s.heap := hP
  have hl := lv_entry ([.ref x, .int (iI a), .int (iI b), .ref ou]) (n := 5) (Nat.le_of_ble_eq_true rfl)
  rw [lg_entry_eq]
  generalize (lg_sl ([.ref x, .int (iI a), .int (iI b), .ref ou]) ++ List.replicate (5 - (lg_sl ([.ref x, .int (iI a), .int (iI b), .ref ou])).length) Slot.unset).toArray = ls at hl ⊢
  have hl : lv_has ls 5 [(0, .ref x), (1, .int (iI a)), (2, .int (iI b)), (3, .ref ou)] := hl
  refine lv_aload_n hx hb dL_costs_0 rfl (lv_at hl 3 rfl) ?_
  refine lv_iconst (v := iI 0) hx hb dL_costs_1 (by decide +kernel) ?_
  refine lv_aload_n hx hb dL_costs_2 rfl (lv_at hl 0 rfl) ?_
  refine lv_iload_n hx hb dL_costs_3 rfl (lv_at hl 1 rfl) ?_
  refine lv_iload_n hx hb dL_costs_4 rfl (lv_at hl 2 rfl) ?_
  refine iv_lxV (wc := [(x, oRD tx nw tr kn me sl), (nw, oDrv nc S (lN (kL (S) 0 40))), (nc, aI yI 48 g)]) (wr := [(ou, aL yL ov)]) (wp := fun (_ : Unit) => [(x, oRD tx nw tr kn me sl), (nw, oDrv nc S (lN (kL (S) 0 40))), (nc, aI yI 48 g)]) (As := [.int (iI a), .int (iI b)]) (rest := [.int (iI 0), .ref ou]) (C := RX4) (n := 2) ⟨hx, hb, hml, hown, hts⟩ (c_X4_costs l hla D yI yC yD x tx nw tr kn me sl nc S g a b hI hR hab9 _) (cwV 2 hts gL_costs_X4_costs rfl rfl rfl (by decide +kernel) ⟨Nat.le_of_ble_eq_true rfl, Nat.le_of_ble_eq_true rfl⟩) hKz hP hD hS hA hB rfl rfl (fun u t h => by exact ⟨h, va_D_fst hD.l.self rfl⟩) (fun _ => rfl) rfl hl.1 rfl (Nat.le_of_ble_eq_true rfl) dL_costs_5 ⟨Nat.le_of_ble_eq_true rfl, Nat.le_of_ble_eq_true rfl⟩ (fun E9 ce9 ox9 ux H locs hxe hP hD hS hc8 hv8 hcl8 => ?_) (fun r9 u H locs hw hP hD hS => ?_)
  · exfalso
    rcases hxe with ⟨_, h⟩ | ⟨_, h⟩ <;> first | omega | contradiction
  · obtain ⟨hr9, hwr9⟩ := hw
    subst hr9
    have hP : va_P D vwCl [(x, oRD tx nw tr kn me sl), (nw, oDrv nc S (lN (kL (S) 0 40))), (nc, aI yI 48 g), (ou, aL yL ov)] H := hP
    have hD : va_D A [(x, oRD tx nw tr kn me sl), (nw, oDrv nc S (lN (kL (S) 0 40))), (nc, aI yI 48 g), (ou, aL yL ov)] := hD
    refine lv_i2l (v := (iI (if S 1 ≤ b - a + 1 then costOf S a b else -1)).toInt64) hx hb dL_costs_8 rfl ?_
    refine iv_lst hx hb hK hP hD hS 3 3 rfl rfl dL_costs_9 (fun H locs hP hD hS => ?_)
    have hP : va_P D vwCl [(x, oRD tx nw tr kn me sl), (nw, oDrv nc S (lN (kL (S) 0 40))), (nc, aI yI 48 g), (ou, aL yL ((iI (if S 1 ≤ b - a + 1 then costOf S a b else -1)).toInt64))] H := hP
    have hD : va_D A [(x, oRD tx nw tr kn me sl), (nw, oDrv nc S (lN (kL (S) 0 40))), (nc, aI yI 48 g), (ou, aL yL ((iI (if S 1 ≤ b - a + 1 then costOf S a b else -1)).toInt64))] := hD
    refine lv_goto (tgt := 21) hx hb dL_costs_10 (by decide) ?_
    refine lv_iconst (v := iI 0) hx hb dL_costs_21 (by decide +kernel) ?_
    have hP9 : va_P D vwCl [(x, oRD tx nw tr kn me sl), (nw, oDrv nc S (lN (kL (S) 0 40))), (nc, aI yI 48 g), (ou, aL yL ((iI (if S 1 ≤ b - a + 1 then costOf S a b else -1)).toInt64))] _ := hP
    have hD9 : va_D A [(x, oRD tx nw tr kn me sl), (nw, oDrv nc S (lN (kL (S) 0 40))), (nc, aI yI 48 g), (ou, aL yL ((iI (if S 1 ≤ b - a + 1 then costOf S a b else -1)).toInt64))] := hD
    exact W.iret hx hb hr (fun t ht hW => ⟨⟨iI 0, (), rfl, ⟨rfl, hwr9⟩, ⟨by show va_P D vwCl _ t.heap; rw [ht]; exact hP9, hD9⟩⟩, hS.F ht⟩) hS.2.2 dL_costs_22
set_option maxHeartbeats 4000000 in
set_option maxRecDepth 100000 in
theorem c_L_costs_1 (l : Launch) (hla : l.stackTraces = false) (D : va_G) (yI yC yD yL : ClassId) (x : Nat) (tx : Nat) (nw : Nat) (tr : Nat) (kn : Nat) (me : Nat) (sl : Nat) (nc : Nat) (S : Int → Int) (g : Int → Int) (a : Int) (b : Int) (ou : Nat) (ov : Int64) (hI : Inv S) (hR : Rc S g) (hab9 : inR a ∧ inR b) (hc9 : ¬ (whyR S a b = 0)) (sz : Nat) : Met l yL_costs wsL_costs ({ frames := 9, cells := 8, slots := 150, locals := 147 }) (vxP [.ref x, .int (iI a), .int (iI b), .ref ou] D (tyl yI yC yD yL) [(x, oRD tx nw tr kn me sl), (nw, oDrv nc S (lN (kL (S) 0 40))), (nc, aI yI 48 g), (ou, aL yL ov)] sz) (va_Qi (fun (r : Int32) (_ : Unit) => r = iI (whyR S a b) ∧ True) (fun (_ : Unit) (t : State) => va_P D vwCl [(x, oRD tx nw tr kn me sl), (nw, oDrv nc S (lN (kL (S) 0 40))), (nc, aI yI 48 g), (ou, aL yL ov)] t.heap ∧ va_D (va_A [(x, oRD tx nw tr kn me sl), (nw, oDrv nc S (lN (kL (S) 0 40))), (nc, aI yI 48 g), (ou, aL yL ov)] sz) [(x, oRD tx nw tr kn me sl), (nw, oDrv nc S (lN (kL (S) 0 40))), (nc, aI yI 48 g), (ou, aL yL ov)]) (va_A [(x, oRD tx nw tr kn me sl), (nw, oDrv nc S (lN (kL (S) 0 40))), (nc, aI yI 48 g), (ou, aL yL ov)] sz)) 8 150 (va_A [(x, oRD tx nw tr kn me sl), (nw, oDrv nc S (lN (kL (S) 0 40))), (nc, aI yI 48 g), (ou, aL yL ov)] sz) := by
  refine iv_ofWH (cc := cL_costs) (maxL := 5) (ret := (some .int)) (hh := [(0, 10, 13, 28), (0, 10, 17, 13)]) (by decide) rfl ?_
  intro p e s m args below meth c s₁ B hml hv
  obtain ⟨rfl, hsz, hP, hK, hD0, hB⟩ := hv
  have hx := B.exec
  have hb := B.bytes
  have hr := B.returns
  have hts := atoms_spec (ws := wsL_costs) B.pre
  have hown : s.vm.findClass RL = some m.cls := findClass_of_methodNamed B.named
  have hlocks := B.notSynchronized
  have htb := vx_table (x := yL_append) B (hts (.codeWith yL_costs cL_costs 5 (some .int) [(0, 10, 13, 28), (0, 10, 17, 13)]) (by decide +kernel))
  have hKz : va_K D vwCl (tyz yI yC yD) s := hK.sub [0, 1, 2] rfl
  subst hsz
  have hD := hD0.self (sz := s.heap.size)
  generalize hAe : va_A [(x, oRD tx nw tr kn me sl), (nw, oDrv nc S (lN (kL (S) 0 40))), (nc, aI yI 48 g), (ou, aL yL ov)] s.heap.size = A at hD hB ⊢
  have hA : ∀ q : Nat, s.heap.size ≤ q → A q := fun q h => by rw [← hAe]; exact Or.inr h
  have hS : va_S A s.heap s.heap [] := va_S.rf
  have hP : va_P D vwCl [(x, oRD tx nw tr kn me sl), (nw, oDrv nc S (lN (kL (S) 0 40))), (nc, aI yI 48 g), (ou, aL yL ov)] s.heap := hP
  have hl := lv_entry ([.ref x, .int (iI a), .int (iI b), .ref ou]) (n := 5) (Nat.le_of_ble_eq_true rfl)
  rw [lg_entry_eq]
  generalize (lg_sl ([.ref x, .int (iI a), .int (iI b), .ref ou]) ++ List.replicate (5 - (lg_sl ([.ref x, .int (iI a), .int (iI b), .ref ou])).length) Slot.unset).toArray = ls at hl ⊢
  have hl : lv_has ls 5 [(0, .ref x), (1, .int (iI a)), (2, .int (iI b)), (3, .ref ou)] := hl
  refine lv_aload_n hx hb dL_costs_0 rfl (lv_at hl 3 rfl) ?_
  refine lv_iconst (v := iI 0) hx hb dL_costs_1 (by decide +kernel) ?_
  refine lv_aload_n hx hb dL_costs_2 rfl (lv_at hl 0 rfl) ?_
  refine lv_iload_n hx hb dL_costs_3 rfl (lv_at hl 1 rfl) ?_
  refine lv_iload_n hx hb dL_costs_4 rfl (lv_at hl 2 rfl) ?_
  refine iv_lxV (wc := [(x, oRD tx nw tr kn me sl), (nw, oDrv nc S (lN (kL (S) 0 40))), (nc, aI yI 48 g)]) (wr := [(ou, aL yL ov)]) (wp := fun (_ : Unit) => [(x, oRD tx nw tr kn me sl), (nw, oDrv nc S (lN (kL (S) 0 40))), (nc, aI yI 48 g)]) (As := [.int (iI a), .int (iI b)]) (rest := [.int (iI 0), .ref ou]) (C := RX4) (n := 2) ⟨hx, hb, hml, hown, hts⟩ (c_X4_costs l hla D yI yC yD x tx nw tr kn me sl nc S g a b hI hR hab9 _) (cwV 2 hts gL_costs_X4_costs rfl rfl rfl (by decide +kernel) ⟨Nat.le_of_ble_eq_true rfl, Nat.le_of_ble_eq_true rfl⟩) hKz hP hD hS hA hB rfl rfl (fun u t h => by exact ⟨h, va_D_fst hD.l.self rfl⟩) (fun _ => rfl) rfl hl.1 rfl (Nat.le_of_ble_eq_true rfl) dL_costs_5 ⟨Nat.le_of_ble_eq_true rfl, Nat.le_of_ble_eq_true rfl⟩ (fun E9 ce9 ox9 ux H locs hxe hP hD hS hc8 hv8 hcl8 => ?_) (fun r9 u H locs hw hP hD hS => ?_)
  · rcases hxe with ⟨rfl, hxc⟩ | ⟨rfl, hxc⟩
    · refine vx_catch (name := eI) hown (tableOf []) ⟨0, 10, 13, 28⟩ (tableOf [(0, 10, 17, 13)]) (htb.trans rfl) (fun z hz => absurd hz List.not_mem_nil) rfl (by decide) (hts (.classLink RL 28 eI) (by decide +kernel)) (va_Nw.use rfl hB.1.2.2) hc8 hv8 hcl8 ?_
      have hP : va_P D vwCl [(x, oRD tx nw tr kn me sl), (nw, oDrv nc S (lN (kL (S) 0 40))), (nc, aI yI 48 g), (ou, aL yL ov)] H := hP
      have hD : va_D A [(x, oRD tx nw tr kn me sl), (nw, oDrv nc S (lN (kL (S) 0 40))), (nc, aI yI 48 g), (ou, aL yL ov)] := hD
      refine lv_astore (lv' := [(4, .ref ox9), (0, .ref x), (1, .int (iI a)), (2, .int (iI b)), (3, .ref ou)]) hx hb dL_costs_13 hl (by decide) rfl (fun ls hl => ?_)
      refine lv_iconst (v := iI 1) hx hb dL_costs_15 (by decide +kernel) ?_
      have hP9 : va_P D vwCl [(x, oRD tx nw tr kn me sl), (nw, oDrv nc S (lN (kL (S) 0 40))), (nc, aI yI 48 g), (ou, aL yL ov)] _ := hP
      have hD9 : va_D A [(x, oRD tx nw tr kn me sl), (nw, oDrv nc S (lN (kL (S) 0 40))), (nc, aI yI 48 g), (ou, aL yL ov)] := hD
      exact W.iret hx hb hr (fun t ht hW => ⟨⟨iI 1, (), rfl, ⟨congrArg iI (show (1 : Int) = whyR S a b by first | omega | (rw [if_pos (by omega)]; done) | (rw [if_neg (by omega)]; done)), trivial⟩, ⟨by show va_P D vwCl _ t.heap; rw [ht]; exact hP9, hD9⟩⟩, hS.F ht⟩) hS.2.2 dL_costs_16
    · refine vx_catch (name := eA) hown (tableOf [(0, 10, 13, 28)]) ⟨0, 10, 17, 13⟩ (tableOf []) (htb.trans rfl) (fun z hz => by cases List.mem_singleton.mp hz; exact Or.inr ⟨by decide, eI, hts (.classLink RL 28 eI) (by decide +kernel), hB.2.1.2.1⟩) rfl (by decide) (hts (.classLink RL 13 eA) (by decide +kernel)) (va_Nw.use rfl hB.1.1) hc8 hv8 hcl8 ?_
      have hP : va_P D vwCl [(x, oRD tx nw tr kn me sl), (nw, oDrv nc S (lN (kL (S) 0 40))), (nc, aI yI 48 g), (ou, aL yL ov)] H := hP
      have hD : va_D A [(x, oRD tx nw tr kn me sl), (nw, oDrv nc S (lN (kL (S) 0 40))), (nc, aI yI 48 g), (ou, aL yL ov)] := hD
      refine lv_astore (lv' := [(4, .ref ox9), (0, .ref x), (1, .int (iI a)), (2, .int (iI b)), (3, .ref ou)]) hx hb dL_costs_17 hl (by decide) rfl (fun ls hl => ?_)
      refine lv_iconst (v := iI 2) hx hb dL_costs_19 (by decide +kernel) ?_
      have hP9 : va_P D vwCl [(x, oRD tx nw tr kn me sl), (nw, oDrv nc S (lN (kL (S) 0 40))), (nc, aI yI 48 g), (ou, aL yL ov)] _ := hP
      have hD9 : va_D A [(x, oRD tx nw tr kn me sl), (nw, oDrv nc S (lN (kL (S) 0 40))), (nc, aI yI 48 g), (ou, aL yL ov)] := hD
      exact W.iret hx hb hr (fun t ht hW => ⟨⟨iI 2, (), rfl, ⟨congrArg iI (show (2 : Int) = whyR S a b by first | omega | (rw [if_pos (by omega)]; done) | (rw [if_neg (by omega)]; done)), trivial⟩, ⟨by show va_P D vwCl _ t.heap; rw [ht]; exact hP9, hD9⟩⟩, hS.F ht⟩) hS.2.2 dL_costs_20
  · obtain ⟨hr9, hwr9⟩ := hw
    exfalso
    first | omega | contradiction
set_option maxHeartbeats 4000000 in
set_option maxRecDepth 100000 in
theorem c_L_worst_0 (l : Launch) (hla : l.stackTraces = false) (D : va_G) (yI yC yD yL : ClassId) (x : Nat) (tx : Nat) (nw : Nat) (tr : Nat) (kn : Nat) (me : Nat) (sl : Nat) (nc : Nat) (S : Int → Int) (g : Int → Int) (ex : Nat) (pl : Int) (E : Int → Int) (a : Int) (b : Int) (ou : Nat) (ov : Int64) (hI : Inv S) (hR : Rc S g) (hab9 : inR a ∧ inR b) (hc9 : whyR S a b = 0) (sz : Nat) : Met l yL_worst wsL_worst ({ frames := 9, cells := 8, slots := 150, locals := 151 }) (vxP [.ref x, .int (iI a), .int (iI b), .ref ou] D (tyl yI yC yD yL) [(x, oRD tx nw tr kn me sl), (nw, oDrv nc S (lN (kL (S) 0 40))), (nc, aI yI 48 g), (kn, oKn pl ex), (ex, aI yI 1681 E), (ou, aL yL ov)] sz) (va_Qi (fun (r : Int32) (u : Int × (Int → Int)) => match u with | (p9, E9) => r = iI 0 ∧ (whyR S a b = 0)) (fun (u : Int × (Int → Int)) (t : State) => match u with | (p9, E9) => va_P D vwCl [(x, oRD tx nw tr kn me sl), (nw, oDrv nc S (lN (kL (S) 0 40))), (nc, aI yI 48 g), (kn, oKn p9 ex), (ex, aI yI 1681 E9), (ou, aL yL ((iI (if S 1 ≤ b - a + 1 then worstQ S a b else -1)).toInt64))] t.heap ∧ va_D (va_A [(x, oRD tx nw tr kn me sl), (nw, oDrv nc S (lN (kL (S) 0 40))), (nc, aI yI 48 g), (kn, oKn pl ex), (ex, aI yI 1681 E), (ou, aL yL ov)] sz) [(x, oRD tx nw tr kn me sl), (nw, oDrv nc S (lN (kL (S) 0 40))), (nc, aI yI 48 g), (kn, oKn p9 ex), (ex, aI yI 1681 E9), (ou, aL yL ((iI (if S 1 ≤ b - a + 1 then worstQ S a b else -1)).toInt64))]) (va_A [(x, oRD tx nw tr kn me sl), (nw, oDrv nc S (lN (kL (S) 0 40))), (nc, aI yI 48 g), (kn, oKn pl ex), (ex, aI yI 1681 E), (ou, aL yL ov)] sz)) 8 150 (va_A [(x, oRD tx nw tr kn me sl), (nw, oDrv nc S (lN (kL (S) 0 40))), (nc, aI yI 48 g), (kn, oKn pl ex), (ex, aI yI 1681 E), (ou, aL yL ov)] sz) := by
  refine iv_ofWH (cc := cL_worst) (maxL := 5) (ret := (some .int)) (hh := [(0, 10, 13, 28), (0, 10, 17, 13)]) (by decide) rfl ?_
  intro p e s m args below meth c s₁ B hml hv
  obtain ⟨rfl, hsz, hP, hK, hD0, hB⟩ := hv
  have hx := B.exec
  have hb := B.bytes
  have hr := B.returns
  have hts := atoms_spec (ws := wsL_worst) B.pre
  have hown : s.vm.findClass RL = some m.cls := findClass_of_methodNamed B.named
  have hlocks := B.notSynchronized
  have htb := vx_table (x := yL_append) B (hts (.codeWith yL_worst cL_worst 5 (some .int) [(0, 10, 13, 28), (0, 10, 17, 13)]) (by decide +kernel))
  have hKz : va_K D vwCl (tyz yI yC yD) s := hK.sub [0, 1, 2] rfl
  subst hsz
  have hD := hD0.self (sz := s.heap.size)
  generalize hAe : va_A [(x, oRD tx nw tr kn me sl), (nw, oDrv nc S (lN (kL (S) 0 40))), (nc, aI yI 48 g), (kn, oKn pl ex), (ex, aI yI 1681 E), (ou, aL yL ov)] s.heap.size = A at hD hB ⊢
  have hA : ∀ q : Nat, s.heap.size ≤ q → A q := fun q h => by rw [← hAe]; exact Or.inr h
  have hS : va_S A s.heap s.heap [] := va_S.rf
  have hP : va_P D vwCl [(x, oRD tx nw tr kn me sl), (nw, oDrv nc S (lN (kL (S) 0 40))), (nc, aI yI 48 g), (kn, oKn pl ex), (ex, aI yI 1681 E), (ou, aL yL ov)] s.heap := hP
  have hl := lv_entry ([.ref x, .int (iI a), .int (iI b), .ref ou]) (n := 5) (Nat.le_of_ble_eq_true rfl)
  rw [lg_entry_eq]
  generalize (lg_sl ([.ref x, .int (iI a), .int (iI b), .ref ou]) ++ List.replicate (5 - (lg_sl ([.ref x, .int (iI a), .int (iI b), .ref ou])).length) Slot.unset).toArray = ls at hl ⊢
  have hl : lv_has ls 5 [(0, .ref x), (1, .int (iI a)), (2, .int (iI b)), (3, .ref ou)] := hl
  refine lv_aload_n hx hb dL_worst_0 rfl (lv_at hl 3 rfl) ?_
  refine lv_iconst (v := iI 0) hx hb dL_worst_1 (by decide +kernel) ?_
  refine lv_aload_n hx hb dL_worst_2 rfl (lv_at hl 0 rfl) ?_
  refine lv_iload_n hx hb dL_worst_3 rfl (lv_at hl 1 rfl) ?_
  refine lv_iload_n hx hb dL_worst_4 rfl (lv_at hl 2 rfl) ?_
  refine iv_lxV (wc := [(x, oRD tx nw tr kn me sl), (nw, oDrv nc S (lN (kL (S) 0 40))), (nc, aI yI 48 g), (kn, oKn pl ex), (ex, aI yI 1681 E)]) (wr := [(ou, aL yL ov)]) (wp := fun (u : Int × (Int → Int)) => match u with | (p9, E9) => [(x, oRD tx nw tr kn me sl), (nw, oDrv nc S (lN (kL (S) 0 40))), (nc, aI yI 48 g), (kn, oKn p9 ex), (ex, aI yI 1681 E9)]) (As := [.int (iI a), .int (iI b)]) (rest := [.int (iI 0), .ref ou]) (C := RX4) (n := 2) ⟨hx, hb, hml, hown, hts⟩ (c_X4_worst l hla D yI yC yD x tx nw tr kn me sl nc S g ex pl E a b hI hR hab9 _) (cwV 2 hts gL_worst_X4_worst rfl rfl rfl (by decide +kernel) ⟨Nat.le_of_ble_eq_true rfl, Nat.le_of_ble_eq_true rfl⟩) hKz hP hD hS hA hB rfl rfl (fun u t h => by obtain ⟨p9, E9⟩ := u; exact ⟨h, va_D_fst hD.l.self rfl⟩) (fun _ => rfl) rfl hl.1 rfl (Nat.le_of_ble_eq_true rfl) dL_worst_5 ⟨Nat.le_of_ble_eq_true rfl, Nat.le_of_ble_eq_true rfl⟩ (fun E9 ce9 ox9 ux H locs hxe hP hD hS hc8 hv8 hcl8 => ?_) (fun r9 u H locs hw hP hD hS => ?_)
  · exfalso
    rcases hxe with ⟨_, h⟩ | ⟨_, h⟩ <;> first | omega | contradiction
  · obtain ⟨p9, E9⟩ := u
    obtain ⟨hr9, hwr9⟩ := hw
    subst hr9
    have hP : va_P D vwCl [(x, oRD tx nw tr kn me sl), (nw, oDrv nc S (lN (kL (S) 0 40))), (nc, aI yI 48 g), (kn, oKn p9 ex), (ex, aI yI 1681 E9), (ou, aL yL ov)] H := hP
    have hD : va_D A [(x, oRD tx nw tr kn me sl), (nw, oDrv nc S (lN (kL (S) 0 40))), (nc, aI yI 48 g), (kn, oKn p9 ex), (ex, aI yI 1681 E9), (ou, aL yL ov)] := hD
    refine lv_i2l (v := (iI (if S 1 ≤ b - a + 1 then worstQ S a b else -1)).toInt64) hx hb dL_worst_8 rfl ?_
    refine iv_lst hx hb hK hP hD hS 5 3 rfl rfl dL_worst_9 (fun H locs hP hD hS => ?_)
    have hP : va_P D vwCl [(x, oRD tx nw tr kn me sl), (nw, oDrv nc S (lN (kL (S) 0 40))), (nc, aI yI 48 g), (kn, oKn p9 ex), (ex, aI yI 1681 E9), (ou, aL yL ((iI (if S 1 ≤ b - a + 1 then worstQ S a b else -1)).toInt64))] H := hP
    have hD : va_D A [(x, oRD tx nw tr kn me sl), (nw, oDrv nc S (lN (kL (S) 0 40))), (nc, aI yI 48 g), (kn, oKn p9 ex), (ex, aI yI 1681 E9), (ou, aL yL ((iI (if S 1 ≤ b - a + 1 then worstQ S a b else -1)).toInt64))] := hD
    refine lv_goto (tgt := 21) hx hb dL_worst_10 (by decide) ?_
    refine lv_iconst (v := iI 0) hx hb dL_worst_21 (by decide +kernel) ?_
    have hP9 : va_P D vwCl [(x, oRD tx nw tr kn me sl), (nw, oDrv nc S (lN (kL (S) 0 40))), (nc, aI yI 48 g), (kn, oKn p9 ex), (ex, aI yI 1681 E9), (ou, aL yL ((iI (if S 1 ≤ b - a + 1 then worstQ S a b else -1)).toInt64))] _ := hP
    have hD9 : va_D A [(x, oRD tx nw tr kn me sl), (nw, oDrv nc S (lN (kL (S) 0 40))), (nc, aI yI 48 g), (kn, oKn p9 ex), (ex, aI yI 1681 E9), (ou, aL yL ((iI (if S 1 ≤ b - a + 1 then worstQ S a b else -1)).toInt64))] := hD
    exact W.iret hx hb hr (fun t ht hW => ⟨⟨iI 0, (p9, E9), rfl, ⟨rfl, hwr9⟩, ⟨by show va_P D vwCl _ t.heap; rw [ht]; exact hP9, hD9⟩⟩, hS.F ht⟩) hS.2.2 dL_worst_22
set_option maxHeartbeats 4000000 in
set_option maxRecDepth 100000 in
theorem c_L_worst_1 (l : Launch) (hla : l.stackTraces = false) (D : va_G) (yI yC yD yL : ClassId) (x : Nat) (tx : Nat) (nw : Nat) (tr : Nat) (kn : Nat) (me : Nat) (sl : Nat) (nc : Nat) (S : Int → Int) (g : Int → Int) (ex : Nat) (pl : Int) (E : Int → Int) (a : Int) (b : Int) (ou : Nat) (ov : Int64) (hI : Inv S) (hR : Rc S g) (hab9 : inR a ∧ inR b) (hc9 : ¬ (whyR S a b = 0)) (sz : Nat) : Met l yL_worst wsL_worst ({ frames := 9, cells := 8, slots := 150, locals := 151 }) (vxP [.ref x, .int (iI a), .int (iI b), .ref ou] D (tyl yI yC yD yL) [(x, oRD tx nw tr kn me sl), (nw, oDrv nc S (lN (kL (S) 0 40))), (nc, aI yI 48 g), (kn, oKn pl ex), (ex, aI yI 1681 E), (ou, aL yL ov)] sz) (va_Qi (fun (r : Int32) (_ : Unit) => r = iI (whyR S a b) ∧ True) (fun (_ : Unit) (t : State) => va_P D vwCl [(x, oRD tx nw tr kn me sl), (nw, oDrv nc S (lN (kL (S) 0 40))), (nc, aI yI 48 g), (kn, oKn pl ex), (ex, aI yI 1681 E), (ou, aL yL ov)] t.heap ∧ va_D (va_A [(x, oRD tx nw tr kn me sl), (nw, oDrv nc S (lN (kL (S) 0 40))), (nc, aI yI 48 g), (kn, oKn pl ex), (ex, aI yI 1681 E), (ou, aL yL ov)] sz) [(x, oRD tx nw tr kn me sl), (nw, oDrv nc S (lN (kL (S) 0 40))), (nc, aI yI 48 g), (kn, oKn pl ex), (ex, aI yI 1681 E), (ou, aL yL ov)]) (va_A [(x, oRD tx nw tr kn me sl), (nw, oDrv nc S (lN (kL (S) 0 40))), (nc, aI yI 48 g), (kn, oKn pl ex), (ex, aI yI 1681 E), (ou, aL yL ov)] sz)) 8 150 (va_A [(x, oRD tx nw tr kn me sl), (nw, oDrv nc S (lN (kL (S) 0 40))), (nc, aI yI 48 g), (kn, oKn pl ex), (ex, aI yI 1681 E), (ou, aL yL ov)] sz) := by
  refine iv_ofWH (cc := cL_worst) (maxL := 5) (ret := (some .int)) (hh := [(0, 10, 13, 28), (0, 10, 17, 13)]) (by decide) rfl ?_
  intro p e s m args below meth c s₁ B hml hv
  obtain ⟨rfl, hsz, hP, hK, hD0, hB⟩ := hv
  have hx := B.exec
  have hb := B.bytes
  have hr := B.returns
  have hts := atoms_spec (ws := wsL_worst) B.pre
  have hown : s.vm.findClass RL = some m.cls := findClass_of_methodNamed B.named
  have hlocks := B.notSynchronized
  have htb := vx_table (x := yL_append) B (hts (.codeWith yL_worst cL_worst 5 (some .int) [(0, 10, 13, 28), (0, 10, 17, 13)]) (by decide +kernel))
  have hKz : va_K D vwCl (tyz yI yC yD) s := hK.sub [0, 1, 2] rfl
  subst hsz
  have hD := hD0.self (sz := s.heap.size)
  generalize hAe : va_A [(x, oRD tx nw tr kn me sl), (nw, oDrv nc S (lN (kL (S) 0 40))), (nc, aI yI 48 g), (kn, oKn pl ex), (ex, aI yI 1681 E), (ou, aL yL ov)] s.heap.size = A at hD hB ⊢
  have hA : ∀ q : Nat, s.heap.size ≤ q → A q := fun q h => by rw [← hAe]; exact Or.inr h
  have hS : va_S A s.heap s.heap [] := va_S.rf
  have hP : va_P D vwCl [(x, oRD tx nw tr kn me sl), (nw, oDrv nc S (lN (kL (S) 0 40))), (nc, aI yI 48 g), (kn, oKn pl ex), (ex, aI yI 1681 E), (ou, aL yL ov)] s.heap := hP
  have hl := lv_entry ([.ref x, .int (iI a), .int (iI b), .ref ou]) (n := 5) (Nat.le_of_ble_eq_true rfl)
  rw [lg_entry_eq]
  generalize (lg_sl ([.ref x, .int (iI a), .int (iI b), .ref ou]) ++ List.replicate (5 - (lg_sl ([.ref x, .int (iI a), .int (iI b), .ref ou])).length) Slot.unset).toArray = ls at hl ⊢
  have hl : lv_has ls 5 [(0, .ref x), (1, .int (iI a)), (2, .int (iI b)), (3, .ref ou)] := hl
  refine lv_aload_n hx hb dL_worst_0 rfl (lv_at hl 3 rfl) ?_
  refine lv_iconst (v := iI 0) hx hb dL_worst_1 (by decide +kernel) ?_
  refine lv_aload_n hx hb dL_worst_2 rfl (lv_at hl 0 rfl) ?_
  refine lv_iload_n hx hb dL_worst_3 rfl (lv_at hl 1 rfl) ?_
  refine lv_iload_n hx hb dL_worst_4 rfl (lv_at hl 2 rfl) ?_
  refine iv_lxV (wc := [(x, oRD tx nw tr kn me sl), (nw, oDrv nc S (lN (kL (S) 0 40))), (nc, aI yI 48 g), (kn, oKn pl ex), (ex, aI yI 1681 E)]) (wr := [(ou, aL yL ov)]) (wp := fun (u : Int × (Int → Int)) => match u with | (p9, E9) => [(x, oRD tx nw tr kn me sl), (nw, oDrv nc S (lN (kL (S) 0 40))), (nc, aI yI 48 g), (kn, oKn p9 ex), (ex, aI yI 1681 E9)]) (As := [.int (iI a), .int (iI b)]) (rest := [.int (iI 0), .ref ou]) (C := RX4) (n := 2) ⟨hx, hb, hml, hown, hts⟩ (c_X4_worst l hla D yI yC yD x tx nw tr kn me sl nc S g ex pl E a b hI hR hab9 _) (cwV 2 hts gL_worst_X4_worst rfl rfl rfl (by decide +kernel) ⟨Nat.le_of_ble_eq_true rfl, Nat.le_of_ble_eq_true rfl⟩) hKz hP hD hS hA hB rfl rfl (fun u t h => by obtain ⟨p9, E9⟩ := u; exact ⟨h, va_D_fst hD.l.self rfl⟩) (fun _ => rfl) rfl hl.1 rfl (Nat.le_of_ble_eq_true rfl) dL_worst_5 ⟨Nat.le_of_ble_eq_true rfl, Nat.le_of_ble_eq_true rfl⟩ (fun E9 ce9 ox9 ux H locs hxe hP hD hS hc8 hv8 hcl8 => ?_) (fun r9 u H locs hw hP hD hS => ?_)
  · rcases hxe with ⟨rfl, hxc⟩ | ⟨rfl, hxc⟩
    · refine vx_catch (name := eI) hown (tableOf []) ⟨0, 10, 13, 28⟩ (tableOf [(0, 10, 17, 13)]) (htb.trans rfl) (fun z hz => absurd hz List.not_mem_nil) rfl (by decide) (hts (.classLink RL 28 eI) (by decide +kernel)) (va_Nw.use rfl hB.1.2.2) hc8 hv8 hcl8 ?_
      have hP : va_P D vwCl [(x, oRD tx nw tr kn me sl), (nw, oDrv nc S (lN (kL (S) 0 40))), (nc, aI yI 48 g), (kn, oKn pl ex), (ex, aI yI 1681 E), (ou, aL yL ov)] H := hP
      have hD : va_D A [(x, oRD tx nw tr kn me sl), (nw, oDrv nc S (lN (kL (S) 0 40))), (nc, aI yI 48 g), (kn, oKn pl ex), (ex, aI yI 1681 E), (ou, aL yL ov)] := hD
      refine lv_astore (lv' := [(4, .ref ox9), (0, .ref x), (1, .int (iI a)), (2, .int (iI b)), (3, .ref ou)]) hx hb dL_worst_13 hl (by decide) rfl (fun ls hl => ?_)
      refine lv_iconst (v := iI 1) hx hb dL_worst_15 (by decide +kernel) ?_
      have hP9 : va_P D vwCl [(x, oRD tx nw tr kn me sl), (nw, oDrv nc S (lN (kL (S) 0 40))), (nc, aI yI 48 g), (kn, oKn pl ex), (ex, aI yI 1681 E), (ou, aL yL ov)] _ := hP
      have hD9 : va_D A [(x, oRD tx nw tr kn me sl), (nw, oDrv nc S (lN (kL (S) 0 40))), (nc, aI yI 48 g), (kn, oKn pl ex), (ex, aI yI 1681 E), (ou, aL yL ov)] := hD
      exact W.iret hx hb hr (fun t ht hW => ⟨⟨iI 1, (), rfl, ⟨congrArg iI (show (1 : Int) = whyR S a b by first | omega | (rw [if_pos (by omega)]; done) | (rw [if_neg (by omega)]; done)), trivial⟩, ⟨by show va_P D vwCl _ t.heap; rw [ht]; exact hP9, hD9⟩⟩, hS.F ht⟩) hS.2.2 dL_worst_16
    · refine vx_catch (name := eA) hown (tableOf [(0, 10, 13, 28)]) ⟨0, 10, 17, 13⟩ (tableOf []) (htb.trans rfl) (fun z hz => by cases List.mem_singleton.mp hz; exact Or.inr ⟨by decide, eI, hts (.classLink RL 28 eI) (by decide +kernel), hB.2.1.2.1⟩) rfl (by decide) (hts (.classLink RL 13 eA) (by decide +kernel)) (va_Nw.use rfl hB.1.1) hc8 hv8 hcl8 ?_
      have hP : va_P D vwCl [(x, oRD tx nw tr kn me sl), (nw, oDrv nc S (lN (kL (S) 0 40))), (nc, aI yI 48 g), (kn, oKn pl ex), (ex, aI yI 1681 E), (ou, aL yL ov)] H := hP
      have hD : va_D A [(x, oRD tx nw tr kn me sl), (nw, oDrv nc S (lN (kL (S) 0 40))), (nc, aI yI 48 g), (kn, oKn pl ex), (ex, aI yI 1681 E), (ou, aL yL ov)] := hD
      refine lv_astore (lv' := [(4, .ref ox9), (0, .ref x), (1, .int (iI a)), (2, .int (iI b)), (3, .ref ou)]) hx hb dL_worst_17 hl (by decide) rfl (fun ls hl => ?_)
      refine lv_iconst (v := iI 2) hx hb dL_worst_19 (by decide +kernel) ?_
      have hP9 : va_P D vwCl [(x, oRD tx nw tr kn me sl), (nw, oDrv nc S (lN (kL (S) 0 40))), (nc, aI yI 48 g), (kn, oKn pl ex), (ex, aI yI 1681 E), (ou, aL yL ov)] _ := hP
      have hD9 : va_D A [(x, oRD tx nw tr kn me sl), (nw, oDrv nc S (lN (kL (S) 0 40))), (nc, aI yI 48 g), (kn, oKn pl ex), (ex, aI yI 1681 E), (ou, aL yL ov)] := hD
      exact W.iret hx hb hr (fun t ht hW => ⟨⟨iI 2, (), rfl, ⟨congrArg iI (show (2 : Int) = whyR S a b by first | omega | (rw [if_pos (by omega)]; done) | (rw [if_neg (by omega)]; done)), trivial⟩, ⟨by show va_P D vwCl _ t.heap; rw [ht]; exact hP9, hD9⟩⟩, hS.F ht⟩) hS.2.2 dL_worst_20
  · obtain ⟨p9, E9⟩ := u
    obtain ⟨hr9, hwr9⟩ := hw
    exfalso
    first | omega | contradiction
set_option maxHeartbeats 4000000 in
set_option maxRecDepth 100000 in
theorem c_L_known_0 (l : Launch) (hla : l.stackTraces = false) (D : va_G) (yI yC yD yL : ClassId) (x : Nat) (tx : Nat) (nw : Nat) (tr : Nat) (kn : Nat) (me : Nat) (sl : Nat) (nc : Nat) (S : Int → Int) (g : Int → Int) (ex : Nat) (pl : Int) (E : Int → Int) (i : Int) (ou : Nat) (ov : Int64) (hI : Inv S) (hR : Rc S g) (hi9 : inR i) (hc9 : 0 ≤ i ∧ i < S 0) (sz : Nat) : Met l yL_known wsL_known ({ frames := 8, cells := 8, slots := 150, locals := 124 }) (vxP [.ref x, .int (iI i), .ref ou] D (tyl yI yC yD yL) [(x, oRD tx nw tr kn me sl), (nw, oDrv nc S (lN (kL (S) 0 40))), (nc, aI yI 48 g), (kn, oKn pl ex), (ex, aI yI 1681 E), (ou, aL yL ov)] sz) (va_Qi (fun (r : Int32) (u : Int × (Int → Int)) => match u with | (p9, E9) => r = iI 0 ∧ (0 ≤ i ∧ i < S 0)) (fun (u : Int × (Int → Int)) (t : State) => match u with | (p9, E9) => va_P D vwCl [(x, oRD tx nw tr kn me sl), (nw, oDrv nc S (lN (kL (S) 0 40))), (nc, aI yI 48 g), (kn, oKn p9 ex), (ex, aI yI 1681 E9), (ou, aL yL ((iI (knownOf (FB S (-1)) i)).toInt64))] t.heap ∧ va_D (va_A [(x, oRD tx nw tr kn me sl), (nw, oDrv nc S (lN (kL (S) 0 40))), (nc, aI yI 48 g), (kn, oKn pl ex), (ex, aI yI 1681 E), (ou, aL yL ov)] sz) [(x, oRD tx nw tr kn me sl), (nw, oDrv nc S (lN (kL (S) 0 40))), (nc, aI yI 48 g), (kn, oKn p9 ex), (ex, aI yI 1681 E9), (ou, aL yL ((iI (knownOf (FB S (-1)) i)).toInt64))]) (va_A [(x, oRD tx nw tr kn me sl), (nw, oDrv nc S (lN (kL (S) 0 40))), (nc, aI yI 48 g), (kn, oKn pl ex), (ex, aI yI 1681 E), (ou, aL yL ov)] sz)) 8 150 (va_A [(x, oRD tx nw tr kn me sl), (nw, oDrv nc S (lN (kL (S) 0 40))), (nc, aI yI 48 g), (kn, oKn pl ex), (ex, aI yI 1681 E), (ou, aL yL ov)] sz) := by
  refine iv_ofWH (cc := cL_known) (maxL := 4) (ret := (some .int)) (hh := [(0, 9, 12, 28)]) (by decide) rfl ?_
  intro p e s m args below meth c s₁ B hml hv
  obtain ⟨rfl, hsz, hP, hK, hD0, hB⟩ := hv
  have hx := B.exec
  have hb := B.bytes
  have hr := B.returns
  have hts := atoms_spec (ws := wsL_known) B.pre
  have hown : s.vm.findClass RL = some m.cls := findClass_of_methodNamed B.named
  have hlocks := B.notSynchronized
  have htb := vx_table (x := yL_append) B (hts (.codeWith yL_known cL_known 4 (some .int) [(0, 9, 12, 28)]) (by decide +kernel))
  have hKz : va_K D vwCl (tyz yI yC yD) s := hK.sub [0, 1, 2] rfl
  subst hsz
  have hD := hD0.self (sz := s.heap.size)
  generalize hAe : va_A [(x, oRD tx nw tr kn me sl), (nw, oDrv nc S (lN (kL (S) 0 40))), (nc, aI yI 48 g), (kn, oKn pl ex), (ex, aI yI 1681 E), (ou, aL yL ov)] s.heap.size = A at hD hB ⊢
  have hA : ∀ q : Nat, s.heap.size ≤ q → A q := fun q h => by rw [← hAe]; exact Or.inr h
  have hS : va_S A s.heap s.heap [] := va_S.rf
  have hP : va_P D vwCl [(x, oRD tx nw tr kn me sl), (nw, oDrv nc S (lN (kL (S) 0 40))), (nc, aI yI 48 g), (kn, oKn pl ex), (ex, aI yI 1681 E), (ou, aL yL ov)] s.heap := hP
  have hl := lv_entry ([.ref x, .int (iI i), .ref ou]) (n := 4) (Nat.le_of_ble_eq_true rfl)
  rw [lg_entry_eq]
  generalize (lg_sl ([.ref x, .int (iI i), .ref ou]) ++ List.replicate (4 - (lg_sl ([.ref x, .int (iI i), .ref ou])).length) Slot.unset).toArray = ls at hl ⊢
  have hl : lv_has ls 4 [(0, .ref x), (1, .int (iI i)), (2, .ref ou)] := hl
  refine lv_aload_n hx hb dL_known_0 rfl (lv_at hl 2 rfl) ?_
  refine lv_iconst (v := iI 0) hx hb dL_known_1 (by decide +kernel) ?_
  refine lv_aload_n hx hb dL_known_2 rfl (lv_at hl 0 rfl) ?_
  refine lv_iload_n hx hb dL_known_3 rfl (lv_at hl 1 rfl) ?_
  refine iv_lxV (wc := [(x, oRD tx nw tr kn me sl), (nw, oDrv nc S (lN (kL (S) 0 40))), (nc, aI yI 48 g), (kn, oKn pl ex), (ex, aI yI 1681 E)]) (wr := [(ou, aL yL ov)]) (wp := fun (u : Int × (Int → Int)) => match u with | (p9, E9) => [(x, oRD tx nw tr kn me sl), (nw, oDrv nc S (lN (kL (S) 0 40))), (nc, aI yI 48 g), (kn, oKn p9 ex), (ex, aI yI 1681 E9)]) (As := [.int (iI i)]) (rest := [.int (iI 0), .ref ou]) (C := RX4) (n := 1) ⟨hx, hb, hml, hown, hts⟩ (c_X4_known l hla D yI yC yD x tx nw tr kn me sl nc S g ex pl E i hI hR hi9 _) (cwV 1 hts gL_known_X4_known rfl rfl rfl (by decide +kernel) ⟨Nat.le_of_ble_eq_true rfl, Nat.le_of_ble_eq_true rfl⟩) hKz hP hD hS hA hB rfl rfl (fun u t h => by obtain ⟨p9, E9⟩ := u; exact ⟨h, va_D_fst hD.l.self rfl⟩) (fun _ => rfl) rfl hl.1 rfl (Nat.le_of_ble_eq_true rfl) dL_known_4 ⟨Nat.le_of_ble_eq_true rfl, Nat.le_of_ble_eq_true rfl⟩ (fun E9 ce9 ox9 ux H locs hxe hP hD hS hc8 hv8 hcl8 => ?_) (fun r9 u H locs hw hP hD hS => ?_)
  · exfalso
    obtain ⟨_, h⟩ := hxe; first | omega | contradiction | exact h (by assumption)
  · obtain ⟨p9, E9⟩ := u
    obtain ⟨hr9, hpl9⟩ := hw
    subst hr9
    have hP : va_P D vwCl [(x, oRD tx nw tr kn me sl), (nw, oDrv nc S (lN (kL (S) 0 40))), (nc, aI yI 48 g), (kn, oKn p9 ex), (ex, aI yI 1681 E9), (ou, aL yL ov)] H := hP
    have hD : va_D A [(x, oRD tx nw tr kn me sl), (nw, oDrv nc S (lN (kL (S) 0 40))), (nc, aI yI 48 g), (kn, oKn p9 ex), (ex, aI yI 1681 E9), (ou, aL yL ov)] := hD
    refine lv_i2l (v := (iI (knownOf (FB S (-1)) i)).toInt64) hx hb dL_known_7 rfl ?_
    refine iv_lst hx hb hK hP hD hS 5 3 rfl rfl dL_known_8 (fun H locs hP hD hS => ?_)
    have hP : va_P D vwCl [(x, oRD tx nw tr kn me sl), (nw, oDrv nc S (lN (kL (S) 0 40))), (nc, aI yI 48 g), (kn, oKn p9 ex), (ex, aI yI 1681 E9), (ou, aL yL ((iI (knownOf (FB S (-1)) i)).toInt64))] H := hP
    have hD : va_D A [(x, oRD tx nw tr kn me sl), (nw, oDrv nc S (lN (kL (S) 0 40))), (nc, aI yI 48 g), (kn, oKn p9 ex), (ex, aI yI 1681 E9), (ou, aL yL ((iI (knownOf (FB S (-1)) i)).toInt64))] := hD
    refine lv_goto (tgt := 15) hx hb dL_known_9 (by decide) ?_
    refine lv_iconst (v := iI 0) hx hb dL_known_15 (by decide +kernel) ?_
    have hP9 : va_P D vwCl [(x, oRD tx nw tr kn me sl), (nw, oDrv nc S (lN (kL (S) 0 40))), (nc, aI yI 48 g), (kn, oKn p9 ex), (ex, aI yI 1681 E9), (ou, aL yL ((iI (knownOf (FB S (-1)) i)).toInt64))] _ := hP
    have hD9 : va_D A [(x, oRD tx nw tr kn me sl), (nw, oDrv nc S (lN (kL (S) 0 40))), (nc, aI yI 48 g), (kn, oKn p9 ex), (ex, aI yI 1681 E9), (ou, aL yL ((iI (knownOf (FB S (-1)) i)).toInt64))] := hD
    exact W.iret hx hb hr (fun t ht hW => ⟨⟨iI 0, (p9, E9), rfl, ⟨rfl, hpl9⟩, ⟨by show va_P D vwCl _ t.heap; rw [ht]; exact hP9, hD9⟩⟩, hS.F ht⟩) hS.2.2 dL_known_16
set_option maxHeartbeats 4000000 in
set_option maxRecDepth 100000 in
theorem c_L_known_1 (l : Launch) (hla : l.stackTraces = false) (D : va_G) (yI yC yD yL : ClassId) (x : Nat) (tx : Nat) (nw : Nat) (tr : Nat) (kn : Nat) (me : Nat) (sl : Nat) (nc : Nat) (S : Int → Int) (g : Int → Int) (ex : Nat) (pl : Int) (E : Int → Int) (i : Int) (ou : Nat) (ov : Int64) (hI : Inv S) (hR : Rc S g) (hi9 : inR i) (hc9 : ¬ (0 ≤ i ∧ i < S 0)) (sz : Nat) : Met l yL_known wsL_known ({ frames := 8, cells := 8, slots := 150, locals := 124 }) (vxP [.ref x, .int (iI i), .ref ou] D (tyl yI yC yD yL) [(x, oRD tx nw tr kn me sl), (nw, oDrv nc S (lN (kL (S) 0 40))), (nc, aI yI 48 g), (kn, oKn pl ex), (ex, aI yI 1681 E), (ou, aL yL ov)] sz) (va_Qi (fun (r : Int32) (_ : Unit) => r = iI 1 ∧ True) (fun (_ : Unit) (t : State) => va_P D vwCl [(x, oRD tx nw tr kn me sl), (nw, oDrv nc S (lN (kL (S) 0 40))), (nc, aI yI 48 g), (kn, oKn pl ex), (ex, aI yI 1681 E), (ou, aL yL ov)] t.heap ∧ va_D (va_A [(x, oRD tx nw tr kn me sl), (nw, oDrv nc S (lN (kL (S) 0 40))), (nc, aI yI 48 g), (kn, oKn pl ex), (ex, aI yI 1681 E), (ou, aL yL ov)] sz) [(x, oRD tx nw tr kn me sl), (nw, oDrv nc S (lN (kL (S) 0 40))), (nc, aI yI 48 g), (kn, oKn pl ex), (ex, aI yI 1681 E), (ou, aL yL ov)]) (va_A [(x, oRD tx nw tr kn me sl), (nw, oDrv nc S (lN (kL (S) 0 40))), (nc, aI yI 48 g), (kn, oKn pl ex), (ex, aI yI 1681 E), (ou, aL yL ov)] sz)) 8 150 (va_A [(x, oRD tx nw tr kn me sl), (nw, oDrv nc S (lN (kL (S) 0 40))), (nc, aI yI 48 g), (kn, oKn pl ex), (ex, aI yI 1681 E), (ou, aL yL ov)] sz) := by
  refine iv_ofWH (cc := cL_known) (maxL := 4) (ret := (some .int)) (hh := [(0, 9, 12, 28)]) (by decide) rfl ?_
  intro p e s m args below meth c s₁ B hml hv
  obtain ⟨rfl, hsz, hP, hK, hD0, hB⟩ := hv
  have hx := B.exec
  have hb := B.bytes
  have hr := B.returns
  have hts := atoms_spec (ws := wsL_known) B.pre
  have hown : s.vm.findClass RL = some m.cls := findClass_of_methodNamed B.named
  have hlocks := B.notSynchronized
  have htb := vx_table (x := yL_append) B (hts (.codeWith yL_known cL_known 4 (some .int) [(0, 9, 12, 28)]) (by decide +kernel))
  have hKz : va_K D vwCl (tyz yI yC yD) s := hK.sub [0, 1, 2] rfl
  subst hsz
  have hD := hD0.self (sz := s.heap.size)
  generalize hAe : va_A [(x, oRD tx nw tr kn me sl), (nw, oDrv nc S (lN (kL (S) 0 40))), (nc, aI yI 48 g), (kn, oKn pl ex), (ex, aI yI 1681 E), (ou, aL yL ov)] s.heap.size = A at hD hB ⊢
  have hA : ∀ q : Nat, s.heap.size ≤ q → A q := fun q h => by rw [← hAe]; exact Or.inr h
  have hS : va_S A s.heap s.heap [] := va_S.rf
  have hP : va_P D vwCl [(x, oRD tx nw tr kn me sl), (nw, oDrv nc S (lN (kL (S) 0 40))), (nc, aI yI 48 g), (kn, oKn pl ex), (ex, aI yI 1681 E), (ou, aL yL ov)] s.heap := hP
  have hl := lv_entry ([.ref x, .int (iI i), .ref ou]) (n := 4) (Nat.le_of_ble_eq_true rfl)
  rw [lg_entry_eq]
  generalize (lg_sl ([.ref x, .int (iI i), .ref ou]) ++ List.replicate (4 - (lg_sl ([.ref x, .int (iI i), .ref ou])).length) Slot.unset).toArray = ls at hl ⊢
  have hl : lv_has ls 4 [(0, .ref x), (1, .int (iI i)), (2, .ref ou)] := hl
  refine lv_aload_n hx hb dL_known_0 rfl (lv_at hl 2 rfl) ?_
  refine lv_iconst (v := iI 0) hx hb dL_known_1 (by decide +kernel) ?_
  refine lv_aload_n hx hb dL_known_2 rfl (lv_at hl 0 rfl) ?_
  refine lv_iload_n hx hb dL_known_3 rfl (lv_at hl 1 rfl) ?_
  refine iv_lxV (wc := [(x, oRD tx nw tr kn me sl), (nw, oDrv nc S (lN (kL (S) 0 40))), (nc, aI yI 48 g), (kn, oKn pl ex), (ex, aI yI 1681 E)]) (wr := [(ou, aL yL ov)]) (wp := fun (u : Int × (Int → Int)) => match u with | (p9, E9) => [(x, oRD tx nw tr kn me sl), (nw, oDrv nc S (lN (kL (S) 0 40))), (nc, aI yI 48 g), (kn, oKn p9 ex), (ex, aI yI 1681 E9)]) (As := [.int (iI i)]) (rest := [.int (iI 0), .ref ou]) (C := RX4) (n := 1) ⟨hx, hb, hml, hown, hts⟩ (c_X4_known l hla D yI yC yD x tx nw tr kn me sl nc S g ex pl E i hI hR hi9 _) (cwV 1 hts gL_known_X4_known rfl rfl rfl (by decide +kernel) ⟨Nat.le_of_ble_eq_true rfl, Nat.le_of_ble_eq_true rfl⟩) hKz hP hD hS hA hB rfl rfl (fun u t h => by obtain ⟨p9, E9⟩ := u; exact ⟨h, va_D_fst hD.l.self rfl⟩) (fun _ => rfl) rfl hl.1 rfl (Nat.le_of_ble_eq_true rfl) dL_known_4 ⟨Nat.le_of_ble_eq_true rfl, Nat.le_of_ble_eq_true rfl⟩ (fun E9 ce9 ox9 ux H locs hxe hP hD hS hc8 hv8 hcl8 => ?_) (fun r9 u H locs hw hP hD hS => ?_)
  · obtain ⟨rfl, hxc⟩ := hxe
    refine vx_catch (name := eI) hown (tableOf []) ⟨0, 9, 12, 28⟩ (tableOf []) (htb.trans rfl) (fun z hz => absurd hz List.not_mem_nil) rfl (by decide) (hts (.classLink RL 28 eI) (by decide +kernel)) (va_Nw.use rfl hB.1.2.2) hc8 hv8 hcl8 ?_
    have hP : va_P D vwCl [(x, oRD tx nw tr kn me sl), (nw, oDrv nc S (lN (kL (S) 0 40))), (nc, aI yI 48 g), (kn, oKn pl ex), (ex, aI yI 1681 E), (ou, aL yL ov)] H := hP
    have hD : va_D A [(x, oRD tx nw tr kn me sl), (nw, oDrv nc S (lN (kL (S) 0 40))), (nc, aI yI 48 g), (kn, oKn pl ex), (ex, aI yI 1681 E), (ou, aL yL ov)] := hD
    refine lv_astore_n (lv' := [(3, .ref ox9), (0, .ref x), (1, .int (iI i)), (2, .ref ou)]) hx hb dL_known_12 rfl hl (by decide) rfl (fun ls hl => ?_)
    refine lv_iconst (v := iI 1) hx hb dL_known_13 (by decide +kernel) ?_
    have hP9 : va_P D vwCl [(x, oRD tx nw tr kn me sl), (nw, oDrv nc S (lN (kL (S) 0 40))), (nc, aI yI 48 g), (kn, oKn pl ex), (ex, aI yI 1681 E), (ou, aL yL ov)] _ := hP
    have hD9 : va_D A [(x, oRD tx nw tr kn me sl), (nw, oDrv nc S (lN (kL (S) 0 40))), (nc, aI yI 48 g), (kn, oKn pl ex), (ex, aI yI 1681 E), (ou, aL yL ov)] := hD
    exact W.iret hx hb hr (fun t ht hW => ⟨⟨iI 1, (), rfl, ⟨rfl, trivial⟩, ⟨by show va_P D vwCl _ t.heap; rw [ht]; exact hP9, hD9⟩⟩, hS.F ht⟩) hS.2.2 dL_known_14
  · obtain ⟨p9, E9⟩ := u
    obtain ⟨hr9, hpl9⟩ := hw
    exfalso
    first | omega | contradiction
set_option maxHeartbeats 4000000 in
set_option maxRecDepth 100000 in
theorem c_L_knownAt_0 (l : Launch) (hla : l.stackTraces = false) (D : va_G) (yI yC yD yL : ClassId) (x : Nat) (tx : Nat) (nw : Nat) (tr : Nat) (kn : Nat) (me : Nat) (sl : Nat) (nc : Nat) (S : Int → Int) (g : Int → Int) (ex : Nat) (pl : Int) (E : Int → Int) (i : Int) (ou : Nat) (ov : Int64) (hI : Inv S) (hR : Rc S g) (hi9 : inR i) (hc9 : 0 ≤ i) (sz : Nat) : Met l yL_knownAt wsL_knownAt ({ frames := 7, cells := 8, slots := 150, locals := 120 }) (vxP [.ref x, .int (iI i), .ref ou] D (tyl yI yC yD yL) [(x, oRD tx nw tr kn me sl), (nw, oDrv nc S (lN (kL (S) 0 40))), (nc, aI yI 48 g), (kn, oKn pl ex), (ex, aI yI 1681 E), (ou, aL yL ov)] sz) (va_Qi (fun (r : Int32) (u : Int × (Int → Int)) => match u with | (p9, E9) => r = iI 0 ∧ (0 ≤ i)) (fun (u : Int × (Int → Int)) (t : State) => match u with | (p9, E9) => va_P D vwCl [(x, oRD tx nw tr kn me sl), (nw, oDrv nc S (lN (kL (S) 0 40))), (nc, aI yI 48 g), (kn, oKn p9 ex), (ex, aI yI 1681 E9), (ou, aL yL ((iI (kAt (FB S (-1)) i (S 0).toNat)).toInt64))] t.heap ∧ va_D (va_A [(x, oRD tx nw tr kn me sl), (nw, oDrv nc S (lN (kL (S) 0 40))), (nc, aI yI 48 g), (kn, oKn pl ex), (ex, aI yI 1681 E), (ou, aL yL ov)] sz) [(x, oRD tx nw tr kn me sl), (nw, oDrv nc S (lN (kL (S) 0 40))), (nc, aI yI 48 g), (kn, oKn p9 ex), (ex, aI yI 1681 E9), (ou, aL yL ((iI (kAt (FB S (-1)) i (S 0).toNat)).toInt64))]) (va_A [(x, oRD tx nw tr kn me sl), (nw, oDrv nc S (lN (kL (S) 0 40))), (nc, aI yI 48 g), (kn, oKn pl ex), (ex, aI yI 1681 E), (ou, aL yL ov)] sz)) 8 150 (va_A [(x, oRD tx nw tr kn me sl), (nw, oDrv nc S (lN (kL (S) 0 40))), (nc, aI yI 48 g), (kn, oKn pl ex), (ex, aI yI 1681 E), (ou, aL yL ov)] sz) := by
  refine iv_ofWH (cc := cL_knownAt) (maxL := 4) (ret := (some .int)) (hh := [(0, 9, 12, 13)]) (by decide) rfl ?_
  intro p e s m args below meth c s₁ B hml hv
  obtain ⟨rfl, hsz, hP, hK, hD0, hB⟩ := hv
  have hx := B.exec
  have hb := B.bytes
  have hr := B.returns
  have hts := atoms_spec (ws := wsL_knownAt) B.pre
  have hown : s.vm.findClass RL = some m.cls := findClass_of_methodNamed B.named
  have hlocks := B.notSynchronized
  have htb := vx_table (x := yL_append) B (hts (.codeWith yL_knownAt cL_knownAt 4 (some .int) [(0, 9, 12, 13)]) (by decide +kernel))
  have hKz : va_K D vwCl (tyz yI yC yD) s := hK.sub [0, 1, 2] rfl
  subst hsz
  have hD := hD0.self (sz := s.heap.size)
  generalize hAe : va_A [(x, oRD tx nw tr kn me sl), (nw, oDrv nc S (lN (kL (S) 0 40))), (nc, aI yI 48 g), (kn, oKn pl ex), (ex, aI yI 1681 E), (ou, aL yL ov)] s.heap.size = A at hD hB ⊢
  have hA : ∀ q : Nat, s.heap.size ≤ q → A q := fun q h => by rw [← hAe]; exact Or.inr h
  have hS : va_S A s.heap s.heap [] := va_S.rf
  have hP : va_P D vwCl [(x, oRD tx nw tr kn me sl), (nw, oDrv nc S (lN (kL (S) 0 40))), (nc, aI yI 48 g), (kn, oKn pl ex), (ex, aI yI 1681 E), (ou, aL yL ov)] s.heap := hP
  have hl := lv_entry ([.ref x, .int (iI i), .ref ou]) (n := 4) (Nat.le_of_ble_eq_true rfl)
  rw [lg_entry_eq]
  generalize (lg_sl ([.ref x, .int (iI i), .ref ou]) ++ List.replicate (4 - (lg_sl ([.ref x, .int (iI i), .ref ou])).length) Slot.unset).toArray = ls at hl ⊢
  have hl : lv_has ls 4 [(0, .ref x), (1, .int (iI i)), (2, .ref ou)] := hl
  refine lv_aload_n hx hb dL_knownAt_0 rfl (lv_at hl 2 rfl) ?_
  refine lv_iconst (v := iI 0) hx hb dL_knownAt_1 (by decide +kernel) ?_
  refine lv_aload_n hx hb dL_knownAt_2 rfl (lv_at hl 0 rfl) ?_
  refine lv_iload_n hx hb dL_knownAt_3 rfl (lv_at hl 1 rfl) ?_
  refine iv_lxV (wc := [(x, oRD tx nw tr kn me sl), (nw, oDrv nc S (lN (kL (S) 0 40))), (nc, aI yI 48 g), (kn, oKn pl ex), (ex, aI yI 1681 E)]) (wr := [(ou, aL yL ov)]) (wp := fun (u : Int × (Int → Int)) => match u with | (p9, E9) => [(x, oRD tx nw tr kn me sl), (nw, oDrv nc S (lN (kL (S) 0 40))), (nc, aI yI 48 g), (kn, oKn p9 ex), (ex, aI yI 1681 E9)]) (As := [.int (iI i)]) (rest := [.int (iI 0), .ref ou]) (C := RX4) (n := 1) ⟨hx, hb, hml, hown, hts⟩ (c_X4_knownAt l hla D yI yC yD x tx nw tr kn me sl nc S g ex pl E i hI hR hi9 _) (cwV 1 hts gL_knownAt_X4_knownAt rfl rfl rfl (by decide +kernel) ⟨Nat.le_of_ble_eq_true rfl, Nat.le_of_ble_eq_true rfl⟩) hKz hP hD hS hA hB rfl rfl (fun u t h => by obtain ⟨p9, E9⟩ := u; exact ⟨h, va_D_fst hD.l.self rfl⟩) (fun _ => rfl) rfl hl.1 rfl (Nat.le_of_ble_eq_true rfl) dL_knownAt_4 ⟨Nat.le_of_ble_eq_true rfl, Nat.le_of_ble_eq_true rfl⟩ (fun E9 ce9 ox9 ux H locs hxe hP hD hS hc8 hv8 hcl8 => ?_) (fun r9 u H locs hw hP hD hS => ?_)
  · exfalso
    obtain ⟨_, h⟩ := hxe; first | omega | contradiction | exact h (by assumption)
  · obtain ⟨p9, E9⟩ := u
    obtain ⟨hr9, hpl9⟩ := hw
    subst hr9
    have hP : va_P D vwCl [(x, oRD tx nw tr kn me sl), (nw, oDrv nc S (lN (kL (S) 0 40))), (nc, aI yI 48 g), (kn, oKn p9 ex), (ex, aI yI 1681 E9), (ou, aL yL ov)] H := hP
    have hD : va_D A [(x, oRD tx nw tr kn me sl), (nw, oDrv nc S (lN (kL (S) 0 40))), (nc, aI yI 48 g), (kn, oKn p9 ex), (ex, aI yI 1681 E9), (ou, aL yL ov)] := hD
    refine lv_i2l (v := (iI (kAt (FB S (-1)) i (S 0).toNat)).toInt64) hx hb dL_knownAt_7 rfl ?_
    refine iv_lst hx hb hK hP hD hS 5 3 rfl rfl dL_knownAt_8 (fun H locs hP hD hS => ?_)
    have hP : va_P D vwCl [(x, oRD tx nw tr kn me sl), (nw, oDrv nc S (lN (kL (S) 0 40))), (nc, aI yI 48 g), (kn, oKn p9 ex), (ex, aI yI 1681 E9), (ou, aL yL ((iI (kAt (FB S (-1)) i (S 0).toNat)).toInt64))] H := hP
    have hD : va_D A [(x, oRD tx nw tr kn me sl), (nw, oDrv nc S (lN (kL (S) 0 40))), (nc, aI yI 48 g), (kn, oKn p9 ex), (ex, aI yI 1681 E9), (ou, aL yL ((iI (kAt (FB S (-1)) i (S 0).toNat)).toInt64))] := hD
    refine lv_goto (tgt := 15) hx hb dL_knownAt_9 (by decide) ?_
    refine lv_iconst (v := iI 0) hx hb dL_knownAt_15 (by decide +kernel) ?_
    have hP9 : va_P D vwCl [(x, oRD tx nw tr kn me sl), (nw, oDrv nc S (lN (kL (S) 0 40))), (nc, aI yI 48 g), (kn, oKn p9 ex), (ex, aI yI 1681 E9), (ou, aL yL ((iI (kAt (FB S (-1)) i (S 0).toNat)).toInt64))] _ := hP
    have hD9 : va_D A [(x, oRD tx nw tr kn me sl), (nw, oDrv nc S (lN (kL (S) 0 40))), (nc, aI yI 48 g), (kn, oKn p9 ex), (ex, aI yI 1681 E9), (ou, aL yL ((iI (kAt (FB S (-1)) i (S 0).toNat)).toInt64))] := hD
    exact W.iret hx hb hr (fun t ht hW => ⟨⟨iI 0, (p9, E9), rfl, ⟨rfl, hpl9⟩, ⟨by show va_P D vwCl _ t.heap; rw [ht]; exact hP9, hD9⟩⟩, hS.F ht⟩) hS.2.2 dL_knownAt_16
set_option maxHeartbeats 4000000 in
set_option maxRecDepth 100000 in
theorem c_L_knownAt_1 (l : Launch) (hla : l.stackTraces = false) (D : va_G) (yI yC yD yL : ClassId) (x : Nat) (tx : Nat) (nw : Nat) (tr : Nat) (kn : Nat) (me : Nat) (sl : Nat) (nc : Nat) (S : Int → Int) (g : Int → Int) (ex : Nat) (pl : Int) (E : Int → Int) (i : Int) (ou : Nat) (ov : Int64) (hI : Inv S) (hR : Rc S g) (hi9 : inR i) (hc9 : ¬ (0 ≤ i)) (sz : Nat) : Met l yL_knownAt wsL_knownAt ({ frames := 7, cells := 8, slots := 150, locals := 120 }) (vxP [.ref x, .int (iI i), .ref ou] D (tyl yI yC yD yL) [(x, oRD tx nw tr kn me sl), (nw, oDrv nc S (lN (kL (S) 0 40))), (nc, aI yI 48 g), (kn, oKn pl ex), (ex, aI yI 1681 E), (ou, aL yL ov)] sz) (va_Qi (fun (r : Int32) (_ : Unit) => r = iI 1 ∧ True) (fun (_ : Unit) (t : State) => va_P D vwCl [(x, oRD tx nw tr kn me sl), (nw, oDrv nc S (lN (kL (S) 0 40))), (nc, aI yI 48 g), (kn, oKn pl ex), (ex, aI yI 1681 E), (ou, aL yL ov)] t.heap ∧ va_D (va_A [(x, oRD tx nw tr kn me sl), (nw, oDrv nc S (lN (kL (S) 0 40))), (nc, aI yI 48 g), (kn, oKn pl ex), (ex, aI yI 1681 E), (ou, aL yL ov)] sz) [(x, oRD tx nw tr kn me sl), (nw, oDrv nc S (lN (kL (S) 0 40))), (nc, aI yI 48 g), (kn, oKn pl ex), (ex, aI yI 1681 E), (ou, aL yL ov)]) (va_A [(x, oRD tx nw tr kn me sl), (nw, oDrv nc S (lN (kL (S) 0 40))), (nc, aI yI 48 g), (kn, oKn pl ex), (ex, aI yI 1681 E), (ou, aL yL ov)] sz)) 8 150 (va_A [(x, oRD tx nw tr kn me sl), (nw, oDrv nc S (lN (kL (S) 0 40))), (nc, aI yI 48 g), (kn, oKn pl ex), (ex, aI yI 1681 E), (ou, aL yL ov)] sz) := by
  refine iv_ofWH (cc := cL_knownAt) (maxL := 4) (ret := (some .int)) (hh := [(0, 9, 12, 13)]) (by decide) rfl ?_
  intro p e s m args below meth c s₁ B hml hv
  obtain ⟨rfl, hsz, hP, hK, hD0, hB⟩ := hv
  have hx := B.exec
  have hb := B.bytes
  have hr := B.returns
  have hts := atoms_spec (ws := wsL_knownAt) B.pre
  have hown : s.vm.findClass RL = some m.cls := findClass_of_methodNamed B.named
  have hlocks := B.notSynchronized
  have htb := vx_table (x := yL_append) B (hts (.codeWith yL_knownAt cL_knownAt 4 (some .int) [(0, 9, 12, 13)]) (by decide +kernel))
  have hKz : va_K D vwCl (tyz yI yC yD) s := hK.sub [0, 1, 2] rfl
  subst hsz
  have hD := hD0.self (sz := s.heap.size)
  generalize hAe : va_A [(x, oRD tx nw tr kn me sl), (nw, oDrv nc S (lN (kL (S) 0 40))), (nc, aI yI 48 g), (kn, oKn pl ex), (ex, aI yI 1681 E), (ou, aL yL ov)] s.heap.size = A at hD hB ⊢
  have hA : ∀ q : Nat, s.heap.size ≤ q → A q := fun q h => by rw [← hAe]; exact Or.inr h
  have hS : va_S A s.heap s.heap [] := va_S.rf
  have hP : va_P D vwCl [(x, oRD tx nw tr kn me sl), (nw, oDrv nc S (lN (kL (S) 0 40))), (nc, aI yI 48 g), (kn, oKn pl ex), (ex, aI yI 1681 E), (ou, aL yL ov)] s.heap := hP
  have hl := lv_entry ([.ref x, .int (iI i), .ref ou]) (n := 4) (Nat.le_of_ble_eq_true rfl)
  rw [lg_entry_eq]
  generalize (lg_sl ([.ref x, .int (iI i), .ref ou]) ++ List.replicate (4 - (lg_sl ([.ref x, .int (iI i), .ref ou])).length) Slot.unset).toArray = ls at hl ⊢
  have hl : lv_has ls 4 [(0, .ref x), (1, .int (iI i)), (2, .ref ou)] := hl
  refine lv_aload_n hx hb dL_knownAt_0 rfl (lv_at hl 2 rfl) ?_
  refine lv_iconst (v := iI 0) hx hb dL_knownAt_1 (by decide +kernel) ?_
  refine lv_aload_n hx hb dL_knownAt_2 rfl (lv_at hl 0 rfl) ?_
  refine lv_iload_n hx hb dL_knownAt_3 rfl (lv_at hl 1 rfl) ?_
  refine iv_lxV (wc := [(x, oRD tx nw tr kn me sl), (nw, oDrv nc S (lN (kL (S) 0 40))), (nc, aI yI 48 g), (kn, oKn pl ex), (ex, aI yI 1681 E)]) (wr := [(ou, aL yL ov)]) (wp := fun (u : Int × (Int → Int)) => match u with | (p9, E9) => [(x, oRD tx nw tr kn me sl), (nw, oDrv nc S (lN (kL (S) 0 40))), (nc, aI yI 48 g), (kn, oKn p9 ex), (ex, aI yI 1681 E9)]) (As := [.int (iI i)]) (rest := [.int (iI 0), .ref ou]) (C := RX4) (n := 1) ⟨hx, hb, hml, hown, hts⟩ (c_X4_knownAt l hla D yI yC yD x tx nw tr kn me sl nc S g ex pl E i hI hR hi9 _) (cwV 1 hts gL_knownAt_X4_knownAt rfl rfl rfl (by decide +kernel) ⟨Nat.le_of_ble_eq_true rfl, Nat.le_of_ble_eq_true rfl⟩) hKz hP hD hS hA hB rfl rfl (fun u t h => by obtain ⟨p9, E9⟩ := u; exact ⟨h, va_D_fst hD.l.self rfl⟩) (fun _ => rfl) rfl hl.1 rfl (Nat.le_of_ble_eq_true rfl) dL_knownAt_4 ⟨Nat.le_of_ble_eq_true rfl, Nat.le_of_ble_eq_true rfl⟩ (fun E9 ce9 ox9 ux H locs hxe hP hD hS hc8 hv8 hcl8 => ?_) (fun r9 u H locs hw hP hD hS => ?_)
  · obtain ⟨rfl, hxc⟩ := hxe
    refine vx_catch (name := eA) hown (tableOf []) ⟨0, 9, 12, 13⟩ (tableOf []) (htb.trans rfl) (fun z hz => absurd hz List.not_mem_nil) rfl (by decide) (hts (.classLink RL 13 eA) (by decide +kernel)) (va_Nw.use rfl hB.1.1) hc8 hv8 hcl8 ?_
    have hP : va_P D vwCl [(x, oRD tx nw tr kn me sl), (nw, oDrv nc S (lN (kL (S) 0 40))), (nc, aI yI 48 g), (kn, oKn pl ex), (ex, aI yI 1681 E), (ou, aL yL ov)] H := hP
    have hD : va_D A [(x, oRD tx nw tr kn me sl), (nw, oDrv nc S (lN (kL (S) 0 40))), (nc, aI yI 48 g), (kn, oKn pl ex), (ex, aI yI 1681 E), (ou, aL yL ov)] := hD
    refine lv_astore_n (lv' := [(3, .ref ox9), (0, .ref x), (1, .int (iI i)), (2, .ref ou)]) hx hb dL_knownAt_12 rfl hl (by decide) rfl (fun ls hl => ?_)
    refine lv_iconst (v := iI 1) hx hb dL_knownAt_13 (by decide +kernel) ?_
    have hP9 : va_P D vwCl [(x, oRD tx nw tr kn me sl), (nw, oDrv nc S (lN (kL (S) 0 40))), (nc, aI yI 48 g), (kn, oKn pl ex), (ex, aI yI 1681 E), (ou, aL yL ov)] _ := hP
    have hD9 : va_D A [(x, oRD tx nw tr kn me sl), (nw, oDrv nc S (lN (kL (S) 0 40))), (nc, aI yI 48 g), (kn, oKn pl ex), (ex, aI yI 1681 E), (ou, aL yL ov)] := hD
    exact W.iret hx hb hr (fun t ht hW => ⟨⟨iI 1, (), rfl, ⟨rfl, trivial⟩, ⟨by show va_P D vwCl _ t.heap; rw [ht]; exact hP9, hD9⟩⟩, hS.F ht⟩) hS.2.2 dL_knownAt_14
  · obtain ⟨p9, E9⟩ := u
    obtain ⟨hr9, hpl9⟩ := hw
    exfalso
    first | omega | contradiction
