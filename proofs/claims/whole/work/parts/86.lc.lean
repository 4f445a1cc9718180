set_option maxHeartbeats 4000000 in
set_option maxRecDepth 100000 in
theorem c_L_runScript_0 (l : Launch) (hla : l.stackTraces = false) (D : va_G) (yI yC yD yL : ClassId) (x : Nat) (tx : Nat) (nw : Nat) (tr : Nat) (kn : Nat) (me : Nat) (sl : Nat) (nc : Nat) (S : Int → Int) (g : Int → Int) (tc : Nat) (S2 : Int → Int) (g2 : Int → Int) (k2 : Int64) (ex : Nat) (pl : Int) (E : Int → Int) (nn : Int) (xx : Int64) (ou : Nat) (ov : Int64) (hI : Inv S) (hR : Rc S g) (hn9 : inR nn) (hc9 : (1 ≤ nn ∧ nn ≤ 3) ∧ 0 ≤ xx.toInt ∧ xx.toInt < bnd3 nn) (sz : Nat) : Met l yL_runScript wsL_runScript ({ frames := 7, cells := 8, slots := 150, locals := 168 }) (vxP [.ref x, .int (iI nn), .long xx, .ref ou] D (tyl yI yC yD yL) [(x, oRD tx nw tr kn me sl), (nw, oDrv nc S (lN (kL (S) 0 40))), (nc, aI yI 48 g), (tr, oDrv tc S2 k2), (tc, aI yI 48 g2), (kn, oKn pl ex), (ex, aI yI 1681 E), (ou, aL yL ov)] sz) (va_Qi (fun (r : Int32) (u : (Int → Int) × (Int → Int) × Int64 × Int × (Int → Int)) => match u with | (S9, G9, k9, p9, E9) => r = iI 0 ∧ (((1 ≤ nn ∧ nn ≤ 3) ∧ 0 ≤ xx.toInt ∧ xx.toInt < bnd3 nn))) (fun (u : (Int → Int) × (Int → Int) × Int64 × Int × (Int → Int)) (t : State) => match u with | (S9, G9, k9, p9, E9) => va_P D vwCl [(x, oRD tx nw tr kn me sl), (nw, oDrv nc S (lN (kL (S) 0 40))), (nc, aI yI 48 g), (tr, oDrv tc S9 k9), (tc, aI yI 48 G9), (kn, oKn p9 ex), (ex, aI yI 1681 E9), (ou, aL yL ((iI (rsL xx.toInt nn.toNat S 0)).toInt64))] t.heap ∧ va_D (va_A [(x, oRD tx nw tr kn me sl), (nw, oDrv nc S (lN (kL (S) 0 40))), (nc, aI yI 48 g), (tr, oDrv tc S2 k2), (tc, aI yI 48 g2), (kn, oKn pl ex), (ex, aI yI 1681 E), (ou, aL yL ov)] sz) [(x, oRD tx nw tr kn me sl), (nw, oDrv nc S (lN (kL (S) 0 40))), (nc, aI yI 48 g), (tr, oDrv tc S9 k9), (tc, aI yI 48 G9), (kn, oKn p9 ex), (ex, aI yI 1681 E9), (ou, aL yL ((iI (rsL xx.toInt nn.toNat S 0)).toInt64))]) (va_A [(x, oRD tx nw tr kn me sl), (nw, oDrv nc S (lN (kL (S) 0 40))), (nc, aI yI 48 g), (tr, oDrv tc S2 k2), (tc, aI yI 48 g2), (kn, oKn pl ex), (ex, aI yI 1681 E), (ou, aL yL ov)] sz)) 8 150 (va_A [(x, oRD tx nw tr kn me sl), (nw, oDrv nc S (lN (kL (S) 0 40))), (nc, aI yI 48 g), (tr, oDrv tc S2 k2), (tc, aI yI 48 g2), (kn, oKn pl ex), (ex, aI yI 1681 E), (ou, aL yL ov)] sz) := by
  refine iv_ofWH (cc := cL_runScript) (maxL := 6) (ret := (some .int)) (hh := [(0, 11, 14, 13)]) (by decide) rfl ?_
  intro p e s m args below meth c s₁ B hml hv
  obtain ⟨rfl, hsz, hP, hK, hD0, hB⟩ := hv
  have hx := B.exec
  have hb := B.bytes
  have hr := B.returns
  have hts := atoms_spec (ws := wsL_runScript) B.pre
  have hown : s.vm.findClass RL = some m.cls := findClass_of_methodNamed B.named
  have hlocks := B.notSynchronized
  have htb := vx_table (x := yL_append) B (hts (.codeWith yL_runScript cL_runScript 6 (some .int) [(0, 11, 14, 13)]) (by decide +kernel))
  have hKz : va_K D vwCl (tyz yI yC yD) s := hK.sub [0, 1, 2] rfl
  subst hsz
  have hD := hD0.self (sz := s.heap.size)
  generalize hAe : va_A [(x, oRD tx nw tr kn me sl), (nw, oDrv nc S (lN (kL (S) 0 40))), (nc, aI yI 48 g), (tr, oDrv tc S2 k2), (tc, aI yI 48 g2), (kn, oKn pl ex), (ex, aI yI 1681 E), (ou, aL yL ov)] s.heap.size = A at hD hB ⊢
  have hA : ∀ q : Nat, s.heap.size ≤ q → A q := fun q h => by rw [← hAe]; exact Or.inr h
  have hS : va_S A s.heap s.heap [] := va_S.rf
  have hP : va_P D vwCl [(x, oRD tx nw tr kn me sl), (nw, oDrv nc S (lN (kL (S) 0 40))), (nc, aI yI 48 g), (tr, oDrv tc S2 k2), (tc, aI yI 48 g2), (kn, oKn pl ex), (ex, aI yI 1681 E), (ou, aL yL ov)] s.heap := hP
  have hl := lv_entry ([.ref x, .int (iI nn), .long xx, .ref ou]) (n := 6) (Nat.le_of_ble_eq_true rfl)
  rw [lg_entry_eq]
  generalize (lg_sl ([.ref x, .int (iI nn), .long xx, .ref ou]) ++ List.replicate (6 - (lg_sl ([.ref x, .int (iI nn), .long xx, .ref ou])).length) Slot.unset).toArray = ls at hl ⊢
  have hl : lv_has ls 6 [(0, .ref x), (1, .int (iI nn)), (2, .long xx), (4, .ref ou)] := hl
  refine lv_aload hx hb dL_runScript_0 (lv_at hl 3 rfl) ?_
  refine lv_iconst (v := iI 0) hx hb dL_runScript_2 (by decide +kernel) ?_
  refine lv_aload_n hx hb dL_runScript_3 rfl (lv_at hl 0 rfl) ?_
  refine lv_iload_n hx hb dL_runScript_4 rfl (lv_at hl 1 rfl) ?_
  refine lv_lload_n hx hb dL_runScript_5 rfl (lv_at hl 2 rfl) ?_
  refine iv_lxV (wc := [(x, oRD tx nw tr kn me sl), (nw, oDrv nc S (lN (kL (S) 0 40))), (nc, aI yI 48 g), (tr, oDrv tc S2 k2), (tc, aI yI 48 g2), (kn, oKn pl ex), (ex, aI yI 1681 E)]) (wr := [(ou, aL yL ov)]) (wp := fun (u : (Int → Int) × (Int → Int) × Int64 × Int × (Int → Int)) => match u with | (S9, G9, k9, p9, E9) => [(x, oRD tx nw tr kn me sl), (nw, oDrv nc S (lN (kL (S) 0 40))), (nc, aI yI 48 g), (tr, oDrv tc S9 k9), (tc, aI yI 48 G9), (kn, oKn p9 ex), (ex, aI yI 1681 E9)]) (As := [.int (iI nn), .long xx]) (rest := [.int (iI 0), .ref ou]) (C := RX4) (n := 2) ⟨hx, hb, hml, hown, hts⟩ (c_X4_runScript l hla D yI yC yD x tx nw tr kn me sl nc S g tc S2 g2 k2 ex pl E nn xx hI hR hn9 _) (cwV 2 hts gL_runScript_X4_runScript rfl rfl rfl (by decide +kernel) ⟨Nat.le_of_ble_eq_true rfl, Nat.le_of_ble_eq_true rfl⟩) hKz hP hD hS hA hB rfl rfl (fun u t h => by obtain ⟨S9, G9, k9, p9, E9⟩ := u; exact ⟨h, va_D_fst hD.l.self rfl⟩) (fun _ => rfl) rfl hl.1 rfl (Nat.le_of_ble_eq_true rfl) dL_runScript_6 ⟨Nat.le_of_ble_eq_true rfl, Nat.le_of_ble_eq_true rfl⟩ (fun E9 ce9 ox9 ux H locs hxe hP hD hS hc8 hv8 hcl8 => ?_) (fun r9 u H locs hw hP hD hS => ?_)
  · exfalso
    obtain ⟨_, h⟩ := hxe; first | omega | contradiction | exact h (by assumption)
  · obtain ⟨S9, G9, k9, p9, E9⟩ := u
    obtain ⟨hr9, hcs9⟩ := hw
    subst hr9
    have hP : va_P D vwCl [(x, oRD tx nw tr kn me sl), (nw, oDrv nc S (lN (kL (S) 0 40))), (nc, aI yI 48 g), (tr, oDrv tc S9 k9), (tc, aI yI 48 G9), (kn, oKn p9 ex), (ex, aI yI 1681 E9), (ou, aL yL ov)] H := hP
    have hD : va_D A [(x, oRD tx nw tr kn me sl), (nw, oDrv nc S (lN (kL (S) 0 40))), (nc, aI yI 48 g), (tr, oDrv tc S9 k9), (tc, aI yI 48 G9), (kn, oKn p9 ex), (ex, aI yI 1681 E9), (ou, aL yL ov)] := hD
    refine lv_i2l (v := (iI (rsL xx.toInt nn.toNat S 0)).toInt64) hx hb dL_runScript_9 rfl ?_
    refine iv_lst hx hb hK hP hD hS 7 3 rfl rfl dL_runScript_10 (fun H locs hP hD hS => ?_)
    have hP : va_P D vwCl [(x, oRD tx nw tr kn me sl), (nw, oDrv nc S (lN (kL (S) 0 40))), (nc, aI yI 48 g), (tr, oDrv tc S9 k9), (tc, aI yI 48 G9), (kn, oKn p9 ex), (ex, aI yI 1681 E9), (ou, aL yL ((iI (rsL xx.toInt nn.toNat S 0)).toInt64))] H := hP
    have hD : va_D A [(x, oRD tx nw tr kn me sl), (nw, oDrv nc S (lN (kL (S) 0 40))), (nc, aI yI 48 g), (tr, oDrv tc S9 k9), (tc, aI yI 48 G9), (kn, oKn p9 ex), (ex, aI yI 1681 E9), (ou, aL yL ((iI (rsL xx.toInt nn.toNat S 0)).toInt64))] := hD
    refine lv_goto (tgt := 18) hx hb dL_runScript_11 (by decide) ?_
    refine lv_iconst (v := iI 0) hx hb dL_runScript_18 (by decide +kernel) ?_
    have hP9 : va_P D vwCl [(x, oRD tx nw tr kn me sl), (nw, oDrv nc S (lN (kL (S) 0 40))), (nc, aI yI 48 g), (tr, oDrv tc S9 k9), (tc, aI yI 48 G9), (kn, oKn p9 ex), (ex, aI yI 1681 E9), (ou, aL yL ((iI (rsL xx.toInt nn.toNat S 0)).toInt64))] _ := hP
    have hD9 : va_D A [(x, oRD tx nw tr kn me sl), (nw, oDrv nc S (lN (kL (S) 0 40))), (nc, aI yI 48 g), (tr, oDrv tc S9 k9), (tc, aI yI 48 G9), (kn, oKn p9 ex), (ex, aI yI 1681 E9), (ou, aL yL ((iI (rsL xx.toInt nn.toNat S 0)).toInt64))] := hD
    exact W.iret hx hb hr (fun t ht hW => ⟨⟨iI 0, (S9, G9, k9, p9, E9), rfl, ⟨rfl, hcs9⟩, ⟨by show va_P D vwCl _ t.heap; rw [ht]; exact hP9, hD9⟩⟩, hS.F ht⟩) hS.2.2 dL_runScript_19
set_option maxHeartbeats 4000000 in
set_option maxRecDepth 100000 in
theorem c_L_runScript_1 (l : Launch) (hla : l.stackTraces = false) (D : va_G) (yI yC yD yL : ClassId) (x : Nat) (tx : Nat) (nw : Nat) (tr : Nat) (kn : Nat) (me : Nat) (sl : Nat) (nc : Nat) (S : Int → Int) (g : Int → Int) (tc : Nat) (S2 : Int → Int) (g2 : Int → Int) (k2 : Int64) (ex : Nat) (pl : Int) (E : Int → Int) (nn : Int) (xx : Int64) (ou : Nat) (ov : Int64) (hI : Inv S) (hR : Rc S g) (hn9 : inR nn) (hc9 : ¬ ((1 ≤ nn ∧ nn ≤ 3) ∧ 0 ≤ xx.toInt ∧ xx.toInt < bnd3 nn)) (sz : Nat) : Met l yL_runScript wsL_runScript ({ frames := 7, cells := 8, slots := 150, locals := 168 }) (vxP [.ref x, .int (iI nn), .long xx, .ref ou] D (tyl yI yC yD yL) [(x, oRD tx nw tr kn me sl), (nw, oDrv nc S (lN (kL (S) 0 40))), (nc, aI yI 48 g), (tr, oDrv tc S2 k2), (tc, aI yI 48 g2), (kn, oKn pl ex), (ex, aI yI 1681 E), (ou, aL yL ov)] sz) (va_Qi (fun (r : Int32) (_ : Unit) => r = iI 1 ∧ True) (fun (_ : Unit) (t : State) => va_P D vwCl [(x, oRD tx nw tr kn me sl), (nw, oDrv nc S (lN (kL (S) 0 40))), (nc, aI yI 48 g), (tr, oDrv tc S2 k2), (tc, aI yI 48 g2), (kn, oKn pl ex), (ex, aI yI 1681 E), (ou, aL yL ov)] t.heap ∧ va_D (va_A [(x, oRD tx nw tr kn me sl), (nw, oDrv nc S (lN (kL (S) 0 40))), (nc, aI yI 48 g), (tr, oDrv tc S2 k2), (tc, aI yI 48 g2), (kn, oKn pl ex), (ex, aI yI 1681 E), (ou, aL yL ov)] sz) [(x, oRD tx nw tr kn me sl), (nw, oDrv nc S (lN (kL (S) 0 40))), (nc, aI yI 48 g), (tr, oDrv tc S2 k2), (tc, aI yI 48 g2), (kn, oKn pl ex), (ex, aI yI 1681 E), (ou, aL yL ov)]) (va_A [(x, oRD tx nw tr kn me sl), (nw, oDrv nc S (lN (kL (S) 0 40))), (nc, aI yI 48 g), (tr, oDrv tc S2 k2), (tc, aI yI 48 g2), (kn, oKn pl ex), (ex, aI yI 1681 E), (ou, aL yL ov)] sz)) 8 150 (va_A [(x, oRD tx nw tr kn me sl), (nw, oDrv nc S (lN (kL (S) 0 40))), (nc, aI yI 48 g), (tr, oDrv tc S2 k2), (tc, aI yI 48 g2), (kn, oKn pl ex), (ex, aI yI 1681 E), (ou, aL yL ov)] sz) := by
  refine iv_ofWH (cc := cL_runScript) (maxL := 6) (ret := (some .int)) (hh := [(0, 11, 14, 13)]) (by decide) rfl ?_
  intro p e s m args below meth c s₁ B hml hv
  obtain ⟨rfl, hsz, hP, hK, hD0, hB⟩ := hv
  have hx := B.exec
  have hb := B.bytes
  have hr := B.returns
  have hts := atoms_spec (ws := wsL_runScript) B.pre
  have hown : s.vm.findClass RL = some m.cls := findClass_of_methodNamed B.named
  have hlocks := B.notSynchronized
  have htb := vx_table (x := yL_append) B (hts (.codeWith yL_runScript cL_runScript 6 (some .int) [(0, 11, 14, 13)]) (by decide +kernel))
  have hKz : va_K D vwCl (tyz yI yC yD) s := hK.sub [0, 1, 2] rfl
  subst hsz
  have hD := hD0.self (sz := s.heap.size)
  generalize hAe : va_A [(x, oRD tx nw tr kn me sl), (nw, oDrv nc S (lN (kL (S) 0 40))), (nc, aI yI 48 g), (tr, oDrv tc S2 k2), (tc, aI yI 48 g2), (kn, oKn pl ex), (ex, aI yI 1681 E), (ou, aL yL ov)] s.heap.size = A at hD hB ⊢
  have hA : ∀ q : Nat, s.heap.size ≤ q → A q := fun q h => by rw [← hAe]; exact Or.inr h
  have hS : va_S A s.heap s.heap [] := va_S.rf
  have hP : va_P D vwCl [(x, oRD tx nw tr kn me sl), (nw, oDrv nc S (lN (kL (S) 0 40))), (nc, aI yI 48 g), (tr, oDrv tc S2 k2), (tc, aI yI 48 g2), (kn, oKn pl ex), (ex, aI yI 1681 E), (ou, aL yL ov)] s.heap := hP
  have hl := lv_entry ([.ref x, .int (iI nn), .long xx, .ref ou]) (n := 6) (Nat.le_of_ble_eq_true rfl)
  rw [lg_entry_eq]
  generalize (lg_sl ([.ref x, .int (iI nn), .long xx, .ref ou]) ++ List.replicate (6 - (lg_sl ([.ref x, .int (iI nn), .long xx, .ref ou])).length) Slot.unset).toArray = ls at hl ⊢
  have hl : lv_has ls 6 [(0, .ref x), (1, .int (iI nn)), (2, .long xx), (4, .ref ou)] := hl
  refine lv_aload hx hb dL_runScript_0 (lv_at hl 3 rfl) ?_
  refine lv_iconst (v := iI 0) hx hb dL_runScript_2 (by decide +kernel) ?_
  refine lv_aload_n hx hb dL_runScript_3 rfl (lv_at hl 0 rfl) ?_
  refine lv_iload_n hx hb dL_runScript_4 rfl (lv_at hl 1 rfl) ?_
  refine lv_lload_n hx hb dL_runScript_5 rfl (lv_at hl 2 rfl) ?_
  refine iv_lxV (wc := [(x, oRD tx nw tr kn me sl), (nw, oDrv nc S (lN (kL (S) 0 40))), (nc, aI yI 48 g), (tr, oDrv tc S2 k2), (tc, aI yI 48 g2), (kn, oKn pl ex), (ex, aI yI 1681 E)]) (wr := [(ou, aL yL ov)]) (wp := fun (u : (Int → Int) × (Int → Int) × Int64 × Int × (Int → Int)) => match u with | (S9, G9, k9, p9, E9) => [(x, oRD tx nw tr kn me sl), (nw, oDrv nc S (lN (kL (S) 0 40))), (nc, aI yI 48 g), (tr, oDrv tc S9 k9), (tc, aI yI 48 G9), (kn, oKn p9 ex), (ex, aI yI 1681 E9)]) (As := [.int (iI nn), .long xx]) (rest := [.int (iI 0), .ref ou]) (C := RX4) (n := 2) ⟨hx, hb, hml, hown, hts⟩ (c_X4_runScript l hla D yI yC yD x tx nw tr kn me sl nc S g tc S2 g2 k2 ex pl E nn xx hI hR hn9 _) (cwV 2 hts gL_runScript_X4_runScript rfl rfl rfl (by decide +kernel) ⟨Nat.le_of_ble_eq_true rfl, Nat.le_of_ble_eq_true rfl⟩) hKz hP hD hS hA hB rfl rfl (fun u t h => by obtain ⟨S9, G9, k9, p9, E9⟩ := u; exact ⟨h, va_D_fst hD.l.self rfl⟩) (fun _ => rfl) rfl hl.1 rfl (Nat.le_of_ble_eq_true rfl) dL_runScript_6 ⟨Nat.le_of_ble_eq_true rfl, Nat.le_of_ble_eq_true rfl⟩ (fun E9 ce9 ox9 ux H locs hxe hP hD hS hc8 hv8 hcl8 => ?_) (fun r9 u H locs hw hP hD hS => ?_)
  · obtain ⟨rfl, hxc⟩ := hxe
    refine vx_catch (name := eA) hown (tableOf []) ⟨0, 11, 14, 13⟩ (tableOf []) (htb.trans rfl) (fun z hz => absurd hz List.not_mem_nil) rfl (by decide) (hts (.classLink RL 13 eA) (by decide +kernel)) (va_Nw.use rfl hB.1.1) hc8 hv8 hcl8 ?_
    have hP : va_P D vwCl [(x, oRD tx nw tr kn me sl), (nw, oDrv nc S (lN (kL (S) 0 40))), (nc, aI yI 48 g), (tr, oDrv tc S2 k2), (tc, aI yI 48 g2), (kn, oKn pl ex), (ex, aI yI 1681 E), (ou, aL yL ov)] H := hP
    have hD : va_D A [(x, oRD tx nw tr kn me sl), (nw, oDrv nc S (lN (kL (S) 0 40))), (nc, aI yI 48 g), (tr, oDrv tc S2 k2), (tc, aI yI 48 g2), (kn, oKn pl ex), (ex, aI yI 1681 E), (ou, aL yL ov)] := hD
    refine lv_astore (lv' := [(5, .ref ox9), (0, .ref x), (1, .int (iI nn)), (2, .long xx), (4, .ref ou)]) hx hb dL_runScript_14 hl (by decide) rfl (fun ls hl => ?_)
    refine lv_iconst (v := iI 1) hx hb dL_runScript_16 (by decide +kernel) ?_
    have hP9 : va_P D vwCl [(x, oRD tx nw tr kn me sl), (nw, oDrv nc S (lN (kL (S) 0 40))), (nc, aI yI 48 g), (tr, oDrv tc S2 k2), (tc, aI yI 48 g2), (kn, oKn pl ex), (ex, aI yI 1681 E), (ou, aL yL ov)] _ := hP
    have hD9 : va_D A [(x, oRD tx nw tr kn me sl), (nw, oDrv nc S (lN (kL (S) 0 40))), (nc, aI yI 48 g), (tr, oDrv tc S2 k2), (tc, aI yI 48 g2), (kn, oKn pl ex), (ex, aI yI 1681 E), (ou, aL yL ov)] := hD
    exact W.iret hx hb hr (fun t ht hW => ⟨⟨iI 1, (), rfl, ⟨rfl, trivial⟩, ⟨by show va_P D vwCl _ t.heap; rw [ht]; exact hP9, hD9⟩⟩, hS.F ht⟩) hS.2.2 dL_runScript_17
  · obtain ⟨S9, G9, k9, p9, E9⟩ := u
    obtain ⟨hr9, hcs9⟩ := hw
    exfalso
    first | omega | contradiction
set_option maxHeartbeats 4000000 in
set_option maxRecDepth 100000 in
theorem c_L_simulate_0 (l : Launch) (hla : l.stackTraces = false) (D : va_G) (yI yC yD yL : ClassId) (x : Nat) (tx : Nat) (nw : Nat) (tr : Nat) (kn : Nat) (me : Nat) (sl : Nat) (nc : Nat) (S : Int → Int) (g : Int → Int) (tc : Nat) (S2 : Int → Int) (g2 : Int → Int) (k2 : Int64) (ex : Nat) (pl : Int) (E : Int → Int) (xx : Int64) (q9 : Int) (ou : Nat) (ov : Int64) (hI : Inv S) (hR : Rc S g) (hq9 : inR q9) (hc9 : 1 ≤ q9 ∧ q9 ≤ 30) (sz : Nat) : Met l yL_simulate wsL_simulate ({ frames := 7, cells := 8, slots := 150, locals := 130 }) (vxP [.ref x, .long xx, .int (iI q9), .ref ou] D (tyl yI yC yD yL) [(x, oRD tx nw tr kn me sl), (nw, oDrv nc S (lN (kL (S) 0 40))), (nc, aI yI 48 g), (tr, oDrv tc S2 k2), (tc, aI yI 48 g2), (kn, oKn pl ex), (ex, aI yI 1681 E), (ou, aL yL ov)] sz) (va_Qi (fun (r : Int32) (u : (Int → Int) × (Int → Int) × Int64 × Int × (Int → Int)) => match u with | (S9, G9, k9, p9, E9) => r = iI 0 ∧ ((1 ≤ q9 ∧ q9 ≤ 30))) (fun (u : (Int → Int) × (Int → Int) × Int64 × Int × (Int → Int)) (t : State) => match u with | (S9, G9, k9, p9, E9) => va_P D vwCl [(x, oRD tx nw tr kn me sl), (nw, oDrv nc S (lN (kL (S) 0 40))), (nc, aI yI 48 g), (tr, oDrv tc S9 k9), (tc, aI yI 48 G9), (kn, oKn p9 ex), (ex, aI yI 1681 E9), (ou, aL yL ((iI (simQ S (simL q9.toNat xx S))).toInt64))] t.heap ∧ va_D (va_A [(x, oRD tx nw tr kn me sl), (nw, oDrv nc S (lN (kL (S) 0 40))), (nc, aI yI 48 g), (tr, oDrv tc S2 k2), (tc, aI yI 48 g2), (kn, oKn pl ex), (ex, aI yI 1681 E), (ou, aL yL ov)] sz) [(x, oRD tx nw tr kn me sl), (nw, oDrv nc S (lN (kL (S) 0 40))), (nc, aI yI 48 g), (tr, oDrv tc S9 k9), (tc, aI yI 48 G9), (kn, oKn p9 ex), (ex, aI yI 1681 E9), (ou, aL yL ((iI (simQ S (simL q9.toNat xx S))).toInt64))]) (va_A [(x, oRD tx nw tr kn me sl), (nw, oDrv nc S (lN (kL (S) 0 40))), (nc, aI yI 48 g), (tr, oDrv tc S2 k2), (tc, aI yI 48 g2), (kn, oKn pl ex), (ex, aI yI 1681 E), (ou, aL yL ov)] sz)) 8 150 (va_A [(x, oRD tx nw tr kn me sl), (nw, oDrv nc S (lN (kL (S) 0 40))), (nc, aI yI 48 g), (tr, oDrv tc S2 k2), (tc, aI yI 48 g2), (kn, oKn pl ex), (ex, aI yI 1681 E), (ou, aL yL ov)] sz) := by
  refine iv_ofWH (cc := cL_simulate) (maxL := 6) (ret := (some .int)) (hh := [(0, 11, 14, 13)]) (by decide) rfl ?_
  intro p e s m args below meth c s₁ B hml hv
  obtain ⟨rfl, hsz, hP, hK, hD0, hB⟩ := hv
  have hx := B.exec
  have hb := B.bytes
  have hr := B.returns
  have hts := atoms_spec (ws := wsL_simulate) B.pre
  have hown : s.vm.findClass RL = some m.cls := findClass_of_methodNamed B.named
  have hlocks := B.notSynchronized
  have htb := vx_table (x := yL_append) B (hts (.codeWith yL_simulate cL_simulate 6 (some .int) [(0, 11, 14, 13)]) (by decide +kernel))
  have hKz : va_K D vwCl (tyz yI yC yD) s := hK.sub [0, 1, 2] rfl
  subst hsz
  have hD := hD0.self (sz := s.heap.size)
  generalize hAe : va_A [(x, oRD tx nw tr kn me sl), (nw, oDrv nc S (lN (kL (S) 0 40))), (nc, aI yI 48 g), (tr, oDrv tc S2 k2), (tc, aI yI 48 g2), (kn, oKn pl ex), (ex, aI yI 1681 E), (ou, aL yL ov)] s.heap.size = A at hD hB ⊢
  have hA : ∀ q : Nat, s.heap.size ≤ q → A q := fun q h => by rw [← hAe]; exact Or.inr h
  have hS : va_S A s.heap s.heap [] := va_S.rf
  have hP : va_P D vwCl [(x, oRD tx nw tr kn me sl), (nw, oDrv nc S (lN (kL (S) 0 40))), (nc, aI yI 48 g), (tr, oDrv tc S2 k2), (tc, aI yI 48 g2), (kn, oKn pl ex), (ex, aI yI 1681 E), (ou, aL yL ov)] s.heap := hP
  have hl := lv_entry ([.ref x, .long xx, .int (iI q9), .ref ou]) (n := 6) (Nat.le_of_ble_eq_true rfl)
  rw [lg_entry_eq]
  generalize (lg_sl ([.ref x, .long xx, .int (iI q9), .ref ou]) ++ List.replicate (6 - (lg_sl ([.ref x, .long xx, .int (iI q9), .ref ou])).length) Slot.unset).toArray = ls at hl ⊢
  have hl : lv_has ls 6 [(0, .ref x), (1, .long xx), (3, .int (iI q9)), (4, .ref ou)] := hl
  refine lv_aload hx hb dL_simulate_0 (lv_at hl 3 rfl) ?_
  refine lv_iconst (v := iI 0) hx hb dL_simulate_2 (by decide +kernel) ?_
  refine lv_aload_n hx hb dL_simulate_3 rfl (lv_at hl 0 rfl) ?_
  refine lv_lload_n hx hb dL_simulate_4 rfl (lv_at hl 1 rfl) ?_
  refine lv_iload_n hx hb dL_simulate_5 rfl (lv_at hl 2 rfl) ?_
  refine iv_lxV (wc := [(x, oRD tx nw tr kn me sl), (nw, oDrv nc S (lN (kL (S) 0 40))), (nc, aI yI 48 g), (tr, oDrv tc S2 k2), (tc, aI yI 48 g2), (kn, oKn pl ex), (ex, aI yI 1681 E)]) (wr := [(ou, aL yL ov)]) (wp := fun (u : (Int → Int) × (Int → Int) × Int64 × Int × (Int → Int)) => match u with | (S9, G9, k9, p9, E9) => [(x, oRD tx nw tr kn me sl), (nw, oDrv nc S (lN (kL (S) 0 40))), (nc, aI yI 48 g), (tr, oDrv tc S9 k9), (tc, aI yI 48 G9), (kn, oKn p9 ex), (ex, aI yI 1681 E9)]) (As := [.long xx, .int (iI q9)]) (rest := [.int (iI 0), .ref ou]) (C := RX4) (n := 2) ⟨hx, hb, hml, hown, hts⟩ (c_X4_simulate l hla D yI yC yD x tx nw tr kn me sl nc S g tc S2 g2 k2 ex pl E xx q9 hI hR hq9 _) (cwV 2 hts gL_simulate_X4_simulate rfl rfl rfl (by decide +kernel) ⟨Nat.le_of_ble_eq_true rfl, Nat.le_of_ble_eq_true rfl⟩) hKz hP hD hS hA hB rfl rfl (fun u t h => by obtain ⟨S9, G9, k9, p9, E9⟩ := u; exact ⟨h, va_D_fst hD.l.self rfl⟩) (fun _ => rfl) rfl hl.1 rfl (Nat.le_of_ble_eq_true rfl) dL_simulate_6 ⟨Nat.le_of_ble_eq_true rfl, Nat.le_of_ble_eq_true rfl⟩ (fun E9 ce9 ox9 ux H locs hxe hP hD hS hc8 hv8 hcl8 => ?_) (fun r9 u H locs hw hP hD hS => ?_)
  · exfalso
    obtain ⟨_, h⟩ := hxe; first | omega | contradiction | exact h (by assumption)
  · obtain ⟨S9, G9, k9, p9, E9⟩ := u
    obtain ⟨hr9, hcq9⟩ := hw
    subst hr9
    have hP : va_P D vwCl [(x, oRD tx nw tr kn me sl), (nw, oDrv nc S (lN (kL (S) 0 40))), (nc, aI yI 48 g), (tr, oDrv tc S9 k9), (tc, aI yI 48 G9), (kn, oKn p9 ex), (ex, aI yI 1681 E9), (ou, aL yL ov)] H := hP
    have hD : va_D A [(x, oRD tx nw tr kn me sl), (nw, oDrv nc S (lN (kL (S) 0 40))), (nc, aI yI 48 g), (tr, oDrv tc S9 k9), (tc, aI yI 48 G9), (kn, oKn p9 ex), (ex, aI yI 1681 E9), (ou, aL yL ov)] := hD
    refine lv_i2l (v := (iI (simQ S (simL q9.toNat xx S))).toInt64) hx hb dL_simulate_9 rfl ?_
    refine iv_lst hx hb hK hP hD hS 7 3 rfl rfl dL_simulate_10 (fun H locs hP hD hS => ?_)
    have hP : va_P D vwCl [(x, oRD tx nw tr kn me sl), (nw, oDrv nc S (lN (kL (S) 0 40))), (nc, aI yI 48 g), (tr, oDrv tc S9 k9), (tc, aI yI 48 G9), (kn, oKn p9 ex), (ex, aI yI 1681 E9), (ou, aL yL ((iI (simQ S (simL q9.toNat xx S))).toInt64))] H := hP
    have hD : va_D A [(x, oRD tx nw tr kn me sl), (nw, oDrv nc S (lN (kL (S) 0 40))), (nc, aI yI 48 g), (tr, oDrv tc S9 k9), (tc, aI yI 48 G9), (kn, oKn p9 ex), (ex, aI yI 1681 E9), (ou, aL yL ((iI (simQ S (simL q9.toNat xx S))).toInt64))] := hD
    refine lv_goto (tgt := 18) hx hb dL_simulate_11 (by decide) ?_
    refine lv_iconst (v := iI 0) hx hb dL_simulate_18 (by decide +kernel) ?_
    have hP9 : va_P D vwCl [(x, oRD tx nw tr kn me sl), (nw, oDrv nc S (lN (kL (S) 0 40))), (nc, aI yI 48 g), (tr, oDrv tc S9 k9), (tc, aI yI 48 G9), (kn, oKn p9 ex), (ex, aI yI 1681 E9), (ou, aL yL ((iI (simQ S (simL q9.toNat xx S))).toInt64))] _ := hP
    have hD9 : va_D A [(x, oRD tx nw tr kn me sl), (nw, oDrv nc S (lN (kL (S) 0 40))), (nc, aI yI 48 g), (tr, oDrv tc S9 k9), (tc, aI yI 48 G9), (kn, oKn p9 ex), (ex, aI yI 1681 E9), (ou, aL yL ((iI (simQ S (simL q9.toNat xx S))).toInt64))] := hD
    exact W.iret hx hb hr (fun t ht hW => ⟨⟨iI 0, (S9, G9, k9, p9, E9), rfl, ⟨rfl, hcq9⟩, ⟨by show va_P D vwCl _ t.heap; rw [ht]; exact hP9, hD9⟩⟩, hS.F ht⟩) hS.2.2 dL_simulate_19
set_option maxHeartbeats 4000000 in
set_option maxRecDepth 100000 in
theorem c_L_simulate_1 (l : Launch) (hla : l.stackTraces = false) (D : va_G) (yI yC yD yL : ClassId) (x : Nat) (tx : Nat) (nw : Nat) (tr : Nat) (kn : Nat) (me : Nat) (sl : Nat) (nc : Nat) (S : Int → Int) (g : Int → Int) (tc : Nat) (S2 : Int → Int) (g2 : Int → Int) (k2 : Int64) (ex : Nat) (pl : Int) (E : Int → Int) (xx : Int64) (q9 : Int) (ou : Nat) (ov : Int64) (hI : Inv S) (hR : Rc S g) (hq9 : inR q9) (hc9 : ¬ (1 ≤ q9 ∧ q9 ≤ 30)) (sz : Nat) : Met l yL_simulate wsL_simulate ({ frames := 7, cells := 8, slots := 150, locals := 130 }) (vxP [.ref x, .long xx, .int (iI q9), .ref ou] D (tyl yI yC yD yL) [(x, oRD tx nw tr kn me sl), (nw, oDrv nc S (lN (kL (S) 0 40))), (nc, aI yI 48 g), (tr, oDrv tc S2 k2), (tc, aI yI 48 g2), (kn, oKn pl ex), (ex, aI yI 1681 E), (ou, aL yL ov)] sz) (va_Qi (fun (r : Int32) (_ : Unit) => r = iI 1 ∧ True) (fun (_ : Unit) (t : State) => va_P D vwCl [(x, oRD tx nw tr kn me sl), (nw, oDrv nc S (lN (kL (S) 0 40))), (nc, aI yI 48 g), (tr, oDrv tc S2 k2), (tc, aI yI 48 g2), (kn, oKn pl ex), (ex, aI yI 1681 E), (ou, aL yL ov)] t.heap ∧ va_D (va_A [(x, oRD tx nw tr kn me sl), (nw, oDrv nc S (lN (kL (S) 0 40))), (nc, aI yI 48 g), (tr, oDrv tc S2 k2), (tc, aI yI 48 g2), (kn, oKn pl ex), (ex, aI yI 1681 E), (ou, aL yL ov)] sz) [(x, oRD tx nw tr kn me sl), (nw, oDrv nc S (lN (kL (S) 0 40))), (nc, aI yI 48 g), (tr, oDrv tc S2 k2), (tc, aI yI 48 g2), (kn, oKn pl ex), (ex, aI yI 1681 E), (ou, aL yL ov)]) (va_A [(x, oRD tx nw tr kn me sl), (nw, oDrv nc S (lN (kL (S) 0 40))), (nc, aI yI 48 g), (tr, oDrv tc S2 k2), (tc, aI yI 48 g2), (kn, oKn pl ex), (ex, aI yI 1681 E), (ou, aL yL ov)] sz)) 8 150 (va_A [(x, oRD tx nw tr kn me sl), (nw, oDrv nc S (lN (kL (S) 0 40))), (nc, aI yI 48 g), (tr, oDrv tc S2 k2), (tc, aI yI 48 g2), (kn, oKn pl ex), (ex, aI yI 1681 E), (ou, aL yL ov)] sz) := by
  refine iv_ofWH (cc := cL_simulate) (maxL := 6) (ret := (some .int)) (hh := [(0, 11, 14, 13)]) (by decide) rfl ?_
  intro p e s m args below meth c s₁ B hml hv
  obtain ⟨rfl, hsz, hP, hK, hD0, hB⟩ := hv
  have hx := B.exec
  have hb := B.bytes
  have hr := B.returns
  have hts := atoms_spec (ws := wsL_simulate) B.pre
  have hown : s.vm.findClass RL = some m.cls := findClass_of_methodNamed B.named
  have hlocks := B.notSynchronized
  have htb := vx_table (x := yL_append) B (hts (.codeWith yL_simulate cL_simulate 6 (some .int) [(0, 11, 14, 13)]) (by decide +kernel))
  have hKz : va_K D vwCl (tyz yI yC yD) s := hK.sub [0, 1, 2] rfl
  subst hsz
  have hD := hD0.self (sz := s.heap.size)
  generalize hAe : va_A [(x, oRD tx nw tr kn me sl), (nw, oDrv nc S (lN (kL (S) 0 40))), (nc, aI yI 48 g), (tr, oDrv tc S2 k2), (tc, aI yI 48 g2), (kn, oKn pl ex), (ex, aI yI 1681 E), (ou, aL yL ov)] s.heap.size = A at hD hB ⊢
  have hA : ∀ q : Nat, s.heap.size ≤ q → A q := fun q h => by rw [← hAe]; exact Or.inr h
  have hS : va_S A s.heap s.heap [] := va_S.rf
  have hP : va_P D vwCl [(x, oRD tx nw tr kn me sl), (nw, oDrv nc S (lN (kL (S) 0 40))), (nc, aI yI 48 g), (tr, oDrv tc S2 k2), (tc, aI yI 48 g2), (kn, oKn pl ex), (ex, aI yI 1681 E), (ou, aL yL ov)] s.heap := hP
  have hl := lv_entry ([.ref x, .long xx, .int (iI q9), .ref ou]) (n := 6) (Nat.le_of_ble_eq_true rfl)
  rw [lg_entry_eq]
  generalize (lg_sl ([.ref x, .long xx, .int (iI q9), .ref ou]) ++ List.replicate (6 - (lg_sl ([.ref x, .long xx, .int (iI q9), .ref ou])).length) Slot.unset).toArray = ls at hl ⊢
  have hl : lv_has ls 6 [(0, .ref x), (1, .long xx), (3, .int (iI q9)), (4, .ref ou)] := hl
  refine lv_aload hx hb dL_simulate_0 (lv_at hl 3 rfl) ?_
  refine lv_iconst (v := iI 0) hx hb dL_simulate_2 (by decide +kernel) ?_
  refine lv_aload_n hx hb dL_simulate_3 rfl (lv_at hl 0 rfl) ?_
  refine lv_lload_n hx hb dL_simulate_4 rfl (lv_at hl 1 rfl) ?_
  refine lv_iload_n hx hb dL_simulate_5 rfl (lv_at hl 2 rfl) ?_
  refine iv_lxV (wc := [(x, oRD tx nw tr kn me sl), (nw, oDrv nc S (lN (kL (S) 0 40))), (nc, aI yI 48 g), (tr, oDrv tc S2 k2), (tc, aI yI 48 g2), (kn, oKn pl ex), (ex, aI yI 1681 E)]) (wr := [(ou, aL yL ov)]) (wp := fun (u : (Int → Int) × (Int → Int) × Int64 × Int × (Int → Int)) => match u with | (S9, G9, k9, p9, E9) => [(x, oRD tx nw tr kn me sl), (nw, oDrv nc S (lN (kL (S) 0 40))), (nc, aI yI 48 g), (tr, oDrv tc S9 k9), (tc, aI yI 48 G9), (kn, oKn p9 ex), (ex, aI yI 1681 E9)]) (As := [.long xx, .int (iI q9)]) (rest := [.int (iI 0), .ref ou]) (C := RX4) (n := 2) ⟨hx, hb, hml, hown, hts⟩ (c_X4_simulate l hla D yI yC yD x tx nw tr kn me sl nc S g tc S2 g2 k2 ex pl E xx q9 hI hR hq9 _) (cwV 2 hts gL_simulate_X4_simulate rfl rfl rfl (by decide +kernel) ⟨Nat.le_of_ble_eq_true rfl, Nat.le_of_ble_eq_true rfl⟩) hKz hP hD hS hA hB rfl rfl (fun u t h => by obtain ⟨S9, G9, k9, p9, E9⟩ := u; exact ⟨h, va_D_fst hD.l.self rfl⟩) (fun _ => rfl) rfl hl.1 rfl (Nat.le_of_ble_eq_true rfl) dL_simulate_6 ⟨Nat.le_of_ble_eq_true rfl, Nat.le_of_ble_eq_true rfl⟩ (fun E9 ce9 ox9 ux H locs hxe hP hD hS hc8 hv8 hcl8 => ?_) (fun r9 u H locs hw hP hD hS => ?_)
  · obtain ⟨rfl, hxc⟩ := hxe
    refine vx_catch (name := eA) hown (tableOf []) ⟨0, 11, 14, 13⟩ (tableOf []) (htb.trans rfl) (fun z hz => absurd hz List.not_mem_nil) rfl (by decide) (hts (.classLink RL 13 eA) (by decide +kernel)) (va_Nw.use rfl hB.1.1) hc8 hv8 hcl8 ?_
    have hP : va_P D vwCl [(x, oRD tx nw tr kn me sl), (nw, oDrv nc S (lN (kL (S) 0 40))), (nc, aI yI 48 g), (tr, oDrv tc S2 k2), (tc, aI yI 48 g2), (kn, oKn pl ex), (ex, aI yI 1681 E), (ou, aL yL ov)] H := hP
    have hD : va_D A [(x, oRD tx nw tr kn me sl), (nw, oDrv nc S (lN (kL (S) 0 40))), (nc, aI yI 48 g), (tr, oDrv tc S2 k2), (tc, aI yI 48 g2), (kn, oKn pl ex), (ex, aI yI 1681 E), (ou, aL yL ov)] := hD
    refine lv_astore (lv' := [(5, .ref ox9), (0, .ref x), (1, .long xx), (3, .int (iI q9)), (4, .ref ou)]) hx hb dL_simulate_14 hl (by decide) rfl (fun ls hl => ?_)
    refine lv_iconst (v := iI 1) hx hb dL_simulate_16 (by decide +kernel) ?_
    have hP9 : va_P D vwCl [(x, oRD tx nw tr kn me sl), (nw, oDrv nc S (lN (kL (S) 0 40))), (nc, aI yI 48 g), (tr, oDrv tc S2 k2), (tc, aI yI 48 g2), (kn, oKn pl ex), (ex, aI yI 1681 E), (ou, aL yL ov)] _ := hP
    have hD9 : va_D A [(x, oRD tx nw tr kn me sl), (nw, oDrv nc S (lN (kL (S) 0 40))), (nc, aI yI 48 g), (tr, oDrv tc S2 k2), (tc, aI yI 48 g2), (kn, oKn pl ex), (ex, aI yI 1681 E), (ou, aL yL ov)] := hD
    exact W.iret hx hb hr (fun t ht hW => ⟨⟨iI 1, (), rfl, ⟨rfl, trivial⟩, ⟨by show va_P D vwCl _ t.heap; rw [ht]; exact hP9, hD9⟩⟩, hS.F ht⟩) hS.2.2 dL_simulate_17
  · obtain ⟨S9, G9, k9, p9, E9⟩ := u
    obtain ⟨hr9, hcq9⟩ := hw
    exfalso
    first | omega | contradiction
set_option maxHeartbeats 4000000 in
set_option maxRecDepth 100000 in
theorem c_L_save_n_0 (l : Launch) (hla : l.stackTraces = false) (D : va_G) (yI yC yD yL : ClassId) (x : Nat) (tx : Nat) (nw : Nat) (tr : Nat) (kn : Nat) (me : Nat) (sl : Nat) (nc : Nat) (S : Int → Int) (g : Int → Int) (fs : Nat → Option Nat) (i : Int) (ou : Nat) (ov : Int64) (hi9 : inR i) (hf : 0 ≤ i ∧ i < 2 → fs i.toNat = none) (hc9 : 0 ≤ i ∧ i < 2) (sz : Nat) : Met l yL_save wsL_save ({ frames := 8, cells := 8, slots := 150, locals := 125 }) (vxP [.ref x, .int (iI i), .ref ou] D (tyl yI yC yD yL) [(x, oRD tx nw tr kn me sl), (nw, oDrv nc S (lN (kL (S) 0 40))), (nc, aI yI 48 g), (sl, aD yD 2 fs), (ou, aL yL ov)] sz) (va_Qi (fun (r : Int32) (u : Nat × Nat) => match u with | (q, qc) => r = iI 0 ∧ (0 ≤ i ∧ i < 2)) (fun (u : Nat × Nat) (t : State) => match u with | (q, qc) => va_P D vwCl [(x, oRD tx nw tr kn me sl), (nw, oDrv nc S (lN (kL (S) 0 40))), (nc, aI yI 48 g), (sl, aD yD 2 (va_up fs i.toNat (some q))), (q, oDrv qc S (lN (kL (S) 0 40))), (qc, aI yI 48 g), (ou, aL yL ((iI (S 4)).toInt64))] t.heap ∧ va_D (va_A [(x, oRD tx nw tr kn me sl), (nw, oDrv nc S (lN (kL (S) 0 40))), (nc, aI yI 48 g), (sl, aD yD 2 fs), (ou, aL yL ov)] sz) [(x, oRD tx nw tr kn me sl), (nw, oDrv nc S (lN (kL (S) 0 40))), (nc, aI yI 48 g), (sl, aD yD 2 (va_up fs i.toNat (some q))), (q, oDrv qc S (lN (kL (S) 0 40))), (qc, aI yI 48 g), (ou, aL yL ((iI (S 4)).toInt64))]) (va_A [(x, oRD tx nw tr kn me sl), (nw, oDrv nc S (lN (kL (S) 0 40))), (nc, aI yI 48 g), (sl, aD yD 2 fs), (ou, aL yL ov)] sz)) 8 150 (va_A [(x, oRD tx nw tr kn me sl), (nw, oDrv nc S (lN (kL (S) 0 40))), (nc, aI yI 48 g), (sl, aD yD 2 fs), (ou, aL yL ov)] sz) := by
  refine iv_ofWH (cc := cL_save) (maxL := 4) (ret := (some .int)) (hh := [(0, 9, 12, 28)]) (by decide) rfl ?_
  intro p e s m args below meth c s₁ B hml hv
  obtain ⟨rfl, hsz, hP, hK, hD0, hB⟩ := hv
  have hx := B.exec
  have hb := B.bytes
  have hr := B.returns
  have hts := atoms_spec (ws := wsL_save) B.pre
  have hown : s.vm.findClass RL = some m.cls := findClass_of_methodNamed B.named
  have hlocks := B.notSynchronized
  have htb := vx_table (x := yL_append) B (hts (.codeWith yL_save cL_save 4 (some .int) [(0, 9, 12, 28)]) (by decide +kernel))
  have hKz : va_K D vwCl (tyz yI yC yD) s := hK.sub [0, 1, 2] rfl
  subst hsz
  have hD := hD0.self (sz := s.heap.size)
  generalize hAe : va_A [(x, oRD tx nw tr kn me sl), (nw, oDrv nc S (lN (kL (S) 0 40))), (nc, aI yI 48 g), (sl, aD yD 2 fs), (ou, aL yL ov)] s.heap.size = A at hD hB ⊢
  have hA : ∀ q : Nat, s.heap.size ≤ q → A q := fun q h => by rw [← hAe]; exact Or.inr h
  have hS : va_S A s.heap s.heap [] := va_S.rf
  have hP : va_P D vwCl [(x, oRD tx nw tr kn me sl), (nw, oDrv nc S (lN (kL (S) 0 40))), (nc, aI yI 48 g), (sl, aD yD 2 fs), (ou, aL yL ov)] s.heap := hP
  have hl := lv_entry ([.ref x, .int (iI i), .ref ou]) (n := 4) (Nat.le_of_ble_eq_true rfl)
  rw [lg_entry_eq]
  generalize (lg_sl ([.ref x, .int (iI i), .ref ou]) ++ List.replicate (4 - (lg_sl ([.ref x, .int (iI i), .ref ou])).length) Slot.unset).toArray = ls at hl ⊢
  have hl : lv_has ls 4 [(0, .ref x), (1, .int (iI i)), (2, .ref ou)] := hl
  refine lv_aload_n hx hb dL_save_0 rfl (lv_at hl 2 rfl) ?_
  refine lv_iconst (v := iI 0) hx hb dL_save_1 (by decide +kernel) ?_
  refine lv_aload_n hx hb dL_save_2 rfl (lv_at hl 0 rfl) ?_
  refine lv_iload_n hx hb dL_save_3 rfl (lv_at hl 1 rfl) ?_
  refine iv_lxV (wc := [(x, oRD tx nw tr kn me sl), (nw, oDrv nc S (lN (kL (S) 0 40))), (nc, aI yI 48 g), (sl, aD yD 2 fs)]) (wr := [(ou, aL yL ov)]) (wp := fun (u : Nat × Nat) => match u with | (q, qc) => [(x, oRD tx nw tr kn me sl), (nw, oDrv nc S (lN (kL (S) 0 40))), (nc, aI yI 48 g), (sl, aD yD 2 (va_up fs i.toNat (some q))), (q, oDrv qc S (lN (kL (S) 0 40))), (qc, aI yI 48 g)]) (As := [.int (iI i)]) (rest := [.int (iI 0), .ref ou]) (C := RX4) (n := 1) ⟨hx, hb, hml, hown, hts⟩ (c_X4_save_n l hla D yI yC yD x tx nw tr kn me sl nc S g fs i hi9 hf _) (cwV 1 hts gL_save_X4_save rfl rfl rfl (by decide +kernel) ⟨Nat.le_of_ble_eq_true rfl, Nat.le_of_ble_eq_true rfl⟩) hKz hP hD hS hA hB rfl rfl (fun u t h => by obtain ⟨q, qc⟩ := u; exact h) (fun _ => rfl) rfl hl.1 rfl (Nat.le_of_ble_eq_true rfl) dL_save_4 ⟨Nat.le_of_ble_eq_true rfl, Nat.le_of_ble_eq_true rfl⟩ (fun E9 ce9 ox9 ux H locs hxe hP hD hS hc8 hv8 hcl8 => ?_) (fun r9 u H locs hw hP hD hS => ?_)
  · exfalso
    obtain ⟨_, h⟩ := hxe; first | omega | contradiction | exact h (by assumption)
  · obtain ⟨q, qc⟩ := u
    obtain ⟨hr9, hps9⟩ := hw
    subst hr9
    have hP : va_P D vwCl [(x, oRD tx nw tr kn me sl), (nw, oDrv nc S (lN (kL (S) 0 40))), (nc, aI yI 48 g), (sl, aD yD 2 (va_up fs i.toNat (some q))), (q, oDrv qc S (lN (kL (S) 0 40))), (qc, aI yI 48 g), (ou, aL yL ov)] H := hP
    have hD : va_D A [(x, oRD tx nw tr kn me sl), (nw, oDrv nc S (lN (kL (S) 0 40))), (nc, aI yI 48 g), (sl, aD yD 2 (va_up fs i.toNat (some q))), (q, oDrv qc S (lN (kL (S) 0 40))), (qc, aI yI 48 g), (ou, aL yL ov)] := hD
    refine lv_i2l (v := (iI (S 4)).toInt64) hx hb dL_save_7 rfl ?_
    refine iv_lst hx hb hK hP hD hS 6 3 rfl rfl dL_save_8 (fun H locs hP hD hS => ?_)
    have hP : va_P D vwCl [(x, oRD tx nw tr kn me sl), (nw, oDrv nc S (lN (kL (S) 0 40))), (nc, aI yI 48 g), (sl, aD yD 2 (va_up fs i.toNat (some q))), (q, oDrv qc S (lN (kL (S) 0 40))), (qc, aI yI 48 g), (ou, aL yL ((iI (S 4)).toInt64))] H := hP
    have hD : va_D A [(x, oRD tx nw tr kn me sl), (nw, oDrv nc S (lN (kL (S) 0 40))), (nc, aI yI 48 g), (sl, aD yD 2 (va_up fs i.toNat (some q))), (q, oDrv qc S (lN (kL (S) 0 40))), (qc, aI yI 48 g), (ou, aL yL ((iI (S 4)).toInt64))] := hD
    refine lv_goto (tgt := 15) hx hb dL_save_9 (by decide) ?_
    refine lv_iconst (v := iI 0) hx hb dL_save_15 (by decide +kernel) ?_
    have hP9 : va_P D vwCl [(x, oRD tx nw tr kn me sl), (nw, oDrv nc S (lN (kL (S) 0 40))), (nc, aI yI 48 g), (sl, aD yD 2 (va_up fs i.toNat (some q))), (q, oDrv qc S (lN (kL (S) 0 40))), (qc, aI yI 48 g), (ou, aL yL ((iI (S 4)).toInt64))] _ := hP
    have hD9 : va_D A [(x, oRD tx nw tr kn me sl), (nw, oDrv nc S (lN (kL (S) 0 40))), (nc, aI yI 48 g), (sl, aD yD 2 (va_up fs i.toNat (some q))), (q, oDrv qc S (lN (kL (S) 0 40))), (qc, aI yI 48 g), (ou, aL yL ((iI (S 4)).toInt64))] := hD
    exact W.iret hx hb hr (fun t ht hW => ⟨⟨iI 0, (q, qc), rfl, ⟨rfl, hps9⟩, ⟨by show va_P D vwCl _ t.heap; rw [ht]; exact hP9, hD9⟩⟩, hS.F ht⟩) hS.2.2 dL_save_16
set_option maxHeartbeats 4000000 in
set_option maxRecDepth 100000 in
theorem c_L_save_n_1 (l : Launch) (hla : l.stackTraces = false) (D : va_G) (yI yC yD yL : ClassId) (x : Nat) (tx : Nat) (nw : Nat) (tr : Nat) (kn : Nat) (me : Nat) (sl : Nat) (nc : Nat) (S : Int → Int) (g : Int → Int) (fs : Nat → Option Nat) (i : Int) (ou : Nat) (ov : Int64) (hi9 : inR i) (hf : 0 ≤ i ∧ i < 2 → fs i.toNat = none) (hc9 : ¬ (0 ≤ i ∧ i < 2)) (sz : Nat) : Met l yL_save wsL_save ({ frames := 8, cells := 8, slots := 150, locals := 125 }) (vxP [.ref x, .int (iI i), .ref ou] D (tyl yI yC yD yL) [(x, oRD tx nw tr kn me sl), (nw, oDrv nc S (lN (kL (S) 0 40))), (nc, aI yI 48 g), (sl, aD yD 2 fs), (ou, aL yL ov)] sz) (va_Qi (fun (r : Int32) (_ : Unit) => r = iI 1 ∧ True) (fun (_ : Unit) (t : State) => va_P D vwCl [(x, oRD tx nw tr kn me sl), (nw, oDrv nc S (lN (kL (S) 0 40))), (nc, aI yI 48 g), (sl, aD yD 2 fs), (ou, aL yL ov)] t.heap ∧ va_D (va_A [(x, oRD tx nw tr kn me sl), (nw, oDrv nc S (lN (kL (S) 0 40))), (nc, aI yI 48 g), (sl, aD yD 2 fs), (ou, aL yL ov)] sz) [(x, oRD tx nw tr kn me sl), (nw, oDrv nc S (lN (kL (S) 0 40))), (nc, aI yI 48 g), (sl, aD yD 2 fs), (ou, aL yL ov)]) (va_A [(x, oRD tx nw tr kn me sl), (nw, oDrv nc S (lN (kL (S) 0 40))), (nc, aI yI 48 g), (sl, aD yD 2 fs), (ou, aL yL ov)] sz)) 8 150 (va_A [(x, oRD tx nw tr kn me sl), (nw, oDrv nc S (lN (kL (S) 0 40))), (nc, aI yI 48 g), (sl, aD yD 2 fs), (ou, aL yL ov)] sz) := by
  refine iv_ofWH (cc := cL_save) (maxL := 4) (ret := (some .int)) (hh := [(0, 9, 12, 28)]) (by decide) rfl ?_
  intro p e s m args below meth c s₁ B hml hv
  obtain ⟨rfl, hsz, hP, hK, hD0, hB⟩ := hv
  have hx := B.exec
  have hb := B.bytes
  have hr := B.returns
  have hts := atoms_spec (ws := wsL_save) B.pre
  have hown : s.vm.findClass RL = some m.cls := findClass_of_methodNamed B.named
  have hlocks := B.notSynchronized
  have htb := vx_table (x := yL_append) B (hts (.codeWith yL_save cL_save 4 (some .int) [(0, 9, 12, 28)]) (by decide +kernel))
  have hKz : va_K D vwCl (tyz yI yC yD) s := hK.sub [0, 1, 2] rfl
  subst hsz
  have hD := hD0.self (sz := s.heap.size)
  generalize hAe : va_A [(x, oRD tx nw tr kn me sl), (nw, oDrv nc S (lN (kL (S) 0 40))), (nc, aI yI 48 g), (sl, aD yD 2 fs), (ou, aL yL ov)] s.heap.size = A at hD hB ⊢
  have hA : ∀ q : Nat, s.heap.size ≤ q → A q := fun q h => by rw [← hAe]; exact Or.inr h
  have hS : va_S A s.heap s.heap [] := va_S.rf
  have hP : va_P D vwCl [(x, oRD tx nw tr kn me sl), (nw, oDrv nc S (lN (kL (S) 0 40))), (nc, aI yI 48 g), (sl, aD yD 2 fs), (ou, aL yL ov)] s.heap := hP
  have hl := lv_entry ([.ref x, .int (iI i), .ref ou]) (n := 4) (Nat.le_of_ble_eq_true rfl)
  rw [lg_entry_eq]
  generalize (lg_sl ([.ref x, .int (iI i), .ref ou]) ++ List.replicate (4 - (lg_sl ([.ref x, .int (iI i), .ref ou])).length) Slot.unset).toArray = ls at hl ⊢
  have hl : lv_has ls 4 [(0, .ref x), (1, .int (iI i)), (2, .ref ou)] := hl
  refine lv_aload_n hx hb dL_save_0 rfl (lv_at hl 2 rfl) ?_
  refine lv_iconst (v := iI 0) hx hb dL_save_1 (by decide +kernel) ?_
  refine lv_aload_n hx hb dL_save_2 rfl (lv_at hl 0 rfl) ?_
  refine lv_iload_n hx hb dL_save_3 rfl (lv_at hl 1 rfl) ?_
  refine iv_lxV (wc := [(x, oRD tx nw tr kn me sl), (nw, oDrv nc S (lN (kL (S) 0 40))), (nc, aI yI 48 g), (sl, aD yD 2 fs)]) (wr := [(ou, aL yL ov)]) (wp := fun (u : Nat × Nat) => match u with | (q, qc) => [(x, oRD tx nw tr kn me sl), (nw, oDrv nc S (lN (kL (S) 0 40))), (nc, aI yI 48 g), (sl, aD yD 2 (va_up fs i.toNat (some q))), (q, oDrv qc S (lN (kL (S) 0 40))), (qc, aI yI 48 g)]) (As := [.int (iI i)]) (rest := [.int (iI 0), .ref ou]) (C := RX4) (n := 1) ⟨hx, hb, hml, hown, hts⟩ (c_X4_save_n l hla D yI yC yD x tx nw tr kn me sl nc S g fs i hi9 hf _) (cwV 1 hts gL_save_X4_save rfl rfl rfl (by decide +kernel) ⟨Nat.le_of_ble_eq_true rfl, Nat.le_of_ble_eq_true rfl⟩) hKz hP hD hS hA hB rfl rfl (fun u t h => by obtain ⟨q, qc⟩ := u; exact h) (fun _ => rfl) rfl hl.1 rfl (Nat.le_of_ble_eq_true rfl) dL_save_4 ⟨Nat.le_of_ble_eq_true rfl, Nat.le_of_ble_eq_true rfl⟩ (fun E9 ce9 ox9 ux H locs hxe hP hD hS hc8 hv8 hcl8 => ?_) (fun r9 u H locs hw hP hD hS => ?_)
  · obtain ⟨rfl, hxc⟩ := hxe
    refine vx_catch (name := eI) hown (tableOf []) ⟨0, 9, 12, 28⟩ (tableOf []) (htb.trans rfl) (fun z hz => absurd hz List.not_mem_nil) rfl (by decide) (hts (.classLink RL 28 eI) (by decide +kernel)) (va_Nw.use rfl hB.1.2.2) hc8 hv8 hcl8 ?_
    have hP : va_P D vwCl [(x, oRD tx nw tr kn me sl), (nw, oDrv nc S (lN (kL (S) 0 40))), (nc, aI yI 48 g), (sl, aD yD 2 fs), (ou, aL yL ov)] H := hP
    have hD : va_D A [(x, oRD tx nw tr kn me sl), (nw, oDrv nc S (lN (kL (S) 0 40))), (nc, aI yI 48 g), (sl, aD yD 2 fs), (ou, aL yL ov)] := hD
    refine lv_astore_n (lv' := [(3, .ref ox9), (0, .ref x), (1, .int (iI i)), (2, .ref ou)]) hx hb dL_save_12 rfl hl (by decide) rfl (fun ls hl => ?_)
    refine lv_iconst (v := iI 1) hx hb dL_save_13 (by decide +kernel) ?_
    have hP9 : va_P D vwCl [(x, oRD tx nw tr kn me sl), (nw, oDrv nc S (lN (kL (S) 0 40))), (nc, aI yI 48 g), (sl, aD yD 2 fs), (ou, aL yL ov)] _ := hP
    have hD9 : va_D A [(x, oRD tx nw tr kn me sl), (nw, oDrv nc S (lN (kL (S) 0 40))), (nc, aI yI 48 g), (sl, aD yD 2 fs), (ou, aL yL ov)] := hD
    exact W.iret hx hb hr (fun t ht hW => ⟨⟨iI 1, (), rfl, ⟨rfl, trivial⟩, ⟨by show va_P D vwCl _ t.heap; rw [ht]; exact hP9, hD9⟩⟩, hS.F ht⟩) hS.2.2 dL_save_14
  · obtain ⟨q, qc⟩ := u
    obtain ⟨hr9, hps9⟩ := hw
    exfalso
    first | omega | contradiction
set_option maxHeartbeats 4000000 in
set_option maxRecDepth 100000 in
theorem c_L_save_y_0 (l : Launch) (hla : l.stackTraces = false) (D : va_G) (yI yC yD yL : ClassId) (x : Nat) (tx : Nat) (nw : Nat) (tr : Nat) (kn : Nat) (me : Nat) (sl : Nat) (nc : Nat) (S : Int → Int) (g : Int → Int) (fs : Nat → Option Nat) (i : Int) (q : Nat) (qc : Nat) (Sq : Int → Int) (gq : Int → Int) (kq : Int64) (ou : Nat) (ov : Int64) (hi9 : inR i) (hf : fs i.toNat = some q) (hc9 : 0 ≤ i ∧ i < 2) (sz : Nat) : Met l yL_save wsL_save ({ frames := 8, cells := 8, slots := 150, locals := 125 }) (vxP [.ref x, .int (iI i), .ref ou] D (tyl yI yC yD yL) [(x, oRD tx nw tr kn me sl), (nw, oDrv nc S (lN (kL (S) 0 40))), (nc, aI yI 48 g), (sl, aD yD 2 fs), (q, oDrv qc Sq kq), (qc, aI yI 48 gq), (ou, aL yL ov)] sz) (va_Qi (fun (r : Int32) (_ : Unit) => r = iI 0 ∧ (0 ≤ i ∧ i < 2)) (fun (_ : Unit) (t : State) => va_P D vwCl [(x, oRD tx nw tr kn me sl), (nw, oDrv nc S (lN (kL (S) 0 40))), (nc, aI yI 48 g), (sl, aD yD 2 fs), (q, oDrv qc S (lN (kL (S) 0 40))), (qc, aI yI 48 g), (ou, aL yL ((iI (S 4)).toInt64))] t.heap ∧ va_D (va_A [(x, oRD tx nw tr kn me sl), (nw, oDrv nc S (lN (kL (S) 0 40))), (nc, aI yI 48 g), (sl, aD yD 2 fs), (q, oDrv qc Sq kq), (qc, aI yI 48 gq), (ou, aL yL ov)] sz) [(x, oRD tx nw tr kn me sl), (nw, oDrv nc S (lN (kL (S) 0 40))), (nc, aI yI 48 g), (sl, aD yD 2 fs), (q, oDrv qc S (lN (kL (S) 0 40))), (qc, aI yI 48 g), (ou, aL yL ((iI (S 4)).toInt64))]) (va_A [(x, oRD tx nw tr kn me sl), (nw, oDrv nc S (lN (kL (S) 0 40))), (nc, aI yI 48 g), (sl, aD yD 2 fs), (q, oDrv qc Sq kq), (qc, aI yI 48 gq), (ou, aL yL ov)] sz)) 8 150 (va_A [(x, oRD tx nw tr kn me sl), (nw, oDrv nc S (lN (kL (S) 0 40))), (nc, aI yI 48 g), (sl, aD yD 2 fs), (q, oDrv qc Sq kq), (qc, aI yI 48 gq), (ou, aL yL ov)] sz) := by
  refine iv_ofWH (cc := cL_save) (maxL := 4) (ret := (some .int)) (hh := [(0, 9, 12, 28)]) (by decide) rfl ?_
  intro p e s m args below meth c s₁ B hml hv
  obtain ⟨rfl, hsz, hP, hK, hD0, hB⟩ := hv
  have hx := B.exec
  have hb := B.bytes
  have hr := B.returns
  have hts := atoms_spec (ws := wsL_save) B.pre
  have hown : s.vm.findClass RL = some m.cls := findClass_of_methodNamed B.named
  have hlocks := B.notSynchronized
  have htb := vx_table (x := yL_append) B (hts (.codeWith yL_save cL_save 4 (some .int) [(0, 9, 12, 28)]) (by decide +kernel))
  have hKz : va_K D vwCl (tyz yI yC yD) s := hK.sub [0, 1, 2] rfl
  subst hsz
  have hD := hD0.self (sz := s.heap.size)
  generalize hAe : va_A [(x, oRD tx nw tr kn me sl), (nw, oDrv nc S (lN (kL (S) 0 40))), (nc, aI yI 48 g), (sl, aD yD 2 fs), (q, oDrv qc Sq kq), (qc, aI yI 48 gq), (ou, aL yL ov)] s.heap.size = A at hD hB ⊢
  have hA : ∀ q : Nat, s.heap.size ≤ q → A q := fun q h => by rw [← hAe]; exact Or.inr h
  have hS : va_S A s.heap s.heap [] := va_S.rf
  have hP : va_P D vwCl [(x, oRD tx nw tr kn me sl), (nw, oDrv nc S (lN (kL (S) 0 40))), (nc, aI yI 48 g), (sl, aD yD 2 fs), (q, oDrv qc Sq kq), (qc, aI yI 48 gq), (ou, aL yL ov)] s.heap := hP
  have hl := lv_entry ([.ref x, .int (iI i), .ref ou]) (n := 4) (Nat.le_of_ble_eq_true rfl)
  rw [lg_entry_eq]
  generalize (lg_sl ([.ref x, .int (iI i), .ref ou]) ++ List.replicate (4 - (lg_sl ([.ref x, .int (iI i), .ref ou])).length) Slot.unset).toArray = ls at hl ⊢
  have hl : lv_has ls 4 [(0, .ref x), (1, .int (iI i)), (2, .ref ou)] := hl
  refine lv_aload_n hx hb dL_save_0 rfl (lv_at hl 2 rfl) ?_
  refine lv_iconst (v := iI 0) hx hb dL_save_1 (by decide +kernel) ?_
  refine lv_aload_n hx hb dL_save_2 rfl (lv_at hl 0 rfl) ?_
  refine lv_iload_n hx hb dL_save_3 rfl (lv_at hl 1 rfl) ?_
  refine iv_lxV (wc := [(x, oRD tx nw tr kn me sl), (nw, oDrv nc S (lN (kL (S) 0 40))), (nc, aI yI 48 g), (sl, aD yD 2 fs), (q, oDrv qc Sq kq), (qc, aI yI 48 gq)]) (wr := [(ou, aL yL ov)]) (wp := fun (_ : Unit) => [(x, oRD tx nw tr kn me sl), (nw, oDrv nc S (lN (kL (S) 0 40))), (nc, aI yI 48 g), (sl, aD yD 2 fs), (q, oDrv qc S (lN (kL (S) 0 40))), (qc, aI yI 48 g)]) (As := [.int (iI i)]) (rest := [.int (iI 0), .ref ou]) (C := RX4) (n := 1) ⟨hx, hb, hml, hown, hts⟩ (c_X4_save_y l hla D yI yC yD x tx nw tr kn me sl nc S g fs i q qc Sq gq kq hi9 hf _) (cwV 1 hts gL_save_X4_save rfl rfl rfl (by decide +kernel) ⟨Nat.le_of_ble_eq_true rfl, Nat.le_of_ble_eq_true rfl⟩) hKz hP hD hS hA hB rfl rfl (fun u t h => by exact ⟨h, va_D_fst hD.l.self rfl⟩) (fun _ => rfl) rfl hl.1 rfl (Nat.le_of_ble_eq_true rfl) dL_save_4 ⟨Nat.le_of_ble_eq_true rfl, Nat.le_of_ble_eq_true rfl⟩ (fun E9 ce9 ox9 ux H locs hxe hP hD hS hc8 hv8 hcl8 => ?_) (fun r9 u H locs hw hP hD hS => ?_)
  · exfalso
    obtain ⟨_, h⟩ := hxe; first | omega | contradiction | exact h (by assumption)
  · obtain ⟨hr9, hps9⟩ := hw
    subst hr9
    have hP : va_P D vwCl [(x, oRD tx nw tr kn me sl), (nw, oDrv nc S (lN (kL (S) 0 40))), (nc, aI yI 48 g), (sl, aD yD 2 fs), (q, oDrv qc S (lN (kL (S) 0 40))), (qc, aI yI 48 g), (ou, aL yL ov)] H := hP
    have hD : va_D A [(x, oRD tx nw tr kn me sl), (nw, oDrv nc S (lN (kL (S) 0 40))), (nc, aI yI 48 g), (sl, aD yD 2 fs), (q, oDrv qc S (lN (kL (S) 0 40))), (qc, aI yI 48 g), (ou, aL yL ov)] := hD
    refine lv_i2l (v := (iI (S 4)).toInt64) hx hb dL_save_7 rfl ?_
    refine iv_lst hx hb hK hP hD hS 6 3 rfl rfl dL_save_8 (fun H locs hP hD hS => ?_)
    have hP : va_P D vwCl [(x, oRD tx nw tr kn me sl), (nw, oDrv nc S (lN (kL (S) 0 40))), (nc, aI yI 48 g), (sl, aD yD 2 fs), (q, oDrv qc S (lN (kL (S) 0 40))), (qc, aI yI 48 g), (ou, aL yL ((iI (S 4)).toInt64))] H := hP
    have hD : va_D A [(x, oRD tx nw tr kn me sl), (nw, oDrv nc S (lN (kL (S) 0 40))), (nc, aI yI 48 g), (sl, aD yD 2 fs), (q, oDrv qc S (lN (kL (S) 0 40))), (qc, aI yI 48 g), (ou, aL yL ((iI (S 4)).toInt64))] := hD
    refine lv_goto (tgt := 15) hx hb dL_save_9 (by decide) ?_
    refine lv_iconst (v := iI 0) hx hb dL_save_15 (by decide +kernel) ?_
    have hP9 : va_P D vwCl [(x, oRD tx nw tr kn me sl), (nw, oDrv nc S (lN (kL (S) 0 40))), (nc, aI yI 48 g), (sl, aD yD 2 fs), (q, oDrv qc S (lN (kL (S) 0 40))), (qc, aI yI 48 g), (ou, aL yL ((iI (S 4)).toInt64))] _ := hP
    have hD9 : va_D A [(x, oRD tx nw tr kn me sl), (nw, oDrv nc S (lN (kL (S) 0 40))), (nc, aI yI 48 g), (sl, aD yD 2 fs), (q, oDrv qc S (lN (kL (S) 0 40))), (qc, aI yI 48 g), (ou, aL yL ((iI (S 4)).toInt64))] := hD
    exact W.iret hx hb hr (fun t ht hW => ⟨⟨iI 0, (), rfl, ⟨rfl, hps9⟩, ⟨by show va_P D vwCl _ t.heap; rw [ht]; exact hP9, hD9⟩⟩, hS.F ht⟩) hS.2.2 dL_save_16
set_option maxHeartbeats 4000000 in
set_option maxRecDepth 100000 in
theorem c_L_restore_y_0 (l : Launch) (hla : l.stackTraces = false) (D : va_G) (yI yC yD yL : ClassId) (x : Nat) (tx : Nat) (nw : Nat) (tr : Nat) (kn : Nat) (me : Nat) (sl : Nat) (nc : Nat) (S : Int → Int) (g : Int → Int) (rg : Nat) (f : Nat → Option Nat) (nx : Int) (ct : Int) (fs : Nat → Option Nat) (i : Int) (q : Nat) (qc : Nat) (Sq : Int → Int) (gq : Int → Int) (kq : Int64) (ou : Nat) (ov : Int64) (hi9 : inR i) (hf : fs i.toNat = some q) (hc9 : 0 ≤ i ∧ i < 2) (sz : Nat) : Met l yL_restore wsL_restore ({ frames := 8, cells := 8, slots := 150, locals := 125 }) (vxP [.ref x, .int (iI i), .ref ou] D (tyl yI yC yD yL) [(x, oRD tx nw tr kn me sl), (nw, oDrv nc S (lN (kL (S) 0 40))), (nc, aI yI 48 g), (me, oMem rg nx ct), (rg, aD yD 14 f), (sl, aD yD 2 fs), (q, oDrv qc Sq kq), (qc, aI yI 48 gq), (ou, aL yL ov)] sz) (va_Qi (fun (r : Int32) (_ : Unit) => r = iI 0 ∧ (0 ≤ i ∧ i < 2)) (fun (_ : Unit) (t : State) => va_P D vwCl [(x, oRD tx nw tr kn me sl), (nw, oDrv nc Sq kq), (nc, aI yI 48 gq), (me, oMem rg nx 0), (rg, aD yD 14 f), (sl, aD yD 2 fs), (q, oDrv qc Sq kq), (qc, aI yI 48 gq), (ou, aL yL ((iI (Sq 4)).toInt64))] t.heap ∧ va_D (va_A [(x, oRD tx nw tr kn me sl), (nw, oDrv nc S (lN (kL (S) 0 40))), (nc, aI yI 48 g), (me, oMem rg nx ct), (rg, aD yD 14 f), (sl, aD yD 2 fs), (q, oDrv qc Sq kq), (qc, aI yI 48 gq), (ou, aL yL ov)] sz) [(x, oRD tx nw tr kn me sl), (nw, oDrv nc Sq kq), (nc, aI yI 48 gq), (me, oMem rg nx 0), (rg, aD yD 14 f), (sl, aD yD 2 fs), (q, oDrv qc Sq kq), (qc, aI yI 48 gq), (ou, aL yL ((iI (Sq 4)).toInt64))]) (va_A [(x, oRD tx nw tr kn me sl), (nw, oDrv nc S (lN (kL (S) 0 40))), (nc, aI yI 48 g), (me, oMem rg nx ct), (rg, aD yD 14 f), (sl, aD yD 2 fs), (q, oDrv qc Sq kq), (qc, aI yI 48 gq), (ou, aL yL ov)] sz)) 8 150 (va_A [(x, oRD tx nw tr kn me sl), (nw, oDrv nc S (lN (kL (S) 0 40))), (nc, aI yI 48 g), (me, oMem rg nx ct), (rg, aD yD 14 f), (sl, aD yD 2 fs), (q, oDrv qc Sq kq), (qc, aI yI 48 gq), (ou, aL yL ov)] sz) := by
  refine iv_ofWH (cc := cL_restore) (maxL := 4) (ret := (some .int)) (hh := [(0, 9, 12, 28), (0, 9, 15, 15)]) (by decide) rfl ?_
  intro p e s m args below meth c s₁ B hml hv
  obtain ⟨rfl, hsz, hP, hK, hD0, hB⟩ := hv
  have hx := B.exec
  have hb := B.bytes
  have hr := B.returns
  have hts := atoms_spec (ws := wsL_restore) B.pre
  have hown : s.vm.findClass RL = some m.cls := findClass_of_methodNamed B.named
  have hlocks := B.notSynchronized
  have htb := vx_table (x := yL_append) B (hts (.codeWith yL_restore cL_restore 4 (some .int) [(0, 9, 12, 28), (0, 9, 15, 15)]) (by decide +kernel))
  have hKz : va_K D vwCl (tyz yI yC yD) s := hK.sub [0, 1, 2] rfl
  subst hsz
  have hD := hD0.self (sz := s.heap.size)
  generalize hAe : va_A [(x, oRD tx nw tr kn me sl), (nw, oDrv nc S (lN (kL (S) 0 40))), (nc, aI yI 48 g), (me, oMem rg nx ct), (rg, aD yD 14 f), (sl, aD yD 2 fs), (q, oDrv qc Sq kq), (qc, aI yI 48 gq), (ou, aL yL ov)] s.heap.size = A at hD hB ⊢
  have hA : ∀ q : Nat, s.heap.size ≤ q → A q := fun q h => by rw [← hAe]; exact Or.inr h
  have hS : va_S A s.heap s.heap [] := va_S.rf
  have hP : va_P D vwCl [(x, oRD tx nw tr kn me sl), (nw, oDrv nc S (lN (kL (S) 0 40))), (nc, aI yI 48 g), (me, oMem rg nx ct), (rg, aD yD 14 f), (sl, aD yD 2 fs), (q, oDrv qc Sq kq), (qc, aI yI 48 gq), (ou, aL yL ov)] s.heap := hP
  have hl := lv_entry ([.ref x, .int (iI i), .ref ou]) (n := 4) (Nat.le_of_ble_eq_true rfl)
  rw [lg_entry_eq]
  generalize (lg_sl ([.ref x, .int (iI i), .ref ou]) ++ List.replicate (4 - (lg_sl ([.ref x, .int (iI i), .ref ou])).length) Slot.unset).toArray = ls at hl ⊢
  have hl : lv_has ls 4 [(0, .ref x), (1, .int (iI i)), (2, .ref ou)] := hl
  refine lv_aload_n hx hb dL_restore_0 rfl (lv_at hl 2 rfl) ?_
  refine lv_iconst (v := iI 0) hx hb dL_restore_1 (by decide +kernel) ?_
  refine lv_aload_n hx hb dL_restore_2 rfl (lv_at hl 0 rfl) ?_
  refine lv_iload_n hx hb dL_restore_3 rfl (lv_at hl 1 rfl) ?_
  refine iv_lxV (wc := [(x, oRD tx nw tr kn me sl), (nw, oDrv nc S (lN (kL (S) 0 40))), (nc, aI yI 48 g), (me, oMem rg nx ct), (rg, aD yD 14 f), (sl, aD yD 2 fs), (q, oDrv qc Sq kq), (qc, aI yI 48 gq)]) (wr := [(ou, aL yL ov)]) (wp := fun (_ : Unit) => [(x, oRD tx nw tr kn me sl), (nw, oDrv nc Sq kq), (nc, aI yI 48 gq), (me, oMem rg nx 0), (rg, aD yD 14 f), (sl, aD yD 2 fs), (q, oDrv qc Sq kq), (qc, aI yI 48 gq)]) (As := [.int (iI i)]) (rest := [.int (iI 0), .ref ou]) (C := RX4) (n := 1) ⟨hx, hb, hml, hown, hts⟩ (c_X4_restore_y l hla D yI yC yD x tx nw tr kn me sl nc S g rg f nx ct fs i q qc Sq gq kq hi9 hf _) (cwV 1 hts gL_restore_X4_restore rfl rfl rfl (by decide +kernel) ⟨Nat.le_of_ble_eq_true rfl, Nat.le_of_ble_eq_true rfl⟩) hKz hP hD hS hA hB rfl rfl (fun u t h => by exact ⟨h, va_D_fst hD.l.self rfl⟩) (fun _ => rfl) rfl hl.1 rfl (Nat.le_of_ble_eq_true rfl) dL_restore_4 ⟨Nat.le_of_ble_eq_true rfl, Nat.le_of_ble_eq_true rfl⟩ (fun E9 ce9 ox9 ux H locs hxe hP hD hS hc8 hv8 hcl8 => ?_) (fun r9 u H locs hw hP hD hS => ?_)
  · exfalso
    obtain ⟨_, h⟩ := hxe; first | omega | contradiction | exact h (by assumption)
  · obtain ⟨hr9, hps9⟩ := hw
    subst hr9
    have hP : va_P D vwCl [(x, oRD tx nw tr kn me sl), (nw, oDrv nc Sq kq), (nc, aI yI 48 gq), (me, oMem rg nx 0), (rg, aD yD 14 f), (sl, aD yD 2 fs), (q, oDrv qc Sq kq), (qc, aI yI 48 gq), (ou, aL yL ov)] H := hP
    have hD : va_D A [(x, oRD tx nw tr kn me sl), (nw, oDrv nc Sq kq), (nc, aI yI 48 gq), (me, oMem rg nx 0), (rg, aD yD 14 f), (sl, aD yD 2 fs), (q, oDrv qc Sq kq), (qc, aI yI 48 gq), (ou, aL yL ov)] := hD
    refine lv_i2l (v := (iI (Sq 4)).toInt64) hx hb dL_restore_7 rfl ?_
    refine iv_lst hx hb hK hP hD hS 8 3 rfl rfl dL_restore_8 (fun H locs hP hD hS => ?_)
    have hP : va_P D vwCl [(x, oRD tx nw tr kn me sl), (nw, oDrv nc Sq kq), (nc, aI yI 48 gq), (me, oMem rg nx 0), (rg, aD yD 14 f), (sl, aD yD 2 fs), (q, oDrv qc Sq kq), (qc, aI yI 48 gq), (ou, aL yL ((iI (Sq 4)).toInt64))] H := hP
    have hD : va_D A [(x, oRD tx nw tr kn me sl), (nw, oDrv nc Sq kq), (nc, aI yI 48 gq), (me, oMem rg nx 0), (rg, aD yD 14 f), (sl, aD yD 2 fs), (q, oDrv qc Sq kq), (qc, aI yI 48 gq), (ou, aL yL ((iI (Sq 4)).toInt64))] := hD
    refine lv_goto (tgt := 18) hx hb dL_restore_9 (by decide) ?_
    refine lv_iconst (v := iI 0) hx hb dL_restore_18 (by decide +kernel) ?_
    have hP9 : va_P D vwCl [(x, oRD tx nw tr kn me sl), (nw, oDrv nc Sq kq), (nc, aI yI 48 gq), (me, oMem rg nx 0), (rg, aD yD 14 f), (sl, aD yD 2 fs), (q, oDrv qc Sq kq), (qc, aI yI 48 gq), (ou, aL yL ((iI (Sq 4)).toInt64))] _ := hP
    have hD9 : va_D A [(x, oRD tx nw tr kn me sl), (nw, oDrv nc Sq kq), (nc, aI yI 48 gq), (me, oMem rg nx 0), (rg, aD yD 14 f), (sl, aD yD 2 fs), (q, oDrv qc Sq kq), (qc, aI yI 48 gq), (ou, aL yL ((iI (Sq 4)).toInt64))] := hD
    exact W.iret hx hb hr (fun t ht hW => ⟨⟨iI 0, (), rfl, ⟨rfl, hps9⟩, ⟨by show va_P D vwCl _ t.heap; rw [ht]; exact hP9, hD9⟩⟩, hS.F ht⟩) hS.2.2 dL_restore_19
set_option maxHeartbeats 4000000 in
set_option maxRecDepth 100000 in
theorem c_L_restore_n_1 (l : Launch) (hla : l.stackTraces = false) (D : va_G) (yI yC yD yL : ClassId) (x : Nat) (tx : Nat) (nw : Nat) (tr : Nat) (kn : Nat) (me : Nat) (sl : Nat) (nc : Nat) (S : Int → Int) (g : Int → Int) (rg : Nat) (f : Nat → Option Nat) (nx : Int) (ct : Int) (fs : Nat → Option Nat) (i : Int) (ou : Nat) (ov : Int64) (hi9 : inR i) (hf : 0 ≤ i ∧ i < 2 → fs i.toNat = none) (sz : Nat) : Met l yL_restore wsL_restore ({ frames := 8, cells := 8, slots := 150, locals := 125 }) (vxP [.ref x, .int (iI i), .ref ou] D (tyl yI yC yD yL) [(x, oRD tx nw tr kn me sl), (nw, oDrv nc S (lN (kL (S) 0 40))), (nc, aI yI 48 g), (me, oMem rg nx ct), (rg, aD yD 14 f), (sl, aD yD 2 fs), (ou, aL yL ov)] sz) (va_Qi (fun (r : Int32) (_ : Unit) => r = iI (if 0 ≤ i ∧ i < 2 then 2 else 1) ∧ True) (fun (_ : Unit) (t : State) => va_P D vwCl [(x, oRD tx nw tr kn me sl), (nw, oDrv nc S (lN (kL (S) 0 40))), (nc, aI yI 48 g), (me, oMem rg nx ct), (rg, aD yD 14 f), (sl, aD yD 2 fs), (ou, aL yL ov)] t.heap ∧ va_D (va_A [(x, oRD tx nw tr kn me sl), (nw, oDrv nc S (lN (kL (S) 0 40))), (nc, aI yI 48 g), (me, oMem rg nx ct), (rg, aD yD 14 f), (sl, aD yD 2 fs), (ou, aL yL ov)] sz) [(x, oRD tx nw tr kn me sl), (nw, oDrv nc S (lN (kL (S) 0 40))), (nc, aI yI 48 g), (me, oMem rg nx ct), (rg, aD yD 14 f), (sl, aD yD 2 fs), (ou, aL yL ov)]) (va_A [(x, oRD tx nw tr kn me sl), (nw, oDrv nc S (lN (kL (S) 0 40))), (nc, aI yI 48 g), (me, oMem rg nx ct), (rg, aD yD 14 f), (sl, aD yD 2 fs), (ou, aL yL ov)] sz)) 8 150 (va_A [(x, oRD tx nw tr kn me sl), (nw, oDrv nc S (lN (kL (S) 0 40))), (nc, aI yI 48 g), (me, oMem rg nx ct), (rg, aD yD 14 f), (sl, aD yD 2 fs), (ou, aL yL ov)] sz) := by
  refine iv_ofWH (cc := cL_restore) (maxL := 4) (ret := (some .int)) (hh := [(0, 9, 12, 28), (0, 9, 15, 15)]) (by decide) rfl ?_
  intro p e s m args below meth c s₁ B hml hv
  obtain ⟨rfl, hsz, hP, hK, hD0, hB⟩ := hv
  have hx := B.exec
  have hb := B.bytes
  have hr := B.returns
  have hts := atoms_spec (ws := wsL_restore) B.pre
  have hown : s.vm.findClass RL = some m.cls := findClass_of_methodNamed B.named
  have hlocks := B.notSynchronized
  have htb := vx_table (x := yL_append) B (hts (.codeWith yL_restore cL_restore 4 (some .int) [(0, 9, 12, 28), (0, 9, 15, 15)]) (by decide +kernel))
  have hKz : va_K D vwCl (tyz yI yC yD) s := hK.sub [0, 1, 2] rfl
  subst hsz
  have hD := hD0.self (sz := s.heap.size)
  generalize hAe : va_A [(x, oRD tx nw tr kn me sl), (nw, oDrv nc S (lN (kL (S) 0 40))), (nc, aI yI 48 g), (me, oMem rg nx ct), (rg, aD yD 14 f), (sl, aD yD 2 fs), (ou, aL yL ov)] s.heap.size = A at hD hB ⊢
  have hA : ∀ q : Nat, s.heap.size ≤ q → A q := fun q h => by rw [← hAe]; exact Or.inr h
  have hS : va_S A s.heap s.heap [] := va_S.rf
  have hP : va_P D vwCl [(x, oRD tx nw tr kn me sl), (nw, oDrv nc S (lN (kL (S) 0 40))), (nc, aI yI 48 g), (me, oMem rg nx ct), (rg, aD yD 14 f), (sl, aD yD 2 fs), (ou, aL yL ov)] s.heap := hP
  have hl := lv_entry ([.ref x, .int (iI i), .ref ou]) (n := 4) (Nat.le_of_ble_eq_true rfl)
  rw [lg_entry_eq]
  generalize (lg_sl ([.ref x, .int (iI i), .ref ou]) ++ List.replicate (4 - (lg_sl ([.ref x, .int (iI i), .ref ou])).length) Slot.unset).toArray = ls at hl ⊢
  have hl : lv_has ls 4 [(0, .ref x), (1, .int (iI i)), (2, .ref ou)] := hl
  refine lv_aload_n hx hb dL_restore_0 rfl (lv_at hl 2 rfl) ?_
  refine lv_iconst (v := iI 0) hx hb dL_restore_1 (by decide +kernel) ?_
  refine lv_aload_n hx hb dL_restore_2 rfl (lv_at hl 0 rfl) ?_
  refine lv_iload_n hx hb dL_restore_3 rfl (lv_at hl 1 rfl) ?_
  refine iv_lxV (wc := [(x, oRD tx nw tr kn me sl), (nw, oDrv nc S (lN (kL (S) 0 40))), (nc, aI yI 48 g), (me, oMem rg nx ct), (rg, aD yD 14 f), (sl, aD yD 2 fs)]) (wr := [(ou, aL yL ov)]) (wp := fun (_ : Unit) => [(x, oRD tx nw tr kn me sl), (nw, oDrv nc S (lN (kL (S) 0 40))), (nc, aI yI 48 g), (me, oMem rg nx ct), (rg, aD yD 14 f), (sl, aD yD 2 fs)]) (As := [.int (iI i)]) (rest := [.int (iI 0), .ref ou]) (C := RX4) (n := 1) ⟨hx, hb, hml, hown, hts⟩ (c_X4_restore_n l hla D yI yC yD x tx nw tr kn me sl nc S g rg f nx ct fs i hi9 hf _) (cwV 1 hts gL_restore_X4_restore rfl rfl rfl (by decide +kernel) ⟨Nat.le_of_ble_eq_true rfl, Nat.le_of_ble_eq_true rfl⟩) hKz hP hD hS hA hB rfl rfl (fun u t h => by exact ⟨h, va_D_fst hD.l.self rfl⟩) (fun _ => rfl) rfl hl.1 rfl (Nat.le_of_ble_eq_true rfl) dL_restore_4 ⟨Nat.le_of_ble_eq_true rfl, Nat.le_of_ble_eq_true rfl⟩ (fun E9 ce9 ox9 ux H locs hxe hP hD hS hc8 hv8 hcl8 => ?_) (fun r9 u H locs hw hP hD hS => ?_)
  · rcases hxe with ⟨rfl, hxc⟩ | ⟨rfl, hxc⟩
    · refine vx_catch (name := eI) hown (tableOf []) ⟨0, 9, 12, 28⟩ (tableOf [(0, 9, 15, 15)]) (htb.trans rfl) (fun z hz => absurd hz List.not_mem_nil) rfl (by decide) (hts (.classLink RL 28 eI) (by decide +kernel)) (va_Nw.use rfl hB.1.2.2) hc8 hv8 hcl8 ?_
      have hP : va_P D vwCl [(x, oRD tx nw tr kn me sl), (nw, oDrv nc S (lN (kL (S) 0 40))), (nc, aI yI 48 g), (me, oMem rg nx ct), (rg, aD yD 14 f), (sl, aD yD 2 fs), (ou, aL yL ov)] H := hP
      have hD : va_D A [(x, oRD tx nw tr kn me sl), (nw, oDrv nc S (lN (kL (S) 0 40))), (nc, aI yI 48 g), (me, oMem rg nx ct), (rg, aD yD 14 f), (sl, aD yD 2 fs), (ou, aL yL ov)] := hD
      refine lv_astore_n (lv' := [(3, .ref ox9), (0, .ref x), (1, .int (iI i)), (2, .ref ou)]) hx hb dL_restore_12 rfl hl (by decide) rfl (fun ls hl => ?_)
      refine lv_iconst (v := iI 1) hx hb dL_restore_13 (by decide +kernel) ?_
      have hP9 : va_P D vwCl [(x, oRD tx nw tr kn me sl), (nw, oDrv nc S (lN (kL (S) 0 40))), (nc, aI yI 48 g), (me, oMem rg nx ct), (rg, aD yD 14 f), (sl, aD yD 2 fs), (ou, aL yL ov)] _ := hP
      have hD9 : va_D A [(x, oRD tx nw tr kn me sl), (nw, oDrv nc S (lN (kL (S) 0 40))), (nc, aI yI 48 g), (me, oMem rg nx ct), (rg, aD yD 14 f), (sl, aD yD 2 fs), (ou, aL yL ov)] := hD
      exact W.iret hx hb hr (fun t ht hW => ⟨⟨iI 1, (), rfl, ⟨congrArg iI (show (1 : Int) = if 0 ≤ i ∧ i < 2 then 2 else 1 by first | omega | (rw [if_pos (by omega)]; done) | (rw [if_neg (by omega)]; done)), trivial⟩, ⟨by show va_P D vwCl _ t.heap; rw [ht]; exact hP9, hD9⟩⟩, hS.F ht⟩) hS.2.2 dL_restore_14
    · refine vx_catch (name := eS) hown (tableOf [(0, 9, 12, 28)]) ⟨0, 9, 15, 15⟩ (tableOf []) (htb.trans rfl) (fun z hz => by cases List.mem_singleton.mp hz; exact Or.inr ⟨by decide, eI, hts (.classLink RL 28 eI) (by decide +kernel), hB.2.1.2.2.2.1⟩) rfl (by decide) (hts (.classLink RL 15 eS) (by decide +kernel)) (va_Nw.use rfl hB.1.2.1) hc8 hv8 hcl8 ?_
      have hP : va_P D vwCl [(x, oRD tx nw tr kn me sl), (nw, oDrv nc S (lN (kL (S) 0 40))), (nc, aI yI 48 g), (me, oMem rg nx ct), (rg, aD yD 14 f), (sl, aD yD 2 fs), (ou, aL yL ov)] H := hP
      have hD : va_D A [(x, oRD tx nw tr kn me sl), (nw, oDrv nc S (lN (kL (S) 0 40))), (nc, aI yI 48 g), (me, oMem rg nx ct), (rg, aD yD 14 f), (sl, aD yD 2 fs), (ou, aL yL ov)] := hD
      refine lv_astore_n (lv' := [(3, .ref ox9), (0, .ref x), (1, .int (iI i)), (2, .ref ou)]) hx hb dL_restore_15 rfl hl (by decide) rfl (fun ls hl => ?_)
      refine lv_iconst (v := iI 2) hx hb dL_restore_16 (by decide +kernel) ?_
      have hP9 : va_P D vwCl [(x, oRD tx nw tr kn me sl), (nw, oDrv nc S (lN (kL (S) 0 40))), (nc, aI yI 48 g), (me, oMem rg nx ct), (rg, aD yD 14 f), (sl, aD yD 2 fs), (ou, aL yL ov)] _ := hP
      have hD9 : va_D A [(x, oRD tx nw tr kn me sl), (nw, oDrv nc S (lN (kL (S) 0 40))), (nc, aI yI 48 g), (me, oMem rg nx ct), (rg, aD yD 14 f), (sl, aD yD 2 fs), (ou, aL yL ov)] := hD
      exact W.iret hx hb hr (fun t ht hW => ⟨⟨iI 2, (), rfl, ⟨congrArg iI (show (2 : Int) = if 0 ≤ i ∧ i < 2 then 2 else 1 by first | omega | (rw [if_pos (by omega)]; done) | (rw [if_neg (by omega)]; done)), trivial⟩, ⟨by show va_P D vwCl _ t.heap; rw [ht]; exact hP9, hD9⟩⟩, hS.F ht⟩) hS.2.2 dL_restore_17
  · obtain ⟨hr9, hno9⟩ := hw
    exfalso
    first | omega | contradiction
set_option maxHeartbeats 4000000 in
set_option maxRecDepth 100000 in
theorem c_L_undo_y_0 (l : Launch) (hla : l.stackTraces = false) (D : va_G) (yI yC yD yL : ClassId) (x : Nat) (tx : Nat) (nw : Nat) (tr : Nat) (kn : Nat) (me : Nat) (sl : Nat) (nc : Nat) (S : Int → Int) (g : Int → Int) (rg : Nat) (f : Nat → Option Nat) (nx : Int) (ct : Int) (nw9 : Int) (q : Nat) (qc : Nat) (Sq : Int → Int) (gq : Int → Int) (kq : Int64) (ou : Nat) (ov : Int64) (hI : Inv S) (hme : 0 ≤ nx ∧ nx < 14 ∧ 0 < ct ∧ ct ≤ 14) (hnw : (0 < nx ∧ nw9 = nx - 1) ∨ (¬ 0 < nx ∧ nw9 = 13)) (hf : f nw9.toNat = some q) (sz : Nat) : Met l yL_undo wsL_undo ({ frames := 3, cells := 8, slots := 150, locals := 65 }) (vxP [.ref x, .ref ou] D (tyl yI yC yD yL) [(x, oRD tx nw tr kn me sl), (nw, oDrv nc S (lN (kL (S) 0 40))), (nc, aI yI 48 g), (me, oMem rg nx ct), (rg, aD yD 14 f), (q, oDrv qc Sq kq), (qc, aI yI 48 gq), (ou, aL yL ov)] sz) (va_Qi (fun (r : Int32) (_ : Unit) => r = iI 0 ∧ True) (fun (_ : Unit) (t : State) => va_P D vwCl [(x, oRD tx nw tr kn me sl), (nw, oDrv nc Sq kq), (nc, aI yI 48 gq), (me, oMem rg nw9 (ct - 1)), (rg, aD yD 14 f), (q, oDrv qc Sq kq), (qc, aI yI 48 gq), (ou, aL yL ((iI (ct - 1)).toInt64))] t.heap ∧ va_D (va_A [(x, oRD tx nw tr kn me sl), (nw, oDrv nc S (lN (kL (S) 0 40))), (nc, aI yI 48 g), (me, oMem rg nx ct), (rg, aD yD 14 f), (q, oDrv qc Sq kq), (qc, aI yI 48 gq), (ou, aL yL ov)] sz) [(x, oRD tx nw tr kn me sl), (nw, oDrv nc Sq kq), (nc, aI yI 48 gq), (me, oMem rg nw9 (ct - 1)), (rg, aD yD 14 f), (q, oDrv qc Sq kq), (qc, aI yI 48 gq), (ou, aL yL ((iI (ct - 1)).toInt64))]) (va_A [(x, oRD tx nw tr kn me sl), (nw, oDrv nc S (lN (kL (S) 0 40))), (nc, aI yI 48 g), (me, oMem rg nx ct), (rg, aD yD 14 f), (q, oDrv qc Sq kq), (qc, aI yI 48 gq), (ou, aL yL ov)] sz)) 8 150 (va_A [(x, oRD tx nw tr kn me sl), (nw, oDrv nc S (lN (kL (S) 0 40))), (nc, aI yI 48 g), (me, oMem rg nx ct), (rg, aD yD 14 f), (q, oDrv qc Sq kq), (qc, aI yI 48 gq), (ou, aL yL ov)] sz) := by
  refine iv_ofWH (cc := cL_undo) (maxL := 3) (ret := (some .int)) (hh := [(0, 8, 11, 15)]) (by decide) rfl ?_
  intro p e s m args below meth c s₁ B hml hv
  obtain ⟨rfl, hsz, hP, hK, hD0, hB⟩ := hv
  have hx := B.exec
  have hb := B.bytes
  have hr := B.returns
  have hts := atoms_spec (ws := wsL_undo) B.pre
  have hown : s.vm.findClass RL = some m.cls := findClass_of_methodNamed B.named
  have hlocks := B.notSynchronized
  have htb := vx_table (x := yL_append) B (hts (.codeWith yL_undo cL_undo 3 (some .int) [(0, 8, 11, 15)]) (by decide +kernel))
  have hKz : va_K D vwCl (tyz yI yC yD) s := hK.sub [0, 1, 2] rfl
  subst hsz
  have hD := hD0.self (sz := s.heap.size)
  generalize hAe : va_A [(x, oRD tx nw tr kn me sl), (nw, oDrv nc S (lN (kL (S) 0 40))), (nc, aI yI 48 g), (me, oMem rg nx ct), (rg, aD yD 14 f), (q, oDrv qc Sq kq), (qc, aI yI 48 gq), (ou, aL yL ov)] s.heap.size = A at hD hB ⊢
  have hA : ∀ q : Nat, s.heap.size ≤ q → A q := fun q h => by rw [← hAe]; exact Or.inr h
  have hS : va_S A s.heap s.heap [] := va_S.rf
  have hP : va_P D vwCl [(x, oRD tx nw tr kn me sl), (nw, oDrv nc S (lN (kL (S) 0 40))), (nc, aI yI 48 g), (me, oMem rg nx ct), (rg, aD yD 14 f), (q, oDrv qc Sq kq), (qc, aI yI 48 gq), (ou, aL yL ov)] s.heap := hP
  have hl := lv_entry ([.ref x, .ref ou]) (n := 3) (Nat.le_of_ble_eq_true rfl)
  rw [lg_entry_eq]
  generalize (lg_sl ([.ref x, .ref ou]) ++ List.replicate (3 - (lg_sl ([.ref x, .ref ou])).length) Slot.unset).toArray = ls at hl ⊢
  have hl : lv_has ls 3 [(0, .ref x), (1, .ref ou)] := hl
  refine lv_aload_n hx hb dL_undo_0 rfl (lv_at hl 1 rfl) ?_
  refine lv_iconst (v := iI 0) hx hb dL_undo_1 (by decide +kernel) ?_
  refine lv_aload_n hx hb dL_undo_2 rfl (lv_at hl 0 rfl) ?_
  refine iv_lxV (wc := [(x, oRD tx nw tr kn me sl), (nw, oDrv nc S (lN (kL (S) 0 40))), (nc, aI yI 48 g), (me, oMem rg nx ct), (rg, aD yD 14 f), (q, oDrv qc Sq kq), (qc, aI yI 48 gq)]) (wr := [(ou, aL yL ov)]) (wp := fun (_ : Unit) => [(x, oRD tx nw tr kn me sl), (nw, oDrv nc Sq kq), (nc, aI yI 48 gq), (me, oMem rg nw9 (ct - 1)), (rg, aD yD 14 f), (q, oDrv qc Sq kq), (qc, aI yI 48 gq)]) (As := []) (rest := [.int (iI 0), .ref ou]) (C := RX4) (n := 0) ⟨hx, hb, hml, hown, hts⟩ (c_X4_undo_y l hla D yI yC yD x tx nw tr kn me sl nc S g rg f nx ct nw9 q qc Sq gq kq hI hme hnw hf _) (cwV 0 hts gL_undo_X4_undo rfl rfl rfl (by decide +kernel) ⟨Nat.le_of_ble_eq_true rfl, Nat.le_of_ble_eq_true rfl⟩) hKz hP hD hS hA hB rfl rfl (fun u t h => by exact ⟨h, va_D_fst hD.l.self rfl⟩) (fun _ => rfl) rfl hl.1 rfl (Nat.le_of_ble_eq_true rfl) dL_undo_3 ⟨Nat.le_of_ble_eq_true rfl, Nat.le_of_ble_eq_true rfl⟩ (fun E9 ce9 ox9 ux H locs hxe hP hD hS hc8 hv8 hcl8 => ?_) (fun r9 u H locs hw hP hD hS => ?_)
  · exfalso
    obtain ⟨_, h⟩ := hxe; first | omega | contradiction | exact h (by assumption)
  · obtain ⟨hr9, -⟩ := hw
    subst hr9
    have hP : va_P D vwCl [(x, oRD tx nw tr kn me sl), (nw, oDrv nc Sq kq), (nc, aI yI 48 gq), (me, oMem rg nw9 (ct - 1)), (rg, aD yD 14 f), (q, oDrv qc Sq kq), (qc, aI yI 48 gq), (ou, aL yL ov)] H := hP
    have hD : va_D A [(x, oRD tx nw tr kn me sl), (nw, oDrv nc Sq kq), (nc, aI yI 48 gq), (me, oMem rg nw9 (ct - 1)), (rg, aD yD 14 f), (q, oDrv qc Sq kq), (qc, aI yI 48 gq), (ou, aL yL ov)] := hD
    refine lv_i2l (v := (iI (ct - 1)).toInt64) hx hb dL_undo_6 rfl ?_
    refine iv_lst hx hb hK hP hD hS 7 3 rfl rfl dL_undo_7 (fun H locs hP hD hS => ?_)
    have hP : va_P D vwCl [(x, oRD tx nw tr kn me sl), (nw, oDrv nc Sq kq), (nc, aI yI 48 gq), (me, oMem rg nw9 (ct - 1)), (rg, aD yD 14 f), (q, oDrv qc Sq kq), (qc, aI yI 48 gq), (ou, aL yL ((iI (ct - 1)).toInt64))] H := hP
    have hD : va_D A [(x, oRD tx nw tr kn me sl), (nw, oDrv nc Sq kq), (nc, aI yI 48 gq), (me, oMem rg nw9 (ct - 1)), (rg, aD yD 14 f), (q, oDrv qc Sq kq), (qc, aI yI 48 gq), (ou, aL yL ((iI (ct - 1)).toInt64))] := hD
    refine lv_goto (tgt := 14) hx hb dL_undo_8 (by decide) ?_
    refine lv_iconst (v := iI 0) hx hb dL_undo_14 (by decide +kernel) ?_
    have hP9 : va_P D vwCl [(x, oRD tx nw tr kn me sl), (nw, oDrv nc Sq kq), (nc, aI yI 48 gq), (me, oMem rg nw9 (ct - 1)), (rg, aD yD 14 f), (q, oDrv qc Sq kq), (qc, aI yI 48 gq), (ou, aL yL ((iI (ct - 1)).toInt64))] _ := hP
    have hD9 : va_D A [(x, oRD tx nw tr kn me sl), (nw, oDrv nc Sq kq), (nc, aI yI 48 gq), (me, oMem rg nw9 (ct - 1)), (rg, aD yD 14 f), (q, oDrv qc Sq kq), (qc, aI yI 48 gq), (ou, aL yL ((iI (ct - 1)).toInt64))] := hD
    exact W.iret hx hb hr (fun t ht hW => ⟨⟨iI 0, (), rfl, ⟨rfl, trivial⟩, ⟨by show va_P D vwCl _ t.heap; rw [ht]; exact hP9, hD9⟩⟩, hS.F ht⟩) hS.2.2 dL_undo_15
set_option maxHeartbeats 4000000 in
set_option maxRecDepth 100000 in
theorem c_L_undo_n_1 (l : Launch) (hla : l.stackTraces = false) (D : va_G) (yI yC yD yL : ClassId) (x : Nat) (tx : Nat) (nw : Nat) (tr : Nat) (kn : Nat) (me : Nat) (sl : Nat) (nc : Nat) (S : Int → Int) (g : Int → Int) (rg : Nat) (f : Nat → Option Nat) (nx : Int) (ct : Int) (ou : Nat) (ov : Int64) (hI : Inv S) (hme : 0 ≤ nx ∧ nx < 14 ∧ ct = 0) (sz : Nat) : Met l yL_undo wsL_undo ({ frames := 7, cells := 8, slots := 150, locals := 102 }) (vxP [.ref x, .ref ou] D (tyl yI yC yD yL) [(x, oRD tx nw tr kn me sl), (nw, oDrv nc S (lN (kL (S) 0 40))), (nc, aI yI 48 g), (me, oMem rg nx ct), (rg, aD yD 14 f), (ou, aL yL ov)] sz) (va_Qi (fun (r : Int32) (_ : Unit) => r = iI 1 ∧ True) (fun (_ : Unit) (t : State) => va_P D vwCl [(x, oRD tx nw tr kn me sl), (nw, oDrv nc S (lN (kL (S) 0 40))), (nc, aI yI 48 g), (me, oMem rg nx ct), (rg, aD yD 14 f), (ou, aL yL ov)] t.heap ∧ va_D (va_A [(x, oRD tx nw tr kn me sl), (nw, oDrv nc S (lN (kL (S) 0 40))), (nc, aI yI 48 g), (me, oMem rg nx ct), (rg, aD yD 14 f), (ou, aL yL ov)] sz) [(x, oRD tx nw tr kn me sl), (nw, oDrv nc S (lN (kL (S) 0 40))), (nc, aI yI 48 g), (me, oMem rg nx ct), (rg, aD yD 14 f), (ou, aL yL ov)]) (va_A [(x, oRD tx nw tr kn me sl), (nw, oDrv nc S (lN (kL (S) 0 40))), (nc, aI yI 48 g), (me, oMem rg nx ct), (rg, aD yD 14 f), (ou, aL yL ov)] sz)) 8 150 (va_A [(x, oRD tx nw tr kn me sl), (nw, oDrv nc S (lN (kL (S) 0 40))), (nc, aI yI 48 g), (me, oMem rg nx ct), (rg, aD yD 14 f), (ou, aL yL ov)] sz) := by
  refine iv_ofWH (cc := cL_undo) (maxL := 3) (ret := (some .int)) (hh := [(0, 8, 11, 15)]) (by decide) rfl ?_
  intro p e s m args below meth c s₁ B hml hv
  obtain ⟨rfl, hsz, hP, hK, hD0, hB⟩ := hv
  have hx := B.exec
  have hb := B.bytes
  have hr := B.returns
  have hts := atoms_spec (ws := wsL_undo) B.pre
  have hown : s.vm.findClass RL = some m.cls := findClass_of_methodNamed B.named
  have hlocks := B.notSynchronized
  have htb := vx_table (x := yL_append) B (hts (.codeWith yL_undo cL_undo 3 (some .int) [(0, 8, 11, 15)]) (by decide +kernel))
  have hKz : va_K D vwCl (tyz yI yC yD) s := hK.sub [0, 1, 2] rfl
  subst hsz
  have hD := hD0.self (sz := s.heap.size)
  generalize hAe : va_A [(x, oRD tx nw tr kn me sl), (nw, oDrv nc S (lN (kL (S) 0 40))), (nc, aI yI 48 g), (me, oMem rg nx ct), (rg, aD yD 14 f), (ou, aL yL ov)] s.heap.size = A at hD hB ⊢
  have hA : ∀ q : Nat, s.heap.size ≤ q → A q := fun q h => by rw [← hAe]; exact Or.inr h
  have hS : va_S A s.heap s.heap [] := va_S.rf
  have hP : va_P D vwCl [(x, oRD tx nw tr kn me sl), (nw, oDrv nc S (lN (kL (S) 0 40))), (nc, aI yI 48 g), (me, oMem rg nx ct), (rg, aD yD 14 f), (ou, aL yL ov)] s.heap := hP
  have hl := lv_entry ([.ref x, .ref ou]) (n := 3) (Nat.le_of_ble_eq_true rfl)
  rw [lg_entry_eq]
  generalize (lg_sl ([.ref x, .ref ou]) ++ List.replicate (3 - (lg_sl ([.ref x, .ref ou])).length) Slot.unset).toArray = ls at hl ⊢
  have hl : lv_has ls 3 [(0, .ref x), (1, .ref ou)] := hl
  refine lv_aload_n hx hb dL_undo_0 rfl (lv_at hl 1 rfl) ?_
  refine lv_iconst (v := iI 0) hx hb dL_undo_1 (by decide +kernel) ?_
  refine lv_aload_n hx hb dL_undo_2 rfl (lv_at hl 0 rfl) ?_
  refine iv_lxV (wc := [(x, oRD tx nw tr kn me sl), (nw, oDrv nc S (lN (kL (S) 0 40))), (nc, aI yI 48 g), (me, oMem rg nx ct), (rg, aD yD 14 f)]) (wr := [(ou, aL yL ov)]) (wp := fun (_ : Unit) => [(x, oRD tx nw tr kn me sl), (nw, oDrv nc S (lN (kL (S) 0 40))), (nc, aI yI 48 g), (me, oMem rg nx ct), (rg, aD yD 14 f)]) (As := []) (rest := [.int (iI 0), .ref ou]) (C := RX4) (n := 0) ⟨hx, hb, hml, hown, hts⟩ (c_X4_undo_n l hla D yI yC yD x tx nw tr kn me sl nc S g rg f nx ct hI hme _) (cwV 0 hts gL_undo_X4_undo rfl rfl rfl (by decide +kernel) ⟨Nat.le_of_ble_eq_true rfl, Nat.le_of_ble_eq_true rfl⟩) hKz hP hD hS hA hB rfl rfl (fun u t h => by exact ⟨h, va_D_fst hD.l.self rfl⟩) (fun _ => rfl) rfl hl.1 rfl (Nat.le_of_ble_eq_true rfl) dL_undo_3 ⟨Nat.le_of_ble_eq_true rfl, Nat.le_of_ble_eq_true rfl⟩ (fun E9 ce9 ox9 ux H locs hxe hP hD hS hc8 hv8 hcl8 => ?_) (fun r9 u H locs hw hP hD hS => ?_)
  · obtain rfl := hxe
    refine vx_catch (name := eS) hown (tableOf []) ⟨0, 8, 11, 15⟩ (tableOf []) (htb.trans rfl) (fun z hz => absurd hz List.not_mem_nil) rfl (by decide) (hts (.classLink RL 15 eS) (by decide +kernel)) (va_Nw.use rfl hB.1.2.1) hc8 hv8 hcl8 ?_
    have hP : va_P D vwCl [(x, oRD tx nw tr kn me sl), (nw, oDrv nc S (lN (kL (S) 0 40))), (nc, aI yI 48 g), (me, oMem rg nx ct), (rg, aD yD 14 f), (ou, aL yL ov)] H := hP
    have hD : va_D A [(x, oRD tx nw tr kn me sl), (nw, oDrv nc S (lN (kL (S) 0 40))), (nc, aI yI 48 g), (me, oMem rg nx ct), (rg, aD yD 14 f), (ou, aL yL ov)] := hD
    refine lv_astore_n (lv' := [(2, .ref ox9), (0, .ref x), (1, .ref ou)]) hx hb dL_undo_11 rfl hl (by decide) rfl (fun ls hl => ?_)
    refine lv_iconst (v := iI 1) hx hb dL_undo_12 (by decide +kernel) ?_
    have hP9 : va_P D vwCl [(x, oRD tx nw tr kn me sl), (nw, oDrv nc S (lN (kL (S) 0 40))), (nc, aI yI 48 g), (me, oMem rg nx ct), (rg, aD yD 14 f), (ou, aL yL ov)] _ := hP
    have hD9 : va_D A [(x, oRD tx nw tr kn me sl), (nw, oDrv nc S (lN (kL (S) 0 40))), (nc, aI yI 48 g), (me, oMem rg nx ct), (rg, aD yD 14 f), (ou, aL yL ov)] := hD
    exact W.iret hx hb hr (fun t ht hW => ⟨⟨iI 1, (), rfl, ⟨rfl, trivial⟩, ⟨by show va_P D vwCl _ t.heap; rw [ht]; exact hP9, hD9⟩⟩, hS.F ht⟩) hS.2.2 dL_undo_13
  · obtain ⟨hr9, hno9⟩ := hw
    exfalso
    first | omega | contradiction
