set_option maxHeartbeats 4000000 in
set_option maxRecDepth 100000 in
theorem c_L_write_0 (l : Launch) (hla : l.stackTraces = false) (D : va_G) (yI yC yD yL : ClassId) (x : Nat) (tx : Nat) (nw : Nat) (tr : Nat) (kn : Nat) (me : Nat) (sl : Nat) (nc : Nat) (S : Int → Int) (g : Int → Int) (rg : Nat) (f : Nat → Option Nat) (nx : Int) (ct : Int) (wq : va_W) (i : Int) (v : Int) (ou : Nat) (ov : Int64) (hI : Inv S) (hR : Rc S g) (hme : 0 ≤ nx ∧ nx < 14 ∧ 0 ≤ ct ∧ ct ≤ 14) (hwq : (f nx.toNat = none ∧ wq = []) ∨ ∃ (q qc : Nat) (S2 g2 : Int → Int) (k2 : Int64), f nx.toNat = some q ∧ wq = [(q, oDrv qc S2 k2), (qc, aI yI 48 g2)]) (hi9 : inR i) (hv : 0 ≤ v ∧ v ≤ 1) (hc9 : 0 ≤ i ∧ i < S 0) (sz : Nat) : Met l yL_write wsL_write ({ frames := 8, cells := 8, slots := 150, locals := 125 }) (vxP [.ref x, .int (iI i), .int (iI v), .ref ou] D (tyl yI yC yD yL) (([(x, oRD tx nw tr kn me sl), (nw, oDrv nc S (lN (kL (S) 0 40))), (nc, aI yI 48 g), (me, oMem rg nx ct), (rg, aD yD 14 f)] ++ wq) ++ [(ou, aL yL ov)]) sz) (va_Qi (fun (r : Int32) (u : Nat × Nat × (Int → Int)) => match u with | (q, qc, G9) => r = iI 0 ∧ ((0 ≤ i ∧ i < S 0)) ∧ (Rc (wr S i v) G9)) (fun (u : Nat × Nat × (Int → Int)) (t : State) => match u with | (q, qc, G9) => va_P D vwCl [(x, oRD tx nw tr kn me sl), (nw, oDrv nc (wr S i v) (lN (kL (wr S i v) 0 40))), (nc, aI yI 48 G9), (me, oMem rg (if nx + 1 < 14 then nx + 1 else 0) (min (ct + 1) 14)), (rg, aD yD 14 (va_up f nx.toNat (some q))), (q, oDrv qc S (lN (kL (S) 0 40))), (qc, aI yI 48 g), (ou, aL yL ((iI (S 4 - wr S i v 4)).toInt64))] t.heap ∧ va_D (va_A (([(x, oRD tx nw tr kn me sl), (nw, oDrv nc S (lN (kL (S) 0 40))), (nc, aI yI 48 g), (me, oMem rg nx ct), (rg, aD yD 14 f)] ++ wq) ++ [(ou, aL yL ov)]) sz) [(x, oRD tx nw tr kn me sl), (nw, oDrv nc (wr S i v) (lN (kL (wr S i v) 0 40))), (nc, aI yI 48 G9), (me, oMem rg (if nx + 1 < 14 then nx + 1 else 0) (min (ct + 1) 14)), (rg, aD yD 14 (va_up f nx.toNat (some q))), (q, oDrv qc S (lN (kL (S) 0 40))), (qc, aI yI 48 g), (ou, aL yL ((iI (S 4 - wr S i v 4)).toInt64))]) (va_A (([(x, oRD tx nw tr kn me sl), (nw, oDrv nc S (lN (kL (S) 0 40))), (nc, aI yI 48 g), (me, oMem rg nx ct), (rg, aD yD 14 f)] ++ wq) ++ [(ou, aL yL ov)]) sz)) 8 150 (va_A (([(x, oRD tx nw tr kn me sl), (nw, oDrv nc S (lN (kL (S) 0 40))), (nc, aI yI 48 g), (me, oMem rg nx ct), (rg, aD yD 14 f)] ++ wq) ++ [(ou, aL yL ov)]) sz) := by
  refine iv_ofWH (cc := cL_write) (maxL := 5) (ret := (some .int)) (hh := [(0, 10, 13, 28)]) (by decide) rfl ?_
  intro p e s m args below meth c s₁ B hml hv
  obtain ⟨rfl, hsz, hP, hK, hD0, hB⟩ := hv
  have hx := B.exec
  have hb := B.bytes
  have hr := B.returns
  have hts := atoms_spec (ws := wsL_write) B.pre
  have hown : s.vm.findClass RL = some m.cls := findClass_of_methodNamed B.named
  have hlocks := B.notSynchronized
  have htb := vx_table (x := yL_append) B (hts (.codeWith yL_write cL_write 5 (some .int) [(0, 10, 13, 28)]) (by decide +kernel))
  have hKz : va_K D vwCl (tyz yI yC yD) s := hK.sub [0, 1, 2] rfl
  subst hsz
  have hD := hD0.self (sz := s.heap.size)
  generalize hAe : va_A (([(x, oRD tx nw tr kn me sl), (nw, oDrv nc S (lN (kL (S) 0 40))), (nc, aI yI 48 g), (me, oMem rg nx ct), (rg, aD yD 14 f)] ++ wq) ++ [(ou, aL yL ov)]) s.heap.size = A at hD hB ⊢
  have hA : ∀ q : Nat, s.heap.size ≤ q → A q := fun q h => by rw [← hAe]; exact Or.inr h
  have hS : va_S A s.heap s.heap [] := va_S.rf
  have hP : va_P D vwCl (([(x, oRD tx nw tr kn me sl), (nw, oDrv nc S (lN (kL (S) 0 40))), (nc, aI yI 48 g), (me, oMem rg nx ct), (rg, aD yD 14 f)] ++ wq) ++ [(ou, aL yL ov)]) s.heap := hP
  have hl := lv_entry ([.ref x, .int (iI i), .int (iI v), .ref ou]) (n := 5) (Nat.le_of_ble_eq_true rfl)
  rw [lg_entry_eq]
  generalize (lg_sl ([.ref x, .int (iI i), .int (iI v), .ref ou]) ++ List.replicate (5 - (lg_sl ([.ref x, .int (iI i), .int (iI v), .ref ou])).length) Slot.unset).toArray = ls at hl ⊢
  have hl : lv_has ls 5 [(0, .ref x), (1, .int (iI i)), (2, .int (iI v)), (3, .ref ou)] := hl
  refine lv_aload_n hx hb dL_write_0 rfl (lv_at hl 3 rfl) ?_
  refine lv_iconst (v := iI 0) hx hb dL_write_1 (by decide +kernel) ?_
  refine lv_aload_n hx hb dL_write_2 rfl (lv_at hl 0 rfl) ?_
  refine lv_iload_n hx hb dL_write_3 rfl (lv_at hl 1 rfl) ?_
  refine lv_iload_n hx hb dL_write_4 rfl (lv_at hl 2 rfl) ?_
  refine iv_lxV (wc := ([(x, oRD tx nw tr kn me sl), (nw, oDrv nc S (lN (kL (S) 0 40))), (nc, aI yI 48 g), (me, oMem rg nx ct), (rg, aD yD 14 f)] ++ wq)) (wr := [(ou, aL yL ov)]) (wp := fun (u : Nat × Nat × (Int → Int)) => match u with | (q, qc, G9) => [(x, oRD tx nw tr kn me sl), (nw, oDrv nc (wr S i v) (lN (kL (wr S i v) 0 40))), (nc, aI yI 48 G9), (me, oMem rg (if nx + 1 < 14 then nx + 1 else 0) (min (ct + 1) 14)), (rg, aD yD 14 (va_up f nx.toNat (some q))), (q, oDrv qc S (lN (kL (S) 0 40))), (qc, aI yI 48 g)]) (As := [.int (iI i), .int (iI v)]) (rest := [.int (iI 0), .ref ou]) (C := RX4) (n := 2) ⟨hx, hb, hml, hown, hts⟩ (c_X4_write l hla D yI yC yD x tx nw tr kn me sl nc S g rg f nx ct wq i v hI hR hme hwq hi9 hv _) (cwV 2 hts gL_write_X4_write rfl rfl rfl (by decide +kernel) ⟨Nat.le_of_ble_eq_true rfl, Nat.le_of_ble_eq_true rfl⟩) hKz hP hD hS hA hB rfl rfl (fun u t h => by obtain ⟨q, qc, G9⟩ := u; exact h) (fun _ => rfl) rfl hl.1 rfl (Nat.le_of_ble_eq_true rfl) dL_write_5 ⟨Nat.le_of_ble_eq_true rfl, Nat.le_of_ble_eq_true rfl⟩ (fun E9 ce9 ox9 ux H locs hxe hP hD hS hc8 hv8 hcl8 => ?_) (fun r9 u H locs hw hP hD hS => ?_)
  · exfalso
    obtain ⟨_, h⟩ := hxe; first | omega | contradiction | exact h (by assumption)
  · obtain ⟨q, qc, G9⟩ := u
    obtain ⟨hr9, hpl9, hR9⟩ := hw
    subst hr9
    have hP : va_P D vwCl [(x, oRD tx nw tr kn me sl), (nw, oDrv nc (wr S i v) (lN (kL (wr S i v) 0 40))), (nc, aI yI 48 G9), (me, oMem rg (if nx + 1 < 14 then nx + 1 else 0) (min (ct + 1) 14)), (rg, aD yD 14 (va_up f nx.toNat (some q))), (q, oDrv qc S (lN (kL (S) 0 40))), (qc, aI yI 48 g), (ou, aL yL ov)] H := hP
    have hD : va_D A [(x, oRD tx nw tr kn me sl), (nw, oDrv nc (wr S i v) (lN (kL (wr S i v) 0 40))), (nc, aI yI 48 G9), (me, oMem rg (if nx + 1 < 14 then nx + 1 else 0) (min (ct + 1) 14)), (rg, aD yD 14 (va_up f nx.toNat (some q))), (q, oDrv qc S (lN (kL (S) 0 40))), (qc, aI yI 48 g), (ou, aL yL ov)] := hD
    refine lv_i2l (v := (iI (S 4 - wr S i v 4)).toInt64) hx hb dL_write_8 rfl ?_
    refine iv_lst hx hb hK hP hD hS 7 3 rfl rfl dL_write_9 (fun H locs hP hD hS => ?_)
    have hP : va_P D vwCl [(x, oRD tx nw tr kn me sl), (nw, oDrv nc (wr S i v) (lN (kL (wr S i v) 0 40))), (nc, aI yI 48 G9), (me, oMem rg (if nx + 1 < 14 then nx + 1 else 0) (min (ct + 1) 14)), (rg, aD yD 14 (va_up f nx.toNat (some q))), (q, oDrv qc S (lN (kL (S) 0 40))), (qc, aI yI 48 g), (ou, aL yL ((iI (S 4 - wr S i v 4)).toInt64))] H := hP
    have hD : va_D A [(x, oRD tx nw tr kn me sl), (nw, oDrv nc (wr S i v) (lN (kL (wr S i v) 0 40))), (nc, aI yI 48 G9), (me, oMem rg (if nx + 1 < 14 then nx + 1 else 0) (min (ct + 1) 14)), (rg, aD yD 14 (va_up f nx.toNat (some q))), (q, oDrv qc S (lN (kL (S) 0 40))), (qc, aI yI 48 g), (ou, aL yL ((iI (S 4 - wr S i v 4)).toInt64))] := hD
    refine lv_goto (tgt := 17) hx hb dL_write_10 (by decide) ?_
    refine lv_iconst (v := iI 0) hx hb dL_write_17 (by decide +kernel) ?_
    have hP9 : va_P D vwCl [(x, oRD tx nw tr kn me sl), (nw, oDrv nc (wr S i v) (lN (kL (wr S i v) 0 40))), (nc, aI yI 48 G9), (me, oMem rg (if nx + 1 < 14 then nx + 1 else 0) (min (ct + 1) 14)), (rg, aD yD 14 (va_up f nx.toNat (some q))), (q, oDrv qc S (lN (kL (S) 0 40))), (qc, aI yI 48 g), (ou, aL yL ((iI (S 4 - wr S i v 4)).toInt64))] _ := hP
    have hD9 : va_D A [(x, oRD tx nw tr kn me sl), (nw, oDrv nc (wr S i v) (lN (kL (wr S i v) 0 40))), (nc, aI yI 48 G9), (me, oMem rg (if nx + 1 < 14 then nx + 1 else 0) (min (ct + 1) 14)), (rg, aD yD 14 (va_up f nx.toNat (some q))), (q, oDrv qc S (lN (kL (S) 0 40))), (qc, aI yI 48 g), (ou, aL yL ((iI (S 4 - wr S i v 4)).toInt64))] := hD
    exact W.iret hx hb hr (fun t ht hW => ⟨⟨iI 0, (q, qc, G9), rfl, ⟨rfl, hpl9, hR9⟩, ⟨by show va_P D vwCl _ t.heap; rw [ht]; exact hP9, hD9⟩⟩, hS.F ht⟩) hS.2.2 dL_write_18
set_option maxHeartbeats 4000000 in
set_option maxRecDepth 100000 in
theorem c_L_write_1 (l : Launch) (hla : l.stackTraces = false) (D : va_G) (yI yC yD yL : ClassId) (x : Nat) (tx : Nat) (nw : Nat) (tr : Nat) (kn : Nat) (me : Nat) (sl : Nat) (nc : Nat) (S : Int → Int) (g : Int → Int) (rg : Nat) (f : Nat → Option Nat) (nx : Int) (ct : Int) (wq : va_W) (i : Int) (v : Int) (ou : Nat) (ov : Int64) (hI : Inv S) (hR : Rc S g) (hme : 0 ≤ nx ∧ nx < 14 ∧ 0 ≤ ct ∧ ct ≤ 14) (hwq : (f nx.toNat = none ∧ wq = []) ∨ ∃ (q qc : Nat) (S2 g2 : Int → Int) (k2 : Int64), f nx.toNat = some q ∧ wq = [(q, oDrv qc S2 k2), (qc, aI yI 48 g2)]) (hi9 : inR i) (hv : 0 ≤ v ∧ v ≤ 1) (hc9 : ¬ (0 ≤ i ∧ i < S 0)) (sz : Nat) : Met l yL_write wsL_write ({ frames := 8, cells := 8, slots := 150, locals := 125 }) (vxP [.ref x, .int (iI i), .int (iI v), .ref ou] D (tyl yI yC yD yL) (([(x, oRD tx nw tr kn me sl), (nw, oDrv nc S (lN (kL (S) 0 40))), (nc, aI yI 48 g), (me, oMem rg nx ct), (rg, aD yD 14 f)] ++ wq) ++ [(ou, aL yL ov)]) sz) (va_Qi (fun (r : Int32) (_ : Unit) => r = iI 1 ∧ True) (fun (_ : Unit) (t : State) => va_P D vwCl (([(x, oRD tx nw tr kn me sl), (nw, oDrv nc S (lN (kL (S) 0 40))), (nc, aI yI 48 g), (me, oMem rg nx ct), (rg, aD yD 14 f)] ++ wq) ++ [(ou, aL yL ov)]) t.heap ∧ va_D (va_A (([(x, oRD tx nw tr kn me sl), (nw, oDrv nc S (lN (kL (S) 0 40))), (nc, aI yI 48 g), (me, oMem rg nx ct), (rg, aD yD 14 f)] ++ wq) ++ [(ou, aL yL ov)]) sz) (([(x, oRD tx nw tr kn me sl), (nw, oDrv nc S (lN (kL (S) 0 40))), (nc, aI yI 48 g), (me, oMem rg nx ct), (rg, aD yD 14 f)] ++ wq) ++ [(ou, aL yL ov)])) (va_A (([(x, oRD tx nw tr kn me sl), (nw, oDrv nc S (lN (kL (S) 0 40))), (nc, aI yI 48 g), (me, oMem rg nx ct), (rg, aD yD 14 f)] ++ wq) ++ [(ou, aL yL ov)]) sz)) 8 150 (va_A (([(x, oRD tx nw tr kn me sl), (nw, oDrv nc S (lN (kL (S) 0 40))), (nc, aI yI 48 g), (me, oMem rg nx ct), (rg, aD yD 14 f)] ++ wq) ++ [(ou, aL yL ov)]) sz) := by
  refine iv_ofWH (cc := cL_write) (maxL := 5) (ret := (some .int)) (hh := [(0, 10, 13, 28)]) (by decide) rfl ?_
  intro p e s m args below meth c s₁ B hml hv
  obtain ⟨rfl, hsz, hP, hK, hD0, hB⟩ := hv
  have hx := B.exec
  have hb := B.bytes
  have hr := B.returns
  have hts := atoms_spec (ws := wsL_write) B.pre
  have hown : s.vm.findClass RL = some m.cls := findClass_of_methodNamed B.named
  have hlocks := B.notSynchronized
  have htb := vx_table (x := yL_append) B (hts (.codeWith yL_write cL_write 5 (some .int) [(0, 10, 13, 28)]) (by decide +kernel))
  have hKz : va_K D vwCl (tyz yI yC yD) s := hK.sub [0, 1, 2] rfl
  subst hsz
  have hD := hD0.self (sz := s.heap.size)
  generalize hAe : va_A (([(x, oRD tx nw tr kn me sl), (nw, oDrv nc S (lN (kL (S) 0 40))), (nc, aI yI 48 g), (me, oMem rg nx ct), (rg, aD yD 14 f)] ++ wq) ++ [(ou, aL yL ov)]) s.heap.size = A at hD hB ⊢
  have hA : ∀ q : Nat, s.heap.size ≤ q → A q := fun q h => by rw [← hAe]; exact Or.inr h
  have hS : va_S A s.heap s.heap [] := va_S.rf
  have hP : va_P D vwCl (([(x, oRD tx nw tr kn me sl), (nw, oDrv nc S (lN (kL (S) 0 40))), (nc, aI yI 48 g), (me, oMem rg nx ct), (rg, aD yD 14 f)] ++ wq) ++ [(ou, aL yL ov)]) s.heap := hP
  have hl := lv_entry ([.ref x, .int (iI i), .int (iI v), .ref ou]) (n := 5) (Nat.le_of_ble_eq_true rfl)
  rw [lg_entry_eq]
  generalize (lg_sl ([.ref x, .int (iI i), .int (iI v), .ref ou]) ++ List.replicate (5 - (lg_sl ([.ref x, .int (iI i), .int (iI v), .ref ou])).length) Slot.unset).toArray = ls at hl ⊢
  have hl : lv_has ls 5 [(0, .ref x), (1, .int (iI i)), (2, .int (iI v)), (3, .ref ou)] := hl
  refine lv_aload_n hx hb dL_write_0 rfl (lv_at hl 3 rfl) ?_
  refine lv_iconst (v := iI 0) hx hb dL_write_1 (by decide +kernel) ?_
  refine lv_aload_n hx hb dL_write_2 rfl (lv_at hl 0 rfl) ?_
  refine lv_iload_n hx hb dL_write_3 rfl (lv_at hl 1 rfl) ?_
  refine lv_iload_n hx hb dL_write_4 rfl (lv_at hl 2 rfl) ?_
  refine iv_lxV (wc := ([(x, oRD tx nw tr kn me sl), (nw, oDrv nc S (lN (kL (S) 0 40))), (nc, aI yI 48 g), (me, oMem rg nx ct), (rg, aD yD 14 f)] ++ wq)) (wr := [(ou, aL yL ov)]) (wp := fun (u : Nat × Nat × (Int → Int)) => match u with | (q, qc, G9) => [(x, oRD tx nw tr kn me sl), (nw, oDrv nc (wr S i v) (lN (kL (wr S i v) 0 40))), (nc, aI yI 48 G9), (me, oMem rg (if nx + 1 < 14 then nx + 1 else 0) (min (ct + 1) 14)), (rg, aD yD 14 (va_up f nx.toNat (some q))), (q, oDrv qc S (lN (kL (S) 0 40))), (qc, aI yI 48 g)]) (As := [.int (iI i), .int (iI v)]) (rest := [.int (iI 0), .ref ou]) (C := RX4) (n := 2) ⟨hx, hb, hml, hown, hts⟩ (c_X4_write l hla D yI yC yD x tx nw tr kn me sl nc S g rg f nx ct wq i v hI hR hme hwq hi9 hv _) (cwV 2 hts gL_write_X4_write rfl rfl rfl (by decide +kernel) ⟨Nat.le_of_ble_eq_true rfl, Nat.le_of_ble_eq_true rfl⟩) hKz hP hD hS hA hB rfl rfl (fun u t h => by obtain ⟨q, qc, G9⟩ := u; exact h) (fun _ => rfl) rfl hl.1 rfl (Nat.le_of_ble_eq_true rfl) dL_write_5 ⟨Nat.le_of_ble_eq_true rfl, Nat.le_of_ble_eq_true rfl⟩ (fun E9 ce9 ox9 ux H locs hxe hP hD hS hc8 hv8 hcl8 => ?_) (fun r9 u H locs hw hP hD hS => ?_)
  · obtain ⟨rfl, hxc⟩ := hxe
    refine vx_catch (name := eI) hown (tableOf []) ⟨0, 10, 13, 28⟩ (tableOf []) (htb.trans rfl) (fun z hz => absurd hz List.not_mem_nil) rfl (by decide) (hts (.classLink RL 28 eI) (by decide +kernel)) (va_Nw.use rfl hB.1.2.2) hc8 hv8 hcl8 ?_
    have hP : va_P D vwCl (([(x, oRD tx nw tr kn me sl), (nw, oDrv nc S (lN (kL (S) 0 40))), (nc, aI yI 48 g), (me, oMem rg nx ct), (rg, aD yD 14 f)] ++ wq) ++ [(ou, aL yL ov)]) H := hP
    have hD : va_D A (([(x, oRD tx nw tr kn me sl), (nw, oDrv nc S (lN (kL (S) 0 40))), (nc, aI yI 48 g), (me, oMem rg nx ct), (rg, aD yD 14 f)] ++ wq) ++ [(ou, aL yL ov)]) := hD
    refine lv_astore (lv' := [(4, .ref ox9), (0, .ref x), (1, .int (iI i)), (2, .int (iI v)), (3, .ref ou)]) hx hb dL_write_13 hl (by decide) rfl (fun ls hl => ?_)
    refine lv_iconst (v := iI 1) hx hb dL_write_15 (by decide +kernel) ?_
    have hP9 : va_P D vwCl (([(x, oRD tx nw tr kn me sl), (nw, oDrv nc S (lN (kL (S) 0 40))), (nc, aI yI 48 g), (me, oMem rg nx ct), (rg, aD yD 14 f)] ++ wq) ++ [(ou, aL yL ov)]) _ := hP
    have hD9 : va_D A (([(x, oRD tx nw tr kn me sl), (nw, oDrv nc S (lN (kL (S) 0 40))), (nc, aI yI 48 g), (me, oMem rg nx ct), (rg, aD yD 14 f)] ++ wq) ++ [(ou, aL yL ov)]) := hD
    exact W.iret hx hb hr (fun t ht hW => ⟨⟨iI 1, (), rfl, ⟨rfl, trivial⟩, ⟨by show va_P D vwCl _ t.heap; rw [ht]; exact hP9, hD9⟩⟩, hS.F ht⟩) hS.2.2 dL_write_16
  · obtain ⟨q, qc, G9⟩ := u
    obtain ⟨hr9, hpl9, hR9⟩ := hw
    exfalso
    first | omega | contradiction
set_option maxHeartbeats 4000000 in
set_option maxRecDepth 100000 in
theorem c_L_set_0 (l : Launch) (hla : l.stackTraces = false) (D : va_G) (yI yC yD yL : ClassId) (x : Nat) (tx : Nat) (nw : Nat) (tr : Nat) (kn : Nat) (me : Nat) (sl : Nat) (nc : Nat) (S : Int → Int) (g : Int → Int) (rg : Nat) (f : Nat → Option Nat) (nx : Int) (ct : Int) (wq : va_W) (w : Int) (v : Int) (ou : Nat) (ov : Int64) (hI : Inv S) (hR : Rc S g) (hme : 0 ≤ nx ∧ nx < 14 ∧ 0 ≤ ct ∧ ct ≤ 14) (hwq : (f nx.toNat = none ∧ wq = []) ∨ ∃ (q qc : Nat) (S2 g2 : Int → Int) (k2 : Int64), f nx.toNat = some q ∧ wq = [(q, oDrv qc S2 k2), (qc, aI yI 48 g2)]) (hw9 : inR w ∧ inR v) (hc9 : okS w v) (sz : Nat) : Met l yL_set wsL_set ({ frames := 7, cells := 8, slots := 150, locals := 104 }) (vxP [.ref x, .int (iI w), .int (iI v), .ref ou] D (tyl yI yC yD yL) (([(x, oRD tx nw tr kn me sl), (nw, oDrv nc S (lN (kL (S) 0 40))), (nc, aI yI 48 g), (me, oMem rg nx ct), (rg, aD yD 14 f)] ++ wq) ++ [(ou, aL yL ov)]) sz) (va_Qi (fun (r : Int32) (u : Nat × Nat) => match u with | (q, qc) => r = iI 0 ∧ ((okS w v)) ∧ (Rc (setg S w v) g)) (fun (u : Nat × Nat) (t : State) => match u with | (q, qc) => va_P D vwCl [(x, oRD tx nw tr kn me sl), (nw, oDrv nc (setg S w v) (lN (kL (setg S w v) 0 40))), (nc, aI yI 48 g), (me, oMem rg (if nx + 1 < 14 then nx + 1 else 0) (min (ct + 1) 14)), (rg, aD yD 14 (va_up f nx.toNat (some q))), (q, oDrv qc S (lN (kL (S) 0 40))), (qc, aI yI 48 g), (ou, aL yL ((iI (S (1 + w))).toInt64))] t.heap ∧ va_D (va_A (([(x, oRD tx nw tr kn me sl), (nw, oDrv nc S (lN (kL (S) 0 40))), (nc, aI yI 48 g), (me, oMem rg nx ct), (rg, aD yD 14 f)] ++ wq) ++ [(ou, aL yL ov)]) sz) [(x, oRD tx nw tr kn me sl), (nw, oDrv nc (setg S w v) (lN (kL (setg S w v) 0 40))), (nc, aI yI 48 g), (me, oMem rg (if nx + 1 < 14 then nx + 1 else 0) (min (ct + 1) 14)), (rg, aD yD 14 (va_up f nx.toNat (some q))), (q, oDrv qc S (lN (kL (S) 0 40))), (qc, aI yI 48 g), (ou, aL yL ((iI (S (1 + w))).toInt64))]) (va_A (([(x, oRD tx nw tr kn me sl), (nw, oDrv nc S (lN (kL (S) 0 40))), (nc, aI yI 48 g), (me, oMem rg nx ct), (rg, aD yD 14 f)] ++ wq) ++ [(ou, aL yL ov)]) sz)) 8 150 (va_A (([(x, oRD tx nw tr kn me sl), (nw, oDrv nc S (lN (kL (S) 0 40))), (nc, aI yI 48 g), (me, oMem rg nx ct), (rg, aD yD 14 f)] ++ wq) ++ [(ou, aL yL ov)]) sz) := by
  refine iv_ofWH (cc := cL_set) (maxL := 5) (ret := (some .int)) (hh := [(0, 10, 13, 13)]) (by decide) rfl ?_
  intro p e s m args below meth c s₁ B hml hv
  obtain ⟨rfl, hsz, hP, hK, hD0, hB⟩ := hv
  have hx := B.exec
  have hb := B.bytes
  have hr := B.returns
  have hts := atoms_spec (ws := wsL_set) B.pre
  have hown : s.vm.findClass RL = some m.cls := findClass_of_methodNamed B.named
  have hlocks := B.notSynchronized
  have htb := vx_table (x := yL_append) B (hts (.codeWith yL_set cL_set 5 (some .int) [(0, 10, 13, 13)]) (by decide +kernel))
  have hKz : va_K D vwCl (tyz yI yC yD) s := hK.sub [0, 1, 2] rfl
  subst hsz
  have hD := hD0.self (sz := s.heap.size)
  generalize hAe : va_A (([(x, oRD tx nw tr kn me sl), (nw, oDrv nc S (lN (kL (S) 0 40))), (nc, aI yI 48 g), (me, oMem rg nx ct), (rg, aD yD 14 f)] ++ wq) ++ [(ou, aL yL ov)]) s.heap.size = A at hD hB ⊢
  have hA : ∀ q : Nat, s.heap.size ≤ q → A q := fun q h => by rw [← hAe]; exact Or.inr h
  have hS : va_S A s.heap s.heap [] := va_S.rf
  have hP : va_P D vwCl (([(x, oRD tx nw tr kn me sl), (nw, oDrv nc S (lN (kL (S) 0 40))), (nc, aI yI 48 g), (me, oMem rg nx ct), (rg, aD yD 14 f)] ++ wq) ++ [(ou, aL yL ov)]) s.heap := hP
  have hl := lv_entry ([.ref x, .int (iI w), .int (iI v), .ref ou]) (n := 5) (Nat.le_of_ble_eq_true rfl)
  rw [lg_entry_eq]
  generalize (lg_sl ([.ref x, .int (iI w), .int (iI v), .ref ou]) ++ List.replicate (5 - (lg_sl ([.ref x, .int (iI w), .int (iI v), .ref ou])).length) Slot.unset).toArray = ls at hl ⊢
  have hl : lv_has ls 5 [(0, .ref x), (1, .int (iI w)), (2, .int (iI v)), (3, .ref ou)] := hl
  refine lv_aload_n hx hb dL_set_0 rfl (lv_at hl 3 rfl) ?_
  refine lv_iconst (v := iI 0) hx hb dL_set_1 (by decide +kernel) ?_
  refine lv_aload_n hx hb dL_set_2 rfl (lv_at hl 0 rfl) ?_
  refine lv_iload_n hx hb dL_set_3 rfl (lv_at hl 1 rfl) ?_
  refine lv_iload_n hx hb dL_set_4 rfl (lv_at hl 2 rfl) ?_
  refine iv_lxV (wc := ([(x, oRD tx nw tr kn me sl), (nw, oDrv nc S (lN (kL (S) 0 40))), (nc, aI yI 48 g), (me, oMem rg nx ct), (rg, aD yD 14 f)] ++ wq)) (wr := [(ou, aL yL ov)]) (wp := fun (u : Nat × Nat) => match u with | (q, qc) => [(x, oRD tx nw tr kn me sl), (nw, oDrv nc (setg S w v) (lN (kL (setg S w v) 0 40))), (nc, aI yI 48 g), (me, oMem rg (if nx + 1 < 14 then nx + 1 else 0) (min (ct + 1) 14)), (rg, aD yD 14 (va_up f nx.toNat (some q))), (q, oDrv qc S (lN (kL (S) 0 40))), (qc, aI yI 48 g)]) (As := [.int (iI w), .int (iI v)]) (rest := [.int (iI 0), .ref ou]) (C := RX4) (n := 2) ⟨hx, hb, hml, hown, hts⟩ (c_X4_set l hla D yI yC yD x tx nw tr kn me sl nc S g rg f nx ct wq w v hI hR hme hwq hw9 _) (cwV 2 hts gL_set_X4_set rfl rfl rfl (by decide +kernel) ⟨Nat.le_of_ble_eq_true rfl, Nat.le_of_ble_eq_true rfl⟩) hKz hP hD hS hA hB rfl rfl (fun u t h => by obtain ⟨q, qc⟩ := u; exact h) (fun _ => rfl) rfl hl.1 rfl (Nat.le_of_ble_eq_true rfl) dL_set_5 ⟨Nat.le_of_ble_eq_true rfl, Nat.le_of_ble_eq_true rfl⟩ (fun E9 ce9 ox9 ux H locs hxe hP hD hS hc8 hv8 hcl8 => ?_) (fun r9 u H locs hw hP hD hS => ?_)
  · exfalso
    obtain ⟨_, h⟩ := hxe; first | omega | contradiction | exact h (by assumption)
  · obtain ⟨q, qc⟩ := u
    obtain ⟨hr9, hok9, hR9⟩ := hw
    subst hr9
    have hP : va_P D vwCl [(x, oRD tx nw tr kn me sl), (nw, oDrv nc (setg S w v) (lN (kL (setg S w v) 0 40))), (nc, aI yI 48 g), (me, oMem rg (if nx + 1 < 14 then nx + 1 else 0) (min (ct + 1) 14)), (rg, aD yD 14 (va_up f nx.toNat (some q))), (q, oDrv qc S (lN (kL (S) 0 40))), (qc, aI yI 48 g), (ou, aL yL ov)] H := hP
    have hD : va_D A [(x, oRD tx nw tr kn me sl), (nw, oDrv nc (setg S w v) (lN (kL (setg S w v) 0 40))), (nc, aI yI 48 g), (me, oMem rg (if nx + 1 < 14 then nx + 1 else 0) (min (ct + 1) 14)), (rg, aD yD 14 (va_up f nx.toNat (some q))), (q, oDrv qc S (lN (kL (S) 0 40))), (qc, aI yI 48 g), (ou, aL yL ov)] := hD
    refine lv_i2l (v := (iI (S (1 + w))).toInt64) hx hb dL_set_8 rfl ?_
    refine iv_lst hx hb hK hP hD hS 7 3 rfl rfl dL_set_9 (fun H locs hP hD hS => ?_)
    have hP : va_P D vwCl [(x, oRD tx nw tr kn me sl), (nw, oDrv nc (setg S w v) (lN (kL (setg S w v) 0 40))), (nc, aI yI 48 g), (me, oMem rg (if nx + 1 < 14 then nx + 1 else 0) (min (ct + 1) 14)), (rg, aD yD 14 (va_up f nx.toNat (some q))), (q, oDrv qc S (lN (kL (S) 0 40))), (qc, aI yI 48 g), (ou, aL yL ((iI (S (1 + w))).toInt64))] H := hP
    have hD : va_D A [(x, oRD tx nw tr kn me sl), (nw, oDrv nc (setg S w v) (lN (kL (setg S w v) 0 40))), (nc, aI yI 48 g), (me, oMem rg (if nx + 1 < 14 then nx + 1 else 0) (min (ct + 1) 14)), (rg, aD yD 14 (va_up f nx.toNat (some q))), (q, oDrv qc S (lN (kL (S) 0 40))), (qc, aI yI 48 g), (ou, aL yL ((iI (S (1 + w))).toInt64))] := hD
    refine lv_goto (tgt := 17) hx hb dL_set_10 (by decide) ?_
    refine lv_iconst (v := iI 0) hx hb dL_set_17 (by decide +kernel) ?_
    have hP9 : va_P D vwCl [(x, oRD tx nw tr kn me sl), (nw, oDrv nc (setg S w v) (lN (kL (setg S w v) 0 40))), (nc, aI yI 48 g), (me, oMem rg (if nx + 1 < 14 then nx + 1 else 0) (min (ct + 1) 14)), (rg, aD yD 14 (va_up f nx.toNat (some q))), (q, oDrv qc S (lN (kL (S) 0 40))), (qc, aI yI 48 g), (ou, aL yL ((iI (S (1 + w))).toInt64))] _ := hP
    have hD9 : va_D A [(x, oRD tx nw tr kn me sl), (nw, oDrv nc (setg S w v) (lN (kL (setg S w v) 0 40))), (nc, aI yI 48 g), (me, oMem rg (if nx + 1 < 14 then nx + 1 else 0) (min (ct + 1) 14)), (rg, aD yD 14 (va_up f nx.toNat (some q))), (q, oDrv qc S (lN (kL (S) 0 40))), (qc, aI yI 48 g), (ou, aL yL ((iI (S (1 + w))).toInt64))] := hD
    exact W.iret hx hb hr (fun t ht hW => ⟨⟨iI 0, (q, qc), rfl, ⟨rfl, hok9, hR9⟩, ⟨by show va_P D vwCl _ t.heap; rw [ht]; exact hP9, hD9⟩⟩, hS.F ht⟩) hS.2.2 dL_set_18
set_option maxHeartbeats 4000000 in
set_option maxRecDepth 100000 in
theorem c_L_set_1 (l : Launch) (hla : l.stackTraces = false) (D : va_G) (yI yC yD yL : ClassId) (x : Nat) (tx : Nat) (nw : Nat) (tr : Nat) (kn : Nat) (me : Nat) (sl : Nat) (nc : Nat) (S : Int → Int) (g : Int → Int) (rg : Nat) (f : Nat → Option Nat) (nx : Int) (ct : Int) (wq : va_W) (w : Int) (v : Int) (ou : Nat) (ov : Int64) (hI : Inv S) (hR : Rc S g) (hme : 0 ≤ nx ∧ nx < 14 ∧ 0 ≤ ct ∧ ct ≤ 14) (hwq : (f nx.toNat = none ∧ wq = []) ∨ ∃ (q qc : Nat) (S2 g2 : Int → Int) (k2 : Int64), f nx.toNat = some q ∧ wq = [(q, oDrv qc S2 k2), (qc, aI yI 48 g2)]) (hw9 : inR w ∧ inR v) (hc9 : ¬ (okS w v)) (sz : Nat) : Met l yL_set wsL_set ({ frames := 7, cells := 8, slots := 150, locals := 104 }) (vxP [.ref x, .int (iI w), .int (iI v), .ref ou] D (tyl yI yC yD yL) (([(x, oRD tx nw tr kn me sl), (nw, oDrv nc S (lN (kL (S) 0 40))), (nc, aI yI 48 g), (me, oMem rg nx ct), (rg, aD yD 14 f)] ++ wq) ++ [(ou, aL yL ov)]) sz) (va_Qi (fun (r : Int32) (_ : Unit) => r = iI 1 ∧ True) (fun (_ : Unit) (t : State) => va_P D vwCl (([(x, oRD tx nw tr kn me sl), (nw, oDrv nc S (lN (kL (S) 0 40))), (nc, aI yI 48 g), (me, oMem rg nx ct), (rg, aD yD 14 f)] ++ wq) ++ [(ou, aL yL ov)]) t.heap ∧ va_D (va_A (([(x, oRD tx nw tr kn me sl), (nw, oDrv nc S (lN (kL (S) 0 40))), (nc, aI yI 48 g), (me, oMem rg nx ct), (rg, aD yD 14 f)] ++ wq) ++ [(ou, aL yL ov)]) sz) (([(x, oRD tx nw tr kn me sl), (nw, oDrv nc S (lN (kL (S) 0 40))), (nc, aI yI 48 g), (me, oMem rg nx ct), (rg, aD yD 14 f)] ++ wq) ++ [(ou, aL yL ov)])) (va_A (([(x, oRD tx nw tr kn me sl), (nw, oDrv nc S (lN (kL (S) 0 40))), (nc, aI yI 48 g), (me, oMem rg nx ct), (rg, aD yD 14 f)] ++ wq) ++ [(ou, aL yL ov)]) sz)) 8 150 (va_A (([(x, oRD tx nw tr kn me sl), (nw, oDrv nc S (lN (kL (S) 0 40))), (nc, aI yI 48 g), (me, oMem rg nx ct), (rg, aD yD 14 f)] ++ wq) ++ [(ou, aL yL ov)]) sz) := by
  refine iv_ofWH (cc := cL_set) (maxL := 5) (ret := (some .int)) (hh := [(0, 10, 13, 13)]) (by decide) rfl ?_
  intro p e s m args below meth c s₁ B hml hv
  obtain ⟨rfl, hsz, hP, hK, hD0, hB⟩ := hv
  have hx := B.exec
  have hb := B.bytes
  have hr := B.returns
  have hts := atoms_spec (ws := wsL_set) B.pre
  have hown : s.vm.findClass RL = some m.cls := findClass_of_methodNamed B.named
  have hlocks := B.notSynchronized
  have htb := vx_table (x := yL_append) B (hts (.codeWith yL_set cL_set 5 (some .int) [(0, 10, 13, 13)]) (by decide +kernel))
  have hKz : va_K D vwCl (tyz yI yC yD) s := hK.sub [0, 1, 2] rfl
  subst hsz
  have hD := hD0.self (sz := s.heap.size)
  generalize hAe : va_A (([(x, oRD tx nw tr kn me sl), (nw, oDrv nc S (lN (kL (S) 0 40))), (nc, aI yI 48 g), (me, oMem rg nx ct), (rg, aD yD 14 f)] ++ wq) ++ [(ou, aL yL ov)]) s.heap.size = A at hD hB ⊢
  have hA : ∀ q : Nat, s.heap.size ≤ q → A q := fun q h => by rw [← hAe]; exact Or.inr h
  have hS : va_S A s.heap s.heap [] := va_S.rf
  have hP : va_P D vwCl (([(x, oRD tx nw tr kn me sl), (nw, oDrv nc S (lN (kL (S) 0 40))), (nc, aI yI 48 g), (me, oMem rg nx ct), (rg, aD yD 14 f)] ++ wq) ++ [(ou, aL yL ov)]) s.heap := hP
  have hl := lv_entry ([.ref x, .int (iI w), .int (iI v), .ref ou]) (n := 5) (Nat.le_of_ble_eq_true rfl)
  rw [lg_entry_eq]
  generalize (lg_sl ([.ref x, .int (iI w), .int (iI v), .ref ou]) ++ List.replicate (5 - (lg_sl ([.ref x, .int (iI w), .int (iI v), .ref ou])).length) Slot.unset).toArray = ls at hl ⊢
  have hl : lv_has ls 5 [(0, .ref x), (1, .int (iI w)), (2, .int (iI v)), (3, .ref ou)] := hl
  refine lv_aload_n hx hb dL_set_0 rfl (lv_at hl 3 rfl) ?_
  refine lv_iconst (v := iI 0) hx hb dL_set_1 (by decide +kernel) ?_
  refine lv_aload_n hx hb dL_set_2 rfl (lv_at hl 0 rfl) ?_
  refine lv_iload_n hx hb dL_set_3 rfl (lv_at hl 1 rfl) ?_
  refine lv_iload_n hx hb dL_set_4 rfl (lv_at hl 2 rfl) ?_
  refine iv_lxV (wc := ([(x, oRD tx nw tr kn me sl), (nw, oDrv nc S (lN (kL (S) 0 40))), (nc, aI yI 48 g), (me, oMem rg nx ct), (rg, aD yD 14 f)] ++ wq)) (wr := [(ou, aL yL ov)]) (wp := fun (u : Nat × Nat) => match u with | (q, qc) => [(x, oRD tx nw tr kn me sl), (nw, oDrv nc (setg S w v) (lN (kL (setg S w v) 0 40))), (nc, aI yI 48 g), (me, oMem rg (if nx + 1 < 14 then nx + 1 else 0) (min (ct + 1) 14)), (rg, aD yD 14 (va_up f nx.toNat (some q))), (q, oDrv qc S (lN (kL (S) 0 40))), (qc, aI yI 48 g)]) (As := [.int (iI w), .int (iI v)]) (rest := [.int (iI 0), .ref ou]) (C := RX4) (n := 2) ⟨hx, hb, hml, hown, hts⟩ (c_X4_set l hla D yI yC yD x tx nw tr kn me sl nc S g rg f nx ct wq w v hI hR hme hwq hw9 _) (cwV 2 hts gL_set_X4_set rfl rfl rfl (by decide +kernel) ⟨Nat.le_of_ble_eq_true rfl, Nat.le_of_ble_eq_true rfl⟩) hKz hP hD hS hA hB rfl rfl (fun u t h => by obtain ⟨q, qc⟩ := u; exact h) (fun _ => rfl) rfl hl.1 rfl (Nat.le_of_ble_eq_true rfl) dL_set_5 ⟨Nat.le_of_ble_eq_true rfl, Nat.le_of_ble_eq_true rfl⟩ (fun E9 ce9 ox9 ux H locs hxe hP hD hS hc8 hv8 hcl8 => ?_) (fun r9 u H locs hw hP hD hS => ?_)
  · obtain ⟨rfl, hxc⟩ := hxe
    refine vx_catch (name := eA) hown (tableOf []) ⟨0, 10, 13, 13⟩ (tableOf []) (htb.trans rfl) (fun z hz => absurd hz List.not_mem_nil) rfl (by decide) (hts (.classLink RL 13 eA) (by decide +kernel)) (va_Nw.use rfl hB.1.1) hc8 hv8 hcl8 ?_
    have hP : va_P D vwCl (([(x, oRD tx nw tr kn me sl), (nw, oDrv nc S (lN (kL (S) 0 40))), (nc, aI yI 48 g), (me, oMem rg nx ct), (rg, aD yD 14 f)] ++ wq) ++ [(ou, aL yL ov)]) H := hP
    have hD : va_D A (([(x, oRD tx nw tr kn me sl), (nw, oDrv nc S (lN (kL (S) 0 40))), (nc, aI yI 48 g), (me, oMem rg nx ct), (rg, aD yD 14 f)] ++ wq) ++ [(ou, aL yL ov)]) := hD
    refine lv_astore (lv' := [(4, .ref ox9), (0, .ref x), (1, .int (iI w)), (2, .int (iI v)), (3, .ref ou)]) hx hb dL_set_13 hl (by decide) rfl (fun ls hl => ?_)
    refine lv_iconst (v := iI 1) hx hb dL_set_15 (by decide +kernel) ?_
    have hP9 : va_P D vwCl (([(x, oRD tx nw tr kn me sl), (nw, oDrv nc S (lN (kL (S) 0 40))), (nc, aI yI 48 g), (me, oMem rg nx ct), (rg, aD yD 14 f)] ++ wq) ++ [(ou, aL yL ov)]) _ := hP
    have hD9 : va_D A (([(x, oRD tx nw tr kn me sl), (nw, oDrv nc S (lN (kL (S) 0 40))), (nc, aI yI 48 g), (me, oMem rg nx ct), (rg, aD yD 14 f)] ++ wq) ++ [(ou, aL yL ov)]) := hD
    exact W.iret hx hb hr (fun t ht hW => ⟨⟨iI 1, (), rfl, ⟨rfl, trivial⟩, ⟨by show va_P D vwCl _ t.heap; rw [ht]; exact hP9, hD9⟩⟩, hS.F ht⟩) hS.2.2 dL_set_16
  · obtain ⟨q, qc⟩ := u
    obtain ⟨hr9, hok9, hR9⟩ := hw
    exfalso
    first | omega | contradiction
set_option maxHeartbeats 4000000 in
set_option maxRecDepth 100000 in
theorem c_L_ask_0 (l : Launch) (hla : l.stackTraces = false) (D : va_G) (yI yC yD yL : ClassId) (x : Nat) (tx : Nat) (nw : Nat) (tr : Nat) (kn : Nat) (me : Nat) (sl : Nat) (nc : Nat) (S : Int → Int) (g : Int → Int) (rg : Nat) (f : Nat → Option Nat) (nx : Int) (ct : Int) (wq : va_W) (a : Int) (b : Int) (ou : Nat) (ov : Int64) (hI : Inv S) (hR : Rc S g) (hme : 0 ≤ nx ∧ nx < 14 ∧ 0 ≤ ct ∧ ct ≤ 14) (hwq : (f nx.toNat = none ∧ wq = []) ∨ ∃ (q qc : Nat) (S2 g2 : Int → Int) (k2 : Int64), f nx.toNat = some q ∧ wq = [(q, oDrv qc S2 k2), (qc, aI yI 48 g2)]) (hab9 : inR a ∧ inR b) (hc9 : whyA S a b = 0) (sz : Nat) : Met l yL_ask wsL_ask ({ frames := 9, cells := 8, slots := 150, locals := 147 }) (vxP [.ref x, .int (iI a), .int (iI b), .ref ou] D (tyl yI yC yD yL) (([(x, oRD tx nw tr kn me sl), (nw, oDrv nc S (lN (kL (S) 0 40))), (nc, aI yI 48 g), (me, oMem rg nx ct), (rg, aD yD 14 f)] ++ wq) ++ [(ou, aL yL ov)]) sz) (va_Qi (fun (r : Int32) (u : Nat × Nat × (Int → Int)) => match u with | (q, qc, G9) => r = iI 0 ∧ ((whyA S a b = 0)) ∧ (Rc (askd S a b) G9)) (fun (u : Nat × Nat × (Int → Int)) (t : State) => match u with | (q, qc, G9) => va_P D vwCl [(x, oRD tx nw tr kn me sl), (nw, oDrv nc (askd S a b) (lN (kL (askd S a b) 0 40))), (nc, aI yI 48 G9), (me, oMem rg (if nx + 1 < 14 then nx + 1 else 0) (min (ct + 1) 14)), (rg, aD yD 14 (va_up f nx.toNat (some q))), (q, oDrv qc S (lN (kL (S) 0 40))), (qc, aI yI 48 g), (ou, aL yL ((iI (told S a b)).toInt64))] t.heap ∧ va_D (va_A (([(x, oRD tx nw tr kn me sl), (nw, oDrv nc S (lN (kL (S) 0 40))), (nc, aI yI 48 g), (me, oMem rg nx ct), (rg, aD yD 14 f)] ++ wq) ++ [(ou, aL yL ov)]) sz) [(x, oRD tx nw tr kn me sl), (nw, oDrv nc (askd S a b) (lN (kL (askd S a b) 0 40))), (nc, aI yI 48 G9), (me, oMem rg (if nx + 1 < 14 then nx + 1 else 0) (min (ct + 1) 14)), (rg, aD yD 14 (va_up f nx.toNat (some q))), (q, oDrv qc S (lN (kL (S) 0 40))), (qc, aI yI 48 g), (ou, aL yL ((iI (told S a b)).toInt64))]) (va_A (([(x, oRD tx nw tr kn me sl), (nw, oDrv nc S (lN (kL (S) 0 40))), (nc, aI yI 48 g), (me, oMem rg nx ct), (rg, aD yD 14 f)] ++ wq) ++ [(ou, aL yL ov)]) sz)) 8 150 (va_A (([(x, oRD tx nw tr kn me sl), (nw, oDrv nc S (lN (kL (S) 0 40))), (nc, aI yI 48 g), (me, oMem rg nx ct), (rg, aD yD 14 f)] ++ wq) ++ [(ou, aL yL ov)]) sz) := by
  refine iv_ofWH (cc := cL_ask) (maxL := 5) (ret := (some .int)) (hh := [(0, 10, 13, 28), (0, 10, 17, 13), (0, 10, 21, 15)]) (by decide) rfl ?_
  intro p e s m args below meth c s₁ B hml hv
  obtain ⟨rfl, hsz, hP, hK, hD0, hB⟩ := hv
  have hx := B.exec
  have hb := B.bytes
  have hr := B.returns
  have hts := atoms_spec (ws := wsL_ask) B.pre
  have hown : s.vm.findClass RL = some m.cls := findClass_of_methodNamed B.named
  have hlocks := B.notSynchronized
  have htb := vx_table (x := yL_append) B (hts (.codeWith yL_ask cL_ask 5 (some .int) [(0, 10, 13, 28), (0, 10, 17, 13), (0, 10, 21, 15)]) (by decide +kernel))
  have hKz : va_K D vwCl (tyz yI yC yD) s := hK.sub [0, 1, 2] rfl
  subst hsz
  have hD := hD0.self (sz := s.heap.size)
  generalize hAe : va_A (([(x, oRD tx nw tr kn me sl), (nw, oDrv nc S (lN (kL (S) 0 40))), (nc, aI yI 48 g), (me, oMem rg nx ct), (rg, aD yD 14 f)] ++ wq) ++ [(ou, aL yL ov)]) s.heap.size = A at hD hB ⊢
  have hA : ∀ q : Nat, s.heap.size ≤ q → A q := fun q h => by rw [← hAe]; exact Or.inr h
  have hS : va_S A s.heap s.heap [] := va_S.rf
  have hP : va_P D vwCl (([(x, oRD tx nw tr kn me sl), (nw, oDrv nc S (lN (kL (S) 0 40))), (nc, aI yI 48 g), (me, oMem rg nx ct), (rg, aD yD 14 f)] ++ wq) ++ [(ou, aL yL ov)]) s.heap := hP
  have hl := lv_entry ([.ref x, .int (iI a), .int (iI b), .ref ou]) (n := 5) (Nat.le_of_ble_eq_true rfl)
  rw [lg_entry_eq]
  generalize (lg_sl ([.ref x, .int (iI a), .int (iI b), .ref ou]) ++ List.replicate (5 - (lg_sl ([.ref x, .int (iI a), .int (iI b), .ref ou])).length) Slot.unset).toArray = ls at hl ⊢
  have hl : lv_has ls 5 [(0, .ref x), (1, .int (iI a)), (2, .int (iI b)), (3, .ref ou)] := hl
  refine lv_aload_n hx hb dL_ask_0 rfl (lv_at hl 3 rfl) ?_
  refine lv_iconst (v := iI 0) hx hb dL_ask_1 (by decide +kernel) ?_
  refine lv_aload_n hx hb dL_ask_2 rfl (lv_at hl 0 rfl) ?_
  refine lv_iload_n hx hb dL_ask_3 rfl (lv_at hl 1 rfl) ?_
  refine lv_iload_n hx hb dL_ask_4 rfl (lv_at hl 2 rfl) ?_
  refine iv_lxV (wc := ([(x, oRD tx nw tr kn me sl), (nw, oDrv nc S (lN (kL (S) 0 40))), (nc, aI yI 48 g), (me, oMem rg nx ct), (rg, aD yD 14 f)] ++ wq)) (wr := [(ou, aL yL ov)]) (wp := fun (u : Nat × Nat × (Int → Int)) => match u with | (q, qc, G9) => [(x, oRD tx nw tr kn me sl), (nw, oDrv nc (askd S a b) (lN (kL (askd S a b) 0 40))), (nc, aI yI 48 G9), (me, oMem rg (if nx + 1 < 14 then nx + 1 else 0) (min (ct + 1) 14)), (rg, aD yD 14 (va_up f nx.toNat (some q))), (q, oDrv qc S (lN (kL (S) 0 40))), (qc, aI yI 48 g)]) (As := [.int (iI a), .int (iI b)]) (rest := [.int (iI 0), .ref ou]) (C := RX4) (n := 2) ⟨hx, hb, hml, hown, hts⟩ (c_X4_ask l hla D yI yC yD x tx nw tr kn me sl nc S g rg f nx ct wq a b hI hR hme hwq hab9 _) (cwV 2 hts gL_ask_X4_ask rfl rfl rfl (by decide +kernel) ⟨Nat.le_of_ble_eq_true rfl, Nat.le_of_ble_eq_true rfl⟩) hKz hP hD hS hA hB rfl rfl (fun u t h => by obtain ⟨q, qc, G9⟩ := u; exact h) (fun _ => rfl) rfl hl.1 rfl (Nat.le_of_ble_eq_true rfl) dL_ask_5 ⟨Nat.le_of_ble_eq_true rfl, Nat.le_of_ble_eq_true rfl⟩ (fun E9 ce9 ox9 ux H locs hxe hP hD hS hc8 hv8 hcl8 => ?_) (fun r9 u H locs hw hP hD hS => ?_)
  · exfalso
    rcases hxe with ⟨_, h⟩ | ⟨_, h⟩ | ⟨_, h⟩ <;> first | omega | contradiction
  · obtain ⟨q, qc, G9⟩ := u
    obtain ⟨hr9, hwa9, hR9⟩ := hw
    subst hr9
    have hP : va_P D vwCl [(x, oRD tx nw tr kn me sl), (nw, oDrv nc (askd S a b) (lN (kL (askd S a b) 0 40))), (nc, aI yI 48 G9), (me, oMem rg (if nx + 1 < 14 then nx + 1 else 0) (min (ct + 1) 14)), (rg, aD yD 14 (va_up f nx.toNat (some q))), (q, oDrv qc S (lN (kL (S) 0 40))), (qc, aI yI 48 g), (ou, aL yL ov)] H := hP
    have hD : va_D A [(x, oRD tx nw tr kn me sl), (nw, oDrv nc (askd S a b) (lN (kL (askd S a b) 0 40))), (nc, aI yI 48 G9), (me, oMem rg (if nx + 1 < 14 then nx + 1 else 0) (min (ct + 1) 14)), (rg, aD yD 14 (va_up f nx.toNat (some q))), (q, oDrv qc S (lN (kL (S) 0 40))), (qc, aI yI 48 g), (ou, aL yL ov)] := hD
    refine lv_i2l (v := (iI (told S a b)).toInt64) hx hb dL_ask_8 rfl ?_
    refine iv_lst hx hb hK hP hD hS 7 3 rfl rfl dL_ask_9 (fun H locs hP hD hS => ?_)
    have hP : va_P D vwCl [(x, oRD tx nw tr kn me sl), (nw, oDrv nc (askd S a b) (lN (kL (askd S a b) 0 40))), (nc, aI yI 48 G9), (me, oMem rg (if nx + 1 < 14 then nx + 1 else 0) (min (ct + 1) 14)), (rg, aD yD 14 (va_up f nx.toNat (some q))), (q, oDrv qc S (lN (kL (S) 0 40))), (qc, aI yI 48 g), (ou, aL yL ((iI (told S a b)).toInt64))] H := hP
    have hD : va_D A [(x, oRD tx nw tr kn me sl), (nw, oDrv nc (askd S a b) (lN (kL (askd S a b) 0 40))), (nc, aI yI 48 G9), (me, oMem rg (if nx + 1 < 14 then nx + 1 else 0) (min (ct + 1) 14)), (rg, aD yD 14 (va_up f nx.toNat (some q))), (q, oDrv qc S (lN (kL (S) 0 40))), (qc, aI yI 48 g), (ou, aL yL ((iI (told S a b)).toInt64))] := hD
    refine lv_goto (tgt := 25) hx hb dL_ask_10 (by decide) ?_
    refine lv_iconst (v := iI 0) hx hb dL_ask_25 (by decide +kernel) ?_
    have hP9 : va_P D vwCl [(x, oRD tx nw tr kn me sl), (nw, oDrv nc (askd S a b) (lN (kL (askd S a b) 0 40))), (nc, aI yI 48 G9), (me, oMem rg (if nx + 1 < 14 then nx + 1 else 0) (min (ct + 1) 14)), (rg, aD yD 14 (va_up f nx.toNat (some q))), (q, oDrv qc S (lN (kL (S) 0 40))), (qc, aI yI 48 g), (ou, aL yL ((iI (told S a b)).toInt64))] _ := hP
    have hD9 : va_D A [(x, oRD tx nw tr kn me sl), (nw, oDrv nc (askd S a b) (lN (kL (askd S a b) 0 40))), (nc, aI yI 48 G9), (me, oMem rg (if nx + 1 < 14 then nx + 1 else 0) (min (ct + 1) 14)), (rg, aD yD 14 (va_up f nx.toNat (some q))), (q, oDrv qc S (lN (kL (S) 0 40))), (qc, aI yI 48 g), (ou, aL yL ((iI (told S a b)).toInt64))] := hD
    exact W.iret hx hb hr (fun t ht hW => ⟨⟨iI 0, (q, qc, G9), rfl, ⟨rfl, hwa9, hR9⟩, ⟨by show va_P D vwCl _ t.heap; rw [ht]; exact hP9, hD9⟩⟩, hS.F ht⟩) hS.2.2 dL_ask_26
set_option maxHeartbeats 4000000 in
set_option maxRecDepth 100000 in
theorem c_L_ask_1 (l : Launch) (hla : l.stackTraces = false) (D : va_G) (yI yC yD yL : ClassId) (x : Nat) (tx : Nat) (nw : Nat) (tr : Nat) (kn : Nat) (me : Nat) (sl : Nat) (nc : Nat) (S : Int → Int) (g : Int → Int) (rg : Nat) (f : Nat → Option Nat) (nx : Int) (ct : Int) (wq : va_W) (a : Int) (b : Int) (ou : Nat) (ov : Int64) (hI : Inv S) (hR : Rc S g) (hme : 0 ≤ nx ∧ nx < 14 ∧ 0 ≤ ct ∧ ct ≤ 14) (hwq : (f nx.toNat = none ∧ wq = []) ∨ ∃ (q qc : Nat) (S2 g2 : Int → Int) (k2 : Int64), f nx.toNat = some q ∧ wq = [(q, oDrv qc S2 k2), (qc, aI yI 48 g2)]) (hab9 : inR a ∧ inR b) (hc9 : ¬ (whyA S a b = 0)) (sz : Nat) : Met l yL_ask wsL_ask ({ frames := 9, cells := 8, slots := 150, locals := 147 }) (vxP [.ref x, .int (iI a), .int (iI b), .ref ou] D (tyl yI yC yD yL) (([(x, oRD tx nw tr kn me sl), (nw, oDrv nc S (lN (kL (S) 0 40))), (nc, aI yI 48 g), (me, oMem rg nx ct), (rg, aD yD 14 f)] ++ wq) ++ [(ou, aL yL ov)]) sz) (va_Qi (fun (r : Int32) (_ : Unit) => r = iI (whyA S a b) ∧ True) (fun (_ : Unit) (t : State) => va_P D vwCl (([(x, oRD tx nw tr kn me sl), (nw, oDrv nc S (lN (kL (S) 0 40))), (nc, aI yI 48 g), (me, oMem rg nx ct), (rg, aD yD 14 f)] ++ wq) ++ [(ou, aL yL ov)]) t.heap ∧ va_D (va_A (([(x, oRD tx nw tr kn me sl), (nw, oDrv nc S (lN (kL (S) 0 40))), (nc, aI yI 48 g), (me, oMem rg nx ct), (rg, aD yD 14 f)] ++ wq) ++ [(ou, aL yL ov)]) sz) (([(x, oRD tx nw tr kn me sl), (nw, oDrv nc S (lN (kL (S) 0 40))), (nc, aI yI 48 g), (me, oMem rg nx ct), (rg, aD yD 14 f)] ++ wq) ++ [(ou, aL yL ov)])) (va_A (([(x, oRD tx nw tr kn me sl), (nw, oDrv nc S (lN (kL (S) 0 40))), (nc, aI yI 48 g), (me, oMem rg nx ct), (rg, aD yD 14 f)] ++ wq) ++ [(ou, aL yL ov)]) sz)) 8 150 (va_A (([(x, oRD tx nw tr kn me sl), (nw, oDrv nc S (lN (kL (S) 0 40))), (nc, aI yI 48 g), (me, oMem rg nx ct), (rg, aD yD 14 f)] ++ wq) ++ [(ou, aL yL ov)]) sz) := by
  refine iv_ofWH (cc := cL_ask) (maxL := 5) (ret := (some .int)) (hh := [(0, 10, 13, 28), (0, 10, 17, 13), (0, 10, 21, 15)]) (by decide) rfl ?_
  intro p e s m args below meth c s₁ B hml hv
  obtain ⟨rfl, hsz, hP, hK, hD0, hB⟩ := hv
  have hx := B.exec
  have hb := B.bytes
  have hr := B.returns
  have hts := atoms_spec (ws := wsL_ask) B.pre
  have hown : s.vm.findClass RL = some m.cls := findClass_of_methodNamed B.named
  have hlocks := B.notSynchronized
  have htb := vx_table (x := yL_append) B (hts (.codeWith yL_ask cL_ask 5 (some .int) [(0, 10, 13, 28), (0, 10, 17, 13), (0, 10, 21, 15)]) (by decide +kernel))
  have hKz : va_K D vwCl (tyz yI yC yD) s := hK.sub [0, 1, 2] rfl
  subst hsz
  have hD := hD0.self (sz := s.heap.size)
  generalize hAe : va_A (([(x, oRD tx nw tr kn me sl), (nw, oDrv nc S (lN (kL (S) 0 40))), (nc, aI yI 48 g), (me, oMem rg nx ct), (rg, aD yD 14 f)] ++ wq) ++ [(ou, aL yL ov)]) s.heap.size = A at hD hB ⊢
  have hA : ∀ q : Nat, s.heap.size ≤ q → A q := fun q h => by rw [← hAe]; exact Or.inr h
  have hS : va_S A s.heap s.heap [] := va_S.rf
  have hP : va_P D vwCl (([(x, oRD tx nw tr kn me sl), (nw, oDrv nc S (lN (kL (S) 0 40))), (nc, aI yI 48 g), (me, oMem rg nx ct), (rg, aD yD 14 f)] ++ wq) ++ [(ou, aL yL ov)]) s.heap := hP
  have hl := lv_entry ([.ref x, .int (iI a), .int (iI b), .ref ou]) (n := 5) (Nat.le_of_ble_eq_true rfl)
  rw [lg_entry_eq]
  generalize (lg_sl ([.ref x, .int (iI a), .int (iI b), .ref ou]) ++ List.replicate (5 - (lg_sl ([.ref x, .int (iI a), .int (iI b), .ref ou])).length) Slot.unset).toArray = ls at hl ⊢
  have hl : lv_has ls 5 [(0, .ref x), (1, .int (iI a)), (2, .int (iI b)), (3, .ref ou)] := hl
  refine lv_aload_n hx hb dL_ask_0 rfl (lv_at hl 3 rfl) ?_
  refine lv_iconst (v := iI 0) hx hb dL_ask_1 (by decide +kernel) ?_
  refine lv_aload_n hx hb dL_ask_2 rfl (lv_at hl 0 rfl) ?_
  refine lv_iload_n hx hb dL_ask_3 rfl (lv_at hl 1 rfl) ?_
  refine lv_iload_n hx hb dL_ask_4 rfl (lv_at hl 2 rfl) ?_
  refine iv_lxV (wc := ([(x, oRD tx nw tr kn me sl), (nw, oDrv nc S (lN (kL (S) 0 40))), (nc, aI yI 48 g), (me, oMem rg nx ct), (rg, aD yD 14 f)] ++ wq)) (wr := [(ou, aL yL ov)]) (wp := fun (u : Nat × Nat × (Int → Int)) => match u with | (q, qc, G9) => [(x, oRD tx nw tr kn me sl), (nw, oDrv nc (askd S a b) (lN (kL (askd S a b) 0 40))), (nc, aI yI 48 G9), (me, oMem rg (if nx + 1 < 14 then nx + 1 else 0) (min (ct + 1) 14)), (rg, aD yD 14 (va_up f nx.toNat (some q))), (q, oDrv qc S (lN (kL (S) 0 40))), (qc, aI yI 48 g)]) (As := [.int (iI a), .int (iI b)]) (rest := [.int (iI 0), .ref ou]) (C := RX4) (n := 2) ⟨hx, hb, hml, hown, hts⟩ (c_X4_ask l hla D yI yC yD x tx nw tr kn me sl nc S g rg f nx ct wq a b hI hR hme hwq hab9 _) (cwV 2 hts gL_ask_X4_ask rfl rfl rfl (by decide +kernel) ⟨Nat.le_of_ble_eq_true rfl, Nat.le_of_ble_eq_true rfl⟩) hKz hP hD hS hA hB rfl rfl (fun u t h => by obtain ⟨q, qc, G9⟩ := u; exact h) (fun _ => rfl) rfl hl.1 rfl (Nat.le_of_ble_eq_true rfl) dL_ask_5 ⟨Nat.le_of_ble_eq_true rfl, Nat.le_of_ble_eq_true rfl⟩ (fun E9 ce9 ox9 ux H locs hxe hP hD hS hc8 hv8 hcl8 => ?_) (fun r9 u H locs hw hP hD hS => ?_)
  · rcases hxe with ⟨rfl, hxc⟩ | ⟨rfl, hxc⟩ | ⟨rfl, hxc⟩
    · refine vx_catch (name := eI) hown (tableOf []) ⟨0, 10, 13, 28⟩ (tableOf [(0, 10, 17, 13), (0, 10, 21, 15)]) (htb.trans rfl) (fun z hz => absurd hz List.not_mem_nil) rfl (by decide) (hts (.classLink RL 28 eI) (by decide +kernel)) (va_Nw.use rfl hB.1.2.2) hc8 hv8 hcl8 ?_
      have hP : va_P D vwCl (([(x, oRD tx nw tr kn me sl), (nw, oDrv nc S (lN (kL (S) 0 40))), (nc, aI yI 48 g), (me, oMem rg nx ct), (rg, aD yD 14 f)] ++ wq) ++ [(ou, aL yL ov)]) H := hP
      have hD : va_D A (([(x, oRD tx nw tr kn me sl), (nw, oDrv nc S (lN (kL (S) 0 40))), (nc, aI yI 48 g), (me, oMem rg nx ct), (rg, aD yD 14 f)] ++ wq) ++ [(ou, aL yL ov)]) := hD
      refine lv_astore (lv' := [(4, .ref ox9), (0, .ref x), (1, .int (iI a)), (2, .int (iI b)), (3, .ref ou)]) hx hb dL_ask_13 hl (by decide) rfl (fun ls hl => ?_)
      refine lv_iconst (v := iI 1) hx hb dL_ask_15 (by decide +kernel) ?_
      have hP9 : va_P D vwCl (([(x, oRD tx nw tr kn me sl), (nw, oDrv nc S (lN (kL (S) 0 40))), (nc, aI yI 48 g), (me, oMem rg nx ct), (rg, aD yD 14 f)] ++ wq) ++ [(ou, aL yL ov)]) _ := hP
      have hD9 : va_D A (([(x, oRD tx nw tr kn me sl), (nw, oDrv nc S (lN (kL (S) 0 40))), (nc, aI yI 48 g), (me, oMem rg nx ct), (rg, aD yD 14 f)] ++ wq) ++ [(ou, aL yL ov)]) := hD
      exact W.iret hx hb hr (fun t ht hW => ⟨⟨iI 1, (), rfl, ⟨congrArg iI (show (1 : Int) = whyA S a b by first | omega | (rw [if_pos (by omega)]; done) | (rw [if_neg (by omega)]; done)), trivial⟩, ⟨by show va_P D vwCl _ t.heap; rw [ht]; exact hP9, hD9⟩⟩, hS.F ht⟩) hS.2.2 dL_ask_16
    · refine vx_catch (name := eA) hown (tableOf [(0, 10, 13, 28)]) ⟨0, 10, 17, 13⟩ (tableOf [(0, 10, 21, 15)]) (htb.trans rfl) (fun z hz => by cases List.mem_singleton.mp hz; exact Or.inr ⟨by decide, eI, hts (.classLink RL 28 eI) (by decide +kernel), hB.2.1.2.1⟩) rfl (by decide) (hts (.classLink RL 13 eA) (by decide +kernel)) (va_Nw.use rfl hB.1.1) hc8 hv8 hcl8 ?_
      have hP : va_P D vwCl (([(x, oRD tx nw tr kn me sl), (nw, oDrv nc S (lN (kL (S) 0 40))), (nc, aI yI 48 g), (me, oMem rg nx ct), (rg, aD yD 14 f)] ++ wq) ++ [(ou, aL yL ov)]) H := hP
      have hD : va_D A (([(x, oRD tx nw tr kn me sl), (nw, oDrv nc S (lN (kL (S) 0 40))), (nc, aI yI 48 g), (me, oMem rg nx ct), (rg, aD yD 14 f)] ++ wq) ++ [(ou, aL yL ov)]) := hD
      refine lv_astore (lv' := [(4, .ref ox9), (0, .ref x), (1, .int (iI a)), (2, .int (iI b)), (3, .ref ou)]) hx hb dL_ask_17 hl (by decide) rfl (fun ls hl => ?_)
      refine lv_iconst (v := iI 2) hx hb dL_ask_19 (by decide +kernel) ?_
      have hP9 : va_P D vwCl (([(x, oRD tx nw tr kn me sl), (nw, oDrv nc S (lN (kL (S) 0 40))), (nc, aI yI 48 g), (me, oMem rg nx ct), (rg, aD yD 14 f)] ++ wq) ++ [(ou, aL yL ov)]) _ := hP
      have hD9 : va_D A (([(x, oRD tx nw tr kn me sl), (nw, oDrv nc S (lN (kL (S) 0 40))), (nc, aI yI 48 g), (me, oMem rg nx ct), (rg, aD yD 14 f)] ++ wq) ++ [(ou, aL yL ov)]) := hD
      exact W.iret hx hb hr (fun t ht hW => ⟨⟨iI 2, (), rfl, ⟨congrArg iI (show (2 : Int) = whyA S a b by first | omega | (rw [if_pos (by omega)]; done) | (rw [if_neg (by omega)]; done)), trivial⟩, ⟨by show va_P D vwCl _ t.heap; rw [ht]; exact hP9, hD9⟩⟩, hS.F ht⟩) hS.2.2 dL_ask_20
    · refine vx_catch (name := eS) hown (tableOf [(0, 10, 13, 28), (0, 10, 17, 13)]) ⟨0, 10, 21, 15⟩ (tableOf []) (htb.trans rfl) (fun z hz => by rcases List.mem_cons.mp hz with rfl | hz; (exact Or.inr ⟨by decide, eI, hts (.classLink RL 28 eI) (by decide +kernel), hB.2.1.2.2.2.1⟩); cases List.mem_singleton.mp hz; exact Or.inr ⟨by decide, eA, hts (.classLink RL 13 eA) (by decide +kernel), hB.2.1.2.2.1⟩) rfl (by decide) (hts (.classLink RL 15 eS) (by decide +kernel)) (va_Nw.use rfl hB.1.2.1) hc8 hv8 hcl8 ?_
      have hP : va_P D vwCl (([(x, oRD tx nw tr kn me sl), (nw, oDrv nc S (lN (kL (S) 0 40))), (nc, aI yI 48 g), (me, oMem rg nx ct), (rg, aD yD 14 f)] ++ wq) ++ [(ou, aL yL ov)]) H := hP
      have hD : va_D A (([(x, oRD tx nw tr kn me sl), (nw, oDrv nc S (lN (kL (S) 0 40))), (nc, aI yI 48 g), (me, oMem rg nx ct), (rg, aD yD 14 f)] ++ wq) ++ [(ou, aL yL ov)]) := hD
      refine lv_astore (lv' := [(4, .ref ox9), (0, .ref x), (1, .int (iI a)), (2, .int (iI b)), (3, .ref ou)]) hx hb dL_ask_21 hl (by decide) rfl (fun ls hl => ?_)
      refine lv_iconst (v := iI 3) hx hb dL_ask_23 (by decide +kernel) ?_
      have hP9 : va_P D vwCl (([(x, oRD tx nw tr kn me sl), (nw, oDrv nc S (lN (kL (S) 0 40))), (nc, aI yI 48 g), (me, oMem rg nx ct), (rg, aD yD 14 f)] ++ wq) ++ [(ou, aL yL ov)]) _ := hP
      have hD9 : va_D A (([(x, oRD tx nw tr kn me sl), (nw, oDrv nc S (lN (kL (S) 0 40))), (nc, aI yI 48 g), (me, oMem rg nx ct), (rg, aD yD 14 f)] ++ wq) ++ [(ou, aL yL ov)]) := hD
      exact W.iret hx hb hr (fun t ht hW => ⟨⟨iI 3, (), rfl, ⟨congrArg iI (show (3 : Int) = whyA S a b by first | omega | (rw [if_pos (by omega)]; done) | (rw [if_neg (by omega)]; done)), trivial⟩, ⟨by show va_P D vwCl _ t.heap; rw [ht]; exact hP9, hD9⟩⟩, hS.F ht⟩) hS.2.2 dL_ask_24
  · obtain ⟨q, qc, G9⟩ := u
    obtain ⟨hr9, hwa9, hR9⟩ := hw
    exfalso
    first | omega | contradiction
set_option maxHeartbeats 4000000 in
set_option maxRecDepth 100000 in
theorem c_L_forget_0 (l : Launch) (hla : l.stackTraces = false) (D : va_G) (yI yC yD yL : ClassId) (x : Nat) (tx : Nat) (nw : Nat) (tr : Nat) (kn : Nat) (me : Nat) (sl : Nat) (nc : Nat) (S : Int → Int) (g : Int → Int) (rg : Nat) (f : Nat → Option Nat) (nx : Int) (ct : Int) (wq : va_W) (i : Int) (ou : Nat) (ov : Int64) (hI : Inv S) (hR : Rc S g) (hme : 0 ≤ nx ∧ nx < 14 ∧ 0 ≤ ct ∧ ct ≤ 14) (hwq : (f nx.toNat = none ∧ wq = []) ∨ ∃ (q qc : Nat) (S2 g2 : Int → Int) (k2 : Int64), f nx.toNat = some q ∧ wq = [(q, oDrv qc S2 k2), (qc, aI yI 48 g2)]) (hi9 : inR i) (hc9 : 0 ≤ i ∧ i < S 4) (sz : Nat) : Met l yL_forget wsL_forget ({ frames := 8, cells := 8, slots := 150, locals := 124 }) (vxP [.ref x, .int (iI i), .ref ou] D (tyl yI yC yD yL) (([(x, oRD tx nw tr kn me sl), (nw, oDrv nc S (lN (kL (S) 0 40))), (nc, aI yI 48 g), (me, oMem rg nx ct), (rg, aD yD 14 f)] ++ wq) ++ [(ou, aL yL ov)]) sz) (va_Qi (fun (r : Int32) (u : Nat × Nat × (Int → Int)) => match u with | (q, qc, G9) => r = iI 0 ∧ ((0 ≤ i ∧ i < S 4)) ∧ (Rc (forget1 S i) G9)) (fun (u : Nat × Nat × (Int → Int)) (t : State) => match u with | (q, qc, G9) => va_P D vwCl [(x, oRD tx nw tr kn me sl), (nw, oDrv nc (forget1 S i) (lN (kL (forget1 S i) 0 40))), (nc, aI yI 48 G9), (me, oMem rg (if nx + 1 < 14 then nx + 1 else 0) (min (ct + 1) 14)), (rg, aD yD 14 (va_up f nx.toNat (some q))), (q, oDrv qc S (lN (kL (S) 0 40))), (qc, aI yI 48 g), (ou, aL yL ((iI (S 4 - 1)).toInt64))] t.heap ∧ va_D (va_A (([(x, oRD tx nw tr kn me sl), (nw, oDrv nc S (lN (kL (S) 0 40))), (nc, aI yI 48 g), (me, oMem rg nx ct), (rg, aD yD 14 f)] ++ wq) ++ [(ou, aL yL ov)]) sz) [(x, oRD tx nw tr kn me sl), (nw, oDrv nc (forget1 S i) (lN (kL (forget1 S i) 0 40))), (nc, aI yI 48 G9), (me, oMem rg (if nx + 1 < 14 then nx + 1 else 0) (min (ct + 1) 14)), (rg, aD yD 14 (va_up f nx.toNat (some q))), (q, oDrv qc S (lN (kL (S) 0 40))), (qc, aI yI 48 g), (ou, aL yL ((iI (S 4 - 1)).toInt64))]) (va_A (([(x, oRD tx nw tr kn me sl), (nw, oDrv nc S (lN (kL (S) 0 40))), (nc, aI yI 48 g), (me, oMem rg nx ct), (rg, aD yD 14 f)] ++ wq) ++ [(ou, aL yL ov)]) sz)) 8 150 (va_A (([(x, oRD tx nw tr kn me sl), (nw, oDrv nc S (lN (kL (S) 0 40))), (nc, aI yI 48 g), (me, oMem rg nx ct), (rg, aD yD 14 f)] ++ wq) ++ [(ou, aL yL ov)]) sz) := by
  refine iv_ofWH (cc := cL_forget) (maxL := 4) (ret := (some .int)) (hh := [(0, 9, 12, 28)]) (by decide) rfl ?_
  intro p e s m args below meth c s₁ B hml hv
  obtain ⟨rfl, hsz, hP, hK, hD0, hB⟩ := hv
  have hx := B.exec
  have hb := B.bytes
  have hr := B.returns
  have hts := atoms_spec (ws := wsL_forget) B.pre
  have hown : s.vm.findClass RL = some m.cls := findClass_of_methodNamed B.named
  have hlocks := B.notSynchronized
  have htb := vx_table (x := yL_append) B (hts (.codeWith yL_forget cL_forget 4 (some .int) [(0, 9, 12, 28)]) (by decide +kernel))
  have hKz : va_K D vwCl (tyz yI yC yD) s := hK.sub [0, 1, 2] rfl
  subst hsz
  have hD := hD0.self (sz := s.heap.size)
  generalize hAe : va_A (([(x, oRD tx nw tr kn me sl), (nw, oDrv nc S (lN (kL (S) 0 40))), (nc, aI yI 48 g), (me, oMem rg nx ct), (rg, aD yD 14 f)] ++ wq) ++ [(ou, aL yL ov)]) s.heap.size = A at hD hB ⊢
  have hA : ∀ q : Nat, s.heap.size ≤ q → A q := fun q h => by rw [← hAe]; exact Or.inr h
  have hS : va_S A s.heap s.heap [] := va_S.rf
  have hP : va_P D vwCl (([(x, oRD tx nw tr kn me sl), (nw, oDrv nc S (lN (kL (S) 0 40))), (nc, aI yI 48 g), (me, oMem rg nx ct), (rg, aD yD 14 f)] ++ wq) ++ [(ou, aL yL ov)]) s.heap := hP
  have hl := lv_entry ([.ref x, .int (iI i), .ref ou]) (n := 4) (Nat.le_of_ble_eq_true rfl)
  rw [lg_entry_eq]
  generalize (lg_sl ([.ref x, .int (iI i), .ref ou]) ++ List.replicate (4 - (lg_sl ([.ref x, .int (iI i), .ref ou])).length) Slot.unset).toArray = ls at hl ⊢
  have hl : lv_has ls 4 [(0, .ref x), (1, .int (iI i)), (2, .ref ou)] := hl
  refine lv_aload_n hx hb dL_forget_0 rfl (lv_at hl 2 rfl) ?_
  refine lv_iconst (v := iI 0) hx hb dL_forget_1 (by decide +kernel) ?_
  refine lv_aload_n hx hb dL_forget_2 rfl (lv_at hl 0 rfl) ?_
  refine lv_iload_n hx hb dL_forget_3 rfl (lv_at hl 1 rfl) ?_
  refine iv_lxV (wc := ([(x, oRD tx nw tr kn me sl), (nw, oDrv nc S (lN (kL (S) 0 40))), (nc, aI yI 48 g), (me, oMem rg nx ct), (rg, aD yD 14 f)] ++ wq)) (wr := [(ou, aL yL ov)]) (wp := fun (u : Nat × Nat × (Int → Int)) => match u with | (q, qc, G9) => [(x, oRD tx nw tr kn me sl), (nw, oDrv nc (forget1 S i) (lN (kL (forget1 S i) 0 40))), (nc, aI yI 48 G9), (me, oMem rg (if nx + 1 < 14 then nx + 1 else 0) (min (ct + 1) 14)), (rg, aD yD 14 (va_up f nx.toNat (some q))), (q, oDrv qc S (lN (kL (S) 0 40))), (qc, aI yI 48 g)]) (As := [.int (iI i)]) (rest := [.int (iI 0), .ref ou]) (C := RX4) (n := 1) ⟨hx, hb, hml, hown, hts⟩ (c_X4_forget l hla D yI yC yD x tx nw tr kn me sl nc S g rg f nx ct wq i hI hR hme hwq hi9 _) (cwV 1 hts gL_forget_X4_forget rfl rfl rfl (by decide +kernel) ⟨Nat.le_of_ble_eq_true rfl, Nat.le_of_ble_eq_true rfl⟩) hKz hP hD hS hA hB rfl rfl (fun u t h => by obtain ⟨q, qc, G9⟩ := u; exact h) (fun _ => rfl) rfl hl.1 rfl (Nat.le_of_ble_eq_true rfl) dL_forget_4 ⟨Nat.le_of_ble_eq_true rfl, Nat.le_of_ble_eq_true rfl⟩ (fun E9 ce9 ox9 ux H locs hxe hP hD hS hc8 hv8 hcl8 => ?_) (fun r9 u H locs hw hP hD hS => ?_)
  · exfalso
    obtain ⟨_, h⟩ := hxe; first | omega | contradiction | exact h (by assumption)
  · obtain ⟨q, qc, G9⟩ := u
    obtain ⟨hr9, hpa9, hR9⟩ := hw
    subst hr9
    have hP : va_P D vwCl [(x, oRD tx nw tr kn me sl), (nw, oDrv nc (forget1 S i) (lN (kL (forget1 S i) 0 40))), (nc, aI yI 48 G9), (me, oMem rg (if nx + 1 < 14 then nx + 1 else 0) (min (ct + 1) 14)), (rg, aD yD 14 (va_up f nx.toNat (some q))), (q, oDrv qc S (lN (kL (S) 0 40))), (qc, aI yI 48 g), (ou, aL yL ov)] H := hP
    have hD : va_D A [(x, oRD tx nw tr kn me sl), (nw, oDrv nc (forget1 S i) (lN (kL (forget1 S i) 0 40))), (nc, aI yI 48 G9), (me, oMem rg (if nx + 1 < 14 then nx + 1 else 0) (min (ct + 1) 14)), (rg, aD yD 14 (va_up f nx.toNat (some q))), (q, oDrv qc S (lN (kL (S) 0 40))), (qc, aI yI 48 g), (ou, aL yL ov)] := hD
    refine lv_i2l (v := (iI (S 4 - 1)).toInt64) hx hb dL_forget_7 rfl ?_
    refine iv_lst hx hb hK hP hD hS 7 3 rfl rfl dL_forget_8 (fun H locs hP hD hS => ?_)
    have hP : va_P D vwCl [(x, oRD tx nw tr kn me sl), (nw, oDrv nc (forget1 S i) (lN (kL (forget1 S i) 0 40))), (nc, aI yI 48 G9), (me, oMem rg (if nx + 1 < 14 then nx + 1 else 0) (min (ct + 1) 14)), (rg, aD yD 14 (va_up f nx.toNat (some q))), (q, oDrv qc S (lN (kL (S) 0 40))), (qc, aI yI 48 g), (ou, aL yL ((iI (S 4 - 1)).toInt64))] H := hP
    have hD : va_D A [(x, oRD tx nw tr kn me sl), (nw, oDrv nc (forget1 S i) (lN (kL (forget1 S i) 0 40))), (nc, aI yI 48 G9), (me, oMem rg (if nx + 1 < 14 then nx + 1 else 0) (min (ct + 1) 14)), (rg, aD yD 14 (va_up f nx.toNat (some q))), (q, oDrv qc S (lN (kL (S) 0 40))), (qc, aI yI 48 g), (ou, aL yL ((iI (S 4 - 1)).toInt64))] := hD
    refine lv_goto (tgt := 15) hx hb dL_forget_9 (by decide) ?_
    refine lv_iconst (v := iI 0) hx hb dL_forget_15 (by decide +kernel) ?_
    have hP9 : va_P D vwCl [(x, oRD tx nw tr kn me sl), (nw, oDrv nc (forget1 S i) (lN (kL (forget1 S i) 0 40))), (nc, aI yI 48 G9), (me, oMem rg (if nx + 1 < 14 then nx + 1 else 0) (min (ct + 1) 14)), (rg, aD yD 14 (va_up f nx.toNat (some q))), (q, oDrv qc S (lN (kL (S) 0 40))), (qc, aI yI 48 g), (ou, aL yL ((iI (S 4 - 1)).toInt64))] _ := hP
    have hD9 : va_D A [(x, oRD tx nw tr kn me sl), (nw, oDrv nc (forget1 S i) (lN (kL (forget1 S i) 0 40))), (nc, aI yI 48 G9), (me, oMem rg (if nx + 1 < 14 then nx + 1 else 0) (min (ct + 1) 14)), (rg, aD yD 14 (va_up f nx.toNat (some q))), (q, oDrv qc S (lN (kL (S) 0 40))), (qc, aI yI 48 g), (ou, aL yL ((iI (S 4 - 1)).toInt64))] := hD
    exact W.iret hx hb hr (fun t ht hW => ⟨⟨iI 0, (q, qc, G9), rfl, ⟨rfl, hpa9, hR9⟩, ⟨by show va_P D vwCl _ t.heap; rw [ht]; exact hP9, hD9⟩⟩, hS.F ht⟩) hS.2.2 dL_forget_16
set_option maxHeartbeats 4000000 in
set_option maxRecDepth 100000 in
theorem c_L_forget_1 (l : Launch) (hla : l.stackTraces = false) (D : va_G) (yI yC yD yL : ClassId) (x : Nat) (tx : Nat) (nw : Nat) (tr : Nat) (kn : Nat) (me : Nat) (sl : Nat) (nc : Nat) (S : Int → Int) (g : Int → Int) (rg : Nat) (f : Nat → Option Nat) (nx : Int) (ct : Int) (wq : va_W) (i : Int) (ou : Nat) (ov : Int64) (hI : Inv S) (hR : Rc S g) (hme : 0 ≤ nx ∧ nx < 14 ∧ 0 ≤ ct ∧ ct ≤ 14) (hwq : (f nx.toNat = none ∧ wq = []) ∨ ∃ (q qc : Nat) (S2 g2 : Int → Int) (k2 : Int64), f nx.toNat = some q ∧ wq = [(q, oDrv qc S2 k2), (qc, aI yI 48 g2)]) (hi9 : inR i) (hc9 : ¬ (0 ≤ i ∧ i < S 4)) (sz : Nat) : Met l yL_forget wsL_forget ({ frames := 8, cells := 8, slots := 150, locals := 124 }) (vxP [.ref x, .int (iI i), .ref ou] D (tyl yI yC yD yL) (([(x, oRD tx nw tr kn me sl), (nw, oDrv nc S (lN (kL (S) 0 40))), (nc, aI yI 48 g), (me, oMem rg nx ct), (rg, aD yD 14 f)] ++ wq) ++ [(ou, aL yL ov)]) sz) (va_Qi (fun (r : Int32) (_ : Unit) => r = iI 1 ∧ True) (fun (_ : Unit) (t : State) => va_P D vwCl (([(x, oRD tx nw tr kn me sl), (nw, oDrv nc S (lN (kL (S) 0 40))), (nc, aI yI 48 g), (me, oMem rg nx ct), (rg, aD yD 14 f)] ++ wq) ++ [(ou, aL yL ov)]) t.heap ∧ va_D (va_A (([(x, oRD tx nw tr kn me sl), (nw, oDrv nc S (lN (kL (S) 0 40))), (nc, aI yI 48 g), (me, oMem rg nx ct), (rg, aD yD 14 f)] ++ wq) ++ [(ou, aL yL ov)]) sz) (([(x, oRD tx nw tr kn me sl), (nw, oDrv nc S (lN (kL (S) 0 40))), (nc, aI yI 48 g), (me, oMem rg nx ct), (rg, aD yD 14 f)] ++ wq) ++ [(ou, aL yL ov)])) (va_A (([(x, oRD tx nw tr kn me sl), (nw, oDrv nc S (lN (kL (S) 0 40))), (nc, aI yI 48 g), (me, oMem rg nx ct), (rg, aD yD 14 f)] ++ wq) ++ [(ou, aL yL ov)]) sz)) 8 150 (va_A (([(x, oRD tx nw tr kn me sl), (nw, oDrv nc S (lN (kL (S) 0 40))), (nc, aI yI 48 g), (me, oMem rg nx ct), (rg, aD yD 14 f)] ++ wq) ++ [(ou, aL yL ov)]) sz) := by
  refine iv_ofWH (cc := cL_forget) (maxL := 4) (ret := (some .int)) (hh := [(0, 9, 12, 28)]) (by decide) rfl ?_
  intro p e s m args below meth c s₁ B hml hv
  obtain ⟨rfl, hsz, hP, hK, hD0, hB⟩ := hv
  have hx := B.exec
  have hb := B.bytes
  have hr := B.returns
  have hts := atoms_spec (ws := wsL_forget) B.pre
  have hown : s.vm.findClass RL = some m.cls := findClass_of_methodNamed B.named
  have hlocks := B.notSynchronized
  have htb := vx_table (x := yL_append) B (hts (.codeWith yL_forget cL_forget 4 (some .int) [(0, 9, 12, 28)]) (by decide +kernel))
  have hKz : va_K D vwCl (tyz yI yC yD) s := hK.sub [0, 1, 2] rfl
  subst hsz
  have hD := hD0.self (sz := s.heap.size)
  generalize hAe : va_A (([(x, oRD tx nw tr kn me sl), (nw, oDrv nc S (lN (kL (S) 0 40))), (nc, aI yI 48 g), (me, oMem rg nx ct), (rg, aD yD 14 f)] ++ wq) ++ [(ou, aL yL ov)]) s.heap.size = A at hD hB ⊢
  have hA : ∀ q : Nat, s.heap.size ≤ q → A q := fun q h => by rw [← hAe]; exact Or.inr h
  have hS : va_S A s.heap s.heap [] := va_S.rf
  have hP : va_P D vwCl (([(x, oRD tx nw tr kn me sl), (nw, oDrv nc S (lN (kL (S) 0 40))), (nc, aI yI 48 g), (me, oMem rg nx ct), (rg, aD yD 14 f)] ++ wq) ++ [(ou, aL yL ov)]) s.heap := hP
  have hl := lv_entry ([.ref x, .int (iI i), .ref ou]) (n := 4) (Nat.le_of_ble_eq_true rfl)
  rw [lg_entry_eq]
  generalize (lg_sl ([.ref x, .int (iI i), .ref ou]) ++ List.replicate (4 - (lg_sl ([.ref x, .int (iI i), .ref ou])).length) Slot.unset).toArray = ls at hl ⊢
  have hl : lv_has ls 4 [(0, .ref x), (1, .int (iI i)), (2, .ref ou)] := hl
  refine lv_aload_n hx hb dL_forget_0 rfl (lv_at hl 2 rfl) ?_
  refine lv_iconst (v := iI 0) hx hb dL_forget_1 (by decide +kernel) ?_
  refine lv_aload_n hx hb dL_forget_2 rfl (lv_at hl 0 rfl) ?_
  refine lv_iload_n hx hb dL_forget_3 rfl (lv_at hl 1 rfl) ?_
  refine iv_lxV (wc := ([(x, oRD tx nw tr kn me sl), (nw, oDrv nc S (lN (kL (S) 0 40))), (nc, aI yI 48 g), (me, oMem rg nx ct), (rg, aD yD 14 f)] ++ wq)) (wr := [(ou, aL yL ov)]) (wp := fun (u : Nat × Nat × (Int → Int)) => match u with | (q, qc, G9) => [(x, oRD tx nw tr kn me sl), (nw, oDrv nc (forget1 S i) (lN (kL (forget1 S i) 0 40))), (nc, aI yI 48 G9), (me, oMem rg (if nx + 1 < 14 then nx + 1 else 0) (min (ct + 1) 14)), (rg, aD yD 14 (va_up f nx.toNat (some q))), (q, oDrv qc S (lN (kL (S) 0 40))), (qc, aI yI 48 g)]) (As := [.int (iI i)]) (rest := [.int (iI 0), .ref ou]) (C := RX4) (n := 1) ⟨hx, hb, hml, hown, hts⟩ (c_X4_forget l hla D yI yC yD x tx nw tr kn me sl nc S g rg f nx ct wq i hI hR hme hwq hi9 _) (cwV 1 hts gL_forget_X4_forget rfl rfl rfl (by decide +kernel) ⟨Nat.le_of_ble_eq_true rfl, Nat.le_of_ble_eq_true rfl⟩) hKz hP hD hS hA hB rfl rfl (fun u t h => by obtain ⟨q, qc, G9⟩ := u; exact h) (fun _ => rfl) rfl hl.1 rfl (Nat.le_of_ble_eq_true rfl) dL_forget_4 ⟨Nat.le_of_ble_eq_true rfl, Nat.le_of_ble_eq_true rfl⟩ (fun E9 ce9 ox9 ux H locs hxe hP hD hS hc8 hv8 hcl8 => ?_) (fun r9 u H locs hw hP hD hS => ?_)
  · obtain ⟨rfl, hxc⟩ := hxe
    refine vx_catch (name := eI) hown (tableOf []) ⟨0, 9, 12, 28⟩ (tableOf []) (htb.trans rfl) (fun z hz => absurd hz List.not_mem_nil) rfl (by decide) (hts (.classLink RL 28 eI) (by decide +kernel)) (va_Nw.use rfl hB.1.2.2) hc8 hv8 hcl8 ?_
    have hP : va_P D vwCl (([(x, oRD tx nw tr kn me sl), (nw, oDrv nc S (lN (kL (S) 0 40))), (nc, aI yI 48 g), (me, oMem rg nx ct), (rg, aD yD 14 f)] ++ wq) ++ [(ou, aL yL ov)]) H := hP
    have hD : va_D A (([(x, oRD tx nw tr kn me sl), (nw, oDrv nc S (lN (kL (S) 0 40))), (nc, aI yI 48 g), (me, oMem rg nx ct), (rg, aD yD 14 f)] ++ wq) ++ [(ou, aL yL ov)]) := hD
    refine lv_astore_n (lv' := [(3, .ref ox9), (0, .ref x), (1, .int (iI i)), (2, .ref ou)]) hx hb dL_forget_12 rfl hl (by decide) rfl (fun ls hl => ?_)
    refine lv_iconst (v := iI 1) hx hb dL_forget_13 (by decide +kernel) ?_
    have hP9 : va_P D vwCl (([(x, oRD tx nw tr kn me sl), (nw, oDrv nc S (lN (kL (S) 0 40))), (nc, aI yI 48 g), (me, oMem rg nx ct), (rg, aD yD 14 f)] ++ wq) ++ [(ou, aL yL ov)]) _ := hP
    have hD9 : va_D A (([(x, oRD tx nw tr kn me sl), (nw, oDrv nc S (lN (kL (S) 0 40))), (nc, aI yI 48 g), (me, oMem rg nx ct), (rg, aD yD 14 f)] ++ wq) ++ [(ou, aL yL ov)]) := hD
    exact W.iret hx hb hr (fun t ht hW => ⟨⟨iI 1, (), rfl, ⟨rfl, trivial⟩, ⟨by show va_P D vwCl _ t.heap; rw [ht]; exact hP9, hD9⟩⟩, hS.F ht⟩) hS.2.2 dL_forget_14
  · obtain ⟨q, qc, G9⟩ := u
    obtain ⟨hr9, hpa9, hR9⟩ := hw
    exfalso
    first | omega | contradiction
set_option maxHeartbeats 4000000 in
set_option maxRecDepth 100000 in
theorem c_L_resize_0 (l : Launch) (hla : l.stackTraces = false) (D : va_G) (yI yC yD yL : ClassId) (x : Nat) (tx : Nat) (nw : Nat) (tr : Nat) (kn : Nat) (me : Nat) (sl : Nat) (nc : Nat) (S : Int → Int) (g : Int → Int) (rg : Nat) (f : Nat → Option Nat) (nx : Int) (ct : Int) (wq : va_W) (q9 : Int) (ou : Nat) (ov : Int64) (hI : Inv S) (hR : Rc S g) (hme : 0 ≤ nx ∧ nx < 14 ∧ 0 ≤ ct ∧ ct ≤ 14) (hwq : (f nx.toNat = none ∧ wq = []) ∨ ∃ (q qc : Nat) (S2 g2 : Int → Int) (k2 : Int64), f nx.toNat = some q ∧ wq = [(q, oDrv qc S2 k2), (qc, aI yI 48 g2)]) (hq9 : inR q9) (hc9 : 8 ≤ q9 ∧ q9 ≤ 40) (sz : Nat) : Met l yL_resize wsL_resize ({ frames := 7, cells := 8, slots := 150, locals := 103 }) (vxP [.ref x, .int (iI q9), .ref ou] D (tyl yI yC yD yL) (([(x, oRD tx nw tr kn me sl), (nw, oDrv nc S (lN (kL (S) 0 40))), (nc, aI yI 48 g), (me, oMem rg nx ct), (rg, aD yD 14 f)] ++ wq) ++ [(ou, aL yL ov)]) sz) (va_Qi (fun (r : Int32) (u : Nat × Nat) => match u with | (q, qc) => r = iI 0 ∧ ((8 ≤ q9 ∧ q9 ≤ 40)) ∧ (Rc (rsz S q9) g)) (fun (u : Nat × Nat) (t : State) => match u with | (q, qc) => va_P D vwCl [(x, oRD tx nw tr kn me sl), (nw, oDrv nc (rsz S q9) (lN (kL (rsz S q9) 0 40))), (nc, aI yI 48 g), (me, oMem rg (if nx + 1 < 14 then nx + 1 else 0) (min (ct + 1) 14)), (rg, aD yD 14 (va_up f nx.toNat (some q))), (q, oDrv qc S (lN (kL (S) 0 40))), (qc, aI yI 48 g), (ou, aL yL ((iI (keysIn (rsz S q9) 0 (q9 - 1))).toInt64))] t.heap ∧ va_D (va_A (([(x, oRD tx nw tr kn me sl), (nw, oDrv nc S (lN (kL (S) 0 40))), (nc, aI yI 48 g), (me, oMem rg nx ct), (rg, aD yD 14 f)] ++ wq) ++ [(ou, aL yL ov)]) sz) [(x, oRD tx nw tr kn me sl), (nw, oDrv nc (rsz S q9) (lN (kL (rsz S q9) 0 40))), (nc, aI yI 48 g), (me, oMem rg (if nx + 1 < 14 then nx + 1 else 0) (min (ct + 1) 14)), (rg, aD yD 14 (va_up f nx.toNat (some q))), (q, oDrv qc S (lN (kL (S) 0 40))), (qc, aI yI 48 g), (ou, aL yL ((iI (keysIn (rsz S q9) 0 (q9 - 1))).toInt64))]) (va_A (([(x, oRD tx nw tr kn me sl), (nw, oDrv nc S (lN (kL (S) 0 40))), (nc, aI yI 48 g), (me, oMem rg nx ct), (rg, aD yD 14 f)] ++ wq) ++ [(ou, aL yL ov)]) sz)) 8 150 (va_A (([(x, oRD tx nw tr kn me sl), (nw, oDrv nc S (lN (kL (S) 0 40))), (nc, aI yI 48 g), (me, oMem rg nx ct), (rg, aD yD 14 f)] ++ wq) ++ [(ou, aL yL ov)]) sz) := by
  refine iv_ofWH (cc := cL_resize) (maxL := 4) (ret := (some .int)) (hh := [(0, 9, 12, 13)]) (by decide) rfl ?_
  intro p e s m args below meth c s₁ B hml hv
  obtain ⟨rfl, hsz, hP, hK, hD0, hB⟩ := hv
  have hx := B.exec
  have hb := B.bytes
  have hr := B.returns
  have hts := atoms_spec (ws := wsL_resize) B.pre
  have hown : s.vm.findClass RL = some m.cls := findClass_of_methodNamed B.named
  have hlocks := B.notSynchronized
  have htb := vx_table (x := yL_append) B (hts (.codeWith yL_resize cL_resize 4 (some .int) [(0, 9, 12, 13)]) (by decide +kernel))
  have hKz : va_K D vwCl (tyz yI yC yD) s := hK.sub [0, 1, 2] rfl
  subst hsz
  have hD := hD0.self (sz := s.heap.size)
  generalize hAe : va_A (([(x, oRD tx nw tr kn me sl), (nw, oDrv nc S (lN (kL (S) 0 40))), (nc, aI yI 48 g), (me, oMem rg nx ct), (rg, aD yD 14 f)] ++ wq) ++ [(ou, aL yL ov)]) s.heap.size = A at hD hB ⊢
  have hA : ∀ q : Nat, s.heap.size ≤ q → A q := fun q h => by rw [← hAe]; exact Or.inr h
  have hS : va_S A s.heap s.heap [] := va_S.rf
  have hP : va_P D vwCl (([(x, oRD tx nw tr kn me sl), (nw, oDrv nc S (lN (kL (S) 0 40))), (nc, aI yI 48 g), (me, oMem rg nx ct), (rg, aD yD 14 f)] ++ wq) ++ [(ou, aL yL ov)]) s.heap := hP
  have hl := lv_entry ([.ref x, .int (iI q9), .ref ou]) (n := 4) (Nat.le_of_ble_eq_true rfl)
  rw [lg_entry_eq]
  generalize (lg_sl ([.ref x, .int (iI q9), .ref ou]) ++ List.replicate (4 - (lg_sl ([.ref x, .int (iI q9), .ref ou])).length) Slot.unset).toArray = ls at hl ⊢
  have hl : lv_has ls 4 [(0, .ref x), (1, .int (iI q9)), (2, .ref ou)] := hl
  refine lv_aload_n hx hb dL_resize_0 rfl (lv_at hl 2 rfl) ?_
  refine lv_iconst (v := iI 0) hx hb dL_resize_1 (by decide +kernel) ?_
  refine lv_aload_n hx hb dL_resize_2 rfl (lv_at hl 0 rfl) ?_
  refine lv_iload_n hx hb dL_resize_3 rfl (lv_at hl 1 rfl) ?_
  refine iv_lxV (wc := ([(x, oRD tx nw tr kn me sl), (nw, oDrv nc S (lN (kL (S) 0 40))), (nc, aI yI 48 g), (me, oMem rg nx ct), (rg, aD yD 14 f)] ++ wq)) (wr := [(ou, aL yL ov)]) (wp := fun (u : Nat × Nat) => match u with | (q, qc) => [(x, oRD tx nw tr kn me sl), (nw, oDrv nc (rsz S q9) (lN (kL (rsz S q9) 0 40))), (nc, aI yI 48 g), (me, oMem rg (if nx + 1 < 14 then nx + 1 else 0) (min (ct + 1) 14)), (rg, aD yD 14 (va_up f nx.toNat (some q))), (q, oDrv qc S (lN (kL (S) 0 40))), (qc, aI yI 48 g)]) (As := [.int (iI q9)]) (rest := [.int (iI 0), .ref ou]) (C := RX4) (n := 1) ⟨hx, hb, hml, hown, hts⟩ (c_X4_resize l hla D yI yC yD x tx nw tr kn me sl nc S g rg f nx ct wq q9 hI hR hme hwq hq9 _) (cwV 1 hts gL_resize_X4_resize rfl rfl rfl (by decide +kernel) ⟨Nat.le_of_ble_eq_true rfl, Nat.le_of_ble_eq_true rfl⟩) hKz hP hD hS hA hB rfl rfl (fun u t h => by obtain ⟨q, qc⟩ := u; exact h) (fun _ => rfl) rfl hl.1 rfl (Nat.le_of_ble_eq_true rfl) dL_resize_4 ⟨Nat.le_of_ble_eq_true rfl, Nat.le_of_ble_eq_true rfl⟩ (fun E9 ce9 ox9 ux H locs hxe hP hD hS hc8 hv8 hcl8 => ?_) (fun r9 u H locs hw hP hD hS => ?_)
  · exfalso
    obtain ⟨_, h⟩ := hxe; first | omega | contradiction | exact h (by assumption)
  · obtain ⟨q, qc⟩ := u
    obtain ⟨hr9, hz9, hR9⟩ := hw
    subst hr9
    have hP : va_P D vwCl [(x, oRD tx nw tr kn me sl), (nw, oDrv nc (rsz S q9) (lN (kL (rsz S q9) 0 40))), (nc, aI yI 48 g), (me, oMem rg (if nx + 1 < 14 then nx + 1 else 0) (min (ct + 1) 14)), (rg, aD yD 14 (va_up f nx.toNat (some q))), (q, oDrv qc S (lN (kL (S) 0 40))), (qc, aI yI 48 g), (ou, aL yL ov)] H := hP
    have hD : va_D A [(x, oRD tx nw tr kn me sl), (nw, oDrv nc (rsz S q9) (lN (kL (rsz S q9) 0 40))), (nc, aI yI 48 g), (me, oMem rg (if nx + 1 < 14 then nx + 1 else 0) (min (ct + 1) 14)), (rg, aD yD 14 (va_up f nx.toNat (some q))), (q, oDrv qc S (lN (kL (S) 0 40))), (qc, aI yI 48 g), (ou, aL yL ov)] := hD
    refine lv_i2l (v := (iI (keysIn (rsz S q9) 0 (q9 - 1))).toInt64) hx hb dL_resize_7 rfl ?_
    refine iv_lst hx hb hK hP hD hS 7 3 rfl rfl dL_resize_8 (fun H locs hP hD hS => ?_)
    have hP : va_P D vwCl [(x, oRD tx nw tr kn me sl), (nw, oDrv nc (rsz S q9) (lN (kL (rsz S q9) 0 40))), (nc, aI yI 48 g), (me, oMem rg (if nx + 1 < 14 then nx + 1 else 0) (min (ct + 1) 14)), (rg, aD yD 14 (va_up f nx.toNat (some q))), (q, oDrv qc S (lN (kL (S) 0 40))), (qc, aI yI 48 g), (ou, aL yL ((iI (keysIn (rsz S q9) 0 (q9 - 1))).toInt64))] H := hP
    have hD : va_D A [(x, oRD tx nw tr kn me sl), (nw, oDrv nc (rsz S q9) (lN (kL (rsz S q9) 0 40))), (nc, aI yI 48 g), (me, oMem rg (if nx + 1 < 14 then nx + 1 else 0) (min (ct + 1) 14)), (rg, aD yD 14 (va_up f nx.toNat (some q))), (q, oDrv qc S (lN (kL (S) 0 40))), (qc, aI yI 48 g), (ou, aL yL ((iI (keysIn (rsz S q9) 0 (q9 - 1))).toInt64))] := hD
    refine lv_goto (tgt := 15) hx hb dL_resize_9 (by decide) ?_
    refine lv_iconst (v := iI 0) hx hb dL_resize_15 (by decide +kernel) ?_
    have hP9 : va_P D vwCl [(x, oRD tx nw tr kn me sl), (nw, oDrv nc (rsz S q9) (lN (kL (rsz S q9) 0 40))), (nc, aI yI 48 g), (me, oMem rg (if nx + 1 < 14 then nx + 1 else 0) (min (ct + 1) 14)), (rg, aD yD 14 (va_up f nx.toNat (some q))), (q, oDrv qc S (lN (kL (S) 0 40))), (qc, aI yI 48 g), (ou, aL yL ((iI (keysIn (rsz S q9) 0 (q9 - 1))).toInt64))] _ := hP
    have hD9 : va_D A [(x, oRD tx nw tr kn me sl), (nw, oDrv nc (rsz S q9) (lN (kL (rsz S q9) 0 40))), (nc, aI yI 48 g), (me, oMem rg (if nx + 1 < 14 then nx + 1 else 0) (min (ct + 1) 14)), (rg, aD yD 14 (va_up f nx.toNat (some q))), (q, oDrv qc S (lN (kL (S) 0 40))), (qc, aI yI 48 g), (ou, aL yL ((iI (keysIn (rsz S q9) 0 (q9 - 1))).toInt64))] := hD
    exact W.iret hx hb hr (fun t ht hW => ⟨⟨iI 0, (q, qc), rfl, ⟨rfl, hz9, hR9⟩, ⟨by show va_P D vwCl _ t.heap; rw [ht]; exact hP9, hD9⟩⟩, hS.F ht⟩) hS.2.2 dL_resize_16
set_option maxHeartbeats 4000000 in
set_option maxRecDepth 100000 in
theorem c_L_resize_1 (l : Launch) (hla : l.stackTraces = false) (D : va_G) (yI yC yD yL : ClassId) (x : Nat) (tx : Nat) (nw : Nat) (tr : Nat) (kn : Nat) (me : Nat) (sl : Nat) (nc : Nat) (S : Int → Int) (g : Int → Int) (rg : Nat) (f : Nat → Option Nat) (nx : Int) (ct : Int) (wq : va_W) (q9 : Int) (ou : Nat) (ov : Int64) (hI : Inv S) (hR : Rc S g) (hme : 0 ≤ nx ∧ nx < 14 ∧ 0 ≤ ct ∧ ct ≤ 14) (hwq : (f nx.toNat = none ∧ wq = []) ∨ ∃ (q qc : Nat) (S2 g2 : Int → Int) (k2 : Int64), f nx.toNat = some q ∧ wq = [(q, oDrv qc S2 k2), (qc, aI yI 48 g2)]) (hq9 : inR q9) (hc9 : ¬ (8 ≤ q9 ∧ q9 ≤ 40)) (sz : Nat) : Met l yL_resize wsL_resize ({ frames := 7, cells := 8, slots := 150, locals := 103 }) (vxP [.ref x, .int (iI q9), .ref ou] D (tyl yI yC yD yL) (([(x, oRD tx nw tr kn me sl), (nw, oDrv nc S (lN (kL (S) 0 40))), (nc, aI yI 48 g), (me, oMem rg nx ct), (rg, aD yD 14 f)] ++ wq) ++ [(ou, aL yL ov)]) sz) (va_Qi (fun (r : Int32) (_ : Unit) => r = iI 1 ∧ True) (fun (_ : Unit) (t : State) => va_P D vwCl (([(x, oRD tx nw tr kn me sl), (nw, oDrv nc S (lN (kL (S) 0 40))), (nc, aI yI 48 g), (me, oMem rg nx ct), (rg, aD yD 14 f)] ++ wq) ++ [(ou, aL yL ov)]) t.heap ∧ va_D (va_A (([(x, oRD tx nw tr kn me sl), (nw, oDrv nc S (lN (kL (S) 0 40))), (nc, aI yI 48 g), (me, oMem rg nx ct), (rg, aD yD 14 f)] ++ wq) ++ [(ou, aL yL ov)]) sz) (([(x, oRD tx nw tr kn me sl), (nw, oDrv nc S (lN (kL (S) 0 40))), (nc, aI yI 48 g), (me, oMem rg nx ct), (rg, aD yD 14 f)] ++ wq) ++ [(ou, aL yL ov)])) (va_A (([(x, oRD tx nw tr kn me sl), (nw, oDrv nc S (lN (kL (S) 0 40))), (nc, aI yI 48 g), (me, oMem rg nx ct), (rg, aD yD 14 f)] ++ wq) ++ [(ou, aL yL ov)]) sz)) 8 150 (va_A (([(x, oRD tx nw tr kn me sl), (nw, oDrv nc S (lN (kL (S) 0 40))), (nc, aI yI 48 g), (me, oMem rg nx ct), (rg, aD yD 14 f)] ++ wq) ++ [(ou, aL yL ov)]) sz) := by
  refine iv_ofWH (cc := cL_resize) (maxL := 4) (ret := (some .int)) (hh := [(0, 9, 12, 13)]) (by decide) rfl ?_
  intro p e s m args below meth c s₁ B hml hv
  obtain ⟨rfl, hsz, hP, hK, hD0, hB⟩ := hv
  have hx := B.exec
  have hb := B.bytes
  have hr := B.returns
  have hts := atoms_spec (ws := wsL_resize) B.pre
  have hown : s.vm.findClass RL = some m.cls := findClass_of_methodNamed B.named
  have hlocks := B.notSynchronized
  have htb := vx_table (x := yL_append) B (hts (.codeWith yL_resize cL_resize 4 (some .int) [(0, 9, 12, 13)]) (by decide +kernel))
  have hKz : va_K D vwCl (tyz yI yC yD) s := hK.sub [0, 1, 2] rfl
  subst hsz
  have hD := hD0.self (sz := s.heap.size)
  generalize hAe : va_A (([(x, oRD tx nw tr kn me sl), (nw, oDrv nc S (lN (kL (S) 0 40))), (nc, aI yI 48 g), (me, oMem rg nx ct), (rg, aD yD 14 f)] ++ wq) ++ [(ou, aL yL ov)]) s.heap.size = A at hD hB ⊢
  have hA : ∀ q : Nat, s.heap.size ≤ q → A q := fun q h => by rw [← hAe]; exact Or.inr h
  have hS : va_S A s.heap s.heap [] := va_S.rf
  have hP : va_P D vwCl (([(x, oRD tx nw tr kn me sl), (nw, oDrv nc S (lN (kL (S) 0 40))), (nc, aI yI 48 g), (me, oMem rg nx ct), (rg, aD yD 14 f)] ++ wq) ++ [(ou, aL yL ov)]) s.heap := hP
  have hl := lv_entry ([.ref x, .int (iI q9), .ref ou]) (n := 4) (Nat.le_of_ble_eq_true rfl)
  rw [lg_entry_eq]
  generalize (lg_sl ([.ref x, .int (iI q9), .ref ou]) ++ List.replicate (4 - (lg_sl ([.ref x, .int (iI q9), .ref ou])).length) Slot.unset).toArray = ls at hl ⊢
  have hl : lv_has ls 4 [(0, .ref x), (1, .int (iI q9)), (2, .ref ou)] := hl
  refine lv_aload_n hx hb dL_resize_0 rfl (lv_at hl 2 rfl) ?_
  refine lv_iconst (v := iI 0) hx hb dL_resize_1 (by decide +kernel) ?_
  refine lv_aload_n hx hb dL_resize_2 rfl (lv_at hl 0 rfl) ?_
  refine lv_iload_n hx hb dL_resize_3 rfl (lv_at hl 1 rfl) ?_
  refine iv_lxV (wc := ([(x, oRD tx nw tr kn me sl), (nw, oDrv nc S (lN (kL (S) 0 40))), (nc, aI yI 48 g), (me, oMem rg nx ct), (rg, aD yD 14 f)] ++ wq)) (wr := [(ou, aL yL ov)]) (wp := fun (u : Nat × Nat) => match u with | (q, qc) => [(x, oRD tx nw tr kn me sl), (nw, oDrv nc (rsz S q9) (lN (kL (rsz S q9) 0 40))), (nc, aI yI 48 g), (me, oMem rg (if nx + 1 < 14 then nx + 1 else 0) (min (ct + 1) 14)), (rg, aD yD 14 (va_up f nx.toNat (some q))), (q, oDrv qc S (lN (kL (S) 0 40))), (qc, aI yI 48 g)]) (As := [.int (iI q9)]) (rest := [.int (iI 0), .ref ou]) (C := RX4) (n := 1) ⟨hx, hb, hml, hown, hts⟩ (c_X4_resize l hla D yI yC yD x tx nw tr kn me sl nc S g rg f nx ct wq q9 hI hR hme hwq hq9 _) (cwV 1 hts gL_resize_X4_resize rfl rfl rfl (by decide +kernel) ⟨Nat.le_of_ble_eq_true rfl, Nat.le_of_ble_eq_true rfl⟩) hKz hP hD hS hA hB rfl rfl (fun u t h => by obtain ⟨q, qc⟩ := u; exact h) (fun _ => rfl) rfl hl.1 rfl (Nat.le_of_ble_eq_true rfl) dL_resize_4 ⟨Nat.le_of_ble_eq_true rfl, Nat.le_of_ble_eq_true rfl⟩ (fun E9 ce9 ox9 ux H locs hxe hP hD hS hc8 hv8 hcl8 => ?_) (fun r9 u H locs hw hP hD hS => ?_)
  · obtain ⟨rfl, hxc⟩ := hxe
    refine vx_catch (name := eA) hown (tableOf []) ⟨0, 9, 12, 13⟩ (tableOf []) (htb.trans rfl) (fun z hz => absurd hz List.not_mem_nil) rfl (by decide) (hts (.classLink RL 13 eA) (by decide +kernel)) (va_Nw.use rfl hB.1.1) hc8 hv8 hcl8 ?_
    have hP : va_P D vwCl (([(x, oRD tx nw tr kn me sl), (nw, oDrv nc S (lN (kL (S) 0 40))), (nc, aI yI 48 g), (me, oMem rg nx ct), (rg, aD yD 14 f)] ++ wq) ++ [(ou, aL yL ov)]) H := hP
    have hD : va_D A (([(x, oRD tx nw tr kn me sl), (nw, oDrv nc S (lN (kL (S) 0 40))), (nc, aI yI 48 g), (me, oMem rg nx ct), (rg, aD yD 14 f)] ++ wq) ++ [(ou, aL yL ov)]) := hD
    refine lv_astore_n (lv' := [(3, .ref ox9), (0, .ref x), (1, .int (iI q9)), (2, .ref ou)]) hx hb dL_resize_12 rfl hl (by decide) rfl (fun ls hl => ?_)
    refine lv_iconst (v := iI 1) hx hb dL_resize_13 (by decide +kernel) ?_
    have hP9 : va_P D vwCl (([(x, oRD tx nw tr kn me sl), (nw, oDrv nc S (lN (kL (S) 0 40))), (nc, aI yI 48 g), (me, oMem rg nx ct), (rg, aD yD 14 f)] ++ wq) ++ [(ou, aL yL ov)]) _ := hP
    have hD9 : va_D A (([(x, oRD tx nw tr kn me sl), (nw, oDrv nc S (lN (kL (S) 0 40))), (nc, aI yI 48 g), (me, oMem rg nx ct), (rg, aD yD 14 f)] ++ wq) ++ [(ou, aL yL ov)]) := hD
    exact W.iret hx hb hr (fun t ht hW => ⟨⟨iI 1, (), rfl, ⟨rfl, trivial⟩, ⟨by show va_P D vwCl _ t.heap; rw [ht]; exact hP9, hD9⟩⟩, hS.F ht⟩) hS.2.2 dL_resize_14
  · obtain ⟨q, qc⟩ := u
    obtain ⟨hr9, hz9, hR9⟩ := hw
    exfalso
    first | omega | contradiction
