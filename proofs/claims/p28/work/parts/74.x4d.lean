theorem whyA_x {S : Int → Int} {a b : Int} {E : String} (h : (E = eI ∧ whyR S a b = 1) ∨ (E = eA ∧ whyR S a b = 2)) : (E = eI ∧ whyA S a b = 1) ∨ (E = eA ∧ whyA S a b = 2) ∨ (E = eS ∧ whyA S a b = 3) := by
  unfold whyA
  rcases h with ⟨h1, h2⟩ | ⟨h1, h2⟩
  · exact Or.inl ⟨h1, by rw [if_pos (by omega)]; exact h2⟩
  · exact Or.inr (Or.inl ⟨h1, by rw [if_pos (by omega)]; exact h2⟩)
set_option maxHeartbeats 4000000 in
set_option maxRecDepth 100000 in
theorem c_X4_write (l : Launch) (hla : l.stackTraces = false) (D : va_G) (yI yC yD : ClassId) (x : Nat) (tx : Nat) (nw : Nat) (tr : Nat) (kn : Nat) (me : Nat) (sl : Nat) (nc : Nat) (S : Int → Int) (g : Int → Int) (rg : Nat) (f : Nat → Option Nat) (nx : Int) (ct : Int) (wq : va_W) (i : Int) (v : Int) (hI : Inv S) (hR : Rc S g) (hme : 0 ≤ nx ∧ nx < 14 ∧ 0 ≤ ct ∧ ct ≤ 14) (hwq : (f nx.toNat = none ∧ wq = []) ∨ ∃ (q qc : Nat) (S2 g2 : Int → Int) (k2 : Int64), f nx.toNat = some q ∧ wq = [(q, oDrv qc S2 k2), (qc, aI yI 48 g2)]) (hi9 : inR i) (hv : 0 ≤ v ∧ v ≤ 1) (sz : Nat) : vx_Met l yX4_write wsX4_write ({ frames := 7, cells := 8, slots := 150, locals := 103 }) (vxP [.ref x, .int (iI i), .int (iI v)] D (tyz yI yC yD) ([(x, oRD tx nw tr kn me sl), (nw, oDrv nc S (lN (kL (S) 0 40))), (nc, aI yI 48 g), (me, oMem rg nx ct), (rg, aD yD 14 f)] ++ wq) sz) (va_Qi (fun (r : Int32) (u : Nat × Nat × (Int → Int)) => match u with | (q, qc, G9) => r = iI (S 4 - wr S i v 4) ∧ (0 ≤ i ∧ i < S 0) ∧ Rc (wr S i v) G9) (fun (u : Nat × Nat × (Int → Int)) (t : State) => match u with | (q, qc, G9) => va_P D vwCl [(x, oRD tx nw tr kn me sl), (nw, oDrv nc (wr S i v) (lN (kL (wr S i v) 0 40))), (nc, aI yI 48 G9), (me, oMem rg (if nx + 1 < 14 then nx + 1 else 0) (min (ct + 1) 14)), (rg, aD yD 14 (va_up f nx.toNat (some q))), (q, oDrv qc S (lN (kL (S) 0 40))), (qc, aI yI 48 g)] t.heap ∧ va_D (va_A ([(x, oRD tx nw tr kn me sl), (nw, oDrv nc S (lN (kL (S) 0 40))), (nc, aI yI 48 g), (me, oMem rg nx ct), (rg, aD yD 14 f)] ++ wq) sz) [(x, oRD tx nw tr kn me sl), (nw, oDrv nc (wr S i v) (lN (kL (wr S i v) 0 40))), (nc, aI yI 48 G9), (me, oMem rg (if nx + 1 < 14 then nx + 1 else 0) (min (ct + 1) 14)), (rg, aD yD 14 (va_up f nx.toNat (some q))), (q, oDrv qc S (lN (kL (S) 0 40))), (qc, aI yI 48 g)]) (va_A ([(x, oRD tx nw tr kn me sl), (nw, oDrv nc S (lN (kL (S) 0 40))), (nc, aI yI 48 g), (me, oMem rg nx ct), (rg, aD yD 14 f)] ++ wq) sz)) (vxX D (fun E => E = eI ∧ ¬ (0 ≤ i ∧ i < S 0)) (fun (_ : Unit) => ([(x, oRD tx nw tr kn me sl), (nw, oDrv nc S (lN (kL (S) 0 40))), (nc, aI yI 48 g), (me, oMem rg nx ct), (rg, aD yD 14 f)] ++ wq)) (va_A ([(x, oRD tx nw tr kn me sl), (nw, oDrv nc S (lN (kL (S) 0 40))), (nc, aI yI 48 g), (me, oMem rg nx ct), (rg, aD yD 14 f)] ++ wq) sz)) 8 150 (va_A ([(x, oRD tx nw tr kn me sl), (nw, oDrv nc S (lN (kL (S) 0 40))), (nc, aI yI 48 g), (me, oMem rg nx ct), (rg, aD yD 14 f)] ++ wq) sz) := by
  refine vx_ofW (cc := cX4_write) (maxL := 3) (ret := (some .int)) (by decide) rfl ?_
  intro p e s m args below meth c s₁ B hml hno hv
  obtain ⟨rfl, hsz, hP, hK, hD0, hB⟩ := hv
  have hx := B.exec
  have hb := B.bytes
  have hr := B.returns
  have hts := atoms_spec (ws := wsX4_write) B.pre
  have hown : s.vm.findClass RX4 = some m.cls := findClass_of_methodNamed B.named
  have hlocks := B.notSynchronized
  subst hsz
  have hD := hD0.self (sz := s.heap.size)
  generalize hAe : va_A ([(x, oRD tx nw tr kn me sl), (nw, oDrv nc S (lN (kL (S) 0 40))), (nc, aI yI 48 g), (me, oMem rg nx ct), (rg, aD yD 14 f)] ++ wq) s.heap.size = A at hD hB ⊢
  have hA : ∀ q : Nat, s.heap.size ≤ q → A q := fun q h => by rw [← hAe]; exact Or.inr h
  have hS : va_S A s.heap s.heap [] := va_S.rf
  have hP : va_P D vwCl ([(x, oRD tx nw tr kn me sl), (nw, oDrv nc S (lN (kL (S) 0 40))), (nc, aI yI 48 g), (me, oMem rg nx ct), (rg, aD yD 14 f)] ++ wq) s.heap := hP
  have hinX4 : ∀ w ∈ wsX40, w ∈ wsX4_write := by decide +kernel
  have hf19 : (Cond.fieldLink RX4 19 "RiddleDrive" "now" "LRiddleDrive$Drive;").before _ s = true := hts _ (by decide +kernel)
  have hf36 : (Cond.fieldLink RX4 36 "RiddleDrive" "memory" "LRiddleDrive$Memory;").before _ s = true := hts _ (by decide +kernel)
  have hl := lv_entry ([.ref x, .int (iI i), .int (iI v)]) (n := 3) (Nat.le_of_ble_eq_true rfl)
  rw [lg_entry_eq]
  generalize (lg_sl ([.ref x, .int (iI i), .int (iI v)]) ++ List.replicate (3 - (lg_sl ([.ref x, .int (iI i), .int (iI v)])).length) Slot.unset).toArray = ls at hl ⊢
  have hl : lv_has ls 3 [(0, .ref x), (1, .int (iI i)), (2, .int (iI v))] := hl
  have hpl := hI.pl
  have hna := hI.na
  have hse := hI.se
  have hwi := hI.wi
  have hfe := hI.fe
  refine lv_aload_n hx hb dX4_write_0 rfl (lv_at hl 0 rfl) ?_
  refine lv_iload_n hx hb dX4_write_1 rfl (lv_at hl 1 rfl) ?_
  refine iv_vxVv (As := [.int (iI i)]) (rest := []) (C := RX4) (n := 1) ⟨hx, hb, hml, hown, hts⟩ (c_X4_checkPlace l hla D yI yC yD x tx nw tr kn me sl nc S g i (by assumption) (by assumption) _) (cwV 1 hts gX4_write_X4_checkPlace rfl rfl rfl (by decide +kernel) ⟨Nat.le_of_ble_eq_true rfl, Nat.le_of_ble_eq_true rfl⟩) hK hP hD hS hA hB [0, 1, 2] (by decide) rfl 0 rfl rfl rfl hl.1 rfl (Nat.le_of_ble_eq_true rfl) dX4_write_2 ⟨Nat.le_of_ble_eq_true rfl, Nat.le_of_ble_eq_true rfl⟩ (fun _ => rfl) (fun _ => rfl) (fun E9 ce9 q9 ux H locs hxe hP hD hS hc9 hv9 hcl9 => ?_) (fun u2 H locs hw2 hP hD hS => ?_)
  · exact iv_out hno hlocks hc9 hv9 hcl9 hS () (by exact hP) (hxe) (Nat.le_of_ble_eq_true rfl) (Nat.le_of_ble_eq_true rfl)
  have hpl9_2 := hw2
  have hP : va_P D vwCl ([(x, oRD tx nw tr kn me sl), (nw, oDrv nc S (lN (kL (S) 0 40))), (nc, aI yI 48 g), (me, oMem rg nx ct), (rg, aD yD 14 f)] ++ wq) H := hP
  have hD : va_D A ([(x, oRD tx nw tr kn me sl), (nw, oDrv nc S (lN (kL (S) 0 40))), (nc, aI yI 48 g), (me, oMem rg nx ct), (rg, aD yD 14 f)] ++ wq) := hD
  refine lv_aload_n hx hb dX4_write_5 rfl (lv_at hl 0 rfl) ?_
  refine va_get (D := D) (ci := 4) (v := .ref me) (C := RX4) (T := TX4) (N := 6) hx hb hts hinX4 hown hK hP 0 rfl rfl 4 (by decide) hf36 (fun _ h9 => h9) rfl dX4_write_6 ?_
  refine lv_aload_n hx hb dX4_write_9 rfl (lv_at hl 0 rfl) ?_
  refine va_get (D := D) (ci := 4) (v := .ref nw) (C := RX4) (T := TX4) (N := 6) hx hb hts hinX4 hown hK hP 0 rfl rfl 1 (by decide) hf19 (fun _ h9 => h9) rfl dX4_write_10 ?_
  refine iv_alVv (wr := [(x, oRD tx nw tr kn me sl)]) (As := [.ref nw]) (rest := []) (C := RX2) (n := 1) ⟨hx, hb, hml, hown, hts⟩ (c_X2_remember l D yI yC yD me rg f nx ct nw nc S g (lN (kL (S) 0 40)) wq (by omega) (by assumption) _) (cwV 1 hts gX4_write_X2_remember rfl rfl rfl (by decide +kernel) ⟨Nat.le_of_ble_eq_true rfl, Nat.le_of_ble_eq_true rfl⟩) hB.2.2.2.2.2 hK hP hD hS hA [3, 4, 1, 2] [0] (by decide) rfl rfl (by decide) (by decide) 3 rfl rfl rfl hl.1 rfl (Nat.le_of_ble_eq_true rfl) dX4_write_13 ⟨Nat.le_of_ble_eq_true rfl, Nat.le_of_ble_eq_true rfl⟩ (fun u13 H locs hw13 hP hD hS => ?_)
  obtain ⟨q, qc⟩ := u13
  have hP : va_P D vwCl [(x, oRD tx nw tr kn me sl), (me, oMem rg (if nx + 1 < 14 then nx + 1 else 0) (min (ct + 1) 14)), (rg, aD yD 14 (va_up f nx.toNat (some q))), (nw, oDrv nc S (lN (kL (S) 0 40))), (nc, aI yI 48 g), (q, oDrv qc S (lN (kL (S) 0 40))), (qc, aI yI 48 g)] H := hP
  have hD : va_D A [(x, oRD tx nw tr kn me sl), (me, oMem rg (if nx + 1 < 14 then nx + 1 else 0) (min (ct + 1) 14)), (rg, aD yD 14 (va_up f nx.toNat (some q))), (nw, oDrv nc S (lN (kL (S) 0 40))), (nc, aI yI 48 g), (q, oDrv qc S (lN (kL (S) 0 40))), (qc, aI yI 48 g)] := hD
  refine lv_aload_n hx hb dX4_write_16 rfl (lv_at hl 0 rfl) ?_
  refine va_get (D := D) (ci := 4) (v := .ref nw) (C := RX4) (T := TX4) (N := 6) hx hb hts hinX4 hown hK hP 0 rfl rfl 1 (by decide) hf19 (fun _ h9 => h9) rfl dX4_write_17 ?_
  refine lv_iload_n hx hb dX4_write_20 rfl (lv_at hl 1 rfl) ?_
  refine lv_iload_n hx hb dX4_write_21 rfl (lv_at hl 2 rfl) ?_
  refine iv_rwV (As := [.int (iI i), .int (iI v)]) (rest := []) (C := RX0) (n := 2) ⟨hx, hb, hml, hown, hts⟩ (c_X0_putKey l D yI yC yD nw nc S g i v (by assumption) (by assumption) (by omega) (by omega) _) (cwV 2 hts gX4_write_X0_putKey rfl rfl rfl (by decide +kernel) ⟨Nat.le_of_ble_eq_true rfl, Nat.le_of_ble_eq_true rfl⟩) hK hP hD hS hA [3, 4] (by decide) rfl 3 rfl rfl rfl hl.1 rfl (Nat.le_of_ble_eq_true rfl) dX4_write_22 ⟨Nat.le_of_ble_eq_true rfl, Nat.le_of_ble_eq_true rfl⟩ (fun _ => rfl) (fun r22 u22 H locs hw22 hP hD hS => ?_)
  obtain ⟨G922, hu22⟩ : ∃ z, z = u22 := ⟨_, rfl⟩
  subst hu22
  obtain ⟨hr22, hR2_22⟩ := hw22
  subst hr22
  have hP : va_P D vwCl [(x, oRD tx nw tr kn me sl), (me, oMem rg (if nx + 1 < 14 then nx + 1 else 0) (min (ct + 1) 14)), (rg, aD yD 14 (va_up f nx.toNat (some q))), (nw, oDrv nc (wr S i v) (lN (kL (wr S i v) 0 40))), (nc, aI yI 48 G922), (q, oDrv qc S (lN (kL (S) 0 40))), (qc, aI yI 48 g)] H := hP
  have hD : va_D A [(x, oRD tx nw tr kn me sl), (me, oMem rg (if nx + 1 < 14 then nx + 1 else 0) (min (ct + 1) 14)), (rg, aD yD 14 (va_up f nx.toNat (some q))), (nw, oDrv nc (wr S i v) (lN (kL (wr S i v) 0 40))), (nc, aI yI 48 G922), (q, oDrv qc S (lN (kL (S) 0 40))), (qc, aI yI 48 g)] := hD
  have hP9 : va_P D vwCl [(x, oRD tx nw tr kn me sl), (nw, oDrv nc (wr S i v) (lN (kL (wr S i v) 0 40))), (nc, aI yI 48 G922), (me, oMem rg (if nx + 1 < 14 then nx + 1 else 0) (min (ct + 1) 14)), (rg, aD yD 14 (va_up f nx.toNat (some q))), (q, oDrv qc S (lN (kL (S) 0 40))), (qc, aI yI 48 g)] _ := hP.sub [0, 3, 4, 1, 2, 5, 6] rfl
  have hD9 : va_D A [(x, oRD tx nw tr kn me sl), (nw, oDrv nc (wr S i v) (lN (kL (wr S i v) 0 40))), (nc, aI yI 48 G922), (me, oMem rg (if nx + 1 < 14 then nx + 1 else 0) (min (ct + 1) 14)), (rg, aD yD 14 (va_up f nx.toNat (some q))), (q, oDrv qc S (lN (kL (S) 0 40))), (qc, aI yI 48 g)] := hD.sub [0, 3, 4, 1, 2, 5, 6] (by decide) rfl
  refine W.widen (k := 8) (n := 150) (Nat.le_of_ble_eq_true rfl) (Nat.le_of_ble_eq_true rfl) ?_
  refine vx_ret ?_
  exact W.iret hx hb hr (fun t ht hW => ⟨⟨iI (S 4 - wr S i v 4), (q, qc, G922), rfl, ⟨rfl, (by omega), (by omega)⟩, ⟨by show va_P D vwCl _ t.heap; rw [ht]; exact hP9, hD9⟩⟩, hS.F ht⟩) hS.2.2 dX4_write_25
set_option maxHeartbeats 4000000 in
set_option maxRecDepth 100000 in
theorem c_X4_set (l : Launch) (hla : l.stackTraces = false) (D : va_G) (yI yC yD : ClassId) (x : Nat) (tx : Nat) (nw : Nat) (tr : Nat) (kn : Nat) (me : Nat) (sl : Nat) (nc : Nat) (S : Int → Int) (g : Int → Int) (rg : Nat) (f : Nat → Option Nat) (nx : Int) (ct : Int) (wq : va_W) (w : Int) (v : Int) (hI : Inv S) (hR : Rc S g) (hme : 0 ≤ nx ∧ nx < 14 ∧ 0 ≤ ct ∧ ct ≤ 14) (hwq : (f nx.toNat = none ∧ wq = []) ∨ ∃ (q qc : Nat) (S2 g2 : Int → Int) (k2 : Int64), f nx.toNat = some q ∧ wq = [(q, oDrv qc S2 k2), (qc, aI yI 48 g2)]) (hw9 : inR w ∧ inR v) (sz : Nat) : vx_Met l yX4_set wsX4_set ({ frames := 6, cells := 8, slots := 150, locals := 82 }) (vxP [.ref x, .int (iI w), .int (iI v)] D (tyz yI yC yD) ([(x, oRD tx nw tr kn me sl), (nw, oDrv nc S (lN (kL (S) 0 40))), (nc, aI yI 48 g), (me, oMem rg nx ct), (rg, aD yD 14 f)] ++ wq) sz) (va_Qi (fun (r : Int32) (u : Nat × Nat) => match u with | (q, qc) => r = iI (S (1 + w)) ∧ (okS w v) ∧ Rc (setg S w v) g) (fun (u : Nat × Nat) (t : State) => match u with | (q, qc) => va_P D vwCl [(x, oRD tx nw tr kn me sl), (nw, oDrv nc (setg S w v) (lN (kL (setg S w v) 0 40))), (nc, aI yI 48 g), (me, oMem rg (if nx + 1 < 14 then nx + 1 else 0) (min (ct + 1) 14)), (rg, aD yD 14 (va_up f nx.toNat (some q))), (q, oDrv qc S (lN (kL (S) 0 40))), (qc, aI yI 48 g)] t.heap ∧ va_D (va_A ([(x, oRD tx nw tr kn me sl), (nw, oDrv nc S (lN (kL (S) 0 40))), (nc, aI yI 48 g), (me, oMem rg nx ct), (rg, aD yD 14 f)] ++ wq) sz) [(x, oRD tx nw tr kn me sl), (nw, oDrv nc (setg S w v) (lN (kL (setg S w v) 0 40))), (nc, aI yI 48 g), (me, oMem rg (if nx + 1 < 14 then nx + 1 else 0) (min (ct + 1) 14)), (rg, aD yD 14 (va_up f nx.toNat (some q))), (q, oDrv qc S (lN (kL (S) 0 40))), (qc, aI yI 48 g)]) (va_A ([(x, oRD tx nw tr kn me sl), (nw, oDrv nc S (lN (kL (S) 0 40))), (nc, aI yI 48 g), (me, oMem rg nx ct), (rg, aD yD 14 f)] ++ wq) sz)) (vxX D (fun E => E = eA ∧ ¬ okS w v) (fun (_ : Unit) => ([(x, oRD tx nw tr kn me sl), (nw, oDrv nc S (lN (kL (S) 0 40))), (nc, aI yI 48 g), (me, oMem rg nx ct), (rg, aD yD 14 f)] ++ wq)) (va_A ([(x, oRD tx nw tr kn me sl), (nw, oDrv nc S (lN (kL (S) 0 40))), (nc, aI yI 48 g), (me, oMem rg nx ct), (rg, aD yD 14 f)] ++ wq) sz)) 8 150 (va_A ([(x, oRD tx nw tr kn me sl), (nw, oDrv nc S (lN (kL (S) 0 40))), (nc, aI yI 48 g), (me, oMem rg nx ct), (rg, aD yD 14 f)] ++ wq) sz) := by
  refine vx_ofW (cc := cX4_set) (maxL := 3) (ret := (some .int)) (by decide) rfl ?_
  intro p e s m args below meth c s₁ B hml hno hv
  obtain ⟨rfl, hsz, hP, hK, hD0, hB⟩ := hv
  have hx := B.exec
  have hb := B.bytes
  have hr := B.returns
  have hts := atoms_spec (ws := wsX4_set) B.pre
  have hown : s.vm.findClass RX4 = some m.cls := findClass_of_methodNamed B.named
  have hlocks := B.notSynchronized
  subst hsz
  have hD := hD0.self (sz := s.heap.size)
  generalize hAe : va_A ([(x, oRD tx nw tr kn me sl), (nw, oDrv nc S (lN (kL (S) 0 40))), (nc, aI yI 48 g), (me, oMem rg nx ct), (rg, aD yD 14 f)] ++ wq) s.heap.size = A at hD hB ⊢
  have hA : ∀ q : Nat, s.heap.size ≤ q → A q := fun q h => by rw [← hAe]; exact Or.inr h
  have hS : va_S A s.heap s.heap [] := va_S.rf
  have hP : va_P D vwCl ([(x, oRD tx nw tr kn me sl), (nw, oDrv nc S (lN (kL (S) 0 40))), (nc, aI yI 48 g), (me, oMem rg nx ct), (rg, aD yD 14 f)] ++ wq) s.heap := hP
  have hinX4 : ∀ w ∈ wsX40, w ∈ wsX4_set := by decide +kernel
  have hf19 : (Cond.fieldLink RX4 19 "RiddleDrive" "now" "LRiddleDrive$Drive;").before _ s = true := hts _ (by decide +kernel)
  have hf36 : (Cond.fieldLink RX4 36 "RiddleDrive" "memory" "LRiddleDrive$Memory;").before _ s = true := hts _ (by decide +kernel)
  have hl := lv_entry ([.ref x, .int (iI w), .int (iI v)]) (n := 3) (Nat.le_of_ble_eq_true rfl)
  rw [lg_entry_eq]
  generalize (lg_sl ([.ref x, .int (iI w), .int (iI v)]) ++ List.replicate (3 - (lg_sl ([.ref x, .int (iI w), .int (iI v)])).length) Slot.unset).toArray = ls at hl ⊢
  have hl : lv_has ls 3 [(0, .ref x), (1, .int (iI w)), (2, .int (iI v))] := hl
  have hpl := hI.pl
  have hna := hI.na
  have hse := hI.se
  have hwi := hI.wi
  have hfe := hI.fe
  refine lv_iload_n hx hb dX4_set_0 rfl (lv_at hl 1 rfl) ?_
  refine lv_iload_n hx hb dX4_set_1 rfl (lv_at hl 2 rfl) ?_
  refine iv_roS (As := [.int (iI w), .int (iI v)]) (rest := []) (n := 2) ⟨hx, hb, hml, hown, hts⟩ (c_X4_isSetting l D yI yC yD w v (by assumption)) (va_cwS 2 hts gX4_set_X4_isSetting rfl rfl rfl (by decide +kernel) ⟨Nat.le_of_ble_eq_true rfl, Nat.le_of_ble_eq_true rfl⟩) hK hP [] rfl rfl hl.1 rfl (Nat.le_of_ble_eq_true rfl) dX4_set_2 ⟨Nat.le_of_ble_eq_true rfl, Nat.le_of_ble_eq_true rfl⟩ ?_
  refine iv_ifb_ne (P := okS w v) (tgt := 18) hx hb dX4_set_5 (by decide) (fun c5 => ?_) (fun c5 => ?_)
  · refine lv_aload_n hx hb dX4_set_18 rfl (lv_at hl 0 rfl) ?_
    refine va_get (D := D) (ci := 4) (v := .ref me) (C := RX4) (T := TX4) (N := 6) hx hb hts hinX4 hown hK hP 0 rfl rfl 4 (by decide) hf36 (fun _ h9 => h9) rfl dX4_set_19 ?_
    refine lv_aload_n hx hb dX4_set_22 rfl (lv_at hl 0 rfl) ?_
    refine va_get (D := D) (ci := 4) (v := .ref nw) (C := RX4) (T := TX4) (N := 6) hx hb hts hinX4 hown hK hP 0 rfl rfl 1 (by decide) hf19 (fun _ h9 => h9) rfl dX4_set_23 ?_
    refine iv_alVv (wr := [(x, oRD tx nw tr kn me sl)]) (As := [.ref nw]) (rest := []) (C := RX2) (n := 1) ⟨hx, hb, hml, hown, hts⟩ (c_X2_remember l D yI yC yD me rg f nx ct nw nc S g (lN (kL (S) 0 40)) wq (by omega) (by assumption) _) (cwV 1 hts gX4_set_X2_remember rfl rfl rfl (by decide +kernel) ⟨Nat.le_of_ble_eq_true rfl, Nat.le_of_ble_eq_true rfl⟩) hB.2.2.2.2.2 hK hP hD hS hA [3, 4, 1, 2] [0] (by decide) rfl rfl (by decide) (by decide) 3 rfl rfl rfl hl.1 rfl (Nat.le_of_ble_eq_true rfl) dX4_set_26 ⟨Nat.le_of_ble_eq_true rfl, Nat.le_of_ble_eq_true rfl⟩ (fun u26 H locs hw26 hP hD hS => ?_)
    obtain ⟨q, qc⟩ := u26
    have hP : va_P D vwCl [(x, oRD tx nw tr kn me sl), (me, oMem rg (if nx + 1 < 14 then nx + 1 else 0) (min (ct + 1) 14)), (rg, aD yD 14 (va_up f nx.toNat (some q))), (nw, oDrv nc S (lN (kL (S) 0 40))), (nc, aI yI 48 g), (q, oDrv qc S (lN (kL (S) 0 40))), (qc, aI yI 48 g)] H := hP
    have hD : va_D A [(x, oRD tx nw tr kn me sl), (me, oMem rg (if nx + 1 < 14 then nx + 1 else 0) (min (ct + 1) 14)), (rg, aD yD 14 (va_up f nx.toNat (some q))), (nw, oDrv nc S (lN (kL (S) 0 40))), (nc, aI yI 48 g), (q, oDrv qc S (lN (kL (S) 0 40))), (qc, aI yI 48 g)] := hD
    refine lv_aload_n hx hb dX4_set_29 rfl (lv_at hl 0 rfl) ?_
    refine va_get (D := D) (ci := 4) (v := .ref nw) (C := RX4) (T := TX4) (N := 6) hx hb hts hinX4 hown hK hP 0 rfl rfl 1 (by decide) hf19 (fun _ h9 => h9) rfl dX4_set_30 ?_
    refine lv_iload_n hx hb dX4_set_33 rfl (lv_at hl 1 rfl) ?_
    refine lv_iload_n hx hb dX4_set_34 rfl (lv_at hl 2 rfl) ?_
    refine iv_rwV (As := [.int (iI w), .int (iI v)]) (rest := []) (C := RX0) (n := 2) ⟨hx, hb, hml, hown, hts⟩ (c_X0_change l D yI yC yD nw nc S g w v (by assumption) (by assumption) (by assumption) _) (cwV 2 hts gX4_set_X0_change rfl rfl rfl (by decide +kernel) ⟨Nat.le_of_ble_eq_true rfl, Nat.le_of_ble_eq_true rfl⟩) hK hP hD hS hA [3, 4] (by decide) rfl 3 rfl rfl rfl hl.1 rfl (Nat.le_of_ble_eq_true rfl) dX4_set_35 ⟨Nat.le_of_ble_eq_true rfl, Nat.le_of_ble_eq_true rfl⟩ (fun _ => rfl) (fun r35 u35 H locs hw35 hP hD hS => ?_)
    obtain ⟨hr35, hR2_35⟩ := hw35
    subst hr35
    have hP : va_P D vwCl [(x, oRD tx nw tr kn me sl), (me, oMem rg (if nx + 1 < 14 then nx + 1 else 0) (min (ct + 1) 14)), (rg, aD yD 14 (va_up f nx.toNat (some q))), (nw, oDrv nc (setg S w v) (lN (kL (setg S w v) 0 40))), (nc, aI yI 48 g), (q, oDrv qc S (lN (kL (S) 0 40))), (qc, aI yI 48 g)] H := hP
    have hD : va_D A [(x, oRD tx nw tr kn me sl), (me, oMem rg (if nx + 1 < 14 then nx + 1 else 0) (min (ct + 1) 14)), (rg, aD yD 14 (va_up f nx.toNat (some q))), (nw, oDrv nc (setg S w v) (lN (kL (setg S w v) 0 40))), (nc, aI yI 48 g), (q, oDrv qc S (lN (kL (S) 0 40))), (qc, aI yI 48 g)] := hD
    have hP9 : va_P D vwCl [(x, oRD tx nw tr kn me sl), (nw, oDrv nc (setg S w v) (lN (kL (setg S w v) 0 40))), (nc, aI yI 48 g), (me, oMem rg (if nx + 1 < 14 then nx + 1 else 0) (min (ct + 1) 14)), (rg, aD yD 14 (va_up f nx.toNat (some q))), (q, oDrv qc S (lN (kL (S) 0 40))), (qc, aI yI 48 g)] _ := hP.sub [0, 3, 4, 1, 2, 5, 6] rfl
    have hD9 : va_D A [(x, oRD tx nw tr kn me sl), (nw, oDrv nc (setg S w v) (lN (kL (setg S w v) 0 40))), (nc, aI yI 48 g), (me, oMem rg (if nx + 1 < 14 then nx + 1 else 0) (min (ct + 1) 14)), (rg, aD yD 14 (va_up f nx.toNat (some q))), (q, oDrv qc S (lN (kL (S) 0 40))), (qc, aI yI 48 g)] := hD.sub [0, 3, 4, 1, 2, 5, 6] (by decide) rfl
    refine W.widen (k := 8) (n := 150) (Nat.le_of_ble_eq_true rfl) (Nat.le_of_ble_eq_true rfl) ?_
    refine vx_ret ?_
    exact W.iret hx hb hr (fun t ht hW => ⟨⟨iI (S (1 + w)), (q, qc), rfl, ⟨rfl, (by omega), (by omega)⟩, ⟨by show va_P D vwCl _ t.heap; rw [ht]; exact hP9, hD9⟩⟩, hS.F ht⟩) hS.2.2 dX4_set_38
  · exact iv_thrG (ic := 52) (ik := 48) (is := 174) (cls := eA) (text := "no such setting") hx hb hla hown bfA xfA xgA hB.1.1 hts (fun w h => List.mem_cons_of_mem _ (List.mem_append_right _ h)) (by decide +kernel) (by decide +kernel) hB hS (()) (by exact hP) (⟨rfl, by assumption⟩) (hl.1.trans hml.symm) hlocks hno (by decide +kernel) ⟨Nat.le_of_ble_eq_true rfl, Nat.le_of_ble_eq_true rfl, Nat.le_of_ble_eq_true rfl, Nat.le_of_ble_eq_true rfl⟩ (Nat.le_of_ble_eq_true rfl) (Nat.le_of_ble_eq_true rfl) dX4_set_8 dX4_set_11 (Or.inl ⟨dX4_set_12, dX4_set_14, dX4_set_17⟩)
set_option maxHeartbeats 4000000 in
set_option maxRecDepth 100000 in
theorem c_X4_ask (l : Launch) (hla : l.stackTraces = false) (D : va_G) (yI yC yD : ClassId) (x : Nat) (tx : Nat) (nw : Nat) (tr : Nat) (kn : Nat) (me : Nat) (sl : Nat) (nc : Nat) (S : Int → Int) (g : Int → Int) (rg : Nat) (f : Nat → Option Nat) (nx : Int) (ct : Int) (wq : va_W) (a : Int) (b : Int) (hI : Inv S) (hR : Rc S g) (hme : 0 ≤ nx ∧ nx < 14 ∧ 0 ≤ ct ∧ ct ≤ 14) (hwq : (f nx.toNat = none ∧ wq = []) ∨ ∃ (q qc : Nat) (S2 g2 : Int → Int) (k2 : Int64), f nx.toNat = some q ∧ wq = [(q, oDrv qc S2 k2), (qc, aI yI 48 g2)]) (hab9 : inR a ∧ inR b) (sz : Nat) : vx_Met l yX4_ask wsX4_ask ({ frames := 8, cells := 8, slots := 150, locals := 125 }) (vxP [.ref x, .int (iI a), .int (iI b)] D (tyz yI yC yD) ([(x, oRD tx nw tr kn me sl), (nw, oDrv nc S (lN (kL (S) 0 40))), (nc, aI yI 48 g), (me, oMem rg nx ct), (rg, aD yD 14 f)] ++ wq) sz) (va_Qi (fun (r : Int32) (u : Nat × Nat × (Int → Int)) => match u with | (q, qc, G9) => r = iI (told S a b) ∧ (whyA S a b = 0) ∧ Rc (askd S a b) G9) (fun (u : Nat × Nat × (Int → Int)) (t : State) => match u with | (q, qc, G9) => va_P D vwCl [(x, oRD tx nw tr kn me sl), (nw, oDrv nc (askd S a b) (lN (kL (askd S a b) 0 40))), (nc, aI yI 48 G9), (me, oMem rg (if nx + 1 < 14 then nx + 1 else 0) (min (ct + 1) 14)), (rg, aD yD 14 (va_up f nx.toNat (some q))), (q, oDrv qc S (lN (kL (S) 0 40))), (qc, aI yI 48 g)] t.heap ∧ va_D (va_A ([(x, oRD tx nw tr kn me sl), (nw, oDrv nc S (lN (kL (S) 0 40))), (nc, aI yI 48 g), (me, oMem rg nx ct), (rg, aD yD 14 f)] ++ wq) sz) [(x, oRD tx nw tr kn me sl), (nw, oDrv nc (askd S a b) (lN (kL (askd S a b) 0 40))), (nc, aI yI 48 G9), (me, oMem rg (if nx + 1 < 14 then nx + 1 else 0) (min (ct + 1) 14)), (rg, aD yD 14 (va_up f nx.toNat (some q))), (q, oDrv qc S (lN (kL (S) 0 40))), (qc, aI yI 48 g)]) (va_A ([(x, oRD tx nw tr kn me sl), (nw, oDrv nc S (lN (kL (S) 0 40))), (nc, aI yI 48 g), (me, oMem rg nx ct), (rg, aD yD 14 f)] ++ wq) sz)) (vxX D (fun E => (E = eI ∧ whyA S a b = 1) ∨ (E = eA ∧ whyA S a b = 2) ∨ (E = eS ∧ whyA S a b = 3)) (fun (_ : Unit) => ([(x, oRD tx nw tr kn me sl), (nw, oDrv nc S (lN (kL (S) 0 40))), (nc, aI yI 48 g), (me, oMem rg nx ct), (rg, aD yD 14 f)] ++ wq)) (va_A ([(x, oRD tx nw tr kn me sl), (nw, oDrv nc S (lN (kL (S) 0 40))), (nc, aI yI 48 g), (me, oMem rg nx ct), (rg, aD yD 14 f)] ++ wq) sz)) 8 150 (va_A ([(x, oRD tx nw tr kn me sl), (nw, oDrv nc S (lN (kL (S) 0 40))), (nc, aI yI 48 g), (me, oMem rg nx ct), (rg, aD yD 14 f)] ++ wq) sz) := by
  refine vx_ofW (cc := cX4_ask) (maxL := 3) (ret := (some .int)) (by decide) rfl ?_
  intro p e s m args below meth c s₁ B hml hno hv
  obtain ⟨rfl, hsz, hP, hK, hD0, hB⟩ := hv
  have hx := B.exec
  have hb := B.bytes
  have hr := B.returns
  have hts := atoms_spec (ws := wsX4_ask) B.pre
  have hown : s.vm.findClass RX4 = some m.cls := findClass_of_methodNamed B.named
  have hlocks := B.notSynchronized
  subst hsz
  have hD := hD0.self (sz := s.heap.size)
  generalize hAe : va_A ([(x, oRD tx nw tr kn me sl), (nw, oDrv nc S (lN (kL (S) 0 40))), (nc, aI yI 48 g), (me, oMem rg nx ct), (rg, aD yD 14 f)] ++ wq) s.heap.size = A at hD hB ⊢
  have hA : ∀ q : Nat, s.heap.size ≤ q → A q := fun q h => by rw [← hAe]; exact Or.inr h
  have hS : va_S A s.heap s.heap [] := va_S.rf
  have hP : va_P D vwCl ([(x, oRD tx nw tr kn me sl), (nw, oDrv nc S (lN (kL (S) 0 40))), (nc, aI yI 48 g), (me, oMem rg nx ct), (rg, aD yD 14 f)] ++ wq) s.heap := hP
  have hinX4 : ∀ w ∈ wsX40, w ∈ wsX4_ask := by decide +kernel
  have hf19 : (Cond.fieldLink RX4 19 "RiddleDrive" "now" "LRiddleDrive$Drive;").before _ s = true := hts _ (by decide +kernel)
  have hf36 : (Cond.fieldLink RX4 36 "RiddleDrive" "memory" "LRiddleDrive$Memory;").before _ s = true := hts _ (by decide +kernel)
  have hl := lv_entry ([.ref x, .int (iI a), .int (iI b)]) (n := 3) (Nat.le_of_ble_eq_true rfl)
  rw [lg_entry_eq]
  generalize (lg_sl ([.ref x, .int (iI a), .int (iI b)]) ++ List.replicate (3 - (lg_sl ([.ref x, .int (iI a), .int (iI b)])).length) Slot.unset).toArray = ls at hl ⊢
  have hl : lv_has ls 3 [(0, .ref x), (1, .int (iI a)), (2, .int (iI b))] := hl
  have hpl := hI.pl
  have hna := hI.na
  have hse := hI.se
  have hwi := hI.wi
  have hfe := hI.fe
  refine lv_aload_n hx hb dX4_ask_0 rfl (lv_at hl 0 rfl) ?_
  refine lv_iload_n hx hb dX4_ask_1 rfl (lv_at hl 1 rfl) ?_
  refine lv_iload_n hx hb dX4_ask_2 rfl (lv_at hl 2 rfl) ?_
  refine iv_vxVv (As := [.int (iI a), .int (iI b)]) (rest := []) (C := RX4) (n := 2) ⟨hx, hb, hml, hown, hts⟩ (c_X4_checkRange l hla D yI yC yD x tx nw tr kn me sl nc S g a b (by assumption) (by assumption) _) (cwV 2 hts gX4_ask_X4_checkRange rfl rfl rfl (by decide +kernel) ⟨Nat.le_of_ble_eq_true rfl, Nat.le_of_ble_eq_true rfl⟩) hK hP hD hS hA hB [0, 1, 2] (by decide) rfl 0 rfl rfl rfl hl.1 rfl (Nat.le_of_ble_eq_true rfl) dX4_ask_3 ⟨Nat.le_of_ble_eq_true rfl, Nat.le_of_ble_eq_true rfl⟩ (fun _ => rfl) (fun _ => rfl) (fun E9 ce9 q9 ux H locs hxe hP hD hS hc9 hv9 hcl9 => ?_) (fun u3 H locs hw3 hP hD hS => ?_)
  · exact iv_out hno hlocks hc9 hv9 hcl9 hS () (by exact hP) (whyA_x hxe) (Nat.le_of_ble_eq_true rfl) (Nat.le_of_ble_eq_true rfl)
  have hwr9_3 := hw3
  have hP : va_P D vwCl ([(x, oRD tx nw tr kn me sl), (nw, oDrv nc S (lN (kL (S) 0 40))), (nc, aI yI 48 g), (me, oMem rg nx ct), (rg, aD yD 14 f)] ++ wq) H := hP
  have hD : va_D A ([(x, oRD tx nw tr kn me sl), (nw, oDrv nc S (lN (kL (S) 0 40))), (nc, aI yI 48 g), (me, oMem rg nx ct), (rg, aD yD 14 f)] ++ wq) := hD
  have hab := whyR_0.1 hwr9_3
  refine lv_aload_n hx hb dX4_ask_6 rfl (lv_at hl 0 rfl) ?_
  refine va_get (D := D) (ci := 4) (v := .ref nw) (C := RX4) (T := TX4) (N := 6) hx hb hts hinX4 hown hK hP 0 rfl rfl 1 (by decide) hf19 (fun _ h9 => h9) rfl dX4_ask_7 ?_
  refine lv_iload_n hx hb dX4_ask_10 rfl (lv_at hl 1 rfl) ?_
  refine lv_iload_n hx hb dX4_ask_11 rfl (lv_at hl 2 rfl) ?_
  refine iv_roV (As := [.int (iI a), .int (iI b)]) (rest := []) (C := RX0) (n := 2) ⟨hx, hb, hml, hown, hts⟩ (c_X0_isNarrow l D yI yC yD nw nc S g (lN (kL (S) 0 40)) a b (by omega) (by omega)) (cwV 2 hts gX4_ask_X0_isNarrow rfl rfl rfl (by decide +kernel) ⟨Nat.le_of_ble_eq_true rfl, Nat.le_of_ble_eq_true rfl⟩) hK hP [1, 2] rfl 1 rfl rfl rfl hl.1 rfl (Nat.le_of_ble_eq_true rfl) dX4_ask_12 ⟨Nat.le_of_ble_eq_true rfl, Nat.le_of_ble_eq_true rfl⟩ ?_
  refine iv_ifb_eq (P := b - a + 1 < S 1) (tgt := 28) hx hb dX4_ask_15 (by decide) (fun c15 => ?_) (fun c15 => ?_)
  · refine lv_aload_n hx hb dX4_ask_28 rfl (lv_at hl 0 rfl) ?_
    refine va_get (D := D) (ci := 4) (v := .ref me) (C := RX4) (T := TX4) (N := 6) hx hb hts hinX4 hown hK hP 0 rfl rfl 4 (by decide) hf36 (fun _ h9 => h9) rfl dX4_ask_29 ?_
    refine lv_aload_n hx hb dX4_ask_32 rfl (lv_at hl 0 rfl) ?_
    refine va_get (D := D) (ci := 4) (v := .ref nw) (C := RX4) (T := TX4) (N := 6) hx hb hts hinX4 hown hK hP 0 rfl rfl 1 (by decide) hf19 (fun _ h9 => h9) rfl dX4_ask_33 ?_
    refine iv_alVv (wr := [(x, oRD tx nw tr kn me sl)]) (As := [.ref nw]) (rest := []) (C := RX2) (n := 1) ⟨hx, hb, hml, hown, hts⟩ (c_X2_remember l D yI yC yD me rg f nx ct nw nc S g (lN (kL (S) 0 40)) wq (by omega) (by assumption) _) (cwV 1 hts gX4_ask_X2_remember rfl rfl rfl (by decide +kernel) ⟨Nat.le_of_ble_eq_true rfl, Nat.le_of_ble_eq_true rfl⟩) hB.2.2.2.2.2 hK hP hD hS hA [3, 4, 1, 2] [0] (by decide) rfl rfl (by decide) (by decide) 3 rfl rfl rfl hl.1 rfl (Nat.le_of_ble_eq_true rfl) dX4_ask_36 ⟨Nat.le_of_ble_eq_true rfl, Nat.le_of_ble_eq_true rfl⟩ (fun u36 H locs hw36 hP hD hS => ?_)
    obtain ⟨q, qc⟩ := u36
    have hP : va_P D vwCl [(x, oRD tx nw tr kn me sl), (me, oMem rg (if nx + 1 < 14 then nx + 1 else 0) (min (ct + 1) 14)), (rg, aD yD 14 (va_up f nx.toNat (some q))), (nw, oDrv nc S (lN (kL (S) 0 40))), (nc, aI yI 48 g), (q, oDrv qc S (lN (kL (S) 0 40))), (qc, aI yI 48 g)] H := hP
    have hD : va_D A [(x, oRD tx nw tr kn me sl), (me, oMem rg (if nx + 1 < 14 then nx + 1 else 0) (min (ct + 1) 14)), (rg, aD yD 14 (va_up f nx.toNat (some q))), (nw, oDrv nc S (lN (kL (S) 0 40))), (nc, aI yI 48 g), (q, oDrv qc S (lN (kL (S) 0 40))), (qc, aI yI 48 g)] := hD
    refine lv_aload_n hx hb dX4_ask_39 rfl (lv_at hl 0 rfl) ?_
    refine va_get (D := D) (ci := 4) (v := .ref nw) (C := RX4) (T := TX4) (N := 6) hx hb hts hinX4 hown hK hP 0 rfl rfl 1 (by decide) hf19 (fun _ h9 => h9) rfl dX4_ask_40 ?_
    refine lv_iload_n hx hb dX4_ask_43 rfl (lv_at hl 1 rfl) ?_
    refine lv_iload_n hx hb dX4_ask_44 rfl (lv_at hl 2 rfl) ?_
    refine iv_rwV (As := [.int (iI a), .int (iI b)]) (rest := []) (C := RX0) (n := 2) ⟨hx, hb, hml, hown, hts⟩ (c_X0_question l D yI yC yD nw nc S g a b (by assumption) (by assumption) (by omega) _) (cwV 2 hts gX4_ask_X0_question rfl rfl rfl (by decide +kernel) ⟨Nat.le_of_ble_eq_true rfl, Nat.le_of_ble_eq_true rfl⟩) hK hP hD hS hA [3, 4] (by decide) rfl 3 rfl rfl rfl hl.1 rfl (Nat.le_of_ble_eq_true rfl) dX4_ask_45 ⟨Nat.le_of_ble_eq_true rfl, Nat.le_of_ble_eq_true rfl⟩ (fun _ => rfl) (fun r45 u45 H locs hw45 hP hD hS => ?_)
    obtain ⟨G945, hu45⟩ : ∃ z, z = u45 := ⟨_, rfl⟩
    subst hu45
    obtain ⟨hr45, hR2_45⟩ := hw45
    subst hr45
    have hP : va_P D vwCl [(x, oRD tx nw tr kn me sl), (me, oMem rg (if nx + 1 < 14 then nx + 1 else 0) (min (ct + 1) 14)), (rg, aD yD 14 (va_up f nx.toNat (some q))), (nw, oDrv nc (askd S a b) (lN (kL (askd S a b) 0 40))), (nc, aI yI 48 G945), (q, oDrv qc S (lN (kL (S) 0 40))), (qc, aI yI 48 g)] H := hP
    have hD : va_D A [(x, oRD tx nw tr kn me sl), (me, oMem rg (if nx + 1 < 14 then nx + 1 else 0) (min (ct + 1) 14)), (rg, aD yD 14 (va_up f nx.toNat (some q))), (nw, oDrv nc (askd S a b) (lN (kL (askd S a b) 0 40))), (nc, aI yI 48 G945), (q, oDrv qc S (lN (kL (S) 0 40))), (qc, aI yI 48 g)] := hD
    have hP9 : va_P D vwCl [(x, oRD tx nw tr kn me sl), (nw, oDrv nc (askd S a b) (lN (kL (askd S a b) 0 40))), (nc, aI yI 48 G945), (me, oMem rg (if nx + 1 < 14 then nx + 1 else 0) (min (ct + 1) 14)), (rg, aD yD 14 (va_up f nx.toNat (some q))), (q, oDrv qc S (lN (kL (S) 0 40))), (qc, aI yI 48 g)] _ := hP.sub [0, 3, 4, 1, 2, 5, 6] rfl
    have hD9 : va_D A [(x, oRD tx nw tr kn me sl), (nw, oDrv nc (askd S a b) (lN (kL (askd S a b) 0 40))), (nc, aI yI 48 G945), (me, oMem rg (if nx + 1 < 14 then nx + 1 else 0) (min (ct + 1) 14)), (rg, aD yD 14 (va_up f nx.toNat (some q))), (q, oDrv qc S (lN (kL (S) 0 40))), (qc, aI yI 48 g)] := hD.sub [0, 3, 4, 1, 2, 5, 6] (by decide) rfl
    refine W.widen (k := 8) (n := 150) (Nat.le_of_ble_eq_true rfl) (Nat.le_of_ble_eq_true rfl) ?_
    refine vx_ret ?_
    exact W.iret hx hb hr (fun t ht hW => ⟨⟨iI (told S a b), (q, qc, G945), rfl, ⟨rfl, (by exact whyA_0.2 ⟨hwr9_3, by omega⟩), (by assumption)⟩, ⟨by show va_P D vwCl _ t.heap; rw [ht]; exact hP9, hD9⟩⟩, hS.F ht⟩) hS.2.2 dX4_ask_48
  · exact iv_thrG (ic := 63) (ik := 59) (is := 182) (cls := eS) (text := "the range is too narrow") hx hb hla hown bfS xfS xgS hB.1.2.1 hts (fun w h => List.mem_cons_of_mem _ (List.mem_append_left _ (List.mem_append_left _ (List.mem_append_right _ h)))) (by decide +kernel) (by decide +kernel) hB hS (()) (by exact hP) (Or.inr (Or.inr ⟨rfl, (if_neg (by omega)).trans (if_neg (by omega))⟩)) (hl.1.trans hml.symm) hlocks hno (by decide +kernel) ⟨Nat.le_of_ble_eq_true rfl, Nat.le_of_ble_eq_true rfl, Nat.le_of_ble_eq_true rfl, Nat.le_of_ble_eq_true rfl⟩ (Nat.le_of_ble_eq_true rfl) (Nat.le_of_ble_eq_true rfl) dX4_ask_18 dX4_ask_21 (Or.inl ⟨dX4_ask_22, dX4_ask_24, dX4_ask_27⟩)
set_option maxHeartbeats 4000000 in
set_option maxRecDepth 100000 in
theorem c_X4_forget (l : Launch) (hla : l.stackTraces = false) (D : va_G) (yI yC yD : ClassId) (x : Nat) (tx : Nat) (nw : Nat) (tr : Nat) (kn : Nat) (me : Nat) (sl : Nat) (nc : Nat) (S : Int → Int) (g : Int → Int) (rg : Nat) (f : Nat → Option Nat) (nx : Int) (ct : Int) (wq : va_W) (i : Int) (hI : Inv S) (hR : Rc S g) (hme : 0 ≤ nx ∧ nx < 14 ∧ 0 ≤ ct ∧ ct ≤ 14) (hwq : (f nx.toNat = none ∧ wq = []) ∨ ∃ (q qc : Nat) (S2 g2 : Int → Int) (k2 : Int64), f nx.toNat = some q ∧ wq = [(q, oDrv qc S2 k2), (qc, aI yI 48 g2)]) (hi9 : inR i) (sz : Nat) : vx_Met l yX4_forget wsX4_forget ({ frames := 7, cells := 8, slots := 150, locals := 103 }) (vxP [.ref x, .int (iI i)] D (tyz yI yC yD) ([(x, oRD tx nw tr kn me sl), (nw, oDrv nc S (lN (kL (S) 0 40))), (nc, aI yI 48 g), (me, oMem rg nx ct), (rg, aD yD 14 f)] ++ wq) sz) (va_Qi (fun (r : Int32) (u : Nat × Nat × (Int → Int)) => match u with | (q, qc, G9) => r = iI (S 4 - 1) ∧ (0 ≤ i ∧ i < S 4) ∧ Rc (forget1 S i) G9) (fun (u : Nat × Nat × (Int → Int)) (t : State) => match u with | (q, qc, G9) => va_P D vwCl [(x, oRD tx nw tr kn me sl), (nw, oDrv nc (forget1 S i) (lN (kL (forget1 S i) 0 40))), (nc, aI yI 48 G9), (me, oMem rg (if nx + 1 < 14 then nx + 1 else 0) (min (ct + 1) 14)), (rg, aD yD 14 (va_up f nx.toNat (some q))), (q, oDrv qc S (lN (kL (S) 0 40))), (qc, aI yI 48 g)] t.heap ∧ va_D (va_A ([(x, oRD tx nw tr kn me sl), (nw, oDrv nc S (lN (kL (S) 0 40))), (nc, aI yI 48 g), (me, oMem rg nx ct), (rg, aD yD 14 f)] ++ wq) sz) [(x, oRD tx nw tr kn me sl), (nw, oDrv nc (forget1 S i) (lN (kL (forget1 S i) 0 40))), (nc, aI yI 48 G9), (me, oMem rg (if nx + 1 < 14 then nx + 1 else 0) (min (ct + 1) 14)), (rg, aD yD 14 (va_up f nx.toNat (some q))), (q, oDrv qc S (lN (kL (S) 0 40))), (qc, aI yI 48 g)]) (va_A ([(x, oRD tx nw tr kn me sl), (nw, oDrv nc S (lN (kL (S) 0 40))), (nc, aI yI 48 g), (me, oMem rg nx ct), (rg, aD yD 14 f)] ++ wq) sz)) (vxX D (fun E => E = eI ∧ ¬ (0 ≤ i ∧ i < S 4)) (fun (_ : Unit) => ([(x, oRD tx nw tr kn me sl), (nw, oDrv nc S (lN (kL (S) 0 40))), (nc, aI yI 48 g), (me, oMem rg nx ct), (rg, aD yD 14 f)] ++ wq)) (va_A ([(x, oRD tx nw tr kn me sl), (nw, oDrv nc S (lN (kL (S) 0 40))), (nc, aI yI 48 g), (me, oMem rg nx ct), (rg, aD yD 14 f)] ++ wq) sz)) 8 150 (va_A ([(x, oRD tx nw tr kn me sl), (nw, oDrv nc S (lN (kL (S) 0 40))), (nc, aI yI 48 g), (me, oMem rg nx ct), (rg, aD yD 14 f)] ++ wq) sz) := by
  refine vx_ofW (cc := cX4_forget) (maxL := 2) (ret := (some .int)) (by decide) rfl ?_
  intro p e s m args below meth c s₁ B hml hno hv
  obtain ⟨rfl, hsz, hP, hK, hD0, hB⟩ := hv
  have hx := B.exec
  have hb := B.bytes
  have hr := B.returns
  have hts := atoms_spec (ws := wsX4_forget) B.pre
  have hown : s.vm.findClass RX4 = some m.cls := findClass_of_methodNamed B.named
  have hlocks := B.notSynchronized
  subst hsz
  have hD := hD0.self (sz := s.heap.size)
  generalize hAe : va_A ([(x, oRD tx nw tr kn me sl), (nw, oDrv nc S (lN (kL (S) 0 40))), (nc, aI yI 48 g), (me, oMem rg nx ct), (rg, aD yD 14 f)] ++ wq) s.heap.size = A at hD hB ⊢
  have hA : ∀ q : Nat, s.heap.size ≤ q → A q := fun q h => by rw [← hAe]; exact Or.inr h
  have hS : va_S A s.heap s.heap [] := va_S.rf
  have hP : va_P D vwCl ([(x, oRD tx nw tr kn me sl), (nw, oDrv nc S (lN (kL (S) 0 40))), (nc, aI yI 48 g), (me, oMem rg nx ct), (rg, aD yD 14 f)] ++ wq) s.heap := hP
  have hinX0 : ∀ w ∈ wsX00, w ∈ wsX4_forget := by decide +kernel
  have hinX4 : ∀ w ∈ wsX40, w ∈ wsX4_forget := by decide +kernel
  have hf19 : (Cond.fieldLink RX4 19 "RiddleDrive" "now" "LRiddleDrive$Drive;").before _ s = true := hts _ (by decide +kernel)
  have hf36 : (Cond.fieldLink RX4 36 "RiddleDrive" "memory" "LRiddleDrive$Memory;").before _ s = true := hts _ (by decide +kernel)
  have hf107 : (Cond.fieldLink RX4 107 "RiddleDrive$Drive" "answers" "I").before _ s = true := hts _ (by decide +kernel)
  have hl := lv_entry ([.ref x, .int (iI i)]) (n := 2) (Nat.le_of_ble_eq_true rfl)
  rw [lg_entry_eq]
  generalize (lg_sl ([.ref x, .int (iI i)]) ++ List.replicate (2 - (lg_sl ([.ref x, .int (iI i)])).length) Slot.unset).toArray = ls at hl ⊢
  have hl : lv_has ls 2 [(0, .ref x), (1, .int (iI i))] := hl
  have hpl := hI.pl
  have hna := hI.na
  have hse := hI.se
  have hwi := hI.wi
  have hfe := hI.fe
  refine lv_aload_n hx hb dX4_forget_0 rfl (lv_at hl 0 rfl) ?_
  refine lv_iload_n hx hb dX4_forget_1 rfl (lv_at hl 1 rfl) ?_
  refine iv_vxVv (As := [.int (iI i)]) (rest := []) (C := RX4) (n := 1) ⟨hx, hb, hml, hown, hts⟩ (c_X4_checkAnswer l hla D yI yC yD x tx nw tr kn me sl nc S g i (by assumption) (by assumption) _) (cwV 1 hts gX4_forget_X4_checkAnswer rfl rfl rfl (by decide +kernel) ⟨Nat.le_of_ble_eq_true rfl, Nat.le_of_ble_eq_true rfl⟩) hK hP hD hS hA hB [0, 1, 2] (by decide) rfl 0 rfl rfl rfl hl.1 rfl (Nat.le_of_ble_eq_true rfl) dX4_forget_2 ⟨Nat.le_of_ble_eq_true rfl, Nat.le_of_ble_eq_true rfl⟩ (fun _ => rfl) (fun _ => rfl) (fun E9 ce9 q9 ux H locs hxe hP hD hS hc9 hv9 hcl9 => ?_) (fun u2 H locs hw2 hP hD hS => ?_)
  · exact iv_out hno hlocks hc9 hv9 hcl9 hS () (by exact hP) (hxe) (Nat.le_of_ble_eq_true rfl) (Nat.le_of_ble_eq_true rfl)
  have hpa9_2 := hw2
  have hP : va_P D vwCl ([(x, oRD tx nw tr kn me sl), (nw, oDrv nc S (lN (kL (S) 0 40))), (nc, aI yI 48 g), (me, oMem rg nx ct), (rg, aD yD 14 f)] ++ wq) H := hP
  have hD : va_D A ([(x, oRD tx nw tr kn me sl), (nw, oDrv nc S (lN (kL (S) 0 40))), (nc, aI yI 48 g), (me, oMem rg nx ct), (rg, aD yD 14 f)] ++ wq) := hD
  refine lv_aload_n hx hb dX4_forget_5 rfl (lv_at hl 0 rfl) ?_
  refine va_get (D := D) (ci := 4) (v := .ref me) (C := RX4) (T := TX4) (N := 6) hx hb hts hinX4 hown hK hP 0 rfl rfl 4 (by decide) hf36 (fun _ h9 => h9) rfl dX4_forget_6 ?_
  refine lv_aload_n hx hb dX4_forget_9 rfl (lv_at hl 0 rfl) ?_
  refine va_get (D := D) (ci := 4) (v := .ref nw) (C := RX4) (T := TX4) (N := 6) hx hb hts hinX4 hown hK hP 0 rfl rfl 1 (by decide) hf19 (fun _ h9 => h9) rfl dX4_forget_10 ?_
  refine iv_alVv (wr := [(x, oRD tx nw tr kn me sl)]) (As := [.ref nw]) (rest := []) (C := RX2) (n := 1) ⟨hx, hb, hml, hown, hts⟩ (c_X2_remember l D yI yC yD me rg f nx ct nw nc S g (lN (kL (S) 0 40)) wq (by omega) (by assumption) _) (cwV 1 hts gX4_forget_X2_remember rfl rfl rfl (by decide +kernel) ⟨Nat.le_of_ble_eq_true rfl, Nat.le_of_ble_eq_true rfl⟩) hB.2.2.2.2.2 hK hP hD hS hA [3, 4, 1, 2] [0] (by decide) rfl rfl (by decide) (by decide) 3 rfl rfl rfl hl.1 rfl (Nat.le_of_ble_eq_true rfl) dX4_forget_13 ⟨Nat.le_of_ble_eq_true rfl, Nat.le_of_ble_eq_true rfl⟩ (fun u13 H locs hw13 hP hD hS => ?_)
  obtain ⟨q, qc⟩ := u13
  have hP : va_P D vwCl [(x, oRD tx nw tr kn me sl), (me, oMem rg (if nx + 1 < 14 then nx + 1 else 0) (min (ct + 1) 14)), (rg, aD yD 14 (va_up f nx.toNat (some q))), (nw, oDrv nc S (lN (kL (S) 0 40))), (nc, aI yI 48 g), (q, oDrv qc S (lN (kL (S) 0 40))), (qc, aI yI 48 g)] H := hP
  have hD : va_D A [(x, oRD tx nw tr kn me sl), (me, oMem rg (if nx + 1 < 14 then nx + 1 else 0) (min (ct + 1) 14)), (rg, aD yD 14 (va_up f nx.toNat (some q))), (nw, oDrv nc S (lN (kL (S) 0 40))), (nc, aI yI 48 g), (q, oDrv qc S (lN (kL (S) 0 40))), (qc, aI yI 48 g)] := hD
  refine lv_aload_n hx hb dX4_forget_16 rfl (lv_at hl 0 rfl) ?_
  refine va_get (D := D) (ci := 4) (v := .ref nw) (C := RX4) (T := TX4) (N := 6) hx hb hts hinX4 hown hK hP 0 rfl rfl 1 (by decide) hf19 (fun _ h9 => h9) rfl dX4_forget_17 ?_
  refine lv_iload_n hx hb dX4_forget_20 rfl (lv_at hl 1 rfl) ?_
  refine iv_rwVv (As := [.int (iI i)]) (rest := []) (C := RX0) (n := 1) ⟨hx, hb, hml, hown, hts⟩ (c_X0_drop l D yI yC yD nw nc S g i (by omega) (by assumption) (by omega) _) (cwV 1 hts gX4_forget_X0_drop rfl rfl rfl (by decide +kernel) ⟨Nat.le_of_ble_eq_true rfl, Nat.le_of_ble_eq_true rfl⟩) hK hP hD hS hA [3, 4] (by decide) rfl 3 rfl rfl rfl hl.1 rfl (Nat.le_of_ble_eq_true rfl) dX4_forget_21 ⟨Nat.le_of_ble_eq_true rfl, Nat.le_of_ble_eq_true rfl⟩ (fun _ => rfl) (fun u21 H locs hw21 hP hD hS => ?_)
  obtain ⟨G921, hu21⟩ : ∃ z, z = u21 := ⟨_, rfl⟩
  subst hu21
  have hR2_21 := hw21
  have hP : va_P D vwCl [(x, oRD tx nw tr kn me sl), (me, oMem rg (if nx + 1 < 14 then nx + 1 else 0) (min (ct + 1) 14)), (rg, aD yD 14 (va_up f nx.toNat (some q))), (nw, oDrv nc (forget1 S i) (lN (kL (forget1 S i) 0 40))), (nc, aI yI 48 G921), (q, oDrv qc S (lN (kL (S) 0 40))), (qc, aI yI 48 g)] H := hP
  have hD : va_D A [(x, oRD tx nw tr kn me sl), (me, oMem rg (if nx + 1 < 14 then nx + 1 else 0) (min (ct + 1) 14)), (rg, aD yD 14 (va_up f nx.toNat (some q))), (nw, oDrv nc (forget1 S i) (lN (kL (forget1 S i) 0 40))), (nc, aI yI 48 G921), (q, oDrv qc S (lN (kL (S) 0 40))), (qc, aI yI 48 g)] := hD
  refine lv_aload_n hx hb dX4_forget_24 rfl (lv_at hl 0 rfl) ?_
  refine va_get (D := D) (ci := 4) (v := .ref nw) (C := RX4) (T := TX4) (N := 6) hx hb hts hinX4 hown hK hP 0 rfl rfl 1 (by decide) hf19 (fun _ h9 => h9) rfl dX4_forget_25 ?_
  refine va_get (D := D) (ci := 0) (v := .int (iI ((forget1 S i) 4))) (C := RX0) (T := TX0) (N := 10) hx hb hts hinX0 hown hK hP 3 rfl rfl 4 (by decide) hf107 (fun _ h9 => h9) rfl dX4_forget_28 ?_
  have hP9 : va_P D vwCl [(x, oRD tx nw tr kn me sl), (nw, oDrv nc (forget1 S i) (lN (kL (forget1 S i) 0 40))), (nc, aI yI 48 G921), (me, oMem rg (if nx + 1 < 14 then nx + 1 else 0) (min (ct + 1) 14)), (rg, aD yD 14 (va_up f nx.toNat (some q))), (q, oDrv qc S (lN (kL (S) 0 40))), (qc, aI yI 48 g)] _ := hP.sub [0, 3, 4, 1, 2, 5, 6] rfl
  have hD9 : va_D A [(x, oRD tx nw tr kn me sl), (nw, oDrv nc (forget1 S i) (lN (kL (forget1 S i) 0 40))), (nc, aI yI 48 G921), (me, oMem rg (if nx + 1 < 14 then nx + 1 else 0) (min (ct + 1) 14)), (rg, aD yD 14 (va_up f nx.toNat (some q))), (q, oDrv qc S (lN (kL (S) 0 40))), (qc, aI yI 48 g)] := hD.sub [0, 3, 4, 1, 2, 5, 6] (by decide) rfl
  refine W.widen (k := 8) (n := 150) (Nat.le_of_ble_eq_true rfl) (Nat.le_of_ble_eq_true rfl) ?_
  refine vx_ret ?_
  exact W.iret hx hb hr (fun t ht hW => ⟨⟨iI ((forget1 S i) 4), (q, qc, G921), rfl, ⟨congrArg iI (show (forget1 S i) 4 = S 4 - 1 by rfl), (by omega), (by omega)⟩, ⟨by show va_P D vwCl _ t.heap; rw [ht]; exact hP9, hD9⟩⟩, hS.F ht⟩) hS.2.2 dX4_forget_31
set_option maxHeartbeats 4000000 in
set_option maxRecDepth 100000 in
theorem c_X4_resize (l : Launch) (hla : l.stackTraces = false) (D : va_G) (yI yC yD : ClassId) (x : Nat) (tx : Nat) (nw : Nat) (tr : Nat) (kn : Nat) (me : Nat) (sl : Nat) (nc : Nat) (S : Int → Int) (g : Int → Int) (rg : Nat) (f : Nat → Option Nat) (nx : Int) (ct : Int) (wq : va_W) (q9 : Int) (hI : Inv S) (hR : Rc S g) (hme : 0 ≤ nx ∧ nx < 14 ∧ 0 ≤ ct ∧ ct ≤ 14) (hwq : (f nx.toNat = none ∧ wq = []) ∨ ∃ (q qc : Nat) (S2 g2 : Int → Int) (k2 : Int64), f nx.toNat = some q ∧ wq = [(q, oDrv qc S2 k2), (qc, aI yI 48 g2)]) (hq9 : inR q9) (sz : Nat) : vx_Met l yX4_resize wsX4_resize ({ frames := 6, cells := 8, slots := 150, locals := 82 }) (vxP [.ref x, .int (iI q9)] D (tyz yI yC yD) ([(x, oRD tx nw tr kn me sl), (nw, oDrv nc S (lN (kL (S) 0 40))), (nc, aI yI 48 g), (me, oMem rg nx ct), (rg, aD yD 14 f)] ++ wq) sz) (va_Qi (fun (r : Int32) (u : Nat × Nat) => match u with | (q, qc) => r = iI (keysIn (rsz S q9) 0 (q9 - 1)) ∧ (8 ≤ q9 ∧ q9 ≤ 40) ∧ Rc (rsz S q9) g) (fun (u : Nat × Nat) (t : State) => match u with | (q, qc) => va_P D vwCl [(x, oRD tx nw tr kn me sl), (nw, oDrv nc (rsz S q9) (lN (kL (rsz S q9) 0 40))), (nc, aI yI 48 g), (me, oMem rg (if nx + 1 < 14 then nx + 1 else 0) (min (ct + 1) 14)), (rg, aD yD 14 (va_up f nx.toNat (some q))), (q, oDrv qc S (lN (kL (S) 0 40))), (qc, aI yI 48 g)] t.heap ∧ va_D (va_A ([(x, oRD tx nw tr kn me sl), (nw, oDrv nc S (lN (kL (S) 0 40))), (nc, aI yI 48 g), (me, oMem rg nx ct), (rg, aD yD 14 f)] ++ wq) sz) [(x, oRD tx nw tr kn me sl), (nw, oDrv nc (rsz S q9) (lN (kL (rsz S q9) 0 40))), (nc, aI yI 48 g), (me, oMem rg (if nx + 1 < 14 then nx + 1 else 0) (min (ct + 1) 14)), (rg, aD yD 14 (va_up f nx.toNat (some q))), (q, oDrv qc S (lN (kL (S) 0 40))), (qc, aI yI 48 g)]) (va_A ([(x, oRD tx nw tr kn me sl), (nw, oDrv nc S (lN (kL (S) 0 40))), (nc, aI yI 48 g), (me, oMem rg nx ct), (rg, aD yD 14 f)] ++ wq) sz)) (vxX D (fun E => E = eA ∧ ¬ (8 ≤ q9 ∧ q9 ≤ 40)) (fun (_ : Unit) => ([(x, oRD tx nw tr kn me sl), (nw, oDrv nc S (lN (kL (S) 0 40))), (nc, aI yI 48 g), (me, oMem rg nx ct), (rg, aD yD 14 f)] ++ wq)) (va_A ([(x, oRD tx nw tr kn me sl), (nw, oDrv nc S (lN (kL (S) 0 40))), (nc, aI yI 48 g), (me, oMem rg nx ct), (rg, aD yD 14 f)] ++ wq) sz)) 8 150 (va_A ([(x, oRD tx nw tr kn me sl), (nw, oDrv nc S (lN (kL (S) 0 40))), (nc, aI yI 48 g), (me, oMem rg nx ct), (rg, aD yD 14 f)] ++ wq) sz) := by
  refine vx_ofW (cc := cX4_resize) (maxL := 2) (ret := (some .int)) (by decide) rfl ?_
  intro p e s m args below meth c s₁ B hml hno hv
  obtain ⟨rfl, hsz, hP, hK, hD0, hB⟩ := hv
  have hx := B.exec
  have hb := B.bytes
  have hr := B.returns
  have hts := atoms_spec (ws := wsX4_resize) B.pre
  have hown : s.vm.findClass RX4 = some m.cls := findClass_of_methodNamed B.named
  have hlocks := B.notSynchronized
  subst hsz
  have hD := hD0.self (sz := s.heap.size)
  generalize hAe : va_A ([(x, oRD tx nw tr kn me sl), (nw, oDrv nc S (lN (kL (S) 0 40))), (nc, aI yI 48 g), (me, oMem rg nx ct), (rg, aD yD 14 f)] ++ wq) s.heap.size = A at hD hB ⊢
  have hA : ∀ q : Nat, s.heap.size ≤ q → A q := fun q h => by rw [← hAe]; exact Or.inr h
  have hS : va_S A s.heap s.heap [] := va_S.rf
  have hP : va_P D vwCl ([(x, oRD tx nw tr kn me sl), (nw, oDrv nc S (lN (kL (S) 0 40))), (nc, aI yI 48 g), (me, oMem rg nx ct), (rg, aD yD 14 f)] ++ wq) s.heap := hP
  have hinX4 : ∀ w ∈ wsX40, w ∈ wsX4_resize := by decide +kernel
  have hf19 : (Cond.fieldLink RX4 19 "RiddleDrive" "now" "LRiddleDrive$Drive;").before _ s = true := hts _ (by decide +kernel)
  have hf36 : (Cond.fieldLink RX4 36 "RiddleDrive" "memory" "LRiddleDrive$Memory;").before _ s = true := hts _ (by decide +kernel)
  have hl := lv_entry ([.ref x, .int (iI q9)]) (n := 2) (Nat.le_of_ble_eq_true rfl)
  rw [lg_entry_eq]
  generalize (lg_sl ([.ref x, .int (iI q9)]) ++ List.replicate (2 - (lg_sl ([.ref x, .int (iI q9)])).length) Slot.unset).toArray = ls at hl ⊢
  have hl : lv_has ls 2 [(0, .ref x), (1, .int (iI q9))] := hl
  have hpl := hI.pl
  have hna := hI.na
  have hse := hI.se
  have hwi := hI.wi
  have hfe := hI.fe
  refine lv_iload_n hx hb dX4_resize_0 rfl (lv_at hl 1 rfl) ?_
  refine lv_bipush (v := iI 8) hx hb dX4_resize_1 (by decide +kernel) ?_
  refine iv_icmp_lt (a := q9) (b := 8) (tgt := 12) hx hb (by omega) (by omega) dX4_resize_3 (by decide) (fun c3 => ?_) (fun c3 => ?_)
  · exact iv_thrG (ic := 52) (ik := 48) (is := 190) (cls := eA) (text := "no such number of places") hx hb hla hown bfA xfA xgA hB.1.1 hts (fun w h => List.mem_cons_of_mem _ (List.mem_append_right _ h)) (by decide +kernel) (by decide +kernel) hB hS (()) (by exact hP) (⟨rfl, by omega⟩) (hl.1.trans hml.symm) hlocks hno (by decide +kernel) ⟨Nat.le_of_ble_eq_true rfl, Nat.le_of_ble_eq_true rfl, Nat.le_of_ble_eq_true rfl, Nat.le_of_ble_eq_true rfl⟩ (Nat.le_of_ble_eq_true rfl) (Nat.le_of_ble_eq_true rfl) dX4_resize_12 dX4_resize_15 (Or.inl ⟨dX4_resize_16, dX4_resize_18, dX4_resize_21⟩)
  · refine lv_iload_n hx hb dX4_resize_6 rfl (lv_at hl 1 rfl) ?_
    refine lv_bipush (v := iI 40) hx hb dX4_resize_7 (by decide +kernel) ?_
    refine iv_icmp_le (a := q9) (b := 40) (tgt := 22) hx hb (by omega) (by omega) dX4_resize_9 (by decide) (fun c9 => ?_) (fun c9 => ?_)
    · refine lv_aload_n hx hb dX4_resize_22 rfl (lv_at hl 0 rfl) ?_
      refine va_get (D := D) (ci := 4) (v := .ref me) (C := RX4) (T := TX4) (N := 6) hx hb hts hinX4 hown hK hP 0 rfl rfl 4 (by decide) hf36 (fun _ h9 => h9) rfl dX4_resize_23 ?_
      refine lv_aload_n hx hb dX4_resize_26 rfl (lv_at hl 0 rfl) ?_
      refine va_get (D := D) (ci := 4) (v := .ref nw) (C := RX4) (T := TX4) (N := 6) hx hb hts hinX4 hown hK hP 0 rfl rfl 1 (by decide) hf19 (fun _ h9 => h9) rfl dX4_resize_27 ?_
      refine iv_alVv (wr := [(x, oRD tx nw tr kn me sl)]) (As := [.ref nw]) (rest := []) (C := RX2) (n := 1) ⟨hx, hb, hml, hown, hts⟩ (c_X2_remember l D yI yC yD me rg f nx ct nw nc S g (lN (kL (S) 0 40)) wq (by omega) (by assumption) _) (cwV 1 hts gX4_resize_X2_remember rfl rfl rfl (by decide +kernel) ⟨Nat.le_of_ble_eq_true rfl, Nat.le_of_ble_eq_true rfl⟩) hB.2.2.2.2.2 hK hP hD hS hA [3, 4, 1, 2] [0] (by decide) rfl rfl (by decide) (by decide) 3 rfl rfl rfl hl.1 rfl (Nat.le_of_ble_eq_true rfl) dX4_resize_30 ⟨Nat.le_of_ble_eq_true rfl, Nat.le_of_ble_eq_true rfl⟩ (fun u30 H locs hw30 hP hD hS => ?_)
      obtain ⟨q, qc⟩ := u30
      have hP : va_P D vwCl [(x, oRD tx nw tr kn me sl), (me, oMem rg (if nx + 1 < 14 then nx + 1 else 0) (min (ct + 1) 14)), (rg, aD yD 14 (va_up f nx.toNat (some q))), (nw, oDrv nc S (lN (kL (S) 0 40))), (nc, aI yI 48 g), (q, oDrv qc S (lN (kL (S) 0 40))), (qc, aI yI 48 g)] H := hP
      have hD : va_D A [(x, oRD tx nw tr kn me sl), (me, oMem rg (if nx + 1 < 14 then nx + 1 else 0) (min (ct + 1) 14)), (rg, aD yD 14 (va_up f nx.toNat (some q))), (nw, oDrv nc S (lN (kL (S) 0 40))), (nc, aI yI 48 g), (q, oDrv qc S (lN (kL (S) 0 40))), (qc, aI yI 48 g)] := hD
      refine lv_aload_n hx hb dX4_resize_33 rfl (lv_at hl 0 rfl) ?_
      refine va_get (D := D) (ci := 4) (v := .ref nw) (C := RX4) (T := TX4) (N := 6) hx hb hts hinX4 hown hK hP 0 rfl rfl 1 (by decide) hf19 (fun _ h9 => h9) rfl dX4_resize_34 ?_
      refine lv_iload_n hx hb dX4_resize_37 rfl (lv_at hl 1 rfl) ?_
      refine iv_rwVv (As := [.int (iI q9)]) (rest := []) (C := RX0) (n := 1) ⟨hx, hb, hml, hown, hts⟩ (c_X0_cutTo l D yI yC yD nw nc S g q9 (by first | assumption | exact inv_rsz hI (by omega)) (by assumption) (by omega) _) (cwV 1 hts gX4_resize_X0_cutTo rfl rfl rfl (by decide +kernel) ⟨Nat.le_of_ble_eq_true rfl, Nat.le_of_ble_eq_true rfl⟩) hK hP hD hS hA [3, 4] (by decide) rfl 3 rfl rfl rfl hl.1 rfl (Nat.le_of_ble_eq_true rfl) dX4_resize_38 ⟨Nat.le_of_ble_eq_true rfl, Nat.le_of_ble_eq_true rfl⟩ (fun _ => rfl) (fun u38 H locs hw38 hP hD hS => ?_)
      have hR2_38 := hw38
      have hP : va_P D vwCl [(x, oRD tx nw tr kn me sl), (me, oMem rg (if nx + 1 < 14 then nx + 1 else 0) (min (ct + 1) 14)), (rg, aD yD 14 (va_up f nx.toNat (some q))), (nw, oDrv nc (rsz S q9) (lN (kL (rsz S q9) 0 40))), (nc, aI yI 48 g), (q, oDrv qc S (lN (kL (S) 0 40))), (qc, aI yI 48 g)] H := hP
      have hD : va_D A [(x, oRD tx nw tr kn me sl), (me, oMem rg (if nx + 1 < 14 then nx + 1 else 0) (min (ct + 1) 14)), (rg, aD yD 14 (va_up f nx.toNat (some q))), (nw, oDrv nc (rsz S q9) (lN (kL (rsz S q9) 0 40))), (nc, aI yI 48 g), (q, oDrv qc S (lN (kL (S) 0 40))), (qc, aI yI 48 g)] := hD
      refine lv_aload_n hx hb dX4_resize_41 rfl (lv_at hl 0 rfl) ?_
      refine va_get (D := D) (ci := 4) (v := .ref nw) (C := RX4) (T := TX4) (N := 6) hx hb hts hinX4 hown hK hP 0 rfl rfl 1 (by decide) hf19 (fun _ h9 => h9) rfl dX4_resize_42 ?_
      refine iv_roV (As := []) (rest := []) (C := RX0) (n := 0) ⟨hx, hb, hml, hown, hts⟩ (c_X0_countKeys l D yI yC yD nw nc (rsz S q9) g (by first | assumption | exact inv_rsz hI (by omega))) (cwV 0 hts gX4_resize_X0_countKeys rfl rfl rfl (by decide +kernel) ⟨Nat.le_of_ble_eq_true rfl, Nat.le_of_ble_eq_true rfl⟩) hK hP [3, 4] rfl 3 rfl rfl rfl hl.1 rfl (Nat.le_of_ble_eq_true rfl) dX4_resize_45 ⟨Nat.le_of_ble_eq_true rfl, Nat.le_of_ble_eq_true rfl⟩ ?_
      have hP9 : va_P D vwCl [(x, oRD tx nw tr kn me sl), (nw, oDrv nc (rsz S q9) (lN (kL (rsz S q9) 0 40))), (nc, aI yI 48 g), (me, oMem rg (if nx + 1 < 14 then nx + 1 else 0) (min (ct + 1) 14)), (rg, aD yD 14 (va_up f nx.toNat (some q))), (q, oDrv qc S (lN (kL (S) 0 40))), (qc, aI yI 48 g)] _ := hP.sub [0, 3, 4, 1, 2, 5, 6] rfl
      have hD9 : va_D A [(x, oRD tx nw tr kn me sl), (nw, oDrv nc (rsz S q9) (lN (kL (rsz S q9) 0 40))), (nc, aI yI 48 g), (me, oMem rg (if nx + 1 < 14 then nx + 1 else 0) (min (ct + 1) 14)), (rg, aD yD 14 (va_up f nx.toNat (some q))), (q, oDrv qc S (lN (kL (S) 0 40))), (qc, aI yI 48 g)] := hD.sub [0, 3, 4, 1, 2, 5, 6] (by decide) rfl
      refine W.widen (k := 8) (n := 150) (Nat.le_of_ble_eq_true rfl) (Nat.le_of_ble_eq_true rfl) ?_
      refine vx_ret ?_
      exact W.iret hx hb hr (fun t ht hW => ⟨⟨iI (keysIn (rsz S q9) 0 ((rsz S q9) 0 - 1)), (q, qc), rfl, ⟨congrArg iI (show keysIn (rsz S q9) 0 ((rsz S q9) 0 - 1) = keysIn (rsz S q9) 0 (q9 - 1) by rfl), (by omega), (by omega)⟩, ⟨by show va_P D vwCl _ t.heap; rw [ht]; exact hP9, hD9⟩⟩, hS.F ht⟩) hS.2.2 dX4_resize_48
    · exact iv_thrG (ic := 52) (ik := 48) (is := 190) (cls := eA) (text := "no such number of places") hx hb hla hown bfA xfA xgA hB.1.1 hts (fun w h => List.mem_cons_of_mem _ (List.mem_append_right _ h)) (by decide +kernel) (by decide +kernel) hB hS (()) (by exact hP) (⟨rfl, by omega⟩) (hl.1.trans hml.symm) hlocks hno (by decide +kernel) ⟨Nat.le_of_ble_eq_true rfl, Nat.le_of_ble_eq_true rfl, Nat.le_of_ble_eq_true rfl, Nat.le_of_ble_eq_true rfl⟩ (Nat.le_of_ble_eq_true rfl) (Nat.le_of_ble_eq_true rfl) dX4_resize_12 dX4_resize_15 (Or.inl ⟨dX4_resize_16, dX4_resize_18, dX4_resize_21⟩)
