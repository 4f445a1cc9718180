set_option maxHeartbeats 4000000 in
set_option maxRecDepth 100000 in
theorem c_L_ask_0 (l : Launch) (hla : l.stackTraces = false) (D : va_G) (yI yC yD yL : ClassId) (x : Nat) (tx : Nat) (nw : Nat) (tr : Nat) (kn : Nat) (me : Nat) (sl : Nat) (nc : Nat) (S : Int → Int) (g : Int → Int) (rg : Nat) (f : Nat → Option Nat) (nx : Int) (ct : Int) (wq : va_W) (a : Int) (b : Int) (hI : Inv S) (hR : Rc S g) (hme : 0 ≤ nx ∧ nx < 14 ∧ 0 ≤ ct ∧ ct ≤ 14) (hwq : (f nx.toNat = none ∧ wq = []) ∨ ∃ (q qc : Nat) (S2 g2 : Int → Int) (k2 : Int64), f nx.toNat = some q ∧ wq = [(q, oDrv qc S2 k2), (qc, aI yI 48 g2)]) (hab9 : inR a ∧ inR b) (hc9 : whyA S a b = 0) (sz : Nat) : Met l yL_ask wsL_ask ({ frames := 9, cells := 8, slots := 150, locals := 147 }) (vxP [.ref x, .int (iI a), .int (iI b)] D (tyl yI yC yD yL) ([(x, oRD tx nw tr kn me sl), (nw, oDrv nc S (lN (kL (S) 0 40))), (nc, aI yI 48 g), (me, oMem rg nx ct), (rg, aD yD 14 f)] ++ wq) sz) (va_Qi (fun (r : Int32) (u : Nat × Nat × (Int → Int)) => match u with | (q, qc, G9) => r = iI (told S a b) ∧ ((whyA S a b = 0)) ∧ (Rc (askd S a b) G9)) (fun (u : Nat × Nat × (Int → Int)) (t : State) => match u with | (q, qc, G9) => va_P D vwCl [(x, oRD tx nw tr kn me sl), (nw, oDrv nc (askd S a b) (lN (kL (askd S a b) 0 40))), (nc, aI yI 48 G9), (me, oMem rg (if nx + 1 < 14 then nx + 1 else 0) (min (ct + 1) 14)), (rg, aD yD 14 (va_up f nx.toNat (some q))), (q, oDrv qc S (lN (kL (S) 0 40))), (qc, aI yI 48 g)] t.heap ∧ va_D (va_A ([(x, oRD tx nw tr kn me sl), (nw, oDrv nc S (lN (kL (S) 0 40))), (nc, aI yI 48 g), (me, oMem rg nx ct), (rg, aD yD 14 f)] ++ wq) sz) [(x, oRD tx nw tr kn me sl), (nw, oDrv nc (askd S a b) (lN (kL (askd S a b) 0 40))), (nc, aI yI 48 G9), (me, oMem rg (if nx + 1 < 14 then nx + 1 else 0) (min (ct + 1) 14)), (rg, aD yD 14 (va_up f nx.toNat (some q))), (q, oDrv qc S (lN (kL (S) 0 40))), (qc, aI yI 48 g)]) (va_A ([(x, oRD tx nw tr kn me sl), (nw, oDrv nc S (lN (kL (S) 0 40))), (nc, aI yI 48 g), (me, oMem rg nx ct), (rg, aD yD 14 f)] ++ wq) sz)) 8 150 (va_A ([(x, oRD tx nw tr kn me sl), (nw, oDrv nc S (lN (kL (S) 0 40))), (nc, aI yI 48 g), (me, oMem rg nx ct), (rg, aD yD 14 f)] ++ wq) sz) := by
  refine iv_ofWH (cc := cL_ask) (maxL := 4) (ret := (some .int)) (hh := [(0, 6, 7, 16), (0, 6, 11, 18), (0, 6, 15, 20)]) (by decide) rfl ?_
  intro p e s m args below meth c s₁ B hml hv
  obtain ⟨rfl, hsz, hP, hK, hD0, hB⟩ := hv
  have hx := B.exec
  have hb := B.bytes
  have hr := B.returns
  have hts := atoms_spec (ws := wsL_ask) B.pre
  have hown : s.vm.findClass RL = some m.cls := findClass_of_methodNamed B.named
  have hlocks := B.notSynchronized
  have htb := vx_table (x := yL_ask) B (hts (.codeWith yL_ask cL_ask 4 (some .int) [(0, 6, 7, 16), (0, 6, 11, 18), (0, 6, 15, 20)]) (by decide +kernel))
  have hKz : va_K D vwCl (tyz yI yC yD) s := hK.sub [0, 1, 2] rfl
  subst hsz
  have hD := hD0.self (sz := s.heap.size)
  generalize hAe : va_A ([(x, oRD tx nw tr kn me sl), (nw, oDrv nc S (lN (kL (S) 0 40))), (nc, aI yI 48 g), (me, oMem rg nx ct), (rg, aD yD 14 f)] ++ wq) s.heap.size = A at hD hB ⊢
  have hA : ∀ q : Nat, s.heap.size ≤ q → A q := fun q h => by rw [← hAe]; exact Or.inr h
  have hS : va_S A s.heap s.heap [] := va_S.rf
  have hP : va_P D vwCl ([(x, oRD tx nw tr kn me sl), (nw, oDrv nc S (lN (kL (S) 0 40))), (nc, aI yI 48 g), (me, oMem rg nx ct), (rg, aD yD 14 f)] ++ wq) s.heap := hP
  have hl := lv_entry ([.ref x, .int (iI a), .int (iI b)]) (n := 4) (Nat.le_of_ble_eq_true rfl)
  rw [lg_entry_eq]
  generalize (lg_sl ([.ref x, .int (iI a), .int (iI b)]) ++ List.replicate (4 - (lg_sl ([.ref x, .int (iI a), .int (iI b)])).length) Slot.unset).toArray = ls at hl ⊢
  have hl : lv_has ls 4 [(0, .ref x), (1, .int (iI a)), (2, .int (iI b))] := hl
  refine lv_aload_n hx hb dL_ask_0 rfl (lv_at hl 0 rfl) ?_
  refine lv_iload_n hx hb dL_ask_1 rfl (lv_at hl 1 rfl) ?_
  refine lv_iload_n hx hb dL_ask_2 rfl (lv_at hl 2 rfl) ?_
  have hP : va_P D vwCl (([(x, oRD tx nw tr kn me sl), (nw, oDrv nc S (lN (kL (S) 0 40))), (nc, aI yI 48 g), (me, oMem rg nx ct), (rg, aD yD 14 f)] ++ wq) ++ []) _ := hP.cv (List.append_nil _).symm
  have hD : va_D A (([(x, oRD tx nw tr kn me sl), (nw, oDrv nc S (lN (kL (S) 0 40))), (nc, aI yI 48 g), (me, oMem rg nx ct), (rg, aD yD 14 f)] ++ wq) ++ []) := hD.cv (List.append_nil _).symm
  refine iv_lxV (wc := ([(x, oRD tx nw tr kn me sl), (nw, oDrv nc S (lN (kL (S) 0 40))), (nc, aI yI 48 g), (me, oMem rg nx ct), (rg, aD yD 14 f)] ++ wq)) (wr := []) (wp := fun (u : Nat × Nat × (Int → Int)) => match u with | (q, qc, G9) => [(x, oRD tx nw tr kn me sl), (nw, oDrv nc (askd S a b) (lN (kL (askd S a b) 0 40))), (nc, aI yI 48 G9), (me, oMem rg (if nx + 1 < 14 then nx + 1 else 0) (min (ct + 1) 14)), (rg, aD yD 14 (va_up f nx.toNat (some q))), (q, oDrv qc S (lN (kL (S) 0 40))), (qc, aI yI 48 g)]) (As := [.int (iI a), .int (iI b)]) (rest := []) (C := RX4) (n := 2) ⟨hx, hb, hml, hown, hts⟩ (c_X4_ask l hla D yI yC yD x tx nw tr kn me sl nc S g rg f nx ct wq a b hI hR hme hwq hab9 _) (cwV 2 hts gL_ask_X4_ask rfl rfl rfl (by decide +kernel) ⟨Nat.le_of_ble_eq_true rfl, Nat.le_of_ble_eq_true rfl⟩) hKz hP hD hS hA hB rfl rfl (fun u t h => by obtain ⟨q, qc, G9⟩ := u; exact h) (fun _ => rfl) rfl hl.1 rfl (Nat.le_of_ble_eq_true rfl) dL_ask_3 ⟨Nat.le_of_ble_eq_true rfl, Nat.le_of_ble_eq_true rfl⟩ (fun E9 ce9 ox9 ux H locs hxe hP hD hS hc8 hv8 hcl8 => ?_) (fun r9 u H locs hw hP hD hS => ?_)
  · exfalso
    rcases hxe with ⟨_, h⟩ | ⟨_, h⟩ | ⟨_, h⟩ <;> omega
  · obtain ⟨q, qc, G9⟩ := u
    obtain ⟨hr9, hwa9, hR9⟩ := hw
    subst hr9
    have hP : va_P D vwCl [(x, oRD tx nw tr kn me sl), (nw, oDrv nc (askd S a b) (lN (kL (askd S a b) 0 40))), (nc, aI yI 48 G9), (me, oMem rg (if nx + 1 < 14 then nx + 1 else 0) (min (ct + 1) 14)), (rg, aD yD 14 (va_up f nx.toNat (some q))), (q, oDrv qc S (lN (kL (S) 0 40))), (qc, aI yI 48 g)] H := hP.cv (List.append_nil _)
    have hD : va_D A [(x, oRD tx nw tr kn me sl), (nw, oDrv nc (askd S a b) (lN (kL (askd S a b) 0 40))), (nc, aI yI 48 G9), (me, oMem rg (if nx + 1 < 14 then nx + 1 else 0) (min (ct + 1) 14)), (rg, aD yD 14 (va_up f nx.toNat (some q))), (q, oDrv qc S (lN (kL (S) 0 40))), (qc, aI yI 48 g)] := hD.cv (List.append_nil _)
    have hP9 : va_P D vwCl [(x, oRD tx nw tr kn me sl), (nw, oDrv nc (askd S a b) (lN (kL (askd S a b) 0 40))), (nc, aI yI 48 G9), (me, oMem rg (if nx + 1 < 14 then nx + 1 else 0) (min (ct + 1) 14)), (rg, aD yD 14 (va_up f nx.toNat (some q))), (q, oDrv qc S (lN (kL (S) 0 40))), (qc, aI yI 48 g)] _ := hP
    have hD9 : va_D A [(x, oRD tx nw tr kn me sl), (nw, oDrv nc (askd S a b) (lN (kL (askd S a b) 0 40))), (nc, aI yI 48 G9), (me, oMem rg (if nx + 1 < 14 then nx + 1 else 0) (min (ct + 1) 14)), (rg, aD yD 14 (va_up f nx.toNat (some q))), (q, oDrv qc S (lN (kL (S) 0 40))), (qc, aI yI 48 g)] := hD
    exact W.iret hx hb hr (fun t ht hW => ⟨⟨iI (told S a b), (q, qc, G9), rfl, ⟨rfl, hwa9, hR9⟩, ⟨by show va_P D vwCl _ t.heap; rw [ht]; exact hP9, hD9⟩⟩, hS.F ht⟩) hS.2.2 dL_ask_6
set_option maxHeartbeats 4000000 in
set_option maxRecDepth 100000 in
theorem c_L_ask_1 (l : Launch) (hla : l.stackTraces = false) (D : va_G) (yI yC yD yL : ClassId) (x : Nat) (tx : Nat) (nw : Nat) (tr : Nat) (kn : Nat) (me : Nat) (sl : Nat) (nc : Nat) (S : Int → Int) (g : Int → Int) (rg : Nat) (f : Nat → Option Nat) (nx : Int) (ct : Int) (wq : va_W) (a : Int) (b : Int) (hI : Inv S) (hR : Rc S g) (hme : 0 ≤ nx ∧ nx < 14 ∧ 0 ≤ ct ∧ ct ≤ 14) (hwq : (f nx.toNat = none ∧ wq = []) ∨ ∃ (q qc : Nat) (S2 g2 : Int → Int) (k2 : Int64), f nx.toNat = some q ∧ wq = [(q, oDrv qc S2 k2), (qc, aI yI 48 g2)]) (hab9 : inR a ∧ inR b) (hc9 : whyA S a b = 3) (sz : Nat) : Met l yL_ask wsL_ask ({ frames := 9, cells := 8, slots := 150, locals := 147 }) (vxP [.ref x, .int (iI a), .int (iI b)] D (tyl yI yC yD yL) ([(x, oRD tx nw tr kn me sl), (nw, oDrv nc S (lN (kL (S) 0 40))), (nc, aI yI 48 g), (me, oMem rg nx ct), (rg, aD yD 14 f)] ++ wq) sz) (va_Qi (fun (r : Int32) (_ : Unit) => r = iI (-5) ∧ True) (fun (_ : Unit) (t : State) => va_P D vwCl ([(x, oRD tx nw tr kn me sl), (nw, oDrv nc S (lN (kL (S) 0 40))), (nc, aI yI 48 g), (me, oMem rg nx ct), (rg, aD yD 14 f)] ++ wq) t.heap ∧ va_D (va_A ([(x, oRD tx nw tr kn me sl), (nw, oDrv nc S (lN (kL (S) 0 40))), (nc, aI yI 48 g), (me, oMem rg nx ct), (rg, aD yD 14 f)] ++ wq) sz) ([(x, oRD tx nw tr kn me sl), (nw, oDrv nc S (lN (kL (S) 0 40))), (nc, aI yI 48 g), (me, oMem rg nx ct), (rg, aD yD 14 f)] ++ wq)) (va_A ([(x, oRD tx nw tr kn me sl), (nw, oDrv nc S (lN (kL (S) 0 40))), (nc, aI yI 48 g), (me, oMem rg nx ct), (rg, aD yD 14 f)] ++ wq) sz)) 8 150 (va_A ([(x, oRD tx nw tr kn me sl), (nw, oDrv nc S (lN (kL (S) 0 40))), (nc, aI yI 48 g), (me, oMem rg nx ct), (rg, aD yD 14 f)] ++ wq) sz) := by
  refine iv_ofWH (cc := cL_ask) (maxL := 4) (ret := (some .int)) (hh := [(0, 6, 7, 16), (0, 6, 11, 18), (0, 6, 15, 20)]) (by decide) rfl ?_
  intro p e s m args below meth c s₁ B hml hv
  obtain ⟨rfl, hsz, hP, hK, hD0, hB⟩ := hv
  have hx := B.exec
  have hb := B.bytes
  have hr := B.returns
  have hts := atoms_spec (ws := wsL_ask) B.pre
  have hown : s.vm.findClass RL = some m.cls := findClass_of_methodNamed B.named
  have hlocks := B.notSynchronized
  have htb := vx_table (x := yL_ask) B (hts (.codeWith yL_ask cL_ask 4 (some .int) [(0, 6, 7, 16), (0, 6, 11, 18), (0, 6, 15, 20)]) (by decide +kernel))
  have hKz : va_K D vwCl (tyz yI yC yD) s := hK.sub [0, 1, 2] rfl
  subst hsz
  have hD := hD0.self (sz := s.heap.size)
  generalize hAe : va_A ([(x, oRD tx nw tr kn me sl), (nw, oDrv nc S (lN (kL (S) 0 40))), (nc, aI yI 48 g), (me, oMem rg nx ct), (rg, aD yD 14 f)] ++ wq) s.heap.size = A at hD hB ⊢
  have hA : ∀ q : Nat, s.heap.size ≤ q → A q := fun q h => by rw [← hAe]; exact Or.inr h
  have hS : va_S A s.heap s.heap [] := va_S.rf
  have hP : va_P D vwCl ([(x, oRD tx nw tr kn me sl), (nw, oDrv nc S (lN (kL (S) 0 40))), (nc, aI yI 48 g), (me, oMem rg nx ct), (rg, aD yD 14 f)] ++ wq) s.heap := hP
  have hl := lv_entry ([.ref x, .int (iI a), .int (iI b)]) (n := 4) (Nat.le_of_ble_eq_true rfl)
  rw [lg_entry_eq]
  generalize (lg_sl ([.ref x, .int (iI a), .int (iI b)]) ++ List.replicate (4 - (lg_sl ([.ref x, .int (iI a), .int (iI b)])).length) Slot.unset).toArray = ls at hl ⊢
  have hl : lv_has ls 4 [(0, .ref x), (1, .int (iI a)), (2, .int (iI b))] := hl
  refine lv_aload_n hx hb dL_ask_0 rfl (lv_at hl 0 rfl) ?_
  refine lv_iload_n hx hb dL_ask_1 rfl (lv_at hl 1 rfl) ?_
  refine lv_iload_n hx hb dL_ask_2 rfl (lv_at hl 2 rfl) ?_
  have hP : va_P D vwCl (([(x, oRD tx nw tr kn me sl), (nw, oDrv nc S (lN (kL (S) 0 40))), (nc, aI yI 48 g), (me, oMem rg nx ct), (rg, aD yD 14 f)] ++ wq) ++ []) _ := hP.cv (List.append_nil _).symm
  have hD : va_D A (([(x, oRD tx nw tr kn me sl), (nw, oDrv nc S (lN (kL (S) 0 40))), (nc, aI yI 48 g), (me, oMem rg nx ct), (rg, aD yD 14 f)] ++ wq) ++ []) := hD.cv (List.append_nil _).symm
  refine iv_lxV (wc := ([(x, oRD tx nw tr kn me sl), (nw, oDrv nc S (lN (kL (S) 0 40))), (nc, aI yI 48 g), (me, oMem rg nx ct), (rg, aD yD 14 f)] ++ wq)) (wr := []) (wp := fun (u : Nat × Nat × (Int → Int)) => match u with | (q, qc, G9) => [(x, oRD tx nw tr kn me sl), (nw, oDrv nc (askd S a b) (lN (kL (askd S a b) 0 40))), (nc, aI yI 48 G9), (me, oMem rg (if nx + 1 < 14 then nx + 1 else 0) (min (ct + 1) 14)), (rg, aD yD 14 (va_up f nx.toNat (some q))), (q, oDrv qc S (lN (kL (S) 0 40))), (qc, aI yI 48 g)]) (As := [.int (iI a), .int (iI b)]) (rest := []) (C := RX4) (n := 2) ⟨hx, hb, hml, hown, hts⟩ (c_X4_ask l hla D yI yC yD x tx nw tr kn me sl nc S g rg f nx ct wq a b hI hR hme hwq hab9 _) (cwV 2 hts gL_ask_X4_ask rfl rfl rfl (by decide +kernel) ⟨Nat.le_of_ble_eq_true rfl, Nat.le_of_ble_eq_true rfl⟩) hKz hP hD hS hA hB rfl rfl (fun u t h => by obtain ⟨q, qc, G9⟩ := u; exact h) (fun _ => rfl) rfl hl.1 rfl (Nat.le_of_ble_eq_true rfl) dL_ask_3 ⟨Nat.le_of_ble_eq_true rfl, Nat.le_of_ble_eq_true rfl⟩ (fun E9 ce9 ox9 ux H locs hxe hP hD hS hc8 hv8 hcl8 => ?_) (fun r9 u H locs hw hP hD hS => ?_)
  · have hES : E9 = eS := by rcases hxe with ⟨_, h⟩ | ⟨_, h⟩ | ⟨h, _⟩; omega; omega; exact h
    subst hES
    refine vx_catch (name := eS) hown (tableOf [(0, 6, 7, 16), (0, 6, 11, 18)]) ⟨0, 6, 15, 20⟩ (tableOf []) (htb.trans rfl) (fun z hz => by rcases List.mem_cons.mp hz with rfl | hz; (exact Or.inr ⟨by decide, eI, hts (.classLink RL 16 eI) (by decide +kernel), hB.2.1.2.2.2.1⟩); cases List.mem_singleton.mp hz; exact Or.inr ⟨by decide, eA, hts (.classLink RL 18 eA) (by decide +kernel), hB.2.1.2.2.1⟩) rfl (by decide) (hts (.classLink RL 20 eS) (by decide +kernel)) (va_Nw.use rfl hB.1.2.1) hc8 hv8 hcl8 ?_
    have hP : va_P D vwCl ([(x, oRD tx nw tr kn me sl), (nw, oDrv nc S (lN (kL (S) 0 40))), (nc, aI yI 48 g), (me, oMem rg nx ct), (rg, aD yD 14 f)] ++ wq) H := hP.cv (List.append_nil _)
    have hD : va_D A ([(x, oRD tx nw tr kn me sl), (nw, oDrv nc S (lN (kL (S) 0 40))), (nc, aI yI 48 g), (me, oMem rg nx ct), (rg, aD yD 14 f)] ++ wq) := hD.cv (List.append_nil _)
    refine lv_astore_n (lv' := [(3, .ref ox9), (0, .ref x), (1, .int (iI a)), (2, .int (iI b))]) hx hb dL_ask_15 rfl hl (by decide) rfl (fun ls hl => ?_)
    refine lv_bipush (v := iI (-5)) hx hb dL_ask_16 (by decide +kernel) ?_
    have hP9 : va_P D vwCl ([(x, oRD tx nw tr kn me sl), (nw, oDrv nc S (lN (kL (S) 0 40))), (nc, aI yI 48 g), (me, oMem rg nx ct), (rg, aD yD 14 f)] ++ wq) _ := hP
    have hD9 : va_D A ([(x, oRD tx nw tr kn me sl), (nw, oDrv nc S (lN (kL (S) 0 40))), (nc, aI yI 48 g), (me, oMem rg nx ct), (rg, aD yD 14 f)] ++ wq) := hD
    exact W.iret hx hb hr (fun t ht hW => ⟨⟨iI (-5), (), rfl, ⟨rfl, trivial⟩, ⟨by show va_P D vwCl _ t.heap; rw [ht]; exact hP9, hD9⟩⟩, hS.F ht⟩) hS.2.2 dL_ask_18
  · obtain ⟨q, qc, G9⟩ := u
    obtain ⟨hr9, hwa9, hR9⟩ := hw
    exfalso
    omega
/-- cell(s, k): the script, or a number of its own behind its end -/
def cellV (L : Nat) (xs : Nat → Int32) (k : Int) : Int := if k < L then (xs k.toNat).toInt else 1925078388 * (k + 1) + 8445617
def sxP (k : Int) (b L : Nat) (xs : Nat → Int32) : Array Value → State → Prop := va_Pc [.ref b, .int (iI k)] (fun U => va_X b L xs U U.heap ∧ b < U.heap.size)
theorem sxP_blind {k : Int} {b L : Nat} {xs : Nat → Int32} : FrameBlind (sxP k b L xs) := fun a U g mk q => ⟨q.1, va_X.moved (u := U) (U := U.calling g mk a) (Vm.Alike.refl U.vm) q.2.1, q.2.2⟩
set_option maxHeartbeats 4000000 in
theorem c_L_cell (l : Launch) (b L : Nat) (xs : Nat → Int32) (k : Int) (hk : 0 ≤ k ∧ k ≤ 100 ∧ L ≤ 260) : Met l yL_cell wsL_cell ({ frames := 0, cells := 0, slots := 0, locals := 0 }) (sxP k b L xs) (QcRead (iI (cellV L xs k))) 0 0 (fun _ => False) := by
  refine Met.ofW (cc := cL_cell) (maxL := 2) (ret := (some .int)) (by decide) rfl ?_
  intro p e s m args below meth c s₁ B hml hv
  obtain ⟨rfl, hX, hbl⟩ := hv
  have hx := B.exec
  have hb := B.bytes
  have hr := B.returns
  have hts := atoms_spec (ws := wsL_cell) B.pre
  have hown : s.vm.findClass RL = some m.cls := findClass_of_methodNamed B.named
  have hS : va_S (fun _ => False) s.heap s.heap [] := va_S.rf
  have hLe : Int32.ofNat L = iI (L : Int) := nI_iI L
  have hl := lv_entry ([.ref b, .int (iI k)]) (n := 2) (Nat.le_of_ble_eq_true rfl)
  rw [lg_entry_eq]
  generalize (lg_sl ([.ref b, .int (iI k)]) ++ List.replicate (2 - (lg_sl ([.ref b, .int (iI k)])).length) Slot.unset).toArray = ls at hl ⊢
  have hl : lv_has ls 2 [(0, .ref b), (1, .int (iI k))] := hl
  refine lv_iload_n hx hb dL_cell_0 rfl (lv_at hl 1 rfl) ?_
  refine lv_aload_n hx hb dL_cell_1 rfl (lv_at hl 0 rfl) ?_
  refine va_slen hx hb hX hbl (fun h => h) hS dL_cell_2 ?_
  rw [hLe]
  refine iv_icmp_ge (a := k) (b := (L : Int)) (tgt := 12) hx hb (by omega) (by omega) dL_cell_3 (by decide) (fun c3 => ?_) (fun c3 => ?_)
  · refine lv_ldc (v := iI 1925078388) hx hb hown (hts (.constant RL 7 (1925078388)) (by decide +kernel)) dL_cell_12 ?_
    refine lv_iload_n hx hb dL_cell_14 rfl (lv_at hl 1 rfl) ?_
    refine lv_iconst (v := iI 1) hx hb dL_cell_15 (by decide +kernel) ?_
    refine iv_add hx hb dL_cell_16 ?_
    refine iv_mul hx hb dL_cell_17 ?_
    refine lv_ldc (v := iI 8445617) hx hb hown (hts (.constant RL 8 (8445617)) (by decide +kernel)) dL_cell_18 ?_
    refine iv_add hx hb dL_cell_20 ?_
    rw [show 1925078388 * (k + 1) + 8445617 = cellV L xs k from (if_neg (by omega)).symm]
    exact W.iret hx hb hr (fun t ht hW => ⟨rfl, ht⟩) (fun q h => by cases h) dL_cell_21
  · refine lv_aload_n hx hb dL_cell_6 rfl (lv_at hl 0 rfl) ?_
    refine lv_iload_n hx hb dL_cell_7 rfl (lv_at hl 1 rfl) ?_
    refine va_sld hx hb hX hbl (fun h => h) hS (iI_in (by omega) (by omega) (by omega)) dL_cell_8 ?_
    rw [iI_cl (by omega), show xs k.toNat = iI (cellV L xs k) from (iI_of _).trans (congrArg iI (if_pos (by omega)).symm)]
    refine lv_goto (tgt := 21) hx hb dL_cell_9 (by decide) ?_
    exact W.iret hx hb hr (fun t ht hW => ⟨rfl, ht⟩) (fun q h => by cases h) dL_cell_21
