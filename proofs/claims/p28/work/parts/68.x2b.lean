theorem va_up_of {f : Nat → Option Nat} {n q : Nat} (h : f n = some q) : va_up f n (some q) = f := by
  funext j
  unfold va_up
  split
  · rename_i e
    rw [e, h]
  · rfl
set_option maxHeartbeats 4000000 in
set_option maxRecDepth 100000 in
theorem c_X2_remember_n (l : Launch) (D : va_G) (yI yC yD : ClassId) (me : Nat) (rg : Nat) (f : Nat → Option Nat) (nx : Int) (ct : Int) (d : Nat) (dc : Nat) (S : Int → Int) (g : Int → Int) (k : Int64) (hme : 0 ≤ nx ∧ nx < 14 ∧ 0 ≤ ct ∧ ct ≤ 14) (hf : f nx.toNat = none) (sz : Nat) : Met l yX2_remember wsX2_remember ({ frames := 2, cells := 2, slots := 58, locals := 32 }) (aoP [.ref me, .ref d] D (tyz yI yC yD) [(me, oMem rg nx ct), (rg, aD yD 14 f), (d, oDrv dc S k), (dc, aI yI 48 g)] sz) (va_Qv (fun (u : Nat × Nat) => match u with | (q, qc) => True) (fun (u : Nat × Nat) (t : State) => match u with | (q, qc) => va_P D vwCl [(me, oMem rg (if nx + 1 < 14 then nx + 1 else 0) (min (ct + 1) 14)), (rg, aD yD 14 (va_up f nx.toNat (some q))), (d, oDrv dc S k), (dc, aI yI 48 g), (q, oDrv qc S k), (qc, aI yI 48 g)] t.heap ∧ va_D (va_A [(me, oMem rg nx ct), (rg, aD yD 14 f), (d, oDrv dc S k), (dc, aI yI 48 g)] sz) [(me, oMem rg (if nx + 1 < 14 then nx + 1 else 0) (min (ct + 1) 14)), (rg, aD yD 14 (va_up f nx.toNat (some q))), (d, oDrv dc S k), (dc, aI yI 48 g), (q, oDrv qc S k), (qc, aI yI 48 g)]) (va_A [(me, oMem rg nx ct), (rg, aD yD 14 f), (d, oDrv dc S k), (dc, aI yI 48 g)] sz)) 2 58 (va_A [(me, oMem rg nx ct), (rg, aD yD 14 f), (d, oDrv dc S k), (dc, aI yI 48 g)] sz) := by
  refine Met.ofW (cc := cX2_remember) (maxL := 3) (ret := none) (by decide) rfl ?_
  intro p e s m args below meth c s₁ B hml hv
  obtain ⟨rfl, hsz, hP, hK, hD0, hao⟩ := hv
  have hx := B.exec
  have hb := B.bytes
  have hr := B.returns
  have hts := atoms_spec (ws := wsX2_remember) B.pre
  have hown : s.vm.findClass RX2 = some m.cls := findClass_of_methodNamed B.named
  have hlocks := B.notSynchronized
  subst hsz
  have hD := hD0.self (sz := s.heap.size)
  generalize hAe : va_A [(me, oMem rg nx ct), (rg, aD yD 14 f), (d, oDrv dc S k), (dc, aI yI 48 g)] s.heap.size = A at hD ⊢
  have hA : ∀ q : Nat, s.heap.size ≤ q → A q := fun q h => by rw [← hAe]; exact Or.inr h
  have hS : va_S A s.heap s.heap [] := va_S.rf
  have hP : va_P D vwCl [(me, oMem rg nx ct), (rg, aD yD 14 f), (d, oDrv dc S k), (dc, aI yI 48 g)] s.heap := hP
  have hinX0 : ∀ w ∈ wsX00, w ∈ wsX2_remember := by decide +kernel
  have hinX2 : ∀ w ∈ wsX20, w ∈ wsX2_remember := by decide +kernel
  have hf11 : (Cond.fieldLink RX2 11 "RiddleDrive$Memory" "ring" "[LRiddleDrive$Drive;").before _ s = true := hts _ (by decide +kernel)
  have hf17 : (Cond.fieldLink RX2 17 "RiddleDrive$Memory" "count" "I").before _ s = true := hts _ (by decide +kernel)
  have hf21 : (Cond.fieldLink RX2 21 "RiddleDrive$Memory" "next" "I").before _ s = true := hts _ (by decide +kernel)
  have hl := lv_entry ([.ref me, .ref d]) (n := 3) (Nat.le_of_ble_eq_true rfl)
  rw [lg_entry_eq]
  generalize (lg_sl ([.ref me, .ref d]) ++ List.replicate (3 - (lg_sl ([.ref me, .ref d])).length) Slot.unset).toArray = ls at hl ⊢
  have hl : lv_has ls 3 [(0, .ref me), (1, .ref d)] := hl
  refine lv_aload_n hx hb dX2_remember_0 rfl (lv_at hl 0 rfl) ?_
  refine va_get (D := D) (ci := 2) (v := .int (iI nx)) (C := RX2) (T := TX2) (N := 3) hx hb hts hinX2 hown hK hP 0 rfl rfl 1 (by decide) hf21 (fun _ h9 => h9) rfl dX2_remember_1 ?_
  refine iv_if_lt (a := nx) (tgt := 19) hx hb (by omega) dX2_remember_4 (by decide) (fun c4 => ?_) (fun c4 => ?_)
  · exact absurd c4 (by omega)
  · refine lv_aload_n hx hb dX2_remember_7 rfl (lv_at hl 0 rfl) ?_
    refine va_get (D := D) (ci := 2) (v := .int (iI nx)) (C := RX2) (T := TX2) (N := 3) hx hb hts hinX2 hown hK hP 0 rfl rfl 1 (by decide) hf21 (fun _ h9 => h9) rfl dX2_remember_8 ?_
    refine lv_aload_n hx hb dX2_remember_11 rfl (lv_at hl 0 rfl) ?_
    refine va_get (D := D) (ci := 2) (v := .ref rg) (C := RX2) (T := TX2) (N := 3) hx hb hts hinX2 hown hK hP 0 rfl rfl 0 (by decide) hf11 (fun _ h9 => h9) rfl dX2_remember_12 ?_
    refine va_alen (v := iI 14) hx hb hK hP 1 2 rfl rfl (by show Int32.ofNat 14 = iI 14; decide +kernel) dX2_remember_15 ?_
    refine iv_icmp_lt (a := nx) (b := 14) (tgt := 20) hx hb (by omega) (by omega) dX2_remember_16 (by decide) (fun c16 => ?_) (fun c16 => ?_)
    · refine lv_aload_n hx hb dX2_remember_20 rfl (lv_at hl 0 rfl) ?_
      refine va_get (D := D) (ci := 2) (v := .ref rg) (C := RX2) (T := TX2) (N := 3) hx hb hts hinX2 hown hK hP 0 rfl rfl 0 (by decide) hf11 (fun _ h9 => h9) rfl dX2_remember_21 ?_
      refine lv_aload_n hx hb dX2_remember_24 rfl (lv_at hl 0 rfl) ?_
      refine va_get (D := D) (ci := 2) (v := .int (iI nx)) (C := RX2) (T := TX2) (N := 3) hx hb hts hinX2 hown hK hP 0 rfl rfl 1 (by decide) hf21 (fun _ h9 => h9) rfl dX2_remember_25 ?_
      refine va_aldq hx hb hK hP 1 2 rfl rfl (iI_in (by omega) (by omega) (by omega)) dX2_remember_28 ?_
      rw [iI_cl (by omega), hf, rf_n]
      refine lv_astore_nN (lv' := [(2, .null), (0, .ref me), (1, .ref d)]) hx hb dX2_remember_29 rfl hl (by decide) rfl (fun ls hl => ?_)
      refine lv_aload_nN hx hb dX2_remember_30 rfl (lv_at hl 0 rfl) ?_
      refine lv_ifnonnullN hx hb dX2_remember_31 ?_
      refine iv_newN (C := RX0) (T := TX0) (N := 10) (ci := 0) (raw := rawX0) (wp := fun q (dc : Nat) => [(q, oDrv dc (fun _ => 0) 0), (dc, aI yI 48 (fun _ => 0))]) ⟨hx, hb, hml, hown, hts⟩ hinX0 tyX0 tyX0_ok (hts (.classLink RX2 9 RX0) (by decide +kernel)) (hts (.instantiable RX0 10) (by decide +kernel)) (hts (.initialized RX0) (by decide +kernel)) rfl dfX0 (fun q9 sz9 => c_X0_init l D yI yC yD q9  sz9) ⟨va_cnB 0 hts gX2_remember_X0_init_n24 rfl rfl rfl hao.2.2.2.2.1 (hts (.initialized RX0) (by decide +kernel)) (by decide +kernel) ⟨Nat.le_of_ble_eq_true rfl, Nat.le_of_ble_eq_true rfl⟩, rfl, hts (.instanceMethod yX0_init) (by decide +kernel)⟩ hK hP hD hS hA hl.1 dX2_remember_34 dX2_remember_37 dX2_remember_38 (Nat.le_of_ble_eq_true rfl) ⟨Nat.le_of_ble_eq_true rfl, Nat.le_of_ble_eq_true rfl⟩ (fun q qc H locs hP hD hS => ?_)
      have hP : va_P D vwCl [(me, oMem rg nx ct), (rg, aD yD 14 f), (d, oDrv dc S k), (dc, aI yI 48 g), (q, oDrv qc (fun _ => 0) 0), (qc, aI yI 48 (fun _ => 0))] H := hP
      have hD : va_D A [(me, oMem rg nx ct), (rg, aD yD 14 f), (d, oDrv dc S k), (dc, aI yI 48 g), (q, oDrv qc (fun _ => 0) 0), (qc, aI yI 48 (fun _ => 0))] := hD
      refine lv_astore_n (lv' := [(2, .ref q), (0, .ref me), (1, .ref d)]) hx hb dX2_remember_41 rfl hl (by decide) rfl (fun ls hl => ?_)
      refine lv_aload_n hx hb dX2_remember_42 rfl (lv_at hl 1 rfl) ?_
      refine va_get (D := D) (ci := 2) (v := .ref rg) (C := RX2) (T := TX2) (N := 3) hx hb hts hinX2 hown hK hP 0 rfl rfl 0 (by decide) hf11 (fun _ h9 => h9) rfl dX2_remember_43 ?_
      refine lv_aload_n hx hb dX2_remember_46 rfl (lv_at hl 1 rfl) ?_
      refine va_get (D := D) (ci := 2) (v := .int (iI nx)) (C := RX2) (T := TX2) (N := 3) hx hb hts hinX2 hown hK hP 0 rfl rfl 1 (by decide) hf21 (fun _ h9 => h9) rfl dX2_remember_47 ?_
      refine lv_aload_n hx hb dX2_remember_50 rfl (lv_at hl 0 rfl) ?_
      refine va_astq hx hb hK hP hD hS 1 2 4 0 rfl rfl rfl rfl (iI_in (by omega) (by omega) (by omega)) dX2_remember_51 (fun H locs hP hD hS => ?_)
      rw [iI_cl (show inR (nx) by omega)] at hP hD
      have hP : va_P D vwCl [(me, oMem rg nx ct), (rg, aD yD 14 (va_up f ((nx).toNat) (some q))), (d, oDrv dc S k), (dc, aI yI 48 g), (q, oDrv qc (fun _ => 0) 0), (qc, aI yI 48 (fun _ => 0))] H := hP
      have hD : va_D A [(me, oMem rg nx ct), (rg, aD yD 14 (va_up f ((nx).toNat) (some q))), (d, oDrv dc S k), (dc, aI yI 48 g), (q, oDrv qc (fun _ => 0) 0), (qc, aI yI 48 (fun _ => 0))] := hD
      refine lv_aload_n hx hb dX2_remember_52 rfl (lv_at hl 0 rfl) ?_
      refine lv_aload_n hx hb dX2_remember_53 rfl (lv_at hl 2 rfl) ?_
      refine iv_rwVv (As := [.ref d]) (rest := []) (C := RX0) (n := 1) ⟨hx, hb, hml, hown, hts⟩ (c_X0_takeFrom l D yI yC yD q qc (fun _ => 0) (fun _ => 0) 0 d dc S g k  _) (cwV 1 hts gX2_remember_X0_takeFrom rfl rfl rfl (by decide +kernel) ⟨Nat.le_of_ble_eq_true rfl, Nat.le_of_ble_eq_true rfl⟩) hK hP hD hS hA [4, 5, 2, 3] (by decide) rfl 4 rfl rfl rfl hl.1 rfl (Nat.le_of_ble_eq_true rfl) dX2_remember_54 ⟨Nat.le_of_ble_eq_true rfl, Nat.le_of_ble_eq_true rfl⟩ (fun _ => rfl) (fun u54 H locs hw54 hP hD hS => ?_)
      have hP : va_P D vwCl [(me, oMem rg nx ct), (rg, aD yD 14 (va_up f ((nx).toNat) (some q))), (d, oDrv dc S k), (dc, aI yI 48 g), (q, oDrv qc S k), (qc, aI yI 48 g)] H := hP
      have hD : va_D A [(me, oMem rg nx ct), (rg, aD yD 14 (va_up f ((nx).toNat) (some q))), (d, oDrv dc S k), (dc, aI yI 48 g), (q, oDrv qc S k), (qc, aI yI 48 g)] := hD
      refine lv_aload_n hx hb dX2_remember_57 rfl (lv_at hl 1 rfl) ?_
      refine lv_aload_n hx hb dX2_remember_58 rfl (lv_at hl 1 rfl) ?_
      refine va_get (D := D) (ci := 2) (v := .int (iI nx)) (C := RX2) (T := TX2) (N := 3) hx hb hts hinX2 hown hK hP 0 rfl rfl 1 (by decide) hf21 (fun _ h9 => h9) rfl dX2_remember_59 ?_
      refine lv_iconst (v := iI 1) hx hb dX2_remember_62 (by decide +kernel) ?_
      refine iv_add hx hb dX2_remember_63 ?_
      refine lv_aload_n hx hb dX2_remember_64 rfl (lv_at hl 1 rfl) ?_
      refine va_get (D := D) (ci := 2) (v := .ref rg) (C := RX2) (T := TX2) (N := 3) hx hb hts hinX2 hown hK hP 0 rfl rfl 0 (by decide) hf11 (fun _ h9 => h9) rfl dX2_remember_65 ?_
      refine va_alen (v := iI 14) hx hb hK hP 1 2 rfl rfl (by show Int32.ofNat 14 = iI 14; decide +kernel) dX2_remember_68 ?_
      refine iv_icmp_ge (a := nx + 1) (b := 14) (tgt := 81) hx hb (by omega) (by omega) dX2_remember_69 (by decide) (fun c69 => ?_) (fun c69 => ?_)
      · refine lv_iconst (v := iI 0) hx hb dX2_remember_81 (by decide +kernel) ?_
        refine va_put (D := D) (ci := 2) (v := .int (iI 0)) (ty := .int) (C := RX2) (T := TX2) (N := 3) hx hb hts hinX2 tyX2 tyX2_ok nmX2 hown hK hP hD hS 0 rfl rfl 1 (by decide) hf21 (fun _ h9 => h9) rfl (by decide +kernel) rfl rfl (Nat.le_of_ble_eq_true rfl) dX2_remember_82 (fun H locs hP hD hS => ?_)
        have hP : va_P D vwCl [(me, oMem rg 0 ct), (rg, aD yD 14 (va_up f ((nx).toNat) (some q))), (d, oDrv dc S k), (dc, aI yI 48 g), (q, oDrv qc S k), (qc, aI yI 48 g)] H := hP
        have hD : va_D A [(me, oMem rg 0 ct), (rg, aD yD 14 (va_up f ((nx).toNat) (some q))), (d, oDrv dc S k), (dc, aI yI 48 g), (q, oDrv qc S k), (qc, aI yI 48 g)] := hD
        refine lv_aload_n hx hb dX2_remember_85 rfl (lv_at hl 1 rfl) ?_
        refine lv_aload_n hx hb dX2_remember_86 rfl (lv_at hl 1 rfl) ?_
        refine va_get (D := D) (ci := 2) (v := .int (iI ct)) (C := RX2) (T := TX2) (N := 3) hx hb hts hinX2 hown hK hP 0 rfl rfl 2 (by decide) hf17 (fun _ h9 => h9) rfl dX2_remember_87 ?_
        refine lv_iconst (v := iI 1) hx hb dX2_remember_90 (by decide +kernel) ?_
        refine iv_add hx hb dX2_remember_91 ?_
        refine lv_aload_n hx hb dX2_remember_92 rfl (lv_at hl 1 rfl) ?_
        refine va_get (D := D) (ci := 2) (v := .ref rg) (C := RX2) (T := TX2) (N := 3) hx hb hts hinX2 hown hK hP 0 rfl rfl 0 (by decide) hf11 (fun _ h9 => h9) rfl dX2_remember_93 ?_
        refine va_alen (v := iI 14) hx hb hK hP 1 2 rfl rfl (by show Int32.ofNat 14 = iI 14; decide +kernel) dX2_remember_96 ?_
        refine iv_min hx hb (hml.trans hl.1.symm) hown (hts (.methodLink RX2 29 Lib.Math.min.name) (by decide +kernel)) (hts (.static Lib.Math.min.name) (by decide +kernel)) (hts (.initialized "java/lang/Math") (by decide +kernel)) (hts (.code Lib.Math.min.name Lib.Math.min.code 2 (some .int)) (by decide +kernel)) (Nat.le_of_ble_eq_true rfl) (Nat.le_of_ble_eq_true rfl) (Nat.le_of_ble_eq_true rfl) (Nat.le_of_ble_eq_true rfl) (by omega) (by omega) dX2_remember_97 ?_
        refine va_put (D := D) (ci := 2) (v := .int (iI (min (ct + 1) 14))) (ty := .int) (C := RX2) (T := TX2) (N := 3) hx hb hts hinX2 tyX2 tyX2_ok nmX2 hown hK hP hD hS 0 rfl rfl 2 (by decide) hf17 (fun _ h9 => h9) rfl (by decide +kernel) rfl rfl (Nat.le_of_ble_eq_true rfl) dX2_remember_100 (fun H locs hP hD hS => ?_)
        have hP : va_P D vwCl [(me, oMem rg 0 (min (ct + 1) 14)), (rg, aD yD 14 (va_up f ((nx).toNat) (some q))), (d, oDrv dc S k), (dc, aI yI 48 g), (q, oDrv qc S k), (qc, aI yI 48 g)] H := hP
        have hD : va_D A [(me, oMem rg 0 (min (ct + 1) 14)), (rg, aD yD 14 (va_up f ((nx).toNat) (some q))), (d, oDrv dc S k), (dc, aI yI 48 g), (q, oDrv qc S k), (qc, aI yI 48 g)] := hD
        have hP9 : va_P D vwCl [(me, oMem rg (if nx + 1 < 14 then nx + 1 else 0) (min (ct + 1) 14)), (rg, aD yD 14 (va_up f nx.toNat (some q))), (d, oDrv dc S k), (dc, aI yI 48 g), (q, oDrv qc S k), (qc, aI yI 48 g)] _ := (hP.sub (ws' := [(me, oMem rg 0 (min (ct + 1) 14)), (rg, aD yD 14 (va_up f ((nx).toNat) (some q))), (d, oDrv dc S k), (dc, aI yI 48 g), (q, oDrv qc S k), (qc, aI yI 48 g)]) [0, 1, 2, 3, 4, 5] rfl).cv (by first | rw [if_pos (by omega)] | rw [if_neg (by omega)])
        have hD9 : va_D A [(me, oMem rg (if nx + 1 < 14 then nx + 1 else 0) (min (ct + 1) 14)), (rg, aD yD 14 (va_up f nx.toNat (some q))), (d, oDrv dc S k), (dc, aI yI 48 g), (q, oDrv qc S k), (qc, aI yI 48 g)] := (hD.sub (ws' := [(me, oMem rg 0 (min (ct + 1) 14)), (rg, aD yD 14 (va_up f ((nx).toNat) (some q))), (d, oDrv dc S k), (dc, aI yI 48 g), (q, oDrv qc S k), (qc, aI yI 48 g)]) [0, 1, 2, 3, 4, 5] (by decide) rfl).cv (by first | rw [if_pos (by omega)] | rw [if_neg (by omega)])
        exact W.vret hx hb hr (fun t ht hW => ⟨⟨(q, qc), rfl, trivial, ⟨by show va_P D vwCl _ t.heap; rw [ht]; exact hP9, hD9⟩⟩, hS.F ht⟩) hS.2.2 dX2_remember_103
      · refine lv_aload_n hx hb dX2_remember_72 rfl (lv_at hl 1 rfl) ?_
        refine va_get (D := D) (ci := 2) (v := .int (iI nx)) (C := RX2) (T := TX2) (N := 3) hx hb hts hinX2 hown hK hP 0 rfl rfl 1 (by decide) hf21 (fun _ h9 => h9) rfl dX2_remember_73 ?_
        refine lv_iconst (v := iI 1) hx hb dX2_remember_76 (by decide +kernel) ?_
        refine iv_add hx hb dX2_remember_77 ?_
        refine lv_goto (tgt := 82) hx hb dX2_remember_78 (by decide) ?_
        refine va_put (D := D) (ci := 2) (v := .int (iI (nx + 1))) (ty := .int) (C := RX2) (T := TX2) (N := 3) hx hb hts hinX2 tyX2 tyX2_ok nmX2 hown hK hP hD hS 0 rfl rfl 1 (by decide) hf21 (fun _ h9 => h9) rfl (by decide +kernel) rfl rfl (Nat.le_of_ble_eq_true rfl) dX2_remember_82 (fun H locs hP hD hS => ?_)
        have hP : va_P D vwCl [(me, oMem rg (nx + 1) ct), (rg, aD yD 14 (va_up f ((nx).toNat) (some q))), (d, oDrv dc S k), (dc, aI yI 48 g), (q, oDrv qc S k), (qc, aI yI 48 g)] H := hP
        have hD : va_D A [(me, oMem rg (nx + 1) ct), (rg, aD yD 14 (va_up f ((nx).toNat) (some q))), (d, oDrv dc S k), (dc, aI yI 48 g), (q, oDrv qc S k), (qc, aI yI 48 g)] := hD
        refine lv_aload_n hx hb dX2_remember_85 rfl (lv_at hl 1 rfl) ?_
        refine lv_aload_n hx hb dX2_remember_86 rfl (lv_at hl 1 rfl) ?_
        refine va_get (D := D) (ci := 2) (v := .int (iI ct)) (C := RX2) (T := TX2) (N := 3) hx hb hts hinX2 hown hK hP 0 rfl rfl 2 (by decide) hf17 (fun _ h9 => h9) rfl dX2_remember_87 ?_
        refine lv_iconst (v := iI 1) hx hb dX2_remember_90 (by decide +kernel) ?_
        refine iv_add hx hb dX2_remember_91 ?_
        refine lv_aload_n hx hb dX2_remember_92 rfl (lv_at hl 1 rfl) ?_
        refine va_get (D := D) (ci := 2) (v := .ref rg) (C := RX2) (T := TX2) (N := 3) hx hb hts hinX2 hown hK hP 0 rfl rfl 0 (by decide) hf11 (fun _ h9 => h9) rfl dX2_remember_93 ?_
        refine va_alen (v := iI 14) hx hb hK hP 1 2 rfl rfl (by show Int32.ofNat 14 = iI 14; decide +kernel) dX2_remember_96 ?_
        refine iv_min hx hb (hml.trans hl.1.symm) hown (hts (.methodLink RX2 29 Lib.Math.min.name) (by decide +kernel)) (hts (.static Lib.Math.min.name) (by decide +kernel)) (hts (.initialized "java/lang/Math") (by decide +kernel)) (hts (.code Lib.Math.min.name Lib.Math.min.code 2 (some .int)) (by decide +kernel)) (Nat.le_of_ble_eq_true rfl) (Nat.le_of_ble_eq_true rfl) (Nat.le_of_ble_eq_true rfl) (Nat.le_of_ble_eq_true rfl) (by omega) (by omega) dX2_remember_97 ?_
        refine va_put (D := D) (ci := 2) (v := .int (iI (min (ct + 1) 14))) (ty := .int) (C := RX2) (T := TX2) (N := 3) hx hb hts hinX2 tyX2 tyX2_ok nmX2 hown hK hP hD hS 0 rfl rfl 2 (by decide) hf17 (fun _ h9 => h9) rfl (by decide +kernel) rfl rfl (Nat.le_of_ble_eq_true rfl) dX2_remember_100 (fun H locs hP hD hS => ?_)
        have hP : va_P D vwCl [(me, oMem rg (nx + 1) (min (ct + 1) 14)), (rg, aD yD 14 (va_up f ((nx).toNat) (some q))), (d, oDrv dc S k), (dc, aI yI 48 g), (q, oDrv qc S k), (qc, aI yI 48 g)] H := hP
        have hD : va_D A [(me, oMem rg (nx + 1) (min (ct + 1) 14)), (rg, aD yD 14 (va_up f ((nx).toNat) (some q))), (d, oDrv dc S k), (dc, aI yI 48 g), (q, oDrv qc S k), (qc, aI yI 48 g)] := hD
        have hP9 : va_P D vwCl [(me, oMem rg (if nx + 1 < 14 then nx + 1 else 0) (min (ct + 1) 14)), (rg, aD yD 14 (va_up f nx.toNat (some q))), (d, oDrv dc S k), (dc, aI yI 48 g), (q, oDrv qc S k), (qc, aI yI 48 g)] _ := (hP.sub (ws' := [(me, oMem rg (nx + 1) (min (ct + 1) 14)), (rg, aD yD 14 (va_up f ((nx).toNat) (some q))), (d, oDrv dc S k), (dc, aI yI 48 g), (q, oDrv qc S k), (qc, aI yI 48 g)]) [0, 1, 2, 3, 4, 5] rfl).cv (by first | rw [if_pos (by omega)] | rw [if_neg (by omega)])
        have hD9 : va_D A [(me, oMem rg (if nx + 1 < 14 then nx + 1 else 0) (min (ct + 1) 14)), (rg, aD yD 14 (va_up f nx.toNat (some q))), (d, oDrv dc S k), (dc, aI yI 48 g), (q, oDrv qc S k), (qc, aI yI 48 g)] := (hD.sub (ws' := [(me, oMem rg (nx + 1) (min (ct + 1) 14)), (rg, aD yD 14 (va_up f ((nx).toNat) (some q))), (d, oDrv dc S k), (dc, aI yI 48 g), (q, oDrv qc S k), (qc, aI yI 48 g)]) [0, 1, 2, 3, 4, 5] (by decide) rfl).cv (by first | rw [if_pos (by omega)] | rw [if_neg (by omega)])
        exact W.vret hx hb hr (fun t ht hW => ⟨⟨(q, qc), rfl, trivial, ⟨by show va_P D vwCl _ t.heap; rw [ht]; exact hP9, hD9⟩⟩, hS.F ht⟩) hS.2.2 dX2_remember_103
    · exact absurd c16 (by omega)
set_option maxHeartbeats 4000000 in
set_option maxRecDepth 100000 in
theorem c_X2_remember_y (l : Launch) (D : va_G) (yI yC yD : ClassId) (me : Nat) (rg : Nat) (f : Nat → Option Nat) (nx : Int) (ct : Int) (d : Nat) (dc : Nat) (S : Int → Int) (g : Int → Int) (k : Int64) (q : Nat) (qc : Nat) (S2 : Int → Int) (g2 : Int → Int) (k2 : Int64) (hme : 0 ≤ nx ∧ nx < 14 ∧ 0 ≤ ct ∧ ct ≤ 14) (hf : f nx.toNat = some q) (sz : Nat) : Met l yX2_remember wsX2_remember ({ frames := 2, cells := 2, slots := 58, locals := 32 }) (aoP [.ref me, .ref d] D (tyz yI yC yD) [(me, oMem rg nx ct), (rg, aD yD 14 f), (d, oDrv dc S k), (dc, aI yI 48 g), (q, oDrv qc S2 k2), (qc, aI yI 48 g2)] sz) (va_Qv (fun (u : Nat × Nat) => match u with | (q9, qc9) => True) (fun (u : Nat × Nat) (t : State) => match u with | (q9, qc9) => va_P D vwCl [(me, oMem rg (if nx + 1 < 14 then nx + 1 else 0) (min (ct + 1) 14)), (rg, aD yD 14 (va_up f nx.toNat (some q9))), (d, oDrv dc S k), (dc, aI yI 48 g), (q9, oDrv qc9 S k), (qc9, aI yI 48 g)] t.heap ∧ va_D (va_A [(me, oMem rg nx ct), (rg, aD yD 14 f), (d, oDrv dc S k), (dc, aI yI 48 g), (q, oDrv qc S2 k2), (qc, aI yI 48 g2)] sz) [(me, oMem rg (if nx + 1 < 14 then nx + 1 else 0) (min (ct + 1) 14)), (rg, aD yD 14 (va_up f nx.toNat (some q9))), (d, oDrv dc S k), (dc, aI yI 48 g), (q9, oDrv qc9 S k), (qc9, aI yI 48 g)]) (va_A [(me, oMem rg nx ct), (rg, aD yD 14 f), (d, oDrv dc S k), (dc, aI yI 48 g), (q, oDrv qc S2 k2), (qc, aI yI 48 g2)] sz)) 2 58 (va_A [(me, oMem rg nx ct), (rg, aD yD 14 f), (d, oDrv dc S k), (dc, aI yI 48 g), (q, oDrv qc S2 k2), (qc, aI yI 48 g2)] sz) := by
  refine Met.ofW (cc := cX2_remember) (maxL := 3) (ret := none) (by decide) rfl ?_
  intro p e s m args below meth c s₁ B hml hv
  obtain ⟨rfl, hsz, hP, hK, hD0, hao⟩ := hv
  have hx := B.exec
  have hb := B.bytes
  have hr := B.returns
  have hts := atoms_spec (ws := wsX2_remember) B.pre
  have hown : s.vm.findClass RX2 = some m.cls := findClass_of_methodNamed B.named
  have hlocks := B.notSynchronized
  subst hsz
  have hD := hD0.self (sz := s.heap.size)
  generalize hAe : va_A [(me, oMem rg nx ct), (rg, aD yD 14 f), (d, oDrv dc S k), (dc, aI yI 48 g), (q, oDrv qc S2 k2), (qc, aI yI 48 g2)] s.heap.size = A at hD ⊢
  have hA : ∀ q : Nat, s.heap.size ≤ q → A q := fun q h => by rw [← hAe]; exact Or.inr h
  have hS : va_S A s.heap s.heap [] := va_S.rf
  have hP : va_P D vwCl [(me, oMem rg nx ct), (rg, aD yD 14 f), (d, oDrv dc S k), (dc, aI yI 48 g), (q, oDrv qc S2 k2), (qc, aI yI 48 g2)] s.heap := hP
  have hinX2 : ∀ w ∈ wsX20, w ∈ wsX2_remember := by decide +kernel
  have hf11 : (Cond.fieldLink RX2 11 "RiddleDrive$Memory" "ring" "[LRiddleDrive$Drive;").before _ s = true := hts _ (by decide +kernel)
  have hf17 : (Cond.fieldLink RX2 17 "RiddleDrive$Memory" "count" "I").before _ s = true := hts _ (by decide +kernel)
  have hf21 : (Cond.fieldLink RX2 21 "RiddleDrive$Memory" "next" "I").before _ s = true := hts _ (by decide +kernel)
  have hl := lv_entry ([.ref me, .ref d]) (n := 3) (Nat.le_of_ble_eq_true rfl)
  rw [lg_entry_eq]
  generalize (lg_sl ([.ref me, .ref d]) ++ List.replicate (3 - (lg_sl ([.ref me, .ref d])).length) Slot.unset).toArray = ls at hl ⊢
  have hl : lv_has ls 3 [(0, .ref me), (1, .ref d)] := hl
  refine lv_aload_n hx hb dX2_remember_0 rfl (lv_at hl 0 rfl) ?_
  refine va_get (D := D) (ci := 2) (v := .int (iI nx)) (C := RX2) (T := TX2) (N := 3) hx hb hts hinX2 hown hK hP 0 rfl rfl 1 (by decide) hf21 (fun _ h9 => h9) rfl dX2_remember_1 ?_
  refine iv_if_lt (a := nx) (tgt := 19) hx hb (by omega) dX2_remember_4 (by decide) (fun c4 => ?_) (fun c4 => ?_)
  · exact absurd c4 (by omega)
  · refine lv_aload_n hx hb dX2_remember_7 rfl (lv_at hl 0 rfl) ?_
    refine va_get (D := D) (ci := 2) (v := .int (iI nx)) (C := RX2) (T := TX2) (N := 3) hx hb hts hinX2 hown hK hP 0 rfl rfl 1 (by decide) hf21 (fun _ h9 => h9) rfl dX2_remember_8 ?_
    refine lv_aload_n hx hb dX2_remember_11 rfl (lv_at hl 0 rfl) ?_
    refine va_get (D := D) (ci := 2) (v := .ref rg) (C := RX2) (T := TX2) (N := 3) hx hb hts hinX2 hown hK hP 0 rfl rfl 0 (by decide) hf11 (fun _ h9 => h9) rfl dX2_remember_12 ?_
    refine va_alen (v := iI 14) hx hb hK hP 1 2 rfl rfl (by show Int32.ofNat 14 = iI 14; decide +kernel) dX2_remember_15 ?_
    refine iv_icmp_lt (a := nx) (b := 14) (tgt := 20) hx hb (by omega) (by omega) dX2_remember_16 (by decide) (fun c16 => ?_) (fun c16 => ?_)
    · refine lv_aload_n hx hb dX2_remember_20 rfl (lv_at hl 0 rfl) ?_
      refine va_get (D := D) (ci := 2) (v := .ref rg) (C := RX2) (T := TX2) (N := 3) hx hb hts hinX2 hown hK hP 0 rfl rfl 0 (by decide) hf11 (fun _ h9 => h9) rfl dX2_remember_21 ?_
      refine lv_aload_n hx hb dX2_remember_24 rfl (lv_at hl 0 rfl) ?_
      refine va_get (D := D) (ci := 2) (v := .int (iI nx)) (C := RX2) (T := TX2) (N := 3) hx hb hts hinX2 hown hK hP 0 rfl rfl 1 (by decide) hf21 (fun _ h9 => h9) rfl dX2_remember_25 ?_
      refine va_aldq hx hb hK hP 1 2 rfl rfl (iI_in (by omega) (by omega) (by omega)) dX2_remember_28 ?_
      rw [iI_cl (by omega), hf, rf_s]
      refine lv_astore_n (lv' := [(2, .ref q), (0, .ref me), (1, .ref d)]) hx hb dX2_remember_29 rfl hl (by decide) rfl (fun ls hl => ?_)
      refine lv_aload_n hx hb dX2_remember_30 rfl (lv_at hl 0 rfl) ?_
      refine lv_ifnonnull (tgt := 52) hx hb dX2_remember_31 (by decide) ?_
      refine lv_aload_n hx hb dX2_remember_52 rfl (lv_at hl 0 rfl) ?_
      refine lv_aload_n hx hb dX2_remember_53 rfl (lv_at hl 2 rfl) ?_
      refine iv_rwVv (As := [.ref d]) (rest := []) (C := RX0) (n := 1) ⟨hx, hb, hml, hown, hts⟩ (c_X0_takeFrom l D yI yC yD q qc S2 g2 k2 d dc S g k  _) (cwV 1 hts gX2_remember_X0_takeFrom rfl rfl rfl (by decide +kernel) ⟨Nat.le_of_ble_eq_true rfl, Nat.le_of_ble_eq_true rfl⟩) hK hP hD hS hA [4, 5, 2, 3] (by decide) rfl 4 rfl rfl rfl hl.1 rfl (Nat.le_of_ble_eq_true rfl) dX2_remember_54 ⟨Nat.le_of_ble_eq_true rfl, Nat.le_of_ble_eq_true rfl⟩ (fun _ => rfl) (fun u54 H locs hw54 hP hD hS => ?_)
      have hP : va_P D vwCl [(me, oMem rg nx ct), (rg, aD yD 14 f), (d, oDrv dc S k), (dc, aI yI 48 g), (q, oDrv qc S k), (qc, aI yI 48 g)] H := hP
      have hD : va_D A [(me, oMem rg nx ct), (rg, aD yD 14 f), (d, oDrv dc S k), (dc, aI yI 48 g), (q, oDrv qc S k), (qc, aI yI 48 g)] := hD
      refine lv_aload_n hx hb dX2_remember_57 rfl (lv_at hl 1 rfl) ?_
      refine lv_aload_n hx hb dX2_remember_58 rfl (lv_at hl 1 rfl) ?_
      refine va_get (D := D) (ci := 2) (v := .int (iI nx)) (C := RX2) (T := TX2) (N := 3) hx hb hts hinX2 hown hK hP 0 rfl rfl 1 (by decide) hf21 (fun _ h9 => h9) rfl dX2_remember_59 ?_
      refine lv_iconst (v := iI 1) hx hb dX2_remember_62 (by decide +kernel) ?_
      refine iv_add hx hb dX2_remember_63 ?_
      refine lv_aload_n hx hb dX2_remember_64 rfl (lv_at hl 1 rfl) ?_
      refine va_get (D := D) (ci := 2) (v := .ref rg) (C := RX2) (T := TX2) (N := 3) hx hb hts hinX2 hown hK hP 0 rfl rfl 0 (by decide) hf11 (fun _ h9 => h9) rfl dX2_remember_65 ?_
      refine va_alen (v := iI 14) hx hb hK hP 1 2 rfl rfl (by show Int32.ofNat 14 = iI 14; decide +kernel) dX2_remember_68 ?_
      refine iv_icmp_ge (a := nx + 1) (b := 14) (tgt := 81) hx hb (by omega) (by omega) dX2_remember_69 (by decide) (fun c69 => ?_) (fun c69 => ?_)
      · refine lv_iconst (v := iI 0) hx hb dX2_remember_81 (by decide +kernel) ?_
        refine va_put (D := D) (ci := 2) (v := .int (iI 0)) (ty := .int) (C := RX2) (T := TX2) (N := 3) hx hb hts hinX2 tyX2 tyX2_ok nmX2 hown hK hP hD hS 0 rfl rfl 1 (by decide) hf21 (fun _ h9 => h9) rfl (by decide +kernel) rfl rfl (Nat.le_of_ble_eq_true rfl) dX2_remember_82 (fun H locs hP hD hS => ?_)
        have hP : va_P D vwCl [(me, oMem rg 0 ct), (rg, aD yD 14 f), (d, oDrv dc S k), (dc, aI yI 48 g), (q, oDrv qc S k), (qc, aI yI 48 g)] H := hP
        have hD : va_D A [(me, oMem rg 0 ct), (rg, aD yD 14 f), (d, oDrv dc S k), (dc, aI yI 48 g), (q, oDrv qc S k), (qc, aI yI 48 g)] := hD
        refine lv_aload_n hx hb dX2_remember_85 rfl (lv_at hl 1 rfl) ?_
        refine lv_aload_n hx hb dX2_remember_86 rfl (lv_at hl 1 rfl) ?_
        refine va_get (D := D) (ci := 2) (v := .int (iI ct)) (C := RX2) (T := TX2) (N := 3) hx hb hts hinX2 hown hK hP 0 rfl rfl 2 (by decide) hf17 (fun _ h9 => h9) rfl dX2_remember_87 ?_
        refine lv_iconst (v := iI 1) hx hb dX2_remember_90 (by decide +kernel) ?_
        refine iv_add hx hb dX2_remember_91 ?_
        refine lv_aload_n hx hb dX2_remember_92 rfl (lv_at hl 1 rfl) ?_
        refine va_get (D := D) (ci := 2) (v := .ref rg) (C := RX2) (T := TX2) (N := 3) hx hb hts hinX2 hown hK hP 0 rfl rfl 0 (by decide) hf11 (fun _ h9 => h9) rfl dX2_remember_93 ?_
        refine va_alen (v := iI 14) hx hb hK hP 1 2 rfl rfl (by show Int32.ofNat 14 = iI 14; decide +kernel) dX2_remember_96 ?_
        refine iv_min hx hb (hml.trans hl.1.symm) hown (hts (.methodLink RX2 29 Lib.Math.min.name) (by decide +kernel)) (hts (.static Lib.Math.min.name) (by decide +kernel)) (hts (.initialized "java/lang/Math") (by decide +kernel)) (hts (.code Lib.Math.min.name Lib.Math.min.code 2 (some .int)) (by decide +kernel)) (Nat.le_of_ble_eq_true rfl) (Nat.le_of_ble_eq_true rfl) (Nat.le_of_ble_eq_true rfl) (Nat.le_of_ble_eq_true rfl) (by omega) (by omega) dX2_remember_97 ?_
        refine va_put (D := D) (ci := 2) (v := .int (iI (min (ct + 1) 14))) (ty := .int) (C := RX2) (T := TX2) (N := 3) hx hb hts hinX2 tyX2 tyX2_ok nmX2 hown hK hP hD hS 0 rfl rfl 2 (by decide) hf17 (fun _ h9 => h9) rfl (by decide +kernel) rfl rfl (Nat.le_of_ble_eq_true rfl) dX2_remember_100 (fun H locs hP hD hS => ?_)
        have hP : va_P D vwCl [(me, oMem rg 0 (min (ct + 1) 14)), (rg, aD yD 14 f), (d, oDrv dc S k), (dc, aI yI 48 g), (q, oDrv qc S k), (qc, aI yI 48 g)] H := hP
        have hD : va_D A [(me, oMem rg 0 (min (ct + 1) 14)), (rg, aD yD 14 f), (d, oDrv dc S k), (dc, aI yI 48 g), (q, oDrv qc S k), (qc, aI yI 48 g)] := hD
        have hP9 : va_P D vwCl [(me, oMem rg (if nx + 1 < 14 then nx + 1 else 0) (min (ct + 1) 14)), (rg, aD yD 14 (va_up f nx.toNat (some q))), (d, oDrv dc S k), (dc, aI yI 48 g), (q, oDrv qc S k), (qc, aI yI 48 g)] _ := (hP.sub (ws' := [(me, oMem rg 0 (min (ct + 1) 14)), (rg, aD yD 14 f), (d, oDrv dc S k), (dc, aI yI 48 g), (q, oDrv qc S k), (qc, aI yI 48 g)]) [0, 1, 2, 3, 4, 5] rfl).cv (by rw [va_up_of hf]; first | rw [if_pos (by omega)] | rw [if_neg (by omega)])
        have hD9 : va_D A [(me, oMem rg (if nx + 1 < 14 then nx + 1 else 0) (min (ct + 1) 14)), (rg, aD yD 14 (va_up f nx.toNat (some q))), (d, oDrv dc S k), (dc, aI yI 48 g), (q, oDrv qc S k), (qc, aI yI 48 g)] := (hD.sub (ws' := [(me, oMem rg 0 (min (ct + 1) 14)), (rg, aD yD 14 f), (d, oDrv dc S k), (dc, aI yI 48 g), (q, oDrv qc S k), (qc, aI yI 48 g)]) [0, 1, 2, 3, 4, 5] (by decide) rfl).cv (by rw [va_up_of hf]; first | rw [if_pos (by omega)] | rw [if_neg (by omega)])
        refine W.widen (k := 2) (n := 58) (Nat.le_of_ble_eq_true rfl) (Nat.le_of_ble_eq_true rfl) ?_
        exact W.vret hx hb hr (fun t ht hW => ⟨⟨(q, qc), rfl, trivial, ⟨by show va_P D vwCl _ t.heap; rw [ht]; exact hP9, hD9⟩⟩, hS.F ht⟩) hS.2.2 dX2_remember_103
      · refine lv_aload_n hx hb dX2_remember_72 rfl (lv_at hl 1 rfl) ?_
        refine va_get (D := D) (ci := 2) (v := .int (iI nx)) (C := RX2) (T := TX2) (N := 3) hx hb hts hinX2 hown hK hP 0 rfl rfl 1 (by decide) hf21 (fun _ h9 => h9) rfl dX2_remember_73 ?_
        refine lv_iconst (v := iI 1) hx hb dX2_remember_76 (by decide +kernel) ?_
        refine iv_add hx hb dX2_remember_77 ?_
        refine lv_goto (tgt := 82) hx hb dX2_remember_78 (by decide) ?_
        refine va_put (D := D) (ci := 2) (v := .int (iI (nx + 1))) (ty := .int) (C := RX2) (T := TX2) (N := 3) hx hb hts hinX2 tyX2 tyX2_ok nmX2 hown hK hP hD hS 0 rfl rfl 1 (by decide) hf21 (fun _ h9 => h9) rfl (by decide +kernel) rfl rfl (Nat.le_of_ble_eq_true rfl) dX2_remember_82 (fun H locs hP hD hS => ?_)
        have hP : va_P D vwCl [(me, oMem rg (nx + 1) ct), (rg, aD yD 14 f), (d, oDrv dc S k), (dc, aI yI 48 g), (q, oDrv qc S k), (qc, aI yI 48 g)] H := hP
        have hD : va_D A [(me, oMem rg (nx + 1) ct), (rg, aD yD 14 f), (d, oDrv dc S k), (dc, aI yI 48 g), (q, oDrv qc S k), (qc, aI yI 48 g)] := hD
        refine lv_aload_n hx hb dX2_remember_85 rfl (lv_at hl 1 rfl) ?_
        refine lv_aload_n hx hb dX2_remember_86 rfl (lv_at hl 1 rfl) ?_
        refine va_get (D := D) (ci := 2) (v := .int (iI ct)) (C := RX2) (T := TX2) (N := 3) hx hb hts hinX2 hown hK hP 0 rfl rfl 2 (by decide) hf17 (fun _ h9 => h9) rfl dX2_remember_87 ?_
        refine lv_iconst (v := iI 1) hx hb dX2_remember_90 (by decide +kernel) ?_
        refine iv_add hx hb dX2_remember_91 ?_
        refine lv_aload_n hx hb dX2_remember_92 rfl (lv_at hl 1 rfl) ?_
        refine va_get (D := D) (ci := 2) (v := .ref rg) (C := RX2) (T := TX2) (N := 3) hx hb hts hinX2 hown hK hP 0 rfl rfl 0 (by decide) hf11 (fun _ h9 => h9) rfl dX2_remember_93 ?_
        refine va_alen (v := iI 14) hx hb hK hP 1 2 rfl rfl (by show Int32.ofNat 14 = iI 14; decide +kernel) dX2_remember_96 ?_
        refine iv_min hx hb (hml.trans hl.1.symm) hown (hts (.methodLink RX2 29 Lib.Math.min.name) (by decide +kernel)) (hts (.static Lib.Math.min.name) (by decide +kernel)) (hts (.initialized "java/lang/Math") (by decide +kernel)) (hts (.code Lib.Math.min.name Lib.Math.min.code 2 (some .int)) (by decide +kernel)) (Nat.le_of_ble_eq_true rfl) (Nat.le_of_ble_eq_true rfl) (Nat.le_of_ble_eq_true rfl) (Nat.le_of_ble_eq_true rfl) (by omega) (by omega) dX2_remember_97 ?_
        refine va_put (D := D) (ci := 2) (v := .int (iI (min (ct + 1) 14))) (ty := .int) (C := RX2) (T := TX2) (N := 3) hx hb hts hinX2 tyX2 tyX2_ok nmX2 hown hK hP hD hS 0 rfl rfl 2 (by decide) hf17 (fun _ h9 => h9) rfl (by decide +kernel) rfl rfl (Nat.le_of_ble_eq_true rfl) dX2_remember_100 (fun H locs hP hD hS => ?_)
        have hP : va_P D vwCl [(me, oMem rg (nx + 1) (min (ct + 1) 14)), (rg, aD yD 14 f), (d, oDrv dc S k), (dc, aI yI 48 g), (q, oDrv qc S k), (qc, aI yI 48 g)] H := hP
        have hD : va_D A [(me, oMem rg (nx + 1) (min (ct + 1) 14)), (rg, aD yD 14 f), (d, oDrv dc S k), (dc, aI yI 48 g), (q, oDrv qc S k), (qc, aI yI 48 g)] := hD
        have hP9 : va_P D vwCl [(me, oMem rg (if nx + 1 < 14 then nx + 1 else 0) (min (ct + 1) 14)), (rg, aD yD 14 (va_up f nx.toNat (some q))), (d, oDrv dc S k), (dc, aI yI 48 g), (q, oDrv qc S k), (qc, aI yI 48 g)] _ := (hP.sub (ws' := [(me, oMem rg (nx + 1) (min (ct + 1) 14)), (rg, aD yD 14 f), (d, oDrv dc S k), (dc, aI yI 48 g), (q, oDrv qc S k), (qc, aI yI 48 g)]) [0, 1, 2, 3, 4, 5] rfl).cv (by rw [va_up_of hf]; first | rw [if_pos (by omega)] | rw [if_neg (by omega)])
        have hD9 : va_D A [(me, oMem rg (if nx + 1 < 14 then nx + 1 else 0) (min (ct + 1) 14)), (rg, aD yD 14 (va_up f nx.toNat (some q))), (d, oDrv dc S k), (dc, aI yI 48 g), (q, oDrv qc S k), (qc, aI yI 48 g)] := (hD.sub (ws' := [(me, oMem rg (nx + 1) (min (ct + 1) 14)), (rg, aD yD 14 f), (d, oDrv dc S k), (dc, aI yI 48 g), (q, oDrv qc S k), (qc, aI yI 48 g)]) [0, 1, 2, 3, 4, 5] (by decide) rfl).cv (by rw [va_up_of hf]; first | rw [if_pos (by omega)] | rw [if_neg (by omega)])
        refine W.widen (k := 2) (n := 58) (Nat.le_of_ble_eq_true rfl) (Nat.le_of_ble_eq_true rfl) ?_
        exact W.vret hx hb hr (fun t ht hW => ⟨⟨(q, qc), rfl, trivial, ⟨by show va_P D vwCl _ t.heap; rw [ht]; exact hP9, hD9⟩⟩, hS.F ht⟩) hS.2.2 dX2_remember_103
    · exact absurd c16 (by omega)
