theorem no_traces {l : Launch} (hflags : l.flags = flags0) : l.stackTraces = false := by
  unfold Launch.stackTraces
  rw [hflags]
  decide +kernel
theorem plE_0 {yI : ClassId} : plE yI (fun _ => none) 16 = [] := rfl
set_option maxHeartbeats 8000000 in
set_option maxRecDepth 100000 in
theorem whole_start {p : Program} {e : Env} {s : State} {m : MethodId} {below : List Frame} {meth : Method} {c : Code} (l : Launch) (hflags : l.flags = flags0) {b L : Nat} {xs : Nat → Int32} (hL : L ≤ 260) (C0 : lw_At p s m meth c b L xs) : W p l e room_1 s m #[Value.ref b] below meth c s.heap [] 0 0 (lw_Z below #[Value.ref b] s) (entryFrame m ([Value.ref b] : List Value).toArray 14) := by
  obtain ⟨hx, hb, hr, hml, hown, hts, hX, hbl, hlocks, hgv⟩ := id C0
  have hla := no_traces hflags
  have hA : ∀ q : Nat, s.heap.size ≤ q → (fun q : Nat => s.heap.size ≤ q) q := fun _ h => h
  have hbA : ¬ (fun q : Nat => s.heap.size ≤ q) b := Nat.not_le.mpr hbl
  obtain ⟨D, yI, yC, yD, yL, hK⟩ := lw_K C0
  have hB := lw_XB C0 hK
  have hKz : va_K D vwCl (tyz yI yC yD) s := hK.sub [0, 1, 2] rfl
  have hS : va_S (fun q : Nat => s.heap.size ≤ q) s.heap s.heap [] := va_S.rf
  have hP : va_P D vwCl [] s.heap := fun k q h => by simp at h
  have hD : va_D (fun q : Nat => s.heap.size ≤ q) [] := ⟨fun i j p q h => by simp at h, fun k q h => by simp at h⟩
  have hl := lv_entry ([.ref b]) (n := 14) (Nat.le_of_ble_eq_true rfl)
  rw [lg_entry_eq]
  generalize (lg_sl ([.ref b]) ++ List.replicate (14 - (lg_sl ([.ref b])).length) Slot.unset).toArray = ls at hl ⊢
  have hl : lv_has ls 14 [(0, .ref b)] := hl
  refine iv_newOa (C := RX4) (T := TX4) (N := 6) (ci := 4) (raw := rawX4) (wp := fun (x : Nat) (u : Nat × Nat × Nat × Nat × Nat × Nat × Nat × Nat × Nat × Nat × Nat) => match u with | (tx, sg, nw, nc, tr, tc, kn, ex, me, rg, sl) => [(x, oRD tx nw tr kn me sl), (tx, oTx sg 0 0 0), (sg, aC yC 100 (fun _ => 0)), (nw, oDrv nc (newS 16) (lN (kL (newS 16) 0 40))), (nc, aI yI 48 (fun _ => 0)), (tr, oDrv tc (fun _ => 0) 0), (tc, aI yI 48 (fun _ => 0)), (kn, oKn 0 ex), (ex, aI yI 1681 (fun _ => 0)), (me, oMem rg 0 0), (rg, aD yD 14 (fun _ => none)), (sl, aD yD 2 (fun _ => none))]) ⟨hx, hb, hml, hown, hts⟩ inX4 tyX4 tyX4_ok (hts (.classLink RL 11 RX4) (by decide +kernel)) (hts (.instantiable RX4 6) (by decide +kernel)) (hts (.initialized RX4) (by decide +kernel)) rfl dfX4 (fun q9 sz9 => c_X4_init l D yI yC yD q9 sz9) (cwI 0 hts gL_law_X4_init rfl rfl rfl (hts (.initialized RX4) (by decide +kernel)) (hts (.methodLink RL 101 yX4_init) (by decide +kernel)) (hts (.instanceMethod yX4_init) (by decide +kernel)) rfl (by decide +kernel) ⟨Nat.le_of_ble_eq_true rfl, Nat.le_of_ble_eq_true rfl⟩) hB.2.2.2.2.2 hKz hP hD hS hA hl.1 dL_law_0 dL_law_3 dL_law_4 (Nat.le_of_ble_eq_true rfl) ⟨Nat.le_of_ble_eq_true rfl, Nat.le_of_ble_eq_true rfl⟩ (fun x u H locs hP hD hS => ?_)
  obtain ⟨tx, sg, nw, nc, tr, tc, kn, ex, me, rg, sl⟩ := u
  have hP : va_P D vwCl [(x, oRD tx nw tr kn me sl), (nw, oDrv nc (newS 16) (lN (kL (newS 16) 0 40))), (nc, aI yI 48 (fun _ => 0)), (me, oMem rg 0 0), (rg, aD yD 14 (fun _ => none)), (kn, oKn 0 ex), (ex, aI yI 1681 (fun _ => 0))] H := va_P.sub (show va_P D vwCl [(x, oRD tx nw tr kn me sl), (tx, oTx sg 0 0 0), (sg, aC yC 100 (fun _ => 0)), (nw, oDrv nc (newS 16) (lN (kL (newS 16) 0 40))), (nc, aI yI 48 (fun _ => 0)), (tr, oDrv tc (fun _ => 0) 0), (tc, aI yI 48 (fun _ => 0)), (kn, oKn 0 ex), (ex, aI yI 1681 (fun _ => 0)), (me, oMem rg 0 0), (rg, aD yD 14 (fun _ => none)), (sl, aD yD 2 (fun _ => none))] H from hP) [0, 3, 4, 9, 10, 7, 8] rfl
  have hD : va_D (fun q : Nat => s.heap.size ≤ q) [(x, oRD tx nw tr kn me sl), (nw, oDrv nc (newS 16) (lN (kL (newS 16) 0 40))), (nc, aI yI 48 (fun _ => 0)), (me, oMem rg 0 0), (rg, aD yD 14 (fun _ => none)), (kn, oKn 0 ex), (ex, aI yI 1681 (fun _ => 0))] := va_D.sub (show va_D (fun q : Nat => s.heap.size ≤ q) [(x, oRD tx nw tr kn me sl), (tx, oTx sg 0 0 0), (sg, aC yC 100 (fun _ => 0)), (nw, oDrv nc (newS 16) (lN (kL (newS 16) 0 40))), (nc, aI yI 48 (fun _ => 0)), (tr, oDrv tc (fun _ => 0) 0), (tc, aI yI 48 (fun _ => 0)), (kn, oKn 0 ex), (ex, aI yI 1681 (fun _ => 0)), (me, oMem rg 0 0), (rg, aD yD 14 (fun _ => none)), (sl, aD yD 2 (fun _ => none))] from hD) [0, 3, 4, 9, 10, 7, 8] (by decide) rfl
  refine lv_astore_n (lv' := [(1, .ref x), (0, .ref b)]) hx hb dL_law_7 rfl hl (by decide) rfl (fun ls hl => ?_)
  refine lv_bipush (v := iI 9) hx hb dL_law_8 (by decide +kernel) ?_
  refine iv_newI hx hb (hts (.arrayClass .int) (by decide +kernel)) hK hP hD hS hA 0 rfl (N' := 9) (by omega) (Nat.le_of_ble_eq_true rfl) (Nat.le_of_ble_eq_true rfl) dL_law_10 (fun qa H hP hD hS => ?_)
  have hP : va_P D vwCl [(x, oRD tx nw tr kn me sl), (nw, oDrv nc (newS 16) (lN (kL (newS 16) 0 40))), (nc, aI yI 48 (fun _ => 0)), (me, oMem rg 0 0), (rg, aD yD 14 (fun _ => none)), (kn, oKn 0 ex), (ex, aI yI 1681 (fun _ => 0)), (qa, aI yI 9 (fun _ => 0))] H := hP
  have hD : va_D (fun q : Nat => s.heap.size ≤ q) [(x, oRD tx nw tr kn me sl), (nw, oDrv nc (newS 16) (lN (kL (newS 16) 0 40))), (nc, aI yI 48 (fun _ => 0)), (me, oMem rg 0 0), (rg, aD yD 14 (fun _ => none)), (kn, oKn 0 ex), (ex, aI yI 1681 (fun _ => 0)), (qa, aI yI 9 (fun _ => 0))] := hD
  refine lv_astore_n (lv' := [(2, .ref qa), (1, .ref x), (0, .ref b)]) hx hb dL_law_12 rfl hl (by decide) rfl (fun ls hl => ?_)
  refine lv_bipush (v := iI 48) hx hb dL_law_13 (by decide +kernel) ?_
  refine iv_newI hx hb (hts (.arrayClass .int) (by decide +kernel)) hK hP hD hS hA 0 rfl (N' := 48) (by omega) (Nat.le_of_ble_eq_true rfl) (Nat.le_of_ble_eq_true rfl) dL_law_15 (fun aa H hP hD hS => ?_)
  have hP : va_P D vwCl [(x, oRD tx nw tr kn me sl), (nw, oDrv nc (newS 16) (lN (kL (newS 16) 0 40))), (nc, aI yI 48 (fun _ => 0)), (me, oMem rg 0 0), (rg, aD yD 14 (fun _ => none)), (kn, oKn 0 ex), (ex, aI yI 1681 (fun _ => 0)), (qa, aI yI 9 (fun _ => 0)), (aa, aI yI 48 (fun _ => 0))] H := hP
  have hD : va_D (fun q : Nat => s.heap.size ≤ q) [(x, oRD tx nw tr kn me sl), (nw, oDrv nc (newS 16) (lN (kL (newS 16) 0 40))), (nc, aI yI 48 (fun _ => 0)), (me, oMem rg 0 0), (rg, aD yD 14 (fun _ => none)), (kn, oKn 0 ex), (ex, aI yI 1681 (fun _ => 0)), (qa, aI yI 9 (fun _ => 0)), (aa, aI yI 48 (fun _ => 0))] := hD
  refine lv_astore_n (lv' := [(3, .ref aa), (2, .ref qa), (1, .ref x), (0, .ref b)]) hx hb dL_law_17 rfl hl (by decide) rfl (fun ls hl => ?_)
  refine lv_bipush (v := iI 16) hx hb dL_law_18 (by decide +kernel) ?_
  refine iv_newJ hx hb (hts (.arrayClass .long) (by decide +kernel)) hK hP hD hS hA 3 rfl (N' := 16) (by omega) (Nat.le_of_ble_eq_true rfl) (Nat.le_of_ble_eq_true rfl) dL_law_20 (fun sa H hP hD hS => ?_)
  have hP : va_P D vwCl [(x, oRD tx nw tr kn me sl), (nw, oDrv nc (newS 16) (lN (kL (newS 16) 0 40))), (nc, aI yI 48 (fun _ => 0)), (me, oMem rg 0 0), (rg, aD yD 14 (fun _ => none)), (kn, oKn 0 ex), (ex, aI yI 1681 (fun _ => 0)), (qa, aI yI 9 (fun _ => 0)), (aa, aI yI 48 (fun _ => 0)), (sa, aJ yL 16 (fun _ => 0))] H := hP
  have hD : va_D (fun q : Nat => s.heap.size ≤ q) [(x, oRD tx nw tr kn me sl), (nw, oDrv nc (newS 16) (lN (kL (newS 16) 0 40))), (nc, aI yI 48 (fun _ => 0)), (me, oMem rg 0 0), (rg, aD yD 14 (fun _ => none)), (kn, oKn 0 ex), (ex, aI yI 1681 (fun _ => 0)), (qa, aI yI 9 (fun _ => 0)), (aa, aI yI 48 (fun _ => 0)), (sa, aJ yL 16 (fun _ => 0))] := hD
  refine lv_astore (lv' := [(4, .ref sa), (3, .ref aa), (2, .ref qa), (1, .ref x), (0, .ref b)]) hx hb dL_law_22 hl (by decide) rfl (fun ls hl => ?_)
  refine lv_bipush (v := iI 12) hx hb dL_law_24 (by decide +kernel) ?_
  refine iv_newI hx hb (hts (.arrayClass .int) (by decide +kernel)) hK hP hD hS hA 0 rfl (N' := 12) (by omega) (Nat.le_of_ble_eq_true rfl) (Nat.le_of_ble_eq_true rfl) dL_law_26 (fun ga H hP hD hS => ?_)
  have hP : va_P D vwCl [(x, oRD tx nw tr kn me sl), (nw, oDrv nc (newS 16) (lN (kL (newS 16) 0 40))), (nc, aI yI 48 (fun _ => 0)), (me, oMem rg 0 0), (rg, aD yD 14 (fun _ => none)), (kn, oKn 0 ex), (ex, aI yI 1681 (fun _ => 0)), (qa, aI yI 9 (fun _ => 0)), (aa, aI yI 48 (fun _ => 0)), (sa, aJ yL 16 (fun _ => 0)), (ga, aI yI 12 (fun _ => 0))] H := hP
  have hD : va_D (fun q : Nat => s.heap.size ≤ q) [(x, oRD tx nw tr kn me sl), (nw, oDrv nc (newS 16) (lN (kL (newS 16) 0 40))), (nc, aI yI 48 (fun _ => 0)), (me, oMem rg 0 0), (rg, aD yD 14 (fun _ => none)), (kn, oKn 0 ex), (ex, aI yI 1681 (fun _ => 0)), (qa, aI yI 9 (fun _ => 0)), (aa, aI yI 48 (fun _ => 0)), (sa, aJ yL 16 (fun _ => 0)), (ga, aI yI 12 (fun _ => 0))] := hD
  refine lv_astore (lv' := [(5, .ref ga), (4, .ref sa), (3, .ref aa), (2, .ref qa), (1, .ref x), (0, .ref b)]) hx hb dL_law_28 hl (by decide) rfl (fun ls hl => ?_)
  refine lv_bipush (v := iI 12) hx hb dL_law_30 (by decide +kernel) ?_
  refine iv_newI hx hb (hts (.arrayClass .int) (by decide +kernel)) hK hP hD hS hA 0 rfl (N' := 12) (by omega) (Nat.le_of_ble_eq_true rfl) (Nat.le_of_ble_eq_true rfl) dL_law_32 (fun so H hP hD hS => ?_)
  have hP : va_P D vwCl [(x, oRD tx nw tr kn me sl), (nw, oDrv nc (newS 16) (lN (kL (newS 16) 0 40))), (nc, aI yI 48 (fun _ => 0)), (me, oMem rg 0 0), (rg, aD yD 14 (fun _ => none)), (kn, oKn 0 ex), (ex, aI yI 1681 (fun _ => 0)), (qa, aI yI 9 (fun _ => 0)), (aa, aI yI 48 (fun _ => 0)), (sa, aJ yL 16 (fun _ => 0)), (ga, aI yI 12 (fun _ => 0)), (so, aI yI 12 (fun _ => 0))] H := hP
  have hD : va_D (fun q : Nat => s.heap.size ≤ q) [(x, oRD tx nw tr kn me sl), (nw, oDrv nc (newS 16) (lN (kL (newS 16) 0 40))), (nc, aI yI 48 (fun _ => 0)), (me, oMem rg 0 0), (rg, aD yD 14 (fun _ => none)), (kn, oKn 0 ex), (ex, aI yI 1681 (fun _ => 0)), (qa, aI yI 9 (fun _ => 0)), (aa, aI yI 48 (fun _ => 0)), (sa, aJ yL 16 (fun _ => 0)), (ga, aI yI 12 (fun _ => 0)), (so, aI yI 12 (fun _ => 0))] := hD
  refine lv_astore (lv' := [(6, .ref so), (5, .ref ga), (4, .ref sa), (3, .ref aa), (2, .ref qa), (1, .ref x), (0, .ref b)]) hx hb dL_law_34 hl (by decide) rfl (fun ls hl => ?_)
  refine lv_aload_n hx hb dL_law_36 rfl (lv_at hl 4 rfl) ?_
  refine lv_iconst (v := iI 0) hx hb dL_law_37 (by decide +kernel) ?_
  refine lv_bipush (v := iI 8) hx hb dL_law_38 (by decide +kernel) ?_
  refine lv_aload_n hx hb dL_law_40 rfl (lv_at hl 6 rfl) ?_
  refine lv_iconst (v := iI 0) hx hb dL_law_41 (by decide +kernel) ?_
  refine iv_cell (rest := [.int (iI 8), .int (iI 0), .ref qa]) (k := 0) (n := 2) ⟨hx, hb, hml, hown, hts⟩ (c_L_cell l b L xs (0) (by omega)) (va_cwS 2 hts gL_law_L_cell rfl rfl rfl (by decide +kernel) ⟨Nat.le_of_ble_eq_true rfl, Nat.le_of_ble_eq_true rfl⟩) hX hbl hbA hS rfl hl.1 rfl (Nat.le_of_ble_eq_true rfl) dL_law_42 ⟨(by show _ ≤ (600130 : Nat); omega), (by show _ ≤ (7301079 : Nat); omega)⟩ ?_
  refine lv_iconst (v := iI 2) hx hb dL_law_45 (by decide +kernel) ?_
  refine iv_roS (As := [.int (iI (cellV L xs 0)), .int (iI 2)]) (rest := [.int (iI 8), .int (iI 0), .ref qa]) (n := 2) ⟨hx, hb, hml, hown, hts⟩ (c_L_low l D yI yC yD yL (cellV L xs 0) 2 (by omega)) (va_cwS 2 hts gL_law_L_low rfl rfl rfl (by decide +kernel) ⟨Nat.le_of_ble_eq_true rfl, Nat.le_of_ble_eq_true rfl⟩) hK hP [] rfl rfl hl.1 rfl (Nat.le_of_ble_eq_true rfl) dL_law_46 ⟨Nat.le_of_ble_eq_true rfl, Nat.le_of_ble_eq_true rfl⟩ ?_
  refine iv_add hx hb dL_law_49 ?_
  obtain ⟨pn, hpn⟩ : ∃ nv_, nv_ = (8 + (lowV (cellV L xs 0) 2)) := ⟨_, rfl⟩
  rw [← hpn]
  have hp : 8 ≤ pn ∧ pn ≤ 9 := by have := lowV_r (v := cellV L xs 0) (n := 2) (by omega); omega
  refine iv_ast hx hb hK hP hD hS 7 0 rfl rfl (z := 0) (v := pn) (by omega) (by omega) (by omega) dL_law_50 (fun H locs hP hD hS => ?_)
  have hP : va_P D vwCl [(x, oRD tx nw tr kn me sl), (nw, oDrv nc (newS 16) (lN (kL (newS 16) 0 40))), (nc, aI yI 48 (fun _ => 0)), (me, oMem rg 0 0), (rg, aD yD 14 (fun _ => none)), (kn, oKn 0 ex), (ex, aI yI 1681 (fun _ => 0)), (qa, aI yI 9 (up (fun _ => 0) 0 pn)), (aa, aI yI 48 (fun _ => 0)), (sa, aJ yL 16 (fun _ => 0)), (ga, aI yI 12 (fun _ => 0)), (so, aI yI 12 (fun _ => 0))] H := hP
  have hD : va_D (fun q : Nat => s.heap.size ≤ q) [(x, oRD tx nw tr kn me sl), (nw, oDrv nc (newS 16) (lN (kL (newS 16) 0 40))), (nc, aI yI 48 (fun _ => 0)), (me, oMem rg 0 0), (rg, aD yD 14 (fun _ => none)), (kn, oKn 0 ex), (ex, aI yI 1681 (fun _ => 0)), (qa, aI yI 9 (up (fun _ => 0) 0 pn)), (aa, aI yI 48 (fun _ => 0)), (sa, aJ yL 16 (fun _ => 0)), (ga, aI yI 12 (fun _ => 0)), (so, aI yI 12 (fun _ => 0))] := hD
  refine lv_aload_n hx hb dL_law_51 rfl (lv_at hl 4 rfl) ?_
  refine lv_iconst (v := iI 1) hx hb dL_law_52 (by decide +kernel) ?_
  refine lv_iconst (v := iI 3) hx hb dL_law_53 (by decide +kernel) ?_
  refine iv_ast hx hb hK hP hD hS 7 0 rfl rfl (z := 1) (v := 3) (by omega) (by omega) (by omega) dL_law_54 (fun H locs hP hD hS => ?_)
  have hP : va_P D vwCl [(x, oRD tx nw tr kn me sl), (nw, oDrv nc (newS 16) (lN (kL (newS 16) 0 40))), (nc, aI yI 48 (fun _ => 0)), (me, oMem rg 0 0), (rg, aD yD 14 (fun _ => none)), (kn, oKn 0 ex), (ex, aI yI 1681 (fun _ => 0)), (qa, aI yI 9 (up (up (fun _ => 0) 0 pn) 1 3)), (aa, aI yI 48 (fun _ => 0)), (sa, aJ yL 16 (fun _ => 0)), (ga, aI yI 12 (fun _ => 0)), (so, aI yI 12 (fun _ => 0))] H := hP
  have hD : va_D (fun q : Nat => s.heap.size ≤ q) [(x, oRD tx nw tr kn me sl), (nw, oDrv nc (newS 16) (lN (kL (newS 16) 0 40))), (nc, aI yI 48 (fun _ => 0)), (me, oMem rg 0 0), (rg, aD yD 14 (fun _ => none)), (kn, oKn 0 ex), (ex, aI yI 1681 (fun _ => 0)), (qa, aI yI 9 (up (up (fun _ => 0) 0 pn) 1 3)), (aa, aI yI 48 (fun _ => 0)), (sa, aJ yL 16 (fun _ => 0)), (ga, aI yI 12 (fun _ => 0)), (so, aI yI 12 (fun _ => 0))] := hD
  refine lv_aload_n hx hb dL_law_55 rfl (lv_at hl 4 rfl) ?_
  refine lv_iconst (v := iI 2) hx hb dL_law_56 (by decide +kernel) ?_
  refine lv_iconst (v := iI 2) hx hb dL_law_57 (by decide +kernel) ?_
  refine iv_ast hx hb hK hP hD hS 7 0 rfl rfl (z := 2) (v := 2) (by omega) (by omega) (by omega) dL_law_58 (fun H locs hP hD hS => ?_)
  have hP : va_P D vwCl [(x, oRD tx nw tr kn me sl), (nw, oDrv nc (newS 16) (lN (kL (newS 16) 0 40))), (nc, aI yI 48 (fun _ => 0)), (me, oMem rg 0 0), (rg, aD yD 14 (fun _ => none)), (kn, oKn 0 ex), (ex, aI yI 1681 (fun _ => 0)), (qa, aI yI 9 (up (up (up (fun _ => 0) 0 pn) 1 3) 2 2)), (aa, aI yI 48 (fun _ => 0)), (sa, aJ yL 16 (fun _ => 0)), (ga, aI yI 12 (fun _ => 0)), (so, aI yI 12 (fun _ => 0))] H := hP
  have hD : va_D (fun q : Nat => s.heap.size ≤ q) [(x, oRD tx nw tr kn me sl), (nw, oDrv nc (newS 16) (lN (kL (newS 16) 0 40))), (nc, aI yI 48 (fun _ => 0)), (me, oMem rg 0 0), (rg, aD yD 14 (fun _ => none)), (kn, oKn 0 ex), (ex, aI yI 1681 (fun _ => 0)), (qa, aI yI 9 (up (up (up (fun _ => 0) 0 pn) 1 3) 2 2)), (aa, aI yI 48 (fun _ => 0)), (sa, aJ yL 16 (fun _ => 0)), (ga, aI yI 12 (fun _ => 0)), (so, aI yI 12 (fun _ => 0))] := hD
  refine lv_aload_n hx hb dL_law_59 rfl (lv_at hl 4 rfl) ?_
  refine lv_iconst (v := iI 3) hx hb dL_law_60 (by decide +kernel) ?_
  refine lv_iconst (v := iI 1) hx hb dL_law_61 (by decide +kernel) ?_
  refine iv_ast hx hb hK hP hD hS 7 0 rfl rfl (z := 3) (v := 1) (by omega) (by omega) (by omega) dL_law_62 (fun H locs hP hD hS => ?_)
  have hP : va_P D vwCl [(x, oRD tx nw tr kn me sl), (nw, oDrv nc (newS 16) (lN (kL (newS 16) 0 40))), (nc, aI yI 48 (fun _ => 0)), (me, oMem rg 0 0), (rg, aD yD 14 (fun _ => none)), (kn, oKn 0 ex), (ex, aI yI 1681 (fun _ => 0)), (qa, aI yI 9 (up (up (up (up (fun _ => 0) 0 pn) 1 3) 2 2) 3 1)), (aa, aI yI 48 (fun _ => 0)), (sa, aJ yL 16 (fun _ => 0)), (ga, aI yI 12 (fun _ => 0)), (so, aI yI 12 (fun _ => 0))] H := hP
  have hD : va_D (fun q : Nat => s.heap.size ≤ q) [(x, oRD tx nw tr kn me sl), (nw, oDrv nc (newS 16) (lN (kL (newS 16) 0 40))), (nc, aI yI 48 (fun _ => 0)), (me, oMem rg 0 0), (rg, aD yD 14 (fun _ => none)), (kn, oKn 0 ex), (ex, aI yI 1681 (fun _ => 0)), (qa, aI yI 9 (up (up (up (up (fun _ => 0) 0 pn) 1 3) 2 2) 3 1)), (aa, aI yI 48 (fun _ => 0)), (sa, aJ yL 16 (fun _ => 0)), (ga, aI yI 12 (fun _ => 0)), (so, aI yI 12 (fun _ => 0))] := hD
  refine lv_aload_n hx hb dL_law_63 rfl (lv_at hl 4 rfl) ?_
  refine lv_bipush (v := iI 8) hx hb dL_law_64 (by decide +kernel) ?_
  refine lv_aload_n hx hb dL_law_66 rfl (lv_at hl 6 rfl) ?_
  refine lv_iconst (v := iI 1) hx hb dL_law_67 (by decide +kernel) ?_
  refine iv_cell (rest := [.int (iI 8), .ref qa]) (k := 1) (n := 2) ⟨hx, hb, hml, hown, hts⟩ (c_L_cell l b L xs (1) (by omega)) (va_cwS 2 hts gL_law_L_cell rfl rfl rfl (by decide +kernel) ⟨Nat.le_of_ble_eq_true rfl, Nat.le_of_ble_eq_true rfl⟩) hX hbl hbA hS rfl hl.1 rfl (Nat.le_of_ble_eq_true rfl) dL_law_68 ⟨(by show _ ≤ (600130 : Nat); omega), (by show _ ≤ (7301079 : Nat); omega)⟩ ?_
  refine lv_iconst (v := iI 1) hx hb dL_law_71 (by decide +kernel) ?_
  refine lv_aload_n hx hb dL_law_72 rfl (lv_at hl 4 rfl) ?_
  refine lv_iconst (v := iI 0) hx hb dL_law_73 (by decide +kernel) ?_
  refine iv_aldE hx hb hK hP 7 0 rfl rfl (z := 0) (w := pn) (by first | exact qS_n (by omega) | exact up_s | rfl) (by omega) (by omega) (by omega) dL_law_74 ?_
  refine lv_ishl hx hb dL_law_75 ?_
  rw [isl_i 1 pn]
  refine lv_iconst (v := iI 1) hx hb dL_law_76 (by decide +kernel) ?_
  refine iv_sub hx hb dL_law_77 ?_
  refine lv_iand hx hb dL_law_78 ?_
  rw [ia_i (cellV L xs 1) (isl 1 pn - 1)]
  obtain ⟨m8, hm, hm8⟩ := ia_mask (cellV L xs 1) (k := pn.toNat) (by omega)
  rw [show (ia (cellV L xs 1) (isl 1 pn - 1) : Int) = (m8 : Int) from (by rw [isl_1 (by omega)]; exact hm8)]
  refine iv_ast hx hb hK hP hD hS 7 0 rfl rfl (z := 8) (v := (m8 : Int)) (by omega) (by omega) (by omega) dL_law_79 (fun H locs hP hD hS => ?_)
  have hP : va_P D vwCl [(x, oRD tx nw tr kn me sl), (nw, oDrv nc (newS 16) (lN (kL (newS 16) 0 40))), (nc, aI yI 48 (fun _ => 0)), (me, oMem rg 0 0), (rg, aD yD 14 (fun _ => none)), (kn, oKn 0 ex), (ex, aI yI 1681 (fun _ => 0)), (qa, aI yI 9 (up (up (up (up (up (fun _ => 0) 0 pn) 1 3) 2 2) 3 1) 8 (m8 : Int))), (aa, aI yI 48 (fun _ => 0)), (sa, aJ yL 16 (fun _ => 0)), (ga, aI yI 12 (fun _ => 0)), (so, aI yI 12 (fun _ => 0))] H := hP
  have hD : va_D (fun q : Nat => s.heap.size ≤ q) [(x, oRD tx nw tr kn me sl), (nw, oDrv nc (newS 16) (lN (kL (newS 16) 0 40))), (nc, aI yI 48 (fun _ => 0)), (me, oMem rg 0 0), (rg, aD yD 14 (fun _ => none)), (kn, oKn 0 ex), (ex, aI yI 1681 (fun _ => 0)), (qa, aI yI 9 (up (up (up (up (up (fun _ => 0) 0 pn) 1 3) 2 2) 3 1) 8 (m8 : Int))), (aa, aI yI 48 (fun _ => 0)), (sa, aJ yL 16 (fun _ => 0)), (ga, aI yI 12 (fun _ => 0)), (so, aI yI 12 (fun _ => 0))] := hD
  have hP := va_P.arr hP 7 (g := q0F pn m8) rfl q0_all
  have hD : va_D (fun q : Nat => s.heap.size ≤ q) [(x, oRD tx nw tr kn me sl), (nw, oDrv nc (newS 16) (lN (kL (newS 16) 0 40))), (nc, aI yI 48 (fun _ => 0)), (me, oMem rg 0 0), (rg, aD yD 14 (fun _ => none)), (kn, oKn 0 ex), (ex, aI yI 1681 (fun _ => 0)), (qa, aI yI 9 (q0F pn m8)), (aa, aI yI 48 (fun _ => 0)), (sa, aJ yL 16 (fun _ => 0)), (ga, aI yI 12 (fun _ => 0)), (so, aI yI 12 (fun _ => 0))] := hD.set (p := 7) rfl
  have hP9 : va_P D vwCl ([(x, oRD tx nw tr kn me sl), (nw, oDrv nc (newS 16) (lN (kL (newS 16) 0 40))), (nc, aI yI 48 (fun _ => 0)), (me, oMem rg 0 0), (rg, aD yD 14 (fun _ => none)), (kn, oKn 0 ex), (ex, aI yI 1681 (fun _ => 0)), (qa, aI yI 9 (q0F pn m8)), (aa, aI yI 48 (fun _ => 0)), (sa, aJ yL 16 (fun _ => 0)), (ga, aI yI 12 (fun _ => 0)), (so, aI yI 12 (fun _ => 0))] ++ plE yI (fun _ => none) 16) H := by rw [plE_0, List.append_nil]; exact hP
  have hD9 : va_D (fun q : Nat => s.heap.size ≤ q) ([(x, oRD tx nw tr kn me sl), (nw, oDrv nc (newS 16) (lN (kL (newS 16) 0 40))), (nc, aI yI 48 (fun _ => 0)), (me, oMem rg 0 0), (rg, aD yD 14 (fun _ => none)), (kn, oKn 0 ex), (ex, aI yI 1681 (fun _ => 0)), (qa, aI yI 9 (q0F pn m8)), (aa, aI yI 48 (fun _ => 0)), (sa, aJ yL 16 (fun _ => 0)), (ga, aI yI 12 (fun _ => 0)), (so, aI yI 12 (fun _ => 0))] ++ plE yI (fun _ => none) 16) := by rw [plE_0, List.append_nil]; exact hD
  have hLI : LIR D yI yC yD yL s (fun q : Nat => s.heap.size ≤ q) b pn m8 H locs ls := by
    refine ⟨x, tx, nw, tr, kn, me, sl, nc, ex, rg, qa, aa, sa, ga, so, (newS 16), (fun _ => 0), (fun _ => 0), (fun _ => 0), (fun _ => 0), (fun _ => 0), 0, 0, 0, (fun _ => 0), (fun _ => none), (fun _ => none), (fun _ => none), ?_⟩
    exact ⟨hP9, hD9, hS, lv_sub hl [6, 5, 4, 3, 2, 1, 0] rfl, inv_newS (by omega), rc_new, by omega, ⟨fun j hj => rfl, fun j hj => rfl⟩, rfl⟩
  refine W.widen (k := 18) (n := 2050) (Nat.le_of_ble_eq_true rfl) (Nat.le_of_ble_eq_true rfl) ?_
  refine lq_rsz l hla C0 D yI yC yD yL hK (fun q : Nat => s.heap.size ≤ q) hA hB ⟨by omega, by omega⟩ hp hLI (fun H locs ls h => ?_)
  refine W.widen (k := 26 + 8 * 0) (n := 2200 + 150 * 0) (Nat.le_of_ble_eq_true rfl) (Nat.le_of_ble_eq_true rfl) ?_
  exact init_loop l hla hL C0 D yI yC yD yL hK hB hp hm pn.toNat 0 (by omega) H locs ls h
