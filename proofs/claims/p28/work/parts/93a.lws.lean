theorem xstr_in : ∀ q ∈ xstr, Cond.stringRef RX4 q.1 q.2 ∈ lw_tbl := by decide +kernel
theorem ra_long {s : State} {a b : ClassId} (h1 : va_RA s a .long) (h2 : va_RA s b .long) : a = b := Option.some.inj (h1.symm.trans h2)
section NEWL
variable {p : Program} {l : Launch} {e : Env} {R : Room} {s : State} {m : MethodId} {args : Array Value} {below : List Frame} {meth : Method} {c : Code} {H H0 : Heap} {locs : List Loc} {cells slots : Nat} {Q : State → Prop}
variable {cc : ByteArray} {pc : Nat} {ls : Array Slot} {rest : List Value} {D : va_G} {cl : List vw_C} {tys : List (ClassId × FieldType)} {ws : va_W} {A : Nat → Prop}
theorem iv_newJ (hx : p.tables.exec = Jvm.exec) (hb : c.code = cc) (harr : (Cond.arrayClass .long).before args s = true) (hK : va_K D cl tys s) (hP : va_P D cl ws H) (hD : va_D A ws) (hS : va_S A H0 H locs) (hA : ∀ q, H0.size ≤ q → A q) (t0 : Nat) {yL : ClassId} (ht : tys[t0]? = some (yL, .long)) {z : Int} {N' : Nat} (hz : z = N' ∧ N' < 100000) (hcells : cells + 1 ≤ R.cells) (hslots : slots + N' ≤ R.slots) (hdg : decode cc pc = .ok (.newarray .long, 2))
    (kk : ∀ (q : Nat) (H1 : Heap), va_P D cl (ws ++ [(q, aJ yL N' (fun _ => 0))]) H1 → va_D A (ws ++ [(q, aJ yL N' (fun _ => 0))]) → va_S A H0 H1 locs → W p l e R s m args below meth c H1 locs (cells + 1) (slots + N') Q (F0 m (pc + 2) ls (.ref q :: rest))) : W p l e R s m args below meth c H locs cells slots Q (F0 m pc ls (.int (iI z) :: rest)) := by
  have hzi : (iI z).toInt = z := iI_toInt (by omega)
  refine va_newa (atype := .long) (ty := .long) (N' := N') (a0 := (N', .inr (.inl (fun _ => (0 : Int64))))) hx hb harr rfl hK hP hD hS hA (fun cA => rfl) (fun q => by rw [Int32.lt_iff_toInt_lt, hzi] at q; have : (0 : Int32).toInt = 0 := (by decide +kernel); omega) (by rw [iI_cl (by omega)]; omega) (by show N' * 8 ≤ _; omega) hcells hslots hdg (fun q cA H1 hK1 hP1 hD1 hS1 => ?_)
  have e9 := ra_long hK1.last (hK.2 t0 _ ht).2
  subst e9
  exact kk q H1 hP1 hD1 hS1
end NEWL
theorem lw_K {p : Program} {s : State} {m : MethodId} {meth : Method} {c : Code} {b L : Nat} {xs : Nat → Int32} (C0 : lw_At p s m meth c b L xs) : ∃ (D : va_G) (yI yC yD yL : ClassId), va_K D vwCl (tyl yI yC yD yL) s := by
  obtain ⟨hx, hb, hr, hml, hown, hts, hX, hbl, hlocks, hgv⟩ := C0
  obtain ⟨c0, i0, hKn0⟩ := u_known (C := RX0) (T := TX0) (N := 10) (n := 10) hts inX0 (hts (.instantiable RX0 10) (by decide +kernel))
  obtain ⟨c1, i1, hKn1⟩ := u_known (C := RX1) (T := TX1) (N := 2) (n := 2) hts inX1 (hts (.instantiable RX1 2) (by decide +kernel))
  obtain ⟨c2, i2, hKn2⟩ := u_known (C := RX2) (T := TX2) (N := 3) (n := 3) hts inX2 (hts (.instantiable RX2 3) (by decide +kernel))
  obtain ⟨c3, i3, hKn3⟩ := u_known (C := RX3) (T := TX3) (N := 4) (n := 4) hts inX3 (hts (.instantiable RX3 4) (by decide +kernel))
  obtain ⟨c4, i4, hKn4⟩ := u_known (C := RX4) (T := TX4) (N := 6) (n := 6) hts inX4 (hts (.instantiable RX4 6) (by decide +kernel))
  obtain ⟨yI, kI, pI, hI1, hI2, hI3⟩ := Cond.arrayClass_spec (hts (.arrayClass .int) (by decide +kernel))
  obtain ⟨yC, kC, pC, hC1, hC2, hC3⟩ := Cond.arrayClass_spec (hts (.arrayClass .char) (by decide +kernel))
  obtain ⟨yL, kL, pL, hL1, hL2, hL3⟩ := Cond.arrayClass_spec (hts (.arrayClass .long) (by decide +kernel))
  obtain ⟨pD, yD, kD, hD1, -, hD2, hD3, hD4⟩ := Cond.arrayOver_spec (hts (.arrayOver (.object RX0)) (by decide +kernel))
  refine ⟨(fun k => if k = 0 then c0 else if k = 1 then c1 else if k = 2 then c2 else if k = 3 then c3 else c4, fun k => if k = 0 then i0 else if k = 1 then i1 else if k = 2 then i2 else if k = 3 then i3 else i4), yI, yC, yD, yL, fun k q hq => ?_, fun k q hq => ?_⟩
  · match k, hq with
    | 0, hq => cases hq; exact hKn0
    | 1, hq => cases hq; exact hKn1
    | 2, hq => cases hq; exact hKn2
    | 3, hq => cases hq; exact hKn3
    | 4, hq => cases hq; exact hKn4
    | k + 5, hq => simp at hq
  · match k, hq with
    | 0, hq => cases hq; exact ⟨fun n z => ⟨fun k h => (by cases h), kI, hI2, pI, hI3⟩, hI1⟩
    | 1, hq => cases hq; exact ⟨fun n z => ⟨fun k h => (by cases h), kC, hC2, pC, hC3⟩, hC1⟩
    | 2, hq => cases hq; exact ⟨fun n z => ⟨fun k h => (by cases h), kD, hD2, pD, hD3⟩, ⟨kD, pD, hD2, hD3, hD1, hD4⟩⟩
    | 3, hq => cases hq; exact ⟨fun n z => ⟨fun k h => (by cases h), kL, hL2, pL, hL3⟩, hL1⟩
    | k + 4, hq => simp at hq
theorem lw_XB {p : Program} {s : State} {m : MethodId} {meth : Method} {c : Code} {b L : Nat} {xs : Nat → Int32} (C0 : lw_At p s m meth c b L xs) {D : va_G} {tys : List (ClassId × FieldType)} (hK : va_K D vwCl tys s) : XB (fun q : Nat => s.heap.size ≤ q) s s.heap := by
  obtain ⟨hx, hb, hr, hml, hown, hts, hX, hbl, hlocks, hgv⟩ := C0
  have hs := flat_of_before _ hgv
  have hcur : s.vm.findClass RX4 = some (D.1 4) := (hK.1 4 (RX4, TX4, 6) rfl).2.1
  have hnA : ∀ a : Nat, a < s.heap.size → ¬ (fun q : Nat => s.heap.size ≤ q) a := fun a h => Nat.not_le.mpr h
  refine ⟨⟨va_Nw.of rfl (hts (.castable eA eA) (by decide +kernel)), va_Nw.of rfl (hts (.castable eS eS) (by decide +kernel)), va_Nw.of rfl (hts (.castable eI eI) (by decide +kernel))⟩, ⟨va_Nc.of (hs (.not (.castable eA eS)) (by decide +kernel)), va_Nc.of (hs (.not (.castable eA eI)) (by decide +kernel)), va_Nc.of (hs (.not (.castable eS eA)) (by decide +kernel)), va_Nc.of (hs (.not (.castable eS eI)) (by decide +kernel)), va_Nc.of (hs (.not (.castable eI eA)) (by decide +kernel)), va_Nc.of (hs (.not (.castable eI eS)) (by decide +kernel))⟩, ⟨vx_Zqof (hts (.laysStatic Bundle.tN "UNASSIGNED_STACK" Bundle.steD) (by decide +kernel)) (hts (.initialized Bundle.tN) (by decide +kernel)) (hs (.isRef (.static Bundle.tN "UNASSIGNED_STACK" Bundle.steD)) (by decide +kernel)) hnA, vx_Zqof (hts (.laysStatic Bundle.tN "SUPPRESSED_SENTINEL" Bundle.listD) (by decide +kernel)) (hts (.initialized Bundle.tN) (by decide +kernel)) (hs (.isRef (.static Bundle.tN "SUPPRESSED_SENTINEL" Bundle.listD)) (by decide +kernel)) hnA⟩, fun q hq => ?_, ⟨va_Nw.of rfl (hts (.declares (Bundle.initS "java/lang/RuntimeException")) (by decide +kernel)), va_Nw.of rfl (hts (.declares (Bundle.initS "java/lang/Exception")) (by decide +kernel)), va_Nw.of rfl (hts (.declares (Bundle.initS Bundle.tN)) (by decide +kernel))⟩, ⟨va_Nw.of rfl (hts (.methodLinkNest RX4 9 yX3_init "RiddleDrive") (by decide +kernel)), va_Nw.of rfl (hts (.methodLinkNest RX4 18 yX0_init "RiddleDrive") (by decide +kernel)), va_Nw.of rfl (hts (.methodLinkNest RX4 28 yX1_init "RiddleDrive") (by decide +kernel)), va_Nw.of rfl (hts (.methodLinkNest RX4 35 yX2_init "RiddleDrive") (by decide +kernel)), va_Nw.of rfl (hts (.methodLinkNest RX2 24 yX0_init "RiddleDrive") (by decide +kernel)), va_AO.of (hts (.arrayOver (.object RX0)) (by decide +kernel))⟩⟩
  have h1 : (Cond.stringRef RX4 q.1 q.2).before #[Value.ref b] s = true := hts _ (xstr_in q hq)
  obtain ⟨k, cf, j, a, hk, -, -, -, hr9, hev⟩ := Cond.stringRef_spec hcur h1
  exact ⟨a, vk_R.of h1 hev⟩
