set_option maxHeartbeats 4000000 in
set_option maxRecDepth 100000 in
theorem c_L_low (l : Launch) (D : va_G) (yI yC yD yL : ClassId) (v : Int) (n9 : Int) (hn : 0 < n9 ∧ n9 ≤ 100) : Met l yL_low wsL_low ({ frames := 0, cells := 0, slots := 0, locals := 0 }) (roP [.int (iI v), .int (iI n9)] D (tyl yI yC yD yL) []) (QcRead (iI (lowV v n9))) 0 0 (fun _ => False) := by
  refine Met.ofW (cc := cL_low) (maxL := 2) (ret := (some .int)) (by decide) rfl ?_
  intro p e s m args below meth c s₁ B hml hv
  obtain ⟨rfl, hP, hK⟩ := hv
  have hx := B.exec
  have hb := B.bytes
  have hr := B.returns
  have hts := atoms_spec (ws := wsL_low) B.pre
  have hown : s.vm.findClass RL = some m.cls := findClass_of_methodNamed B.named
  have hlocks := B.notSynchronized
  have hP : va_P D vwCl [] s.heap := hP
  have hKz : va_K D vwCl (tyz yI yC yD) s := hK.sub [0, 1, 2] rfl
  have hl := lv_entry ([.int (iI v), .int (iI n9)]) (n := 2) (Nat.le_of_ble_eq_true rfl)
  rw [lg_entry_eq]
  generalize (lg_sl ([.int (iI v), .int (iI n9)]) ++ List.replicate (2 - (lg_sl ([.int (iI v), .int (iI n9)])).length) Slot.unset).toArray = ls at hl ⊢
  have hl : lv_has ls 2 [(0, .int (iI v)), (1, .int (iI n9))] := hl
  have b1 := ia_nn v
  refine lv_iload_n hx hb dL_low_0 rfl (lv_at hl 0 rfl) ?_
  refine lv_ldc (v := iI 2147483647) hx hb hown (hts (.constant RL 9 (2147483647)) (by decide +kernel)) dL_low_1 ?_
  refine lv_iand hx hb dL_low_3 ?_
  rw [ia_i v 2147483647]
  refine lv_iload_n hx hb dL_low_4 rfl (lv_at hl 1 rfl) ?_
  refine iv_rem hx hb (by omega) (by omega) (by omega) (by omega) dL_low_5 ?_
  exact W.iret hx hb hr (fun t ht hW => ⟨congrArg (fun z => Outcome.returned (some (Value.int (iI z)))) (show (ia v 2147483647) % n9 = lowV v n9 by rfl), ht⟩) (fun q h => by cases h) dL_low_6
set_option maxHeartbeats 4000000 in
set_option maxRecDepth 100000 in
theorem c_L_bits (l : Launch) (D : va_G) (yI yC yD yL : ClassId) (v : Int) (hv : 0 ≤ v ∧ v < 1024) : Met l yL_bits wsL_bits ({ frames := 0, cells := 0, slots := 0, locals := 0 }) (roP [.int (iI v)] D (tyl yI yC yD yL) []) (QcRead (iI ((popc 10 v.toNat : Nat) : Int))) 0 0 (fun _ => False) := by
  refine Met.ofW (cc := cL_bits) (maxL := 3) (ret := (some .int)) (by decide) rfl ?_
  intro p e s m args below meth c s₁ B hml hv
  obtain ⟨rfl, hP, hK⟩ := hv
  have hx := B.exec
  have hb := B.bytes
  have hr := B.returns
  have hts := atoms_spec (ws := wsL_bits) B.pre
  have hown : s.vm.findClass RL = some m.cls := findClass_of_methodNamed B.named
  have hlocks := B.notSynchronized
  have hP : va_P D vwCl [] s.heap := hP
  have hKz : va_K D vwCl (tyz yI yC yD) s := hK.sub [0, 1, 2] rfl
  have hl := lv_entry ([.int (iI v)]) (n := 3) (Nat.le_of_ble_eq_true rfl)
  rw [lg_entry_eq]
  generalize (lg_sl ([.int (iI v)]) ++ List.replicate (3 - (lg_sl ([.int (iI v)])).length) Slot.unset).toArray = ls at hl ⊢
  have hl : lv_has ls 3 [(0, .int (iI v))] := hl
  refine lv_iconst (v := iI 0) hx hb dL_bits_0 (by decide +kernel) ?_
  refine lv_istore_n (lv' := [(1, .int (iI 0)), (0, .int (iI v))]) hx hb dL_bits_1 rfl hl (by decide) rfl (fun ls hl => ?_)
  refine lv_iconst (v := iI 0) hx hb dL_bits_2 (by decide +kernel) ?_
  refine lv_istore_n (lv' := [(2, .int (iI 0)), (1, .int (iI 0)), (0, .int (iI v))]) hx hb dL_bits_3 rfl hl (by decide) rfl (fun ls hl => ?_)
  refine iv_loopR (I := fun (qq : Nat × Int × Int) ls => match qq with | (n, x1, x2) => ((n : Int) ≤ 10) ∧ (x2 = n) ∧ (x1 = ((popc n v.toNat : Nat) : Int)) ∧ lv_has ls 3 [(2, .int (iI x2)), (1, .int (iI x1)), (0, .int (iI v))]) (μ := fun (qq : Nat × Int × Int) => match qq with | (n, x1, x2) => 10 - n) (0, 0, 0) ?_ ?_
  · exact ⟨by omega, by omega, rfl, lv_sub hl [0, 1, 2] rfl⟩
  · intro qq ls hI ih4
    obtain ⟨n, x1, x2⟩ := qq
    obtain ⟨hn, h2, h1, hl⟩ := hI
    refine lv_iload_n hx hb dL_bits_4 rfl (lv_at hl 0 rfl) ?_
    refine lv_bipush (v := iI 10) hx hb dL_bits_5 (by decide +kernel) ?_
    refine iv_icmp_ge (a := x2) (b := 10) (tgt := 24) hx hb (by omega) (by omega) dL_bits_7 (by decide) (fun c7 => ?_) (fun c7 => ?_)
    · refine lv_iload_n hx hb dL_bits_24 rfl (lv_at hl 1 rfl) ?_
      exact W.iret hx hb hr (fun t ht hW => ⟨congrArg (fun z => Outcome.returned (some (Value.int (iI z)))) (show x1 = ((popc 10 v.toNat : Nat) : Int) by rw [h1, show n = 10 by omega]), ht⟩) (fun q h => by cases h) dL_bits_25
    · refine lv_iload_n hx hb dL_bits_10 rfl (lv_at hl 1 rfl) ?_
      refine lv_iload_n hx hb dL_bits_11 rfl (lv_at hl 2 rfl) ?_
      refine lv_iload_n hx hb dL_bits_12 rfl (lv_at hl 0 rfl) ?_
      refine lv_ishr hx hb dL_bits_13 ?_
      rw [isr_i v x2]
      refine lv_iconst (v := iI 1) hx hb dL_bits_14 (by decide +kernel) ?_
      refine lv_iand hx hb dL_bits_15 ?_
      rw [ia_i (isr v x2) 1]
      refine iv_add hx hb dL_bits_16 ?_
      refine lv_istore_n (lv' := [(1, .int (iI (x1 + (ia (isr v x2) 1)))), (2, .int (iI x2)), (0, .int (iI v))]) hx hb dL_bits_17 rfl hl (by decide) rfl (fun ls hl => ?_)
      refine iv_inc (lv' := [(2, .int (iI (x2 + 1))), (1, .int (iI (x1 + (ia (isr v x2) 1)))), (0, .int (iI v))]) hx hb dL_bits_18 hl (k := 1) rfl (by decide) rfl (fun ls hl => ?_)
      refine lv_goto (tgt := 4) hx hb dL_bits_21 (by decide) ?_
      refine ih4 (n + 1, x1 + (ia (isr v x2) 1), x2 + 1) (by show (10 - (n + 1) : Nat) < 10 - n; omega) ?_
      exact ⟨by omega, by omega, by subst h2; rw [h1, bit_e hv (by omega), popc_1, Int.natCast_add], lv_sub hl [0, 1, 2] rfl⟩
set_option maxHeartbeats 4000000 in
set_option maxRecDepth 100000 in
theorem c_L_in (l : Launch) (D : va_G) (yI yC yD yL : ClassId) (z : Int) (a : Int) (b : Int) (hz : 0 ≤ z ∧ z < 1024) (hab : 0 ≤ a ∧ a ≤ b ∧ b < 10) : Met l yL_in wsL_in ({ frames := 1, cells := 0, slots := 0, locals := 22 }) (roP [.int (iI z), .int (iI a), .int (iI b)] D (tyl yI yC yD yL) []) (QcRead (iI (inL z.toNat a b))) 0 0 (fun _ => False) := by
  refine Met.ofW (cc := cL_in) (maxL := 3) (ret := (some .int)) (by decide) rfl ?_
  intro p e s m args below meth c s₁ B hml hv
  obtain ⟨rfl, hP, hK⟩ := hv
  have hx := B.exec
  have hb := B.bytes
  have hr := B.returns
  have hts := atoms_spec (ws := wsL_in) B.pre
  have hown : s.vm.findClass RL = some m.cls := findClass_of_methodNamed B.named
  have hlocks := B.notSynchronized
  have hP : va_P D vwCl [] s.heap := hP
  have hKz : va_K D vwCl (tyz yI yC yD) s := hK.sub [0, 1, 2] rfl
  have hl := lv_entry ([.int (iI z), .int (iI a), .int (iI b)]) (n := 3) (Nat.le_of_ble_eq_true rfl)
  rw [lg_entry_eq]
  generalize (lg_sl ([.int (iI z), .int (iI a), .int (iI b)]) ++ List.replicate (3 - (lg_sl ([.int (iI z), .int (iI a), .int (iI b)])).length) Slot.unset).toArray = ls at hl ⊢
  have hl : lv_has ls 3 [(0, .int (iI z)), (1, .int (iI a)), (2, .int (iI b))] := hl
  refine lv_iload_n hx hb dL_in_0 rfl (lv_at hl 0 rfl) ?_
  refine lv_iload_n hx hb dL_in_1 rfl (lv_at hl 1 rfl) ?_
  refine lv_ishr hx hb dL_in_2 ?_
  rw [isr_i z a]
  refine lv_iconst (v := iI 1) hx hb dL_in_3 (by decide +kernel) ?_
  refine lv_iload_n hx hb dL_in_4 rfl (lv_at hl 2 rfl) ?_
  refine lv_iload_n hx hb dL_in_5 rfl (lv_at hl 1 rfl) ?_
  refine iv_sub hx hb dL_in_6 ?_
  refine lv_iconst (v := iI 1) hx hb dL_in_7 (by decide +kernel) ?_
  refine iv_add hx hb dL_in_8 ?_
  refine lv_ishl hx hb dL_in_9 ?_
  rw [isl_i 1 (b - a + 1)]
  refine lv_iconst (v := iI 1) hx hb dL_in_10 (by decide +kernel) ?_
  refine iv_sub hx hb dL_in_11 ?_
  refine lv_iand hx hb dL_in_12 ?_
  rw [ia_i (isr z a) (isl 1 (b - a + 1) - 1)]
  rw [show (ia (isr z a) (isl 1 (b - a + 1) - 1) : Int) = ((z.toNat / 2 ^ a.toNat % 2 ^ (b - a + 1).toNat : Nat) : Int) from (by have h := in_e (L := z.toNat) (a := a) (b := b) (by omega) hab; rw [Int.toNat_of_nonneg hz.1] at h; exact h)]
  refine iv_roS (As := [.int (iI ((z.toNat / 2 ^ a.toNat % 2 ^ (b - a + 1).toNat : Nat) : Int))]) (rest := []) (n := 1) ⟨hx, hb, hml, hown, hts⟩ (c_L_bits l D yI yC yD yL ((z.toNat / 2 ^ a.toNat % 2 ^ (b - a + 1).toNat : Nat) : Int) (by have h := in_lt (L := z.toNat) (a := a) (b := b) (by omega); omega)) (va_cwS 1 hts gL_in_L_bits rfl rfl rfl (by decide +kernel) ⟨Nat.le_of_ble_eq_true rfl, Nat.le_of_ble_eq_true rfl⟩) hK hP [] rfl rfl hl.1 rfl (Nat.le_of_ble_eq_true rfl) dL_in_13 ⟨Nat.zero_le _, Nat.zero_le _⟩ ?_
  rw [show (((popc 10 ((z.toNat / 2 ^ a.toNat % 2 ^ (b - a + 1).toNat : Nat) : Int).toNat : Nat) : Int) : Int) = inL z.toNat a b from (rfl)]
  exact W.iret hx hb hr (fun t ht hW => ⟨rfl, ht⟩) (fun q h => by cases h) dL_in_16
